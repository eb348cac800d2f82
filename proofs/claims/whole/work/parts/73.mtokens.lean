/-! TOKENS of the model -/
def bX (b : Nat → Nat) (E k : Nat) : Int32 := if k < E then nI (b k) else -1
def mKd (k : Nat) : Nat := if k = 4 then 0 else k + 1
def mV (b : Nat → Nat) (E q : Nat) (G : JV) : Int32 := if E ≤ q then G 9 else if isL (b q) = true then G 9 else if isD (b q) = true then nI (dcm b q (min 5 (qN b E q - q))) else nI (b q)
def mNx (b : Nat → Nat) (E p : Nat) (G : JV) : JV := w1 (w1 (w1 (w1 G 4 (nI (tN b E p))) 8 (nI (tS b E p))) 7 (nI (mKd (tK b E p)))) 9 (mV b E (tS b E p) G)
/-- the model's buffer -/
def mB_ (A : JI) (b : Nat → Nat) (E : Nat) : Prop := E ≤ 1200 ∧ ∀ j, j < E → A 1 j = nI (b j) ∧ b j < 256
theorem inL {b : Nat → Nat} {E k lo hi : Nat} (hb : ∀ j, j < E → b j < 256) (hh : hi < 256) (hl : lo < 256) : inI (bX b E k) (nI lo) (nI hi) = 0 ↔ ¬ (k < E ∧ lo ≤ b k ∧ b k ≤ hi) := by
  unfold bX
  by_cases h : k < E
  · rw [if_pos h]
    have := hb k h
    unfold inI
    by_cases h1 : b k < lo
    · rw [if_pos (nI_lt h1 (by omega))]
      exact ⟨fun _ => by omega, fun _ => rfl⟩
    · rw [if_neg (nI_nlt (by omega) (by omega))]
      by_cases h2 : hi < b k
      · rw [if_pos (nI_lt h2 (by omega))]
        exact ⟨fun _ => by omega, fun _ => rfl⟩
      · rw [if_neg (nI_nlt (by omega) (by omega))]
        exact ⟨fun w => absurd w (by decide), fun w => absurd ⟨h, by omega, by omega⟩ w⟩
  · rw [if_neg h]
    unfold inI
    rw [if_pos (show (-1 : Int32) < nI lo by rw [fa_lt, nI_toInt (by omega)]; show (-1 : Int) < _; omega)]
    exact ⟨fun _ w => h w.1, fun _ => rfl⟩
section M73
variable {Γ : Gam} {d : Nat} {T : JT} {R S : JR} {I A : JI} {L : JL} {D : JD} {z : Option Nat} {mo E p : Nat} {G : JV} {b : Nat → Nat}
theorem g_rd : blk 18 I mo (st A 0 G) mo = G := by rw [blk_0 (by decide), st_eq]
theorem g_wr {j : Nat} {v : Int32} : u2 (blk 18 I mo (st A 0 G)) mo j v = blk 18 I mo (st A 0 (w1 G j v)) := by rw [u2_blk0 (by decide), u2_st]
theorem ex_mbyteAt (hm : hMo T S mo) (hb : mB_ A b E) (h3 : G 3 = nI E) {k : Nat} (hk : k < 2 ^ 31) : Ex Γ (d) Y_X9_byteAt [.ref mo, .int (nI k)] (T, R, S, blk 18 I mo (st A 0 G), L, D, z) 0 0 (rI (bX b E k) (T, R, S, blk 18 I mo (st A 0 G), L, D, z)) := by
  have h12 := hb.1
  unfold bX
  by_cases h : k < E
  · rw [if_pos h]
    have hv := hb.2 k h
    refine Ex.of (by decide) (by simp [Value.category]) (Nat.le_of_ble_eq_true rfl) rfl ?_
    refine jj_iload_n (q := 1) dX9_byteAt_0 rfl rfl rfl ?_
    refine jj_aload_n (q := 2) dX9_byteAt_1 rfl rfl rfl ?_
    refine jj_getIw (v := nI E) (q := 5) dX9_byteAt_2 fl_X9_95 hm.t0 (by rw [g_rd]; exact h3) rfl rfl ?_
    refine jj_icmp_ge (q := 8) (tgt := 17) dX9_byteAt_5 rfl rfl (fun h5 => absurd h5 (nI_ge h (by omega))) (fun h5 => ?_)
    refine jj_aload_n (q := 9) dX9_byteAt_8 rfl rfl rfl ?_
    refine jj_getS (q := 12) dX9_byteAt_9 fl_X9_9 hm.t0 hm.r0_1 rfl rfl rfl ?_
    refine jj_iload_n (q := 13) dX9_byteAt_12 rfl rfl rfl ?_
    refine jj_ialdW (q := 14) (j := k) (v := nI (b k)) dX9_byteAt_13 hm.t1 (blk_sn (by decide) (by decide)) rfl (by omega) hv.1 rfl ?_
    refine jj_goto (tgt := 18) dX9_byteAt_14 rfl ?_
    refine jj_iret dX9_byteAt_18 rfl (Nat.zero_le _) (Nat.zero_le _) ?_
    exact ⟨rfl, rfl⟩
  · rw [if_neg h]
    refine Ex.of (by decide) (by simp [Value.category]) (Nat.le_of_ble_eq_true rfl) rfl ?_
    refine jj_iload_n (q := 1) dX9_byteAt_0 rfl rfl rfl ?_
    refine jj_aload_n (q := 2) dX9_byteAt_1 rfl rfl rfl ?_
    refine jj_getIw (v := nI E) (q := 5) dX9_byteAt_2 fl_X9_95 hm.t0 (by rw [g_rd]; exact h3) rfl rfl ?_
    refine jj_icmp_ge (q := 8) (tgt := 17) dX9_byteAt_5 rfl rfl (fun h5 => ?_) (fun h5 => absurd (nI_le (show E ≤ k by omega) (by omega)) h5)
    refine jj_iconst (v := -1) (q := 18) dX9_byteAt_17 rfl rfl ?_
    refine jj_iret dX9_byteAt_18 rfl (Nat.zero_le _) (Nat.zero_le _) ?_
    exact ⟨rfl, rfl⟩
theorem ex_faults (hm : hMo T S mo) (h5 : G 5 = 0) {w : Int32} : Ex Γ (d) Y_X9_faults [.ref mo, .int w] (T, R, S, blk 18 I mo (st A 0 G), L, D, z) 0 0 (rV (T, R, S, blk 18 I mo (st A 0 (w1 (w1 G 5 w) 6 (G 8))), L, D, z)) := by
  refine Ex.of (by decide) (by simp [Value.category]) (Nat.le_of_ble_eq_true rfl) rfl ?_
  refine jj_aload_n (q := 1) dX9_faults_0 rfl rfl rfl ?_
  refine jj_getIw (v := 0) (q := 4) dX9_faults_1 fl_X9_92 hm.t0 (by rw [g_rd]; exact h5) rfl rfl ?_
  refine jj_if_le (q := 7) (tgt := 8) dX9_faults_4 rfl rfl (fun h4 => ?_) (fun h4 => absurd (by decide) h4)
  refine jj_aload_n (q := 9) dX9_faults_8 rfl rfl rfl ?_
  refine jj_iload_n (q := 10) dX9_faults_9 rfl rfl rfl ?_
  refine jj_putIv (q := 13) dX9_faults_10 fl_X9_92 hm.t0 g_wr rfl rfl rfl rfl rfl ?_
  refine jj_aload_n (q := 14) dX9_faults_13 rfl rfl rfl ?_
  refine jj_aload_n (q := 15) dX9_faults_14 rfl rfl rfl ?_
  refine jj_getIv (q := 18) dX9_faults_15 fl_X9_98 hm.t0 g_rd rfl rfl ?_
  refine jj_putIv (q := 21) dX9_faults_18 fl_X9_13 hm.t0 g_wr rfl rfl rfl rfl rfl ?_
  refine jj_vret dX9_faults_21 rfl (Nat.zero_le _) (Nat.zero_le _) ?_
  exact ⟨rfl, by rw [w1_ne (by omega)]⟩
theorem ex_faultsX (hm : hMo T S mo) (h5 : 0 < G 5) {w : Int32} : Ex Γ (d) Y_X9_faults [.ref mo, .int w] (T, R, S, blk 18 I mo (st A 0 G), L, D, z) 0 0 (rV (T, R, S, blk 18 I mo (st A 0 G), L, D, z)) := by
  refine Ex.of (by decide) (by simp [Value.category]) (Nat.le_of_ble_eq_true rfl) rfl ?_
  refine jj_aload_n (q := 1) dX9_faults_0 rfl rfl rfl ?_
  refine jj_getIv (q := 4) dX9_faults_1 fl_X9_92 hm.t0 g_rd rfl rfl ?_
  refine jj_if_le (q := 7) (tgt := 8) dX9_faults_4 rfl rfl (fun h4 => absurd h4 (Int32.not_le.mpr h5)) (fun h4 => ?_)
  refine jj_vret dX9_faults_7 rfl (Nat.zero_le _) (Nat.zero_le _) ?_
  exact ⟨rfl, rfl⟩
theorem ex_isSignC {v : Nat} (hv : v < 256) {M : JM} : Ex Γ (d) Y_X9_isSign [.int (nI v)] M 0 0 (rI (if isG v = true then 1 else 0) M) := by
  have hne : ∀ c, c < 256 → (nI v = nI c ↔ v = c) := fun c hc => ⟨fun w => nI_inj' (by omega) (by omega) w, fun w => by rw [w]⟩
  have hg : isG v = true ↔ (v = 59 ∨ v = 40 ∨ v = 41 ∨ v = 60 ∨ v = 62 ∨ v = 61) := decide_eq_true_iff
  refine Ex.of (by decide) (by simp [Value.category]) (Nat.le_of_ble_eq_true rfl) rfl ?_
  refine jj_iload_n (q := 1) dX9_isSign_0 rfl rfl rfl ?_
  refine jj_bipush (v := 59) (q := 3) dX9_isSign_1 rfl rfl ?_
  refine jj_icmp_eq (q := 6) (tgt := 36) dX9_isSign_3 rfl rfl (fun h3 => ?_) (fun h3 => ?_)
  · refine jj_iconst (v := 1) (q := 37) dX9_isSign_36 rfl rfl ?_
    refine jj_goto (tgt := 41) dX9_isSign_37 rfl ?_
    refine jj_zret dX9_isSign_41 rfl (by first | rfl | assumption) (Nat.zero_le _) (Nat.zero_le _) ?_
    exact ⟨by rw [if_pos (hg.mpr (by have := (hne 59 (by omega)).mp h3; omega))], rfl⟩
  · refine jj_iload_n (q := 7) dX9_isSign_6 rfl rfl rfl ?_
    refine jj_bipush (v := 40) (q := 9) dX9_isSign_7 rfl rfl ?_
    refine jj_icmp_eq (q := 12) (tgt := 36) dX9_isSign_9 rfl rfl (fun h9 => ?_) (fun h9 => ?_)
    · refine jj_iconst (v := 1) (q := 37) dX9_isSign_36 rfl rfl ?_
      refine jj_goto (tgt := 41) dX9_isSign_37 rfl ?_
      refine jj_zret dX9_isSign_41 rfl (by first | rfl | assumption) (Nat.zero_le _) (Nat.zero_le _) ?_
      exact ⟨by rw [if_pos (hg.mpr (by have := (hne 40 (by omega)).mp h9; omega))], rfl⟩
    · refine jj_iload_n (q := 13) dX9_isSign_12 rfl rfl rfl ?_
      refine jj_bipush (v := 41) (q := 15) dX9_isSign_13 rfl rfl ?_
      refine jj_icmp_eq (q := 18) (tgt := 36) dX9_isSign_15 rfl rfl (fun h15 => ?_) (fun h15 => ?_)
      · refine jj_iconst (v := 1) (q := 37) dX9_isSign_36 rfl rfl ?_
        refine jj_goto (tgt := 41) dX9_isSign_37 rfl ?_
        refine jj_zret dX9_isSign_41 rfl (by first | rfl | assumption) (Nat.zero_le _) (Nat.zero_le _) ?_
        exact ⟨by rw [if_pos (hg.mpr (by have := (hne 41 (by omega)).mp h15; omega))], rfl⟩
      · refine jj_iload_n (q := 19) dX9_isSign_18 rfl rfl rfl ?_
        refine jj_bipush (v := 60) (q := 21) dX9_isSign_19 rfl rfl ?_
        refine jj_icmp_eq (q := 24) (tgt := 36) dX9_isSign_21 rfl rfl (fun h21 => ?_) (fun h21 => ?_)
        · refine jj_iconst (v := 1) (q := 37) dX9_isSign_36 rfl rfl ?_
          refine jj_goto (tgt := 41) dX9_isSign_37 rfl ?_
          refine jj_zret dX9_isSign_41 rfl (by first | rfl | assumption) (Nat.zero_le _) (Nat.zero_le _) ?_
          exact ⟨by rw [if_pos (hg.mpr (by have := (hne 60 (by omega)).mp h21; omega))], rfl⟩
        · refine jj_iload_n (q := 25) dX9_isSign_24 rfl rfl rfl ?_
          refine jj_bipush (v := 62) (q := 27) dX9_isSign_25 rfl rfl ?_
          refine jj_icmp_eq (q := 30) (tgt := 36) dX9_isSign_27 rfl rfl (fun h27 => ?_) (fun h27 => ?_)
          · refine jj_iconst (v := 1) (q := 37) dX9_isSign_36 rfl rfl ?_
            refine jj_goto (tgt := 41) dX9_isSign_37 rfl ?_
            refine jj_zret dX9_isSign_41 rfl (by first | rfl | assumption) (Nat.zero_le _) (Nat.zero_le _) ?_
            exact ⟨by rw [if_pos (hg.mpr (by have := (hne 62 (by omega)).mp h27; omega))], rfl⟩
          · refine jj_iload_n (q := 31) dX9_isSign_30 rfl rfl rfl ?_
            refine jj_bipush (v := 61) (q := 33) dX9_isSign_31 rfl rfl ?_
            refine jj_icmp_ne (q := 36) (tgt := 40) dX9_isSign_33 rfl rfl (fun h33 => ?_) (fun h33 => ?_)
            · refine jj_iconst (v := 0) (q := 41) dX9_isSign_40 rfl rfl ?_
              refine jj_zret dX9_isSign_41 rfl (by first | rfl | assumption) (Nat.zero_le _) (Nat.zero_le _) ?_
              exact ⟨by rw [if_neg (fun w => by rcases hg.mp w with e | e | e | e | e | e <;> first | exact h3 (by rw [e]; rfl) | exact h9 (by rw [e]; rfl) | exact h15 (by rw [e]; rfl) | exact h21 (by rw [e]; rfl) | exact h27 (by rw [e]; rfl) | exact h33 (by rw [e]; rfl))], rfl⟩
            · refine jj_iconst (v := 1) (q := 37) dX9_isSign_36 rfl rfl ?_
              refine jj_goto (tgt := 41) dX9_isSign_37 rfl ?_
              refine jj_zret dX9_isSign_41 rfl (by first | rfl | assumption) (Nat.zero_le _) (Nat.zero_le _) ?_
              exact ⟨by rw [if_pos (hg.mpr (by have := (hne 61 (by omega)).mp h33; omega))], rfl⟩
theorem ex_nextX (hm : hMo T S mo) (h5 : 0 < G 5) : Ex Γ (d + 1) Y_X9_nextToken [.ref mo] (T, R, S, blk 18 I mo (st A 0 G), L, D, z) 0 0 (rV (T, R, S, blk 18 I mo (st A 0 G), L, D, z)) := by
  refine Ex.of (by decide) (by simp [Value.category]) (Nat.le_of_ble_eq_true rfl) rfl ?_
  refine jj_aload_n (q := 1) dX9_nextToken_0 rfl rfl rfl ?_
  refine jj_getIv (q := 4) dX9_nextToken_1 fl_X9_92 hm.t0 g_rd rfl rfl ?_
  refine jj_if_le (q := 7) (tgt := 8) dX9_nextToken_4 rfl rfl (fun h4 => absurd h4 (Int32.not_le.mpr h5)) (fun h4 => ?_)
  refine jj_vret dX9_nextToken_7 rfl (Nat.zero_le _) (Nat.zero_le _) ?_
  exact ⟨rfl, rfl⟩
theorem w1_self {F : JV} {j : Nat} {v : Int32} (h : F j = v) : w1 F j v = F := by
  funext i
  unfold w1
  split
  · rename_i e; rw [e, h]
  · rfl
theorem w1_w1 {F : JV} {j : Nat} {v w : Int32} : w1 (w1 F j v) j w = w1 F j w := by
  funext i
  unfold w1
  split <;> rfl
theorem bX_32 (hb8 : ∀ j, j < E → b j < 256) {k : Nat} : bX b E k = 32 ↔ (k < E ∧ 32 ≤ b k ∧ b k ≤ 32) := by
  unfold bX
  by_cases h : k < E
  · rw [if_pos h]
    have := hb8 k h
    exact ⟨fun w => by have := nI_inj' (a := b k) (b := 32) (by omega) (by omega) w; omega, fun w => by rw [show b k = 32 by omega]; rfl⟩
  · rw [if_neg h]
    exact ⟨fun w => absurd w (by decide), fun w => absurd w.1 h⟩
theorem lp_nsp (hm : hMo T S mo) (hb : mB_ A b E) {Zf : List Frame → Array Value → State → State → Prop} : ∀ (k p : Nat) (G : JV), E - p = k → p ≤ E → G 3 = nI E → G 4 = nI p → JJ Γ (jj_E Y_X9_nextToken) Zf (jj_rm (d + 1) 0 0) 0 0 34 [some (.ref mo)] [] (T, R, S, blk 18 I mo (st A 0 (w1 G 4 (nI (skp b 32 32 E p)))), L, D, z) → JJ Γ (jj_E Y_X9_nextToken) Zf (jj_rm (d + 1) 0 0) 0 0 8 [some (.ref mo)] [] (T, R, S, blk 18 I mo (st A 0 G), L, D, z) := by
  have h12 := hb.1
  have hb8 : ∀ j, j < E → b j < 256 := fun j hj => (hb.2 j hj).2
  intro k
  induction k with
  | zero =>
    intro p G hk hp h3 h4 hz
    rw [skp_no (by omega), w1_self h4] at hz
    refine jj_aload_n (q := 9) dX9_nextToken_8 rfl rfl rfl ?_
    refine jj_aload_n (q := 10) dX9_nextToken_9 rfl rfl rfl ?_
    refine jj_getIw (v := nI p) (q := 13) dX9_nextToken_10 fl_X9_101 hm.t0 (by rw [g_rd]; exact h4) rfl rfl ?_
    refine jj_cV1i (q := 16) dX9_nextToken_13 yk_X9_byteAt ml_X9_104 hm.t0 (ex_mbyteAt hm hb h3 (by omega)) rfl rfl rfl ⟨Nat.zero_le _, Nat.zero_le _⟩ ?_
    refine jj_bipush (v := 32) (q := 18) dX9_nextToken_16 rfl rfl ?_
    refine jj_icmp_ne (q := 21) (tgt := 34) dX9_nextToken_18 rfl rfl (fun h18 => ?_) (fun h18 => by exfalso; have := (bX_32 hb8).mp h18; omega)
    exact hz
  | succ k ih =>
    intro p G hk hp h3 h4 hz
    by_cases hin : p < E ∧ 32 ≤ b p ∧ b p ≤ 32
    · rw [skp_yes hin, ← w1_w1 (v := nI (p + 1))] at hz
      refine jj_aload_n (q := 9) dX9_nextToken_8 rfl rfl rfl ?_
      refine jj_aload_n (q := 10) dX9_nextToken_9 rfl rfl rfl ?_
      refine jj_getIw (v := nI p) (q := 13) dX9_nextToken_10 fl_X9_101 hm.t0 (by rw [g_rd]; exact h4) rfl rfl ?_
      refine jj_cV1i (q := 16) dX9_nextToken_13 yk_X9_byteAt ml_X9_104 hm.t0 (ex_mbyteAt hm hb h3 (by omega)) rfl rfl rfl ⟨Nat.zero_le _, Nat.zero_le _⟩ ?_
      refine jj_bipush (v := 32) (q := 18) dX9_nextToken_16 rfl rfl ?_
      refine jj_icmp_ne (q := 21) (tgt := 34) dX9_nextToken_18 rfl rfl (fun h18 => by exfalso; exact h18 ((bX_32 hb8).mpr hin)) (fun h18 => ?_)
      refine jj_aload_n (q := 22) dX9_nextToken_21 rfl rfl rfl ?_
      refine jj_dup (q := 23) dX9_nextToken_22 rfl rfl ?_
      refine jj_getIw (v := nI p) (q := 26) dX9_nextToken_23 fl_X9_101 hm.t0 (by rw [g_rd]; exact h4) rfl rfl ?_
      refine jj_iconst (v := 1) (q := 27) dX9_nextToken_26 rfl rfl ?_
      refine jj_iaddN (q := 28) (a := p) (b := 1) dX9_nextToken_27 rfl rfl rfl ?_
      refine jj_putIv (q := 31) dX9_nextToken_28 fl_X9_101 hm.t0 g_wr rfl rfl rfl rfl rfl ?_
      refine jj_goto (tgt := 8) dX9_nextToken_31 rfl ?_
      exact ih (p + 1) _ (by omega) (by omega) (by rw [w1_ne (by omega)]; exact h3) w1_eq hz
    · rw [skp_no hin, w1_self h4] at hz
      refine jj_aload_n (q := 9) dX9_nextToken_8 rfl rfl rfl ?_
      refine jj_aload_n (q := 10) dX9_nextToken_9 rfl rfl rfl ?_
      refine jj_getIw (v := nI p) (q := 13) dX9_nextToken_10 fl_X9_101 hm.t0 (by rw [g_rd]; exact h4) rfl rfl ?_
      refine jj_cV1i (q := 16) dX9_nextToken_13 yk_X9_byteAt ml_X9_104 hm.t0 (ex_mbyteAt hm hb h3 (by omega)) rfl rfl rfl ⟨Nat.zero_le _, Nat.zero_le _⟩ ?_
      refine jj_bipush (v := 32) (q := 18) dX9_nextToken_16 rfl rfl ?_
      refine jj_icmp_ne (q := 21) (tgt := 34) dX9_nextToken_18 rfl rfl (fun h18 => ?_) (fun h18 => by exfalso; exact hin ((bX_32 hb8).mp h18))
      exact hz
theorem lp_nlt (hm : hMo T S mo) (hb : mB_ A b E) {Zf : List Frame → Array Value → State → State → Prop} : ∀ (k p : Nat) (G : JV), E - p = k → p ≤ E → G 3 = nI E → G 4 = nI p → JJ Γ (jj_E Y_X9_nextToken) Zf (jj_rm (d + 1) 0 0) 0 0 110 [some (.ref mo)] [] (T, R, S, blk 18 I mo (st A 0 (w1 G 4 (nI (skp b 97 122 E p)))), L, D, z) → JJ Γ (jj_E Y_X9_nextToken) Zf (jj_rm (d + 1) 0 0) 0 0 79 [some (.ref mo)] [] (T, R, S, blk 18 I mo (st A 0 G), L, D, z) := by
  have h12 := hb.1
  have hb8 : ∀ j, j < E → b j < 256 := fun j hj => (hb.2 j hj).2
  intro k
  induction k with
  | zero =>
    intro p G hk hp h3 h4 hz
    rw [skp_no (by omega), w1_self h4] at hz
    refine jj_aload_n (q := 80) dX9_nextToken_79 rfl rfl rfl ?_
    refine jj_aload_n (q := 81) dX9_nextToken_80 rfl rfl rfl ?_
    refine jj_getIw (v := nI p) (q := 84) dX9_nextToken_81 fl_X9_101 hm.t0 (by rw [g_rd]; exact h4) rfl rfl ?_
    refine jj_cV1i (q := 87) dX9_nextToken_84 yk_X9_byteAt ml_X9_104 hm.t0 (ex_mbyteAt hm hb h3 (by omega)) rfl rfl rfl ⟨Nat.zero_le _, Nat.zero_le _⟩ ?_
    refine jj_bipush (v := 97) (q := 89) dX9_nextToken_87 rfl rfl ?_
    refine jj_bipush (v := 122) (q := 91) dX9_nextToken_89 rfl rfl ?_
    refine jj_cS3i (q := 94) dX9_nextToken_91 yk_X9_in ml_X9_111 ex_inI rfl rfl rfl ⟨Nat.zero_le _, Nat.zero_le _⟩ ?_
    refine jj_if_eq (q := 97) (tgt := 110) dX9_nextToken_94 rfl rfl (fun h94 => ?_) (fun h94 => absurd ((inL (lo := 97) (hi := 122) hb8 (by omega) (by omega)).mpr (by omega)) h94)
    exact hz
  | succ k ih =>
    intro p G hk hp h3 h4 hz
    by_cases hin : p < E ∧ 97 ≤ b p ∧ b p ≤ 122
    · rw [skp_yes hin, ← w1_w1 (v := nI (p + 1))] at hz
      refine jj_aload_n (q := 80) dX9_nextToken_79 rfl rfl rfl ?_
      refine jj_aload_n (q := 81) dX9_nextToken_80 rfl rfl rfl ?_
      refine jj_getIw (v := nI p) (q := 84) dX9_nextToken_81 fl_X9_101 hm.t0 (by rw [g_rd]; exact h4) rfl rfl ?_
      refine jj_cV1i (q := 87) dX9_nextToken_84 yk_X9_byteAt ml_X9_104 hm.t0 (ex_mbyteAt hm hb h3 (by omega)) rfl rfl rfl ⟨Nat.zero_le _, Nat.zero_le _⟩ ?_
      refine jj_bipush (v := 97) (q := 89) dX9_nextToken_87 rfl rfl ?_
      refine jj_bipush (v := 122) (q := 91) dX9_nextToken_89 rfl rfl ?_
      refine jj_cS3i (q := 94) dX9_nextToken_91 yk_X9_in ml_X9_111 ex_inI rfl rfl rfl ⟨Nat.zero_le _, Nat.zero_le _⟩ ?_
      refine jj_if_eq (q := 97) (tgt := 110) dX9_nextToken_94 rfl rfl (fun h94 => by exfalso; exact ((inL (lo := 97) (hi := 122) hb8 (by omega) (by omega)).mp h94) hin) (fun h94 => ?_)
      refine jj_aload_n (q := 98) dX9_nextToken_97 rfl rfl rfl ?_
      refine jj_dup (q := 99) dX9_nextToken_98 rfl rfl ?_
      refine jj_getIw (v := nI p) (q := 102) dX9_nextToken_99 fl_X9_101 hm.t0 (by rw [g_rd]; exact h4) rfl rfl ?_
      refine jj_iconst (v := 1) (q := 103) dX9_nextToken_102 rfl rfl ?_
      refine jj_iaddN (q := 104) (a := p) (b := 1) dX9_nextToken_103 rfl rfl rfl ?_
      refine jj_putIv (q := 107) dX9_nextToken_104 fl_X9_101 hm.t0 g_wr rfl rfl rfl rfl rfl ?_
      refine jj_goto (tgt := 79) dX9_nextToken_107 rfl ?_
      exact ih (p + 1) _ (by omega) (by omega) (by rw [w1_ne (by omega)]; exact h3) w1_eq hz
    · rw [skp_no hin, w1_self h4] at hz
      refine jj_aload_n (q := 80) dX9_nextToken_79 rfl rfl rfl ?_
      refine jj_aload_n (q := 81) dX9_nextToken_80 rfl rfl rfl ?_
      refine jj_getIw (v := nI p) (q := 84) dX9_nextToken_81 fl_X9_101 hm.t0 (by rw [g_rd]; exact h4) rfl rfl ?_
      refine jj_cV1i (q := 87) dX9_nextToken_84 yk_X9_byteAt ml_X9_104 hm.t0 (ex_mbyteAt hm hb h3 (by omega)) rfl rfl rfl ⟨Nat.zero_le _, Nat.zero_le _⟩ ?_
      refine jj_bipush (v := 97) (q := 89) dX9_nextToken_87 rfl rfl ?_
      refine jj_bipush (v := 122) (q := 91) dX9_nextToken_89 rfl rfl ?_
      refine jj_cS3i (q := 94) dX9_nextToken_91 yk_X9_in ml_X9_111 ex_inI rfl rfl rfl ⟨Nat.zero_le _, Nat.zero_le _⟩ ?_
      refine jj_if_eq (q := 97) (tgt := 110) dX9_nextToken_94 rfl rfl (fun h94 => ?_) (fun h94 => absurd ((inL (lo := 97) (hi := 122) hb8 (by omega) (by omega)).mpr hin) h94)
      exact hz
theorem lp_ndg (hm : hMo T S mo) (hb : mB_ A b E) {q : Nat} {Zf : List Frame → Array Value → State → State → Prop} : ∀ (k m : Nat) (G : JV), E - (q + m) = k → q + m ≤ E → G 3 = nI E → G 8 = nI q → G 4 = nI (q + m) → G 9 = nI (dcm b q (min 5 (m))) → JJ Γ (jj_E Y_X9_nextToken) Zf (jj_rm (d + 1) 0 0) 0 0 226 [some (.ref mo)] [] (T, R, S, blk 18 I mo (st A 0 (w1 (w1 G 4 (nI (skp b 48 57 E (q + m)))) 9 (nI (dcm b q (min 5 (skp b 48 57 E (q + m) - q)))))), L, D, z) → JJ Γ (jj_E Y_X9_nextToken) Zf (jj_rm (d + 1) 0 0) 0 0 159 [some (.ref mo)] [] (T, R, S, blk 18 I mo (st A 0 G), L, D, z) := by
  have h12 := hb.1
  have hb8 : ∀ j, j < E → b j < 256 := fun j hj => (hb.2 j hj).2
  intro k
  induction k with
  | zero =>
    intro m G hk hp h3 h8 h4 h9 hz
    rw [skp_no (by omega), show q + m - q = m by omega, w1_self h4, w1_self h9] at hz
    refine jj_aload_n (q := 160) dX9_nextToken_159 rfl rfl rfl ?_
    refine jj_aload_n (q := 161) dX9_nextToken_160 rfl rfl rfl ?_
    refine jj_getIw (v := nI (q + m)) (q := 164) dX9_nextToken_161 fl_X9_101 hm.t0 (by rw [g_rd]; exact h4) rfl rfl ?_
    refine jj_cV1i (q := 167) dX9_nextToken_164 yk_X9_byteAt ml_X9_104 hm.t0 (ex_mbyteAt hm hb h3 (by omega)) rfl rfl rfl ⟨Nat.zero_le _, Nat.zero_le _⟩ ?_
    refine jj_bipush (v := 48) (q := 169) dX9_nextToken_167 rfl rfl ?_
    refine jj_bipush (v := 57) (q := 171) dX9_nextToken_169 rfl rfl ?_
    refine jj_cS3i (q := 174) dX9_nextToken_171 yk_X9_in ml_X9_111 ex_inI rfl rfl rfl ⟨Nat.zero_le _, Nat.zero_le _⟩ ?_
    refine jj_if_eq (q := 177) (tgt := 226) dX9_nextToken_174 rfl rfl (fun h174 => ?_) (fun h174 => absurd ((inL (lo := 48) (hi := 57) hb8 (by omega) (by omega)).mpr (by omega)) h174)
    exact hz
  | succ k ih =>
    intro m G hk hp h3 h8 h4 h9 hz
    by_cases hin : q + m < E ∧ 48 ≤ b (q + m) ∧ b (q + m) ≤ 57
    · have hbx : bX b E (q + m) = nI (b (q + m)) := if_pos hin.1
      by_cases c5 : m < 5
      · rw [skp_yes hin] at hz
        rw [show w1 (w1 G 4 (nI (skp b 48 57 E (q + m + 1)))) 9 (nI (dcm b q (min 5 (skp b 48 57 E (q + m + 1) - q)))) = w1 (w1 (w1 (w1 G 9 (nI (dcm b q (min 5 (m + 1))))) 4 (nI (q + m + 1))) 4 (nI (skp b 48 57 E (q + m + 1)))) 9 (nI (dcm b q (min 5 (skp b 48 57 E (q + m + 1) - q)))) by
          funext j
          unfold w1
          repeat' split
          all_goals first | rfl | omega] at hz
        have hdc : dcm b q (min 5 (m + 1)) = dcm b q (min 5 m) * 10 + (b (q + m) - 48) := by rw [show min 5 (m + 1) = m + 1 by omega, show min 5 m = m by omega]; rfl
        refine jj_aload_n (q := 160) dX9_nextToken_159 rfl rfl rfl ?_
        refine jj_aload_n (q := 161) dX9_nextToken_160 rfl rfl rfl ?_
        refine jj_getIw (v := nI (q + m)) (q := 164) dX9_nextToken_161 fl_X9_101 hm.t0 (by rw [g_rd]; exact h4) rfl rfl ?_
        refine jj_cV1i (q := 167) dX9_nextToken_164 yk_X9_byteAt ml_X9_104 hm.t0 (ex_mbyteAt hm hb h3 (by omega)) rfl rfl rfl ⟨Nat.zero_le _, Nat.zero_le _⟩ ?_
        refine jj_bipush (v := 48) (q := 169) dX9_nextToken_167 rfl rfl ?_
        refine jj_bipush (v := 57) (q := 171) dX9_nextToken_169 rfl rfl ?_
        refine jj_cS3i (q := 174) dX9_nextToken_171 yk_X9_in ml_X9_111 ex_inI rfl rfl rfl ⟨Nat.zero_le _, Nat.zero_le _⟩ ?_
        refine jj_if_eq (q := 177) (tgt := 226) dX9_nextToken_174 rfl rfl (fun h174 => by exfalso; exact ((inL (lo := 48) (hi := 57) hb8 (by omega) (by omega)).mp h174) hin) (fun h174 => ?_)
        refine jj_aload_n (q := 178) dX9_nextToken_177 rfl rfl rfl ?_
        refine jj_getIw (v := nI (q + m)) (q := 181) dX9_nextToken_178 fl_X9_101 hm.t0 (by rw [g_rd]; exact h4) rfl rfl ?_
        refine jj_aload_n (q := 182) dX9_nextToken_181 rfl rfl rfl ?_
        refine jj_getIw (v := nI q) (q := 185) dX9_nextToken_182 fl_X9_98 hm.t0 (by rw [g_rd]; exact h8) rfl rfl ?_
        refine jj_isubN (q := 186) (e := m) (a := q + m) (b := q) dX9_nextToken_185 rfl rfl (by omega) rfl ?_
        refine jj_iconst (v := 5) (q := 187) dX9_nextToken_186 rfl rfl ?_
        refine jj_icmp_ge (q := 190) (tgt := 213) dX9_nextToken_187 rfl rfl (fun h187 => absurd h187 (nI_ge (a := m) (b := 5) c5 (by omega))) (fun h187 => ?_)
        refine jj_aload_n (q := 191) dX9_nextToken_190 rfl rfl rfl ?_
        refine jj_bipush (v := 10) (q := 193) dX9_nextToken_191 rfl rfl ?_
        refine jj_aload_n (q := 194) dX9_nextToken_193 rfl rfl rfl ?_
        refine jj_getIw (v := nI (dcm b q (min 5 m))) (q := 197) dX9_nextToken_194 fl_X9_115 hm.t0 (by rw [g_rd]; exact h9) rfl rfl ?_
        refine jj_imulN (q := 198) (a := 10) (b := dcm b q (min 5 m)) dX9_nextToken_197 rfl rfl rfl ?_
        refine jj_aload_n (q := 199) dX9_nextToken_198 rfl rfl rfl ?_
        refine jj_aload_n (q := 200) dX9_nextToken_199 rfl rfl rfl ?_
        refine jj_getIw (v := nI (q + m)) (q := 203) dX9_nextToken_200 fl_X9_101 hm.t0 (by rw [g_rd]; exact h4) rfl rfl ?_
        refine jj_cV1i (q := 206) dX9_nextToken_203 yk_X9_byteAt ml_X9_104 hm.t0 (ex_mbyteAt hm hb h3 (by omega)) rfl rfl rfl ⟨Nat.zero_le _, Nat.zero_le _⟩ ?_
        rw [hbx]
        refine jj_iadd (q := 207) dX9_nextToken_206 rfl ?_
        refine jj_bipush (v := 48) (q := 209) dX9_nextToken_207 rfl rfl ?_
        refine jj_isub (q := 210) dX9_nextToken_209 rfl ?_
        rw [show nI (10 * dcm b q (min 5 m)) + nI (b (q + m)) - 48 = nI (dcm b q (min 5 (m + 1))) by rw [hdc, Nat.mul_comm, dec_s hin.2.1]]
        refine jj_putIv (q := 213) dX9_nextToken_210 fl_X9_115 hm.t0 g_wr rfl rfl rfl rfl rfl ?_
        refine jj_aload_n (q := 214) dX9_nextToken_213 rfl rfl rfl ?_
        refine jj_dup (q := 215) dX9_nextToken_214 rfl rfl ?_
        refine jj_getIw (v := nI (q + m)) (q := 218) dX9_nextToken_215 fl_X9_101 hm.t0 (by rw [g_rd, w1_ne (by omega)]; exact h4) rfl rfl ?_
        refine jj_iconst (v := 1) (q := 219) dX9_nextToken_218 rfl rfl ?_
        refine jj_iaddN (q := 220) (a := q + m) (b := 1) dX9_nextToken_219 rfl rfl rfl ?_
        refine jj_putIv (q := 223) dX9_nextToken_220 fl_X9_101 hm.t0 g_wr rfl rfl rfl rfl rfl ?_
        refine jj_goto (tgt := 159) dX9_nextToken_223 rfl ?_
        exact ih (m + 1) _ (by omega) (by omega) (by rw [w1_ne (by omega), w1_ne (by omega)]; exact h3) (by rw [w1_ne (by omega), w1_ne (by omega)]; exact h8) w1_eq (by rw [w1_ne (by omega), w1_eq]) hz
      · rw [skp_yes hin] at hz
        rw [show w1 (w1 G 4 (nI (skp b 48 57 E (q + m + 1)))) 9 (nI (dcm b q (min 5 (skp b 48 57 E (q + m + 1) - q)))) = w1 (w1 (w1 G 4 (nI (q + m + 1))) 4 (nI (skp b 48 57 E (q + m + 1)))) 9 (nI (dcm b q (min 5 (skp b 48 57 E (q + m + 1) - q)))) by rw [w1_w1]] at hz
        refine jj_aload_n (q := 160) dX9_nextToken_159 rfl rfl rfl ?_
        refine jj_aload_n (q := 161) dX9_nextToken_160 rfl rfl rfl ?_
        refine jj_getIw (v := nI (q + m)) (q := 164) dX9_nextToken_161 fl_X9_101 hm.t0 (by rw [g_rd]; exact h4) rfl rfl ?_
        refine jj_cV1i (q := 167) dX9_nextToken_164 yk_X9_byteAt ml_X9_104 hm.t0 (ex_mbyteAt hm hb h3 (by omega)) rfl rfl rfl ⟨Nat.zero_le _, Nat.zero_le _⟩ ?_
        refine jj_bipush (v := 48) (q := 169) dX9_nextToken_167 rfl rfl ?_
        refine jj_bipush (v := 57) (q := 171) dX9_nextToken_169 rfl rfl ?_
        refine jj_cS3i (q := 174) dX9_nextToken_171 yk_X9_in ml_X9_111 ex_inI rfl rfl rfl ⟨Nat.zero_le _, Nat.zero_le _⟩ ?_
        refine jj_if_eq (q := 177) (tgt := 226) dX9_nextToken_174 rfl rfl (fun h174 => by exfalso; exact ((inL (lo := 48) (hi := 57) hb8 (by omega) (by omega)).mp h174) hin) (fun h174 => ?_)
        refine jj_aload_n (q := 178) dX9_nextToken_177 rfl rfl rfl ?_
        refine jj_getIw (v := nI (q + m)) (q := 181) dX9_nextToken_178 fl_X9_101 hm.t0 (by rw [g_rd]; exact h4) rfl rfl ?_
        refine jj_aload_n (q := 182) dX9_nextToken_181 rfl rfl rfl ?_
        refine jj_getIw (v := nI q) (q := 185) dX9_nextToken_182 fl_X9_98 hm.t0 (by rw [g_rd]; exact h8) rfl rfl ?_
        refine jj_isubN (q := 186) (e := m) (a := q + m) (b := q) dX9_nextToken_185 rfl rfl (by omega) rfl ?_
        refine jj_iconst (v := 5) (q := 187) dX9_nextToken_186 rfl rfl ?_
        refine jj_icmp_ge (q := 190) (tgt := 213) dX9_nextToken_187 rfl rfl (fun h187 => ?_) (fun h187 => absurd (nI_le (a := 5) (show 5 ≤ m by omega) (by omega)) h187)
        refine jj_aload_n (q := 214) dX9_nextToken_213 rfl rfl rfl ?_
        refine jj_dup (q := 215) dX9_nextToken_214 rfl rfl ?_
        refine jj_getIw (v := nI (q + m)) (q := 218) dX9_nextToken_215 fl_X9_101 hm.t0 (by rw [g_rd]; exact h4) rfl rfl ?_
        refine jj_iconst (v := 1) (q := 219) dX9_nextToken_218 rfl rfl ?_
        refine jj_iaddN (q := 220) (a := q + m) (b := 1) dX9_nextToken_219 rfl rfl rfl ?_
        refine jj_putIv (q := 223) dX9_nextToken_220 fl_X9_101 hm.t0 g_wr rfl rfl rfl rfl rfl ?_
        refine jj_goto (tgt := 159) dX9_nextToken_223 rfl ?_
        exact ih (m + 1) _ (by omega) (by omega) (by rw [w1_ne (by omega)]; exact h3) (by rw [w1_ne (by omega)]; exact h8) w1_eq (by rw [w1_ne (by omega), h9, show min 5 (m + 1) = min 5 m by omega]) hz
    · rw [skp_no hin, show q + m - q = m by omega, w1_self h4, w1_self h9] at hz
      refine jj_aload_n (q := 160) dX9_nextToken_159 rfl rfl rfl ?_
      refine jj_aload_n (q := 161) dX9_nextToken_160 rfl rfl rfl ?_
      refine jj_getIw (v := nI (q + m)) (q := 164) dX9_nextToken_161 fl_X9_101 hm.t0 (by rw [g_rd]; exact h4) rfl rfl ?_
      refine jj_cV1i (q := 167) dX9_nextToken_164 yk_X9_byteAt ml_X9_104 hm.t0 (ex_mbyteAt hm hb h3 (by omega)) rfl rfl rfl ⟨Nat.zero_le _, Nat.zero_le _⟩ ?_
      refine jj_bipush (v := 48) (q := 169) dX9_nextToken_167 rfl rfl ?_
      refine jj_bipush (v := 57) (q := 171) dX9_nextToken_169 rfl rfl ?_
      refine jj_cS3i (q := 174) dX9_nextToken_171 yk_X9_in ml_X9_111 ex_inI rfl rfl rfl ⟨Nat.zero_le _, Nat.zero_le _⟩ ?_
      refine jj_if_eq (q := 177) (tgt := 226) dX9_nextToken_174 rfl rfl (fun h174 => ?_) (fun h174 => absurd ((inL (lo := 48) (hi := 57) hb8 (by omega) (by omega)).mpr hin) h174)
      exact hz
theorem nt_a {G : JV} {q n k : Int32} : w1 (w1 (w1 (w1 G 4 q) 8 q) 4 n) 7 k = w1 (w1 (w1 G 4 n) 8 q) 7 k := by
  funext j
  unfold w1
  repeat' split
  all_goals first | rfl | omega
theorem nt_b {G : JV} {q n k v u : Int32} : w1 (w1 (w1 (w1 (w1 (w1 G 4 q) 8 q) 9 u) 4 n) 9 v) 7 k = w1 (w1 (w1 (w1 G 4 n) 8 q) 7 k) 9 v := by
  funext j
  unfold w1
  repeat' split
  all_goals first | rfl | omega
theorem nt_c {G : JV} {q n k v : Int32} : w1 (w1 (w1 (w1 (w1 G 4 q) 8 q) 9 v) 7 k) 4 n = w1 (w1 (w1 (w1 G 4 n) 8 q) 7 k) 9 v := by
  funext j
  unfold w1
  repeat' split
  all_goals first | rfl | omega
theorem ex_next (hm : hMo T S mo) (hb : mB_ A b E) (h3 : G 3 = nI E) (h5 : G 5 = 0) (hpE : p ≤ E) (h4 : G 4 = nI p) : Ex Γ (d + 1) Y_X9_nextToken [.ref mo] (T, R, S, blk 18 I mo (st A 0 G), L, D, z) 0 0 (rV (T, R, S, blk 18 I mo (st A 0 (mNx b E p G)), L, D, z)) := by
  have h12 := hb.1
  have hb8 : ∀ j, j < E → b j < 256 := fun j hj => (hb.2 j hj).2
  have hq := tS_bd (b := b) hpE
  have hqn := qN_bd (b := b) hq.2
  refine Ex.of (by decide) (by simp [Value.category]) (Nat.le_of_ble_eq_true rfl) rfl ?_
  refine jj_aload_n (q := 1) dX9_nextToken_0 rfl rfl rfl ?_
  refine jj_getIw (v := 0) (q := 4) dX9_nextToken_1 fl_X9_92 hm.t0 (by rw [g_rd]; exact h5) rfl rfl ?_
  refine jj_if_le (q := 7) (tgt := 8) dX9_nextToken_4 rfl rfl (fun _ => ?_) (fun h => absurd (by decide) h)
  refine lp_nsp hm hb (E - p) p G rfl hpE h3 h4 ?_
  show JJ _ _ _ _ _ _ _ _ _ (T, R, S, blk 18 I mo (st A 0 (w1 G 4 (nI (tS b E p)))), L, D, z)
  have h3' : (w1 (w1 G 4 (nI (tS b E p))) 8 (nI (tS b E p))) 3 = nI E := by rw [w1_ne (by omega), w1_ne (by omega)]; exact h3
  unfold mNx
  by_cases c1 : E ≤ tS b E p
  · rw [show tN b E p = tS b E p from if_pos c1, show tK b E p = 0 from if_pos c1, show mV b E (tS b E p) G = G 9 from if_pos c1, show w1 (w1 (w1 (w1 G 4 (nI (tS b E p))) 8 (nI (tS b E p))) 7 (nI (mKd 0))) 9 (G 9) = w1 (w1 (w1 G 4 (nI (tS b E p))) 8 (nI (tS b E p))) 7 1 from w1_self (by rw [w1_ne (by omega), w1_ne (by omega), w1_ne (by omega)])]
    refine jj_aload_n (q := 35) dX9_nextToken_34 rfl rfl rfl ?_
    refine jj_aload_n (q := 36) dX9_nextToken_35 rfl rfl rfl ?_
    refine jj_getIw (v := nI (tS b E p)) (q := 39) dX9_nextToken_36 fl_X9_101 hm.t0 (by rw [g_rd, w1_eq]) rfl rfl ?_
    refine jj_putIv (q := 42) dX9_nextToken_39 fl_X9_98 hm.t0 g_wr rfl rfl rfl rfl rfl ?_
    refine jj_aload_n (q := 43) dX9_nextToken_42 rfl rfl rfl ?_
    refine jj_getIw (v := nI (tS b E p)) (q := 46) dX9_nextToken_43 fl_X9_101 hm.t0 (by rw [g_rd, w1_ne (by omega), w1_eq]) rfl rfl ?_
    refine jj_aload_n (q := 47) dX9_nextToken_46 rfl rfl rfl ?_
    refine jj_getIw (v := nI E) (q := 50) dX9_nextToken_47 fl_X9_95 hm.t0 (by rw [g_rd]; exact h3') rfl rfl ?_
    refine jj_icmp_ne (q := 53) (tgt := 61) dX9_nextToken_50 rfl rfl (fun h50 => by exfalso; exact h50 (by rw [show tS b E p = E by omega])) (fun h50 => ?_)
    refine jj_aload_n (q := 54) dX9_nextToken_53 rfl rfl rfl ?_
    refine jj_iconst (v := 1) (q := 55) dX9_nextToken_54 rfl rfl ?_
    refine jj_putIv (q := 58) dX9_nextToken_55 fl_X9_108 hm.t0 g_wr rfl rfl rfl rfl rfl ?_
    refine jj_goto (tgt := 292) dX9_nextToken_58 rfl ?_
    refine jj_vret dX9_nextToken_292 rfl (Nat.zero_le _) (Nat.zero_le _) ?_
    exact ⟨rfl, rfl⟩
  · have hne : ¬ nI (tS b E p) = nI E := fun w => c1 (by have := nI_inj' (by omega) (by omega) w; omega)
    have hv := hb.2 (tS b E p) (by omega)
    by_cases c2 : isL (b (tS b E p)) = true
    · have hl := of_decide_eq_true c2
      have hsk : skp b 97 122 E (tS b E p) = qN b E (tS b E p) := by unfold qN; rw [if_neg c1, if_pos c2]
      rw [show tN b E p = qN b E (tS b E p) from rfl, show tK b E p = (if qN b E (tS b E p) - tS b E p ≤ 8 then 1 else 4) by unfold tK qK; rw [if_neg c1, if_pos c2], show mV b E (tS b E p) G = G 9 by unfold mV; rw [if_neg c1, if_pos c2], show w1 (w1 (w1 (w1 G 4 (nI (qN b E (tS b E p)))) 8 (nI (tS b E p))) 7 (nI (mKd (if qN b E (tS b E p) - tS b E p ≤ 8 then 1 else 4)))) 9 (G 9) = w1 (w1 (w1 G 4 (nI (qN b E (tS b E p)))) 8 (nI (tS b E p))) 7 (nI (mKd (if qN b E (tS b E p) - tS b E p ≤ 8 then 1 else 4))) from w1_self (by rw [w1_ne (by omega), w1_ne (by omega), w1_ne (by omega)])]
      refine jj_aload_n (q := 35) dX9_nextToken_34 rfl rfl rfl ?_
      refine jj_aload_n (q := 36) dX9_nextToken_35 rfl rfl rfl ?_
      refine jj_getIw (v := nI (tS b E p)) (q := 39) dX9_nextToken_36 fl_X9_101 hm.t0 (by rw [g_rd, w1_eq]) rfl rfl ?_
      refine jj_putIv (q := 42) dX9_nextToken_39 fl_X9_98 hm.t0 g_wr rfl rfl rfl rfl rfl ?_
      refine jj_aload_n (q := 43) dX9_nextToken_42 rfl rfl rfl ?_
      refine jj_getIw (v := nI (tS b E p)) (q := 46) dX9_nextToken_43 fl_X9_101 hm.t0 (by rw [g_rd, w1_ne (by omega), w1_eq]) rfl rfl ?_
      refine jj_aload_n (q := 47) dX9_nextToken_46 rfl rfl rfl ?_
      refine jj_getIw (v := nI E) (q := 50) dX9_nextToken_47 fl_X9_95 hm.t0 (by rw [g_rd]; exact h3') rfl rfl ?_
      refine jj_icmp_ne (q := 53) (tgt := 61) dX9_nextToken_50 rfl rfl (fun h50 => ?_) (fun h50 => by exfalso; exact hne h50)
      refine jj_aload_n (q := 62) dX9_nextToken_61 rfl rfl rfl ?_
      refine jj_aload_n (q := 63) dX9_nextToken_62 rfl rfl rfl ?_
      refine jj_getIw (v := nI (tS b E p)) (q := 66) dX9_nextToken_63 fl_X9_101 hm.t0 (by rw [g_rd, w1_ne (by omega), w1_eq]) rfl rfl ?_
      refine jj_cV1i (q := 69) dX9_nextToken_66 yk_X9_byteAt ml_X9_104 hm.t0 (ex_mbyteAt hm hb h3' (by omega)) rfl rfl rfl ⟨Nat.zero_le _, Nat.zero_le _⟩ ?_
      refine jj_bipush (v := 97) (q := 71) dX9_nextToken_69 rfl rfl ?_
      refine jj_bipush (v := 122) (q := 73) dX9_nextToken_71 rfl rfl ?_
      refine jj_cS3i (q := 76) dX9_nextToken_73 yk_X9_in ml_X9_111 ex_inI rfl rfl rfl ⟨Nat.zero_le _, Nat.zero_le _⟩ ?_
      refine jj_if_eq (q := 79) (tgt := 136) dX9_nextToken_76 rfl rfl (fun h76 => by exfalso; exact ((inL (lo := 97) (hi := 122) hb8 (by omega) (by omega)).mp h76) ⟨by omega, hl⟩) (fun h76 => ?_)
      refine lp_nlt hm hb (E - tS b E p) (tS b E p) _ rfl hq.2 h3' (by rw [w1_ne (by omega), w1_eq]) ?_
      rw [hsk]
      by_cases c8 : qN b E (tS b E p) - tS b E p ≤ 8
      · rw [if_pos c8]
        refine jj_aload_n (q := 111) dX9_nextToken_110 rfl rfl rfl ?_
        refine jj_aload_n (q := 112) dX9_nextToken_111 rfl rfl rfl ?_
        refine jj_getIw (v := nI (qN b E (tS b E p))) (q := 115) dX9_nextToken_112 fl_X9_101 hm.t0 (by rw [g_rd, w1_eq]) rfl rfl ?_
        refine jj_aload_n (q := 116) dX9_nextToken_115 rfl rfl rfl ?_
        refine jj_getIw (v := nI (tS b E p)) (q := 119) dX9_nextToken_116 fl_X9_98 hm.t0 (by rw [g_rd, w1_ne (by omega), w1_eq]) rfl rfl ?_
        refine jj_isubN (q := 120) (e := qN b E (tS b E p) - tS b E p) (a := qN b E (tS b E p)) (b := tS b E p) dX9_nextToken_119 rfl rfl (by omega) rfl ?_
        refine jj_bipush (v := 8) (q := 122) dX9_nextToken_120 rfl rfl ?_
        refine jj_icmp_le (q := 125) (tgt := 129) dX9_nextToken_122 rfl rfl (fun h122 => ?_) (fun h122 => absurd (nI_le c8 (by omega)) h122)
        refine jj_iconst (v := 2) (q := 130) dX9_nextToken_129 rfl rfl ?_
        refine jj_putIv (q := 133) dX9_nextToken_130 fl_X9_108 hm.t0 g_wr rfl rfl rfl rfl rfl ?_
        refine jj_goto (tgt := 292) dX9_nextToken_133 rfl ?_
        refine jj_vret dX9_nextToken_292 rfl (Nat.zero_le _) (Nat.zero_le _) ?_
        exact ⟨rfl, by rw [nt_a]; rfl⟩
      · rw [if_neg c8]
        refine jj_aload_n (q := 111) dX9_nextToken_110 rfl rfl rfl ?_
        refine jj_aload_n (q := 112) dX9_nextToken_111 rfl rfl rfl ?_
        refine jj_getIw (v := nI (qN b E (tS b E p))) (q := 115) dX9_nextToken_112 fl_X9_101 hm.t0 (by rw [g_rd, w1_eq]) rfl rfl ?_
        refine jj_aload_n (q := 116) dX9_nextToken_115 rfl rfl rfl ?_
        refine jj_getIw (v := nI (tS b E p)) (q := 119) dX9_nextToken_116 fl_X9_98 hm.t0 (by rw [g_rd, w1_ne (by omega), w1_eq]) rfl rfl ?_
        refine jj_isubN (q := 120) (e := qN b E (tS b E p) - tS b E p) (a := qN b E (tS b E p)) (b := tS b E p) dX9_nextToken_119 rfl rfl (by omega) rfl ?_
        refine jj_bipush (v := 8) (q := 122) dX9_nextToken_120 rfl rfl ?_
        refine jj_icmp_le (q := 125) (tgt := 129) dX9_nextToken_122 rfl rfl (fun h122 => absurd h122 (nI_ge (show 8 < qN b E (tS b E p) - tS b E p by omega) (by omega))) (fun h122 => ?_)
        refine jj_iconst (v := 0) (q := 126) dX9_nextToken_125 rfl rfl ?_
        refine jj_goto (tgt := 130) dX9_nextToken_126 rfl ?_
        refine jj_putIv (q := 133) dX9_nextToken_130 fl_X9_108 hm.t0 g_wr rfl rfl rfl rfl rfl ?_
        refine jj_goto (tgt := 292) dX9_nextToken_133 rfl ?_
        refine jj_vret dX9_nextToken_292 rfl (Nat.zero_le _) (Nat.zero_le _) ?_
        exact ⟨rfl, by rw [nt_a]; rfl⟩
    · have nl : ¬ (97 ≤ b (tS b E p) ∧ b (tS b E p) ≤ 122) := fun w => c2 (decide_eq_true w)
      by_cases c3 : isD (b (tS b E p)) = true
      · have hl := of_decide_eq_true c3
        have hsk : skp b 48 57 E (tS b E p + 0) = qN b E (tS b E p) := by unfold qN; rw [if_neg c1, if_neg c2, if_pos c3]; rfl
        rw [show tN b E p = qN b E (tS b E p) from rfl, show tK b E p = (if qN b E (tS b E p) - tS b E p ≤ 5 then 2 else 4) by unfold tK qK; rw [if_neg c1, if_neg c2, if_pos c3], show mV b E (tS b E p) G = nI (dcm b (tS b E p) (min 5 (qN b E (tS b E p) - tS b E p))) by unfold mV; rw [if_neg c1, if_neg c2, if_pos c3]]
        refine jj_aload_n (q := 35) dX9_nextToken_34 rfl rfl rfl ?_
        refine jj_aload_n (q := 36) dX9_nextToken_35 rfl rfl rfl ?_
        refine jj_getIw (v := nI (tS b E p)) (q := 39) dX9_nextToken_36 fl_X9_101 hm.t0 (by rw [g_rd, w1_eq]) rfl rfl ?_
        refine jj_putIv (q := 42) dX9_nextToken_39 fl_X9_98 hm.t0 g_wr rfl rfl rfl rfl rfl ?_
        refine jj_aload_n (q := 43) dX9_nextToken_42 rfl rfl rfl ?_
        refine jj_getIw (v := nI (tS b E p)) (q := 46) dX9_nextToken_43 fl_X9_101 hm.t0 (by rw [g_rd, w1_ne (by omega), w1_eq]) rfl rfl ?_
        refine jj_aload_n (q := 47) dX9_nextToken_46 rfl rfl rfl ?_
        refine jj_getIw (v := nI E) (q := 50) dX9_nextToken_47 fl_X9_95 hm.t0 (by rw [g_rd]; exact h3') rfl rfl ?_
        refine jj_icmp_ne (q := 53) (tgt := 61) dX9_nextToken_50 rfl rfl (fun h50 => ?_) (fun h50 => by exfalso; exact hne h50)
        refine jj_aload_n (q := 62) dX9_nextToken_61 rfl rfl rfl ?_
        refine jj_aload_n (q := 63) dX9_nextToken_62 rfl rfl rfl ?_
        refine jj_getIw (v := nI (tS b E p)) (q := 66) dX9_nextToken_63 fl_X9_101 hm.t0 (by rw [g_rd, w1_ne (by omega), w1_eq]) rfl rfl ?_
        refine jj_cV1i (q := 69) dX9_nextToken_66 yk_X9_byteAt ml_X9_104 hm.t0 (ex_mbyteAt hm hb h3' (by omega)) rfl rfl rfl ⟨Nat.zero_le _, Nat.zero_le _⟩ ?_
        refine jj_bipush (v := 97) (q := 71) dX9_nextToken_69 rfl rfl ?_
        refine jj_bipush (v := 122) (q := 73) dX9_nextToken_71 rfl rfl ?_
        refine jj_cS3i (q := 76) dX9_nextToken_73 yk_X9_in ml_X9_111 ex_inI rfl rfl rfl ⟨Nat.zero_le _, Nat.zero_le _⟩ ?_
        refine jj_if_eq (q := 79) (tgt := 136) dX9_nextToken_76 rfl rfl (fun h76 => ?_) (fun h76 => absurd ((inL (lo := 97) (hi := 122) hb8 (by omega) (by omega)).mpr (fun w => nl w.2)) h76)
        refine jj_aload_n (q := 137) dX9_nextToken_136 rfl rfl rfl ?_
        refine jj_aload_n (q := 138) dX9_nextToken_137 rfl rfl rfl ?_
        refine jj_getIw (v := nI (tS b E p)) (q := 141) dX9_nextToken_138 fl_X9_101 hm.t0 (by rw [g_rd, w1_ne (by omega), w1_eq]) rfl rfl ?_
        refine jj_cV1i (q := 144) dX9_nextToken_141 yk_X9_byteAt ml_X9_104 hm.t0 (ex_mbyteAt hm hb h3' (by omega)) rfl rfl rfl ⟨Nat.zero_le _, Nat.zero_le _⟩ ?_
        refine jj_bipush (v := 48) (q := 146) dX9_nextToken_144 rfl rfl ?_
        refine jj_bipush (v := 57) (q := 148) dX9_nextToken_146 rfl rfl ?_
        refine jj_cS3i (q := 151) dX9_nextToken_148 yk_X9_in ml_X9_111 ex_inI rfl rfl rfl ⟨Nat.zero_le _, Nat.zero_le _⟩ ?_
        refine jj_if_eq (q := 154) (tgt := 251) dX9_nextToken_151 rfl rfl (fun h151 => by exfalso; exact ((inL (lo := 48) (hi := 57) hb8 (by omega) (by omega)).mp h151) ⟨by omega, hl⟩) (fun h151 => ?_)
        refine jj_aload_n (q := 155) dX9_nextToken_154 rfl rfl rfl ?_
        refine jj_iconst (v := 0) (q := 156) dX9_nextToken_155 rfl rfl ?_
        refine jj_putIv (q := 159) dX9_nextToken_156 fl_X9_115 hm.t0 g_wr rfl rfl rfl rfl rfl ?_
        refine lp_ndg (q := tS b E p) hm hb (E - tS b E p) 0 _ rfl hq.2 (by rw [w1_ne (by omega)]; exact h3') (by rw [w1_ne (by omega), w1_eq]) (by rw [w1_ne (by omega), w1_ne (by omega), w1_eq]; rfl) w1_eq ?_
        rw [hsk]
        by_cases c5 : qN b E (tS b E p) - tS b E p ≤ 5
        · rw [if_pos c5]
          refine jj_aload_n (q := 227) dX9_nextToken_226 rfl rfl rfl ?_
          refine jj_aload_n (q := 228) dX9_nextToken_227 rfl rfl rfl ?_
          refine jj_getIw (v := nI (qN b E (tS b E p))) (q := 231) dX9_nextToken_228 fl_X9_101 hm.t0 (by rw [g_rd, w1_ne (by omega), w1_eq]) rfl rfl ?_
          refine jj_aload_n (q := 232) dX9_nextToken_231 rfl rfl rfl ?_
          refine jj_getIw (v := nI (tS b E p)) (q := 235) dX9_nextToken_232 fl_X9_98 hm.t0 (by rw [g_rd, w1_ne (by omega), w1_ne (by omega), w1_ne (by omega), w1_eq]) rfl rfl ?_
          refine jj_isubN (q := 236) (e := qN b E (tS b E p) - tS b E p) (a := qN b E (tS b E p)) (b := tS b E p) dX9_nextToken_235 rfl rfl (by omega) rfl ?_
          refine jj_iconst (v := 5) (q := 237) dX9_nextToken_236 rfl rfl ?_
          refine jj_icmp_le (q := 240) (tgt := 244) dX9_nextToken_237 rfl rfl (fun h237 => ?_) (fun h237 => absurd (nI_le c5 (by omega)) h237)
          refine jj_iconst (v := 3) (q := 245) dX9_nextToken_244 rfl rfl ?_
          refine jj_putIv (q := 248) dX9_nextToken_245 fl_X9_108 hm.t0 g_wr rfl rfl rfl rfl rfl ?_
          refine jj_goto (tgt := 292) dX9_nextToken_248 rfl ?_
          refine jj_vret dX9_nextToken_292 rfl (Nat.zero_le _) (Nat.zero_le _) ?_
          exact ⟨rfl, by rw [nt_b]; rfl⟩
        · rw [if_neg c5]
          refine jj_aload_n (q := 227) dX9_nextToken_226 rfl rfl rfl ?_
          refine jj_aload_n (q := 228) dX9_nextToken_227 rfl rfl rfl ?_
          refine jj_getIw (v := nI (qN b E (tS b E p))) (q := 231) dX9_nextToken_228 fl_X9_101 hm.t0 (by rw [g_rd, w1_ne (by omega), w1_eq]) rfl rfl ?_
          refine jj_aload_n (q := 232) dX9_nextToken_231 rfl rfl rfl ?_
          refine jj_getIw (v := nI (tS b E p)) (q := 235) dX9_nextToken_232 fl_X9_98 hm.t0 (by rw [g_rd, w1_ne (by omega), w1_ne (by omega), w1_ne (by omega), w1_eq]) rfl rfl ?_
          refine jj_isubN (q := 236) (e := qN b E (tS b E p) - tS b E p) (a := qN b E (tS b E p)) (b := tS b E p) dX9_nextToken_235 rfl rfl (by omega) rfl ?_
          refine jj_iconst (v := 5) (q := 237) dX9_nextToken_236 rfl rfl ?_
          refine jj_icmp_le (q := 240) (tgt := 244) dX9_nextToken_237 rfl rfl (fun h237 => absurd h237 (nI_ge (show 5 < qN b E (tS b E p) - tS b E p by omega) (by omega))) (fun h237 => ?_)
          refine jj_iconst (v := 0) (q := 241) dX9_nextToken_240 rfl rfl ?_
          refine jj_goto (tgt := 245) dX9_nextToken_241 rfl ?_
          refine jj_putIv (q := 248) dX9_nextToken_245 fl_X9_108 hm.t0 g_wr rfl rfl rfl rfl rfl ?_
          refine jj_goto (tgt := 292) dX9_nextToken_248 rfl ?_
          refine jj_vret dX9_nextToken_292 rfl (Nat.zero_le _) (Nat.zero_le _) ?_
          exact ⟨rfl, by rw [nt_b]; rfl⟩
      · have nd : ¬ (48 ≤ b (tS b E p) ∧ b (tS b E p) ≤ 57) := fun w => c3 (decide_eq_true w)
        rw [show tN b E p = tS b E p + 1 by unfold tN qN; rw [if_neg c1, if_neg c2, if_neg c3], show tK b E p = (if isG (b (tS b E p)) = true then 3 else 4) by unfold tK qK; rw [if_neg c1, if_neg c2, if_neg c3], show mV b E (tS b E p) G = nI (b (tS b E p)) by unfold mV; rw [if_neg c1, if_neg c2, if_neg c3]]
        have hbx : bX b E (tS b E p) = nI (b (tS b E p)) := if_pos (by omega)
        by_cases cG : isG (b (tS b E p)) = true
        · rw [if_pos cG]
          refine jj_aload_n (q := 35) dX9_nextToken_34 rfl rfl rfl ?_
          refine jj_aload_n (q := 36) dX9_nextToken_35 rfl rfl rfl ?_
          refine jj_getIw (v := nI (tS b E p)) (q := 39) dX9_nextToken_36 fl_X9_101 hm.t0 (by rw [g_rd, w1_eq]) rfl rfl ?_
          refine jj_putIv (q := 42) dX9_nextToken_39 fl_X9_98 hm.t0 g_wr rfl rfl rfl rfl rfl ?_
          refine jj_aload_n (q := 43) dX9_nextToken_42 rfl rfl rfl ?_
          refine jj_getIw (v := nI (tS b E p)) (q := 46) dX9_nextToken_43 fl_X9_101 hm.t0 (by rw [g_rd, w1_ne (by omega), w1_eq]) rfl rfl ?_
          refine jj_aload_n (q := 47) dX9_nextToken_46 rfl rfl rfl ?_
          refine jj_getIw (v := nI E) (q := 50) dX9_nextToken_47 fl_X9_95 hm.t0 (by rw [g_rd]; exact h3') rfl rfl ?_
          refine jj_icmp_ne (q := 53) (tgt := 61) dX9_nextToken_50 rfl rfl (fun h50 => ?_) (fun h50 => by exfalso; exact hne h50)
          refine jj_aload_n (q := 62) dX9_nextToken_61 rfl rfl rfl ?_
          refine jj_aload_n (q := 63) dX9_nextToken_62 rfl rfl rfl ?_
          refine jj_getIw (v := nI (tS b E p)) (q := 66) dX9_nextToken_63 fl_X9_101 hm.t0 (by rw [g_rd, w1_ne (by omega), w1_eq]) rfl rfl ?_
          refine jj_cV1i (q := 69) dX9_nextToken_66 yk_X9_byteAt ml_X9_104 hm.t0 (ex_mbyteAt hm hb h3' (by omega)) rfl rfl rfl ⟨Nat.zero_le _, Nat.zero_le _⟩ ?_
          refine jj_bipush (v := 97) (q := 71) dX9_nextToken_69 rfl rfl ?_
          refine jj_bipush (v := 122) (q := 73) dX9_nextToken_71 rfl rfl ?_
          refine jj_cS3i (q := 76) dX9_nextToken_73 yk_X9_in ml_X9_111 ex_inI rfl rfl rfl ⟨Nat.zero_le _, Nat.zero_le _⟩ ?_
          refine jj_if_eq (q := 79) (tgt := 136) dX9_nextToken_76 rfl rfl (fun h76 => ?_) (fun h76 => absurd ((inL (lo := 97) (hi := 122) hb8 (by omega) (by omega)).mpr (fun w => nl w.2)) h76)
          refine jj_aload_n (q := 137) dX9_nextToken_136 rfl rfl rfl ?_
          refine jj_aload_n (q := 138) dX9_nextToken_137 rfl rfl rfl ?_
          refine jj_getIw (v := nI (tS b E p)) (q := 141) dX9_nextToken_138 fl_X9_101 hm.t0 (by rw [g_rd, w1_ne (by omega), w1_eq]) rfl rfl ?_
          refine jj_cV1i (q := 144) dX9_nextToken_141 yk_X9_byteAt ml_X9_104 hm.t0 (ex_mbyteAt hm hb h3' (by omega)) rfl rfl rfl ⟨Nat.zero_le _, Nat.zero_le _⟩ ?_
          refine jj_bipush (v := 48) (q := 146) dX9_nextToken_144 rfl rfl ?_
          refine jj_bipush (v := 57) (q := 148) dX9_nextToken_146 rfl rfl ?_
          refine jj_cS3i (q := 151) dX9_nextToken_148 yk_X9_in ml_X9_111 ex_inI rfl rfl rfl ⟨Nat.zero_le _, Nat.zero_le _⟩ ?_
          refine jj_if_eq (q := 154) (tgt := 251) dX9_nextToken_151 rfl rfl (fun h151 => ?_) (fun h151 => absurd ((inL (lo := 48) (hi := 57) hb8 (by omega) (by omega)).mpr (fun w => nd w.2)) h151)
          refine jj_aload_n (q := 252) dX9_nextToken_251 rfl rfl rfl ?_
          refine jj_aload_n (q := 253) dX9_nextToken_252 rfl rfl rfl ?_
          refine jj_aload_n (q := 254) dX9_nextToken_253 rfl rfl rfl ?_
          refine jj_getIw (v := nI (tS b E p)) (q := 257) dX9_nextToken_254 fl_X9_101 hm.t0 (by rw [g_rd, w1_ne (by omega), w1_eq]) rfl rfl ?_
          refine jj_cV1i (q := 260) dX9_nextToken_257 yk_X9_byteAt ml_X9_104 hm.t0 (ex_mbyteAt hm hb h3' (by omega)) rfl rfl rfl ⟨Nat.zero_le _, Nat.zero_le _⟩ ?_
          rw [hbx]
          refine jj_putIv (q := 263) dX9_nextToken_260 fl_X9_115 hm.t0 g_wr rfl rfl rfl rfl rfl ?_
          refine jj_aload_n (q := 264) dX9_nextToken_263 rfl rfl rfl ?_
          refine jj_aload_n (q := 265) dX9_nextToken_264 rfl rfl rfl ?_
          refine jj_getIw (v := nI (b (tS b E p))) (q := 268) dX9_nextToken_265 fl_X9_115 hm.t0 (by rw [g_rd, w1_eq]) rfl rfl ?_
          refine jj_cS1i (q := 271) dX9_nextToken_268 yk_X9_isSign ml_X9_118 (ex_isSignC hv.2) rfl rfl rfl ⟨Nat.zero_le _, Nat.zero_le _⟩ ?_
          rw [if_pos cG]
          refine jj_if_eq (q := 274) (tgt := 278) dX9_nextToken_271 rfl rfl (fun h271 => by exfalso; exact absurd h271 (by decide)) (fun h271 => ?_)
          refine jj_iconst (v := 4) (q := 275) dX9_nextToken_274 rfl rfl ?_
          refine jj_goto (tgt := 279) dX9_nextToken_275 rfl ?_
          refine jj_putIv (q := 282) dX9_nextToken_279 fl_X9_108 hm.t0 g_wr rfl rfl rfl rfl rfl ?_
          refine jj_aload_n (q := 283) dX9_nextToken_282 rfl rfl rfl ?_
          refine jj_dup (q := 284) dX9_nextToken_283 rfl rfl ?_
          refine jj_getIw (v := nI (tS b E p)) (q := 287) dX9_nextToken_284 fl_X9_101 hm.t0 (by rw [g_rd, w1_ne (by omega), w1_ne (by omega), w1_ne (by omega), w1_eq]) rfl rfl ?_
          refine jj_iconst (v := 1) (q := 288) dX9_nextToken_287 rfl rfl ?_
          refine jj_iaddN (q := 289) (a := tS b E p) (b := 1) dX9_nextToken_288 rfl rfl rfl ?_
          refine jj_putIv (q := 292) dX9_nextToken_289 fl_X9_101 hm.t0 g_wr rfl rfl rfl rfl rfl ?_
          refine jj_vret dX9_nextToken_292 rfl (Nat.zero_le _) (Nat.zero_le _) ?_
          exact ⟨rfl, by rw [nt_c]; rfl⟩
        · rw [if_neg cG]
          refine jj_aload_n (q := 35) dX9_nextToken_34 rfl rfl rfl ?_
          refine jj_aload_n (q := 36) dX9_nextToken_35 rfl rfl rfl ?_
          refine jj_getIw (v := nI (tS b E p)) (q := 39) dX9_nextToken_36 fl_X9_101 hm.t0 (by rw [g_rd, w1_eq]) rfl rfl ?_
          refine jj_putIv (q := 42) dX9_nextToken_39 fl_X9_98 hm.t0 g_wr rfl rfl rfl rfl rfl ?_
          refine jj_aload_n (q := 43) dX9_nextToken_42 rfl rfl rfl ?_
          refine jj_getIw (v := nI (tS b E p)) (q := 46) dX9_nextToken_43 fl_X9_101 hm.t0 (by rw [g_rd, w1_ne (by omega), w1_eq]) rfl rfl ?_
          refine jj_aload_n (q := 47) dX9_nextToken_46 rfl rfl rfl ?_
          refine jj_getIw (v := nI E) (q := 50) dX9_nextToken_47 fl_X9_95 hm.t0 (by rw [g_rd]; exact h3') rfl rfl ?_
          refine jj_icmp_ne (q := 53) (tgt := 61) dX9_nextToken_50 rfl rfl (fun h50 => ?_) (fun h50 => by exfalso; exact hne h50)
          refine jj_aload_n (q := 62) dX9_nextToken_61 rfl rfl rfl ?_
          refine jj_aload_n (q := 63) dX9_nextToken_62 rfl rfl rfl ?_
          refine jj_getIw (v := nI (tS b E p)) (q := 66) dX9_nextToken_63 fl_X9_101 hm.t0 (by rw [g_rd, w1_ne (by omega), w1_eq]) rfl rfl ?_
          refine jj_cV1i (q := 69) dX9_nextToken_66 yk_X9_byteAt ml_X9_104 hm.t0 (ex_mbyteAt hm hb h3' (by omega)) rfl rfl rfl ⟨Nat.zero_le _, Nat.zero_le _⟩ ?_
          refine jj_bipush (v := 97) (q := 71) dX9_nextToken_69 rfl rfl ?_
          refine jj_bipush (v := 122) (q := 73) dX9_nextToken_71 rfl rfl ?_
          refine jj_cS3i (q := 76) dX9_nextToken_73 yk_X9_in ml_X9_111 ex_inI rfl rfl rfl ⟨Nat.zero_le _, Nat.zero_le _⟩ ?_
          refine jj_if_eq (q := 79) (tgt := 136) dX9_nextToken_76 rfl rfl (fun h76 => ?_) (fun h76 => absurd ((inL (lo := 97) (hi := 122) hb8 (by omega) (by omega)).mpr (fun w => nl w.2)) h76)
          refine jj_aload_n (q := 137) dX9_nextToken_136 rfl rfl rfl ?_
          refine jj_aload_n (q := 138) dX9_nextToken_137 rfl rfl rfl ?_
          refine jj_getIw (v := nI (tS b E p)) (q := 141) dX9_nextToken_138 fl_X9_101 hm.t0 (by rw [g_rd, w1_ne (by omega), w1_eq]) rfl rfl ?_
          refine jj_cV1i (q := 144) dX9_nextToken_141 yk_X9_byteAt ml_X9_104 hm.t0 (ex_mbyteAt hm hb h3' (by omega)) rfl rfl rfl ⟨Nat.zero_le _, Nat.zero_le _⟩ ?_
          refine jj_bipush (v := 48) (q := 146) dX9_nextToken_144 rfl rfl ?_
          refine jj_bipush (v := 57) (q := 148) dX9_nextToken_146 rfl rfl ?_
          refine jj_cS3i (q := 151) dX9_nextToken_148 yk_X9_in ml_X9_111 ex_inI rfl rfl rfl ⟨Nat.zero_le _, Nat.zero_le _⟩ ?_
          refine jj_if_eq (q := 154) (tgt := 251) dX9_nextToken_151 rfl rfl (fun h151 => ?_) (fun h151 => absurd ((inL (lo := 48) (hi := 57) hb8 (by omega) (by omega)).mpr (fun w => nd w.2)) h151)
          refine jj_aload_n (q := 252) dX9_nextToken_251 rfl rfl rfl ?_
          refine jj_aload_n (q := 253) dX9_nextToken_252 rfl rfl rfl ?_
          refine jj_aload_n (q := 254) dX9_nextToken_253 rfl rfl rfl ?_
          refine jj_getIw (v := nI (tS b E p)) (q := 257) dX9_nextToken_254 fl_X9_101 hm.t0 (by rw [g_rd, w1_ne (by omega), w1_eq]) rfl rfl ?_
          refine jj_cV1i (q := 260) dX9_nextToken_257 yk_X9_byteAt ml_X9_104 hm.t0 (ex_mbyteAt hm hb h3' (by omega)) rfl rfl rfl ⟨Nat.zero_le _, Nat.zero_le _⟩ ?_
          rw [hbx]
          refine jj_putIv (q := 263) dX9_nextToken_260 fl_X9_115 hm.t0 g_wr rfl rfl rfl rfl rfl ?_
          refine jj_aload_n (q := 264) dX9_nextToken_263 rfl rfl rfl ?_
          refine jj_aload_n (q := 265) dX9_nextToken_264 rfl rfl rfl ?_
          refine jj_getIw (v := nI (b (tS b E p))) (q := 268) dX9_nextToken_265 fl_X9_115 hm.t0 (by rw [g_rd, w1_eq]) rfl rfl ?_
          refine jj_cS1i (q := 271) dX9_nextToken_268 yk_X9_isSign ml_X9_118 (ex_isSignC hv.2) rfl rfl rfl ⟨Nat.zero_le _, Nat.zero_le _⟩ ?_
          rw [if_neg cG]
          refine jj_if_eq (q := 274) (tgt := 278) dX9_nextToken_271 rfl rfl (fun h271 => ?_) (fun h271 => by exfalso; exact h271 rfl)
          refine jj_iconst (v := 0) (q := 279) dX9_nextToken_278 rfl rfl ?_
          refine jj_putIv (q := 282) dX9_nextToken_279 fl_X9_108 hm.t0 g_wr rfl rfl rfl rfl rfl ?_
          refine jj_aload_n (q := 283) dX9_nextToken_282 rfl rfl rfl ?_
          refine jj_dup (q := 284) dX9_nextToken_283 rfl rfl ?_
          refine jj_getIw (v := nI (tS b E p)) (q := 287) dX9_nextToken_284 fl_X9_101 hm.t0 (by rw [g_rd, w1_ne (by omega), w1_ne (by omega), w1_ne (by omega), w1_eq]) rfl rfl ?_
          refine jj_iconst (v := 1) (q := 288) dX9_nextToken_287 rfl rfl ?_
          refine jj_iaddN (q := 289) (a := tS b E p) (b := 1) dX9_nextToken_288 rfl rfl rfl ?_
          refine jj_putIv (q := 292) dX9_nextToken_289 fl_X9_101 hm.t0 g_wr rfl rfl rfl rfl rfl ?_
          refine jj_vret dX9_nextToken_292 rfl (Nat.zero_le _) (Nat.zero_le _) ?_
          exact ⟨rfl, by rw [nt_c]; rfl⟩
end M73
