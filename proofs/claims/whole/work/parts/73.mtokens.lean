/-! TOKENS of the model -/
def bX (b : Nat → Nat) (E k : Nat) : Int32 := if k < E then nI (b k) else -1
def mKd (k : Nat) : Nat := if k = 4 then 0 else k + 1
def mV (b : Nat → Nat) (E q : Nat) (G : JV) : Int32 := if E ≤ q then G 9 else if isL (b q) = true then G 9 else if isD (b q) = true then nI (dcm b q (min 5 (qN b E q - q))) else nI (b q)
def mNx (b : Nat → Nat) (E p : Nat) (G : JV) : JV := w1 (w1 (w1 (w1 G 4 (nI (tN b E p))) 8 (nI (tS b E p))) 7 (nI (mKd (tK b E p)))) 9 (mV b E (tS b E p) G)
/-- the model's buffer -/
def mB_ (A : JI) (b : Nat → Nat) (E : Nat) : Prop := E ≤ 1200 ∧ ∀ j, j < E → A 1 j = nI (b j) ∧ b j < 256
theorem inL {b : Nat → Nat} {E k lo hi : Nat} (hb : ∀ j, j < E → b j < 256) (hh : hi < 256) (hl : lo < 256) : inI (bX b E k) (nI lo) (nI hi) = 0 ↔ ¬ (k < E ∧ lo ≤ b k ∧ b k ≤ hi) := by
  unfold bX
  by_cases h : k < E
  · rw [if_pos h]
    have := hb k h
    unfold inI
    by_cases h1 : b k < lo
    · rw [if_pos (nI_lt h1 (by omega))]
      exact ⟨fun _ => by omega, fun _ => rfl⟩
    · rw [if_neg (nI_nlt (by omega) (by omega))]
      by_cases h2 : hi < b k
      · rw [if_pos (nI_lt h2 (by omega))]
        exact ⟨fun _ => by omega, fun _ => rfl⟩
      · rw [if_neg (nI_nlt (by omega) (by omega))]
        exact ⟨fun w => absurd w (by decide), fun w => absurd ⟨h, by omega, by omega⟩ w⟩
  · rw [if_neg h]
    unfold inI
    rw [if_pos (show (-1 : Int32) < nI lo by rw [fa_lt, nI_toInt (by omega)]; show (-1 : Int) < _; omega)]
    exact ⟨fun _ w => h w.1, fun _ => rfl⟩
section M73
variable {Γ : Gam} {d : Nat} {T : JT} {R S : JR} {I A : JI} {L : JL} {D : JD} {z : Option Nat} {mo E p : Nat} {G : JV} {b : Nat → Nat}
theorem g_rd : blk 18 I mo (st A 0 G) mo = G := by rw [blk_0 (by decide), st_eq]
theorem g_wr {j : Nat} {v : Int32} : u2 (blk 18 I mo (st A 0 G)) mo j v = blk 18 I mo (st A 0 (w1 G j v)) := by rw [u2_blk0 (by decide), u2_st]
theorem ex_mbyteAt (hm : hMo T S mo) (hb : mB_ A b E) (h3 : G 3 = nI E) {k : Nat} (hk : k < 2 ^ 31) : Ex Γ (d) Y_X9_byteAt [.ref mo, .int (nI k)] (T, R, S, blk 18 I mo (st A 0 G), L, D, z) 0 0 (rI (bX b E k) (T, R, S, blk 18 I mo (st A 0 G), L, D, z)) := by
  have h12 := hb.1
  unfold bX
  by_cases h : k < E
  · rw [if_pos h]
    have hv := hb.2 k h
    refine Ex.of (by decide) (by simp [Value.category]) (Nat.le_of_ble_eq_true rfl) rfl ?_
    refine jj_iload_n (q := 1) dX9_byteAt_0 rfl rfl rfl ?_
    refine jj_aload_n (q := 2) dX9_byteAt_1 rfl rfl rfl ?_
    refine jj_getIw (v := nI E) (q := 5) dX9_byteAt_2 fl_X9_95 hm.t0 (by rw [g_rd]; exact h3) rfl rfl ?_
    refine jj_icmp_ge (q := 8) (tgt := 17) dX9_byteAt_5 rfl rfl (fun h5 => absurd h5 (nI_ge h (by omega))) (fun h5 => ?_)
    refine jj_aload_n (q := 9) dX9_byteAt_8 rfl rfl rfl ?_
    refine jj_getS (q := 12) dX9_byteAt_9 fl_X9_9 hm.t0 hm.r0_1 rfl rfl rfl ?_
    refine jj_iload_n (q := 13) dX9_byteAt_12 rfl rfl rfl ?_
    refine jj_ialdW (q := 14) (j := k) (v := nI (b k)) dX9_byteAt_13 hm.t1 (blk_sn (by decide) (by decide)) rfl (by omega) hv.1 rfl ?_
    refine jj_goto (tgt := 18) dX9_byteAt_14 rfl ?_
    refine jj_iret dX9_byteAt_18 rfl (Nat.zero_le _) (Nat.zero_le _) ?_
    exact ⟨rfl, rfl⟩
  · rw [if_neg h]
    refine Ex.of (by decide) (by simp [Value.category]) (Nat.le_of_ble_eq_true rfl) rfl ?_
    refine jj_iload_n (q := 1) dX9_byteAt_0 rfl rfl rfl ?_
    refine jj_aload_n (q := 2) dX9_byteAt_1 rfl rfl rfl ?_
    refine jj_getIw (v := nI E) (q := 5) dX9_byteAt_2 fl_X9_95 hm.t0 (by rw [g_rd]; exact h3) rfl rfl ?_
    refine jj_icmp_ge (q := 8) (tgt := 17) dX9_byteAt_5 rfl rfl (fun h5 => ?_) (fun h5 => absurd (nI_le (show E ≤ k by omega) (by omega)) h5)
    refine jj_iconst (v := -1) (q := 18) dX9_byteAt_17 rfl rfl ?_
    refine jj_iret dX9_byteAt_18 rfl (Nat.zero_le _) (Nat.zero_le _) ?_
    exact ⟨rfl, rfl⟩
theorem ex_faults (hm : hMo T S mo) (h5 : G 5 = 0) {w : Int32} : Ex Γ (d) Y_X9_faults [.ref mo, .int w] (T, R, S, blk 18 I mo (st A 0 G), L, D, z) 0 0 (rV (T, R, S, blk 18 I mo (st A 0 (w1 (w1 G 5 w) 6 (G 8))), L, D, z)) := by
  refine Ex.of (by decide) (by simp [Value.category]) (Nat.le_of_ble_eq_true rfl) rfl ?_
  refine jj_aload_n (q := 1) dX9_faults_0 rfl rfl rfl ?_
  refine jj_getIw (v := 0) (q := 4) dX9_faults_1 fl_X9_92 hm.t0 (by rw [g_rd]; exact h5) rfl rfl ?_
  refine jj_if_le (q := 7) (tgt := 8) dX9_faults_4 rfl rfl (fun h4 => ?_) (fun h4 => absurd (by decide) h4)
  refine jj_aload_n (q := 9) dX9_faults_8 rfl rfl rfl ?_
  refine jj_iload_n (q := 10) dX9_faults_9 rfl rfl rfl ?_
  refine jj_putIv (q := 13) dX9_faults_10 fl_X9_92 hm.t0 g_wr rfl rfl rfl rfl rfl ?_
  refine jj_aload_n (q := 14) dX9_faults_13 rfl rfl rfl ?_
  refine jj_aload_n (q := 15) dX9_faults_14 rfl rfl rfl ?_
  refine jj_getIv (q := 18) dX9_faults_15 fl_X9_98 hm.t0 g_rd rfl rfl ?_
  refine jj_putIv (q := 21) dX9_faults_18 fl_X9_13 hm.t0 g_wr rfl rfl rfl rfl rfl ?_
  refine jj_vret dX9_faults_21 rfl (Nat.zero_le _) (Nat.zero_le _) ?_
  exact ⟨rfl, by rw [w1_ne (by omega)]⟩
theorem ex_faultsX (hm : hMo T S mo) (h5 : 0 < G 5) {w : Int32} : Ex Γ (d) Y_X9_faults [.ref mo, .int w] (T, R, S, blk 18 I mo (st A 0 G), L, D, z) 0 0 (rV (T, R, S, blk 18 I mo (st A 0 G), L, D, z)) := by
  refine Ex.of (by decide) (by simp [Value.category]) (Nat.le_of_ble_eq_true rfl) rfl ?_
  refine jj_aload_n (q := 1) dX9_faults_0 rfl rfl rfl ?_
  refine jj_getIv (q := 4) dX9_faults_1 fl_X9_92 hm.t0 g_rd rfl rfl ?_
  refine jj_if_le (q := 7) (tgt := 8) dX9_faults_4 rfl rfl (fun h4 => absurd h4 (Int32.not_le.mpr h5)) (fun h4 => ?_)
  refine jj_vret dX9_faults_7 rfl (Nat.zero_le _) (Nat.zero_le _) ?_
  exact ⟨rfl, rfl⟩
theorem ex_isSignC {v : Nat} (hv : v < 256) {M : JM} : Ex Γ (d) Y_X9_isSign [.int (nI v)] M 0 0 (rI (if isG v = true then 1 else 0) M) := by
  have hne : ∀ c, c < 256 → (nI v = nI c ↔ v = c) := fun c hc => ⟨fun w => nI_inj' (by omega) (by omega) w, fun w => by rw [w]⟩
  have hg : isG v = true ↔ (v = 59 ∨ v = 40 ∨ v = 41 ∨ v = 60 ∨ v = 62 ∨ v = 61) := decide_eq_true_iff
  refine Ex.of (by decide) (by simp [Value.category]) (Nat.le_of_ble_eq_true rfl) rfl ?_
  refine jj_iload_n (q := 1) dX9_isSign_0 rfl rfl rfl ?_
  refine jj_bipush (v := 59) (q := 3) dX9_isSign_1 rfl rfl ?_
  refine jj_icmp_eq (q := 6) (tgt := 36) dX9_isSign_3 rfl rfl (fun h3 => ?_) (fun h3 => ?_)
  · refine jj_iconst (v := 1) (q := 37) dX9_isSign_36 rfl rfl ?_
    refine jj_goto (tgt := 41) dX9_isSign_37 rfl ?_
    refine jj_zret dX9_isSign_41 rfl (by first | rfl | assumption) (Nat.zero_le _) (Nat.zero_le _) ?_
    exact ⟨by rw [if_pos (hg.mpr (by have := (hne 59 (by omega)).mp h3; omega))], rfl⟩
  · refine jj_iload_n (q := 7) dX9_isSign_6 rfl rfl rfl ?_
    refine jj_bipush (v := 40) (q := 9) dX9_isSign_7 rfl rfl ?_
    refine jj_icmp_eq (q := 12) (tgt := 36) dX9_isSign_9 rfl rfl (fun h9 => ?_) (fun h9 => ?_)
    · refine jj_iconst (v := 1) (q := 37) dX9_isSign_36 rfl rfl ?_
      refine jj_goto (tgt := 41) dX9_isSign_37 rfl ?_
      refine jj_zret dX9_isSign_41 rfl (by first | rfl | assumption) (Nat.zero_le _) (Nat.zero_le _) ?_
      exact ⟨by rw [if_pos (hg.mpr (by have := (hne 40 (by omega)).mp h9; omega))], rfl⟩
    · refine jj_iload_n (q := 13) dX9_isSign_12 rfl rfl rfl ?_
      refine jj_bipush (v := 41) (q := 15) dX9_isSign_13 rfl rfl ?_
      refine jj_icmp_eq (q := 18) (tgt := 36) dX9_isSign_15 rfl rfl (fun h15 => ?_) (fun h15 => ?_)
      · refine jj_iconst (v := 1) (q := 37) dX9_isSign_36 rfl rfl ?_
        refine jj_goto (tgt := 41) dX9_isSign_37 rfl ?_
        refine jj_zret dX9_isSign_41 rfl (by first | rfl | assumption) (Nat.zero_le _) (Nat.zero_le _) ?_
        exact ⟨by rw [if_pos (hg.mpr (by have := (hne 41 (by omega)).mp h15; omega))], rfl⟩
      · refine jj_iload_n (q := 19) dX9_isSign_18 rfl rfl rfl ?_
        refine jj_bipush (v := 60) (q := 21) dX9_isSign_19 rfl rfl ?_
        refine jj_icmp_eq (q := 24) (tgt := 36) dX9_isSign_21 rfl rfl (fun h21 => ?_) (fun h21 => ?_)
        · refine jj_iconst (v := 1) (q := 37) dX9_isSign_36 rfl rfl ?_
          refine jj_goto (tgt := 41) dX9_isSign_37 rfl ?_
          refine jj_zret dX9_isSign_41 rfl (by first | rfl | assumption) (Nat.zero_le _) (Nat.zero_le _) ?_
          exact ⟨by rw [if_pos (hg.mpr (by have := (hne 60 (by omega)).mp h21; omega))], rfl⟩
        · refine jj_iload_n (q := 25) dX9_isSign_24 rfl rfl rfl ?_
          refine jj_bipush (v := 62) (q := 27) dX9_isSign_25 rfl rfl ?_
          refine jj_icmp_eq (q := 30) (tgt := 36) dX9_isSign_27 rfl rfl (fun h27 => ?_) (fun h27 => ?_)
          · refine jj_iconst (v := 1) (q := 37) dX9_isSign_36 rfl rfl ?_
            refine jj_goto (tgt := 41) dX9_isSign_37 rfl ?_
            refine jj_zret dX9_isSign_41 rfl (by first | rfl | assumption) (Nat.zero_le _) (Nat.zero_le _) ?_
            exact ⟨by rw [if_pos (hg.mpr (by have := (hne 62 (by omega)).mp h27; omega))], rfl⟩
          · refine jj_iload_n (q := 31) dX9_isSign_30 rfl rfl rfl ?_
            refine jj_bipush (v := 61) (q := 33) dX9_isSign_31 rfl rfl ?_
            refine jj_icmp_ne (q := 36) (tgt := 40) dX9_isSign_33 rfl rfl (fun h33 => ?_) (fun h33 => ?_)
            · refine jj_iconst (v := 0) (q := 41) dX9_isSign_40 rfl rfl ?_
              refine jj_zret dX9_isSign_41 rfl (by first | rfl | assumption) (Nat.zero_le _) (Nat.zero_le _) ?_
              exact ⟨by rw [if_neg (fun w => by rcases hg.mp w with e | e | e | e | e | e <;> first | exact h3 (by rw [e]; rfl) | exact h9 (by rw [e]; rfl) | exact h15 (by rw [e]; rfl) | exact h21 (by rw [e]; rfl) | exact h27 (by rw [e]; rfl) | exact h33 (by rw [e]; rfl))], rfl⟩
            · refine jj_iconst (v := 1) (q := 37) dX9_isSign_36 rfl rfl ?_
              refine jj_goto (tgt := 41) dX9_isSign_37 rfl ?_
              refine jj_zret dX9_isSign_41 rfl (by first | rfl | assumption) (Nat.zero_le _) (Nat.zero_le _) ?_
              exact ⟨by rw [if_pos (hg.mpr (by have := (hne 61 (by omega)).mp h33; omega))], rfl⟩
theorem ex_nextX (hm : hMo T S mo) (h5 : 0 < G 5) : Ex Γ (d + 1) Y_X9_nextToken [.ref mo] (T, R, S, blk 18 I mo (st A 0 G), L, D, z) 0 0 (rV (T, R, S, blk 18 I mo (st A 0 G), L, D, z)) := by
  refine Ex.of (by decide) (by simp [Value.category]) (Nat.le_of_ble_eq_true rfl) rfl ?_
  refine jj_aload_n (q := 1) dX9_nextToken_0 rfl rfl rfl ?_
  refine jj_getIv (q := 4) dX9_nextToken_1 fl_X9_92 hm.t0 g_rd rfl rfl ?_
  refine jj_if_le (q := 7) (tgt := 8) dX9_nextToken_4 rfl rfl (fun h4 => absurd h4 (Int32.not_le.mpr h5)) (fun h4 => ?_)
  refine jj_vret dX9_nextToken_7 rfl (Nat.zero_le _) (Nat.zero_le _) ?_
  exact ⟨rfl, rfl⟩
theorem w1_self {F : JV} {j : Nat} {v : Int32} (h : F j = v) : w1 F j v = F := by
  funext i
  unfold w1
  split
  · rename_i e; rw [e, h]
  · rfl
theorem w1_w1 {F : JV} {j : Nat} {v w : Int32} : w1 (w1 F j v) j w = w1 F j w := by
  funext i
  unfold w1
  split <;> rfl
theorem bX_32 (hb8 : ∀ j, j < E → b j < 256) {k : Nat} : bX b E k = 32 ↔ (k < E ∧ 32 ≤ b k ∧ b k ≤ 32) := by
  unfold bX
  by_cases h : k < E
  · rw [if_pos h]
    have := hb8 k h
    exact ⟨fun w => by have := nI_inj' (a := b k) (b := 32) (by omega) (by omega) w; omega, fun w => by rw [show b k = 32 by omega]; rfl⟩
  · rw [if_neg h]
    exact ⟨fun w => absurd w (by decide), fun w => absurd w.1 h⟩
theorem lp_nsp (hm : hMo T S mo) (hb : mB_ A b E) {Zf : List Frame → Array Value → State → State → Prop} : ∀ (k p : Nat) (G : JV), E - p = k → p ≤ E → G 3 = nI E → G 4 = nI p → JJ Γ (jj_E Y_X9_nextToken) Zf (jj_rm (d + 1) 0 0) 0 0 34 [some (.ref mo)] [] (T, R, S, blk 18 I mo (st A 0 (w1 G 4 (nI (skp b 32 32 E p)))), L, D, z) → JJ Γ (jj_E Y_X9_nextToken) Zf (jj_rm (d + 1) 0 0) 0 0 8 [some (.ref mo)] [] (T, R, S, blk 18 I mo (st A 0 G), L, D, z) := by
  have h12 := hb.1
  have hb8 : ∀ j, j < E → b j < 256 := fun j hj => (hb.2 j hj).2
  intro k
  induction k with
  | zero =>
    intro p G hk hp h3 h4 hz
    rw [skp_no (by omega), w1_self h4] at hz
    refine jj_aload_n (q := 9) dX9_nextToken_8 rfl rfl rfl ?_
    refine jj_aload_n (q := 10) dX9_nextToken_9 rfl rfl rfl ?_
    refine jj_getIw (v := nI p) (q := 13) dX9_nextToken_10 fl_X9_101 hm.t0 (by rw [g_rd]; exact h4) rfl rfl ?_
    refine jj_cV1i (q := 16) dX9_nextToken_13 yk_X9_byteAt ml_X9_104 hm.t0 (ex_mbyteAt hm hb h3 (by omega)) rfl rfl rfl ⟨Nat.zero_le _, Nat.zero_le _⟩ ?_
    refine jj_bipush (v := 32) (q := 18) dX9_nextToken_16 rfl rfl ?_
    refine jj_icmp_ne (q := 21) (tgt := 34) dX9_nextToken_18 rfl rfl (fun h18 => ?_) (fun h18 => absurd (fun w => by have := (bX_32 hb8).mp w; omega) h18)
    exact hz
  | succ k ih =>
    intro p G hk hp h3 h4 hz
    by_cases hin : p < E ∧ 32 ≤ b p ∧ b p ≤ 32
    · rw [skp_yes hin, ← w1_w1 (v := nI (p + 1))] at hz
      refine jj_aload_n (q := 9) dX9_nextToken_8 rfl rfl rfl ?_
      refine jj_aload_n (q := 10) dX9_nextToken_9 rfl rfl rfl ?_
      refine jj_getIw (v := nI p) (q := 13) dX9_nextToken_10 fl_X9_101 hm.t0 (by rw [g_rd]; exact h4) rfl rfl ?_
      refine jj_cV1i (q := 16) dX9_nextToken_13 yk_X9_byteAt ml_X9_104 hm.t0 (ex_mbyteAt hm hb h3 (by omega)) rfl rfl rfl ⟨Nat.zero_le _, Nat.zero_le _⟩ ?_
      refine jj_bipush (v := 32) (q := 18) dX9_nextToken_16 rfl rfl ?_
      refine jj_icmp_ne (q := 21) (tgt := 34) dX9_nextToken_18 rfl rfl (fun h18 => by exfalso; exact h18 ((bX_32 hb8).mpr hin)) (fun h18 => ?_)
      refine jj_aload_n (q := 22) dX9_nextToken_21 rfl rfl rfl ?_
      refine jj_dup (q := 23) dX9_nextToken_22 rfl rfl ?_
      refine jj_getIw (v := nI p) (q := 26) dX9_nextToken_23 fl_X9_101 hm.t0 (by rw [g_rd]; exact h4) rfl rfl ?_
      refine jj_iconst (v := 1) (q := 27) dX9_nextToken_26 rfl rfl ?_
      refine jj_iaddN (q := 28) (a := p) (b := 1) dX9_nextToken_27 rfl rfl rfl ?_
      refine jj_putIv (q := 31) dX9_nextToken_28 fl_X9_101 hm.t0 g_wr rfl rfl rfl rfl rfl ?_
      refine jj_goto (tgt := 8) dX9_nextToken_31 rfl ?_
      exact ih (p + 1) _ (by omega) (by omega) (by rw [w1_ne (by omega)]; exact h3) w1_eq hz
    · rw [skp_no hin, w1_self h4] at hz
      refine jj_aload_n (q := 9) dX9_nextToken_8 rfl rfl rfl ?_
      refine jj_aload_n (q := 10) dX9_nextToken_9 rfl rfl rfl ?_
      refine jj_getIw (v := nI p) (q := 13) dX9_nextToken_10 fl_X9_101 hm.t0 (by rw [g_rd]; exact h4) rfl rfl ?_
      refine jj_cV1i (q := 16) dX9_nextToken_13 yk_X9_byteAt ml_X9_104 hm.t0 (ex_mbyteAt hm hb h3 (by omega)) rfl rfl rfl ⟨Nat.zero_le _, Nat.zero_le _⟩ ?_
      refine jj_bipush (v := 32) (q := 18) dX9_nextToken_16 rfl rfl ?_
      refine jj_icmp_ne (q := 21) (tgt := 34) dX9_nextToken_18 rfl rfl (fun h18 => ?_) (fun h18 => absurd (fun w => hin ((bX_32 hb8).mp w)) h18)
      exact hz
theorem lp_nlt (hm : hMo T S mo) (hb : mB_ A b E) {Zf : List Frame → Array Value → State → State → Prop} : ∀ (k p : Nat) (G : JV), E - p = k → p ≤ E → G 3 = nI E → G 4 = nI p → JJ Γ (jj_E Y_X9_nextToken) Zf (jj_rm (d + 1) 0 0) 0 0 110 [some (.ref mo)] [] (T, R, S, blk 18 I mo (st A 0 (w1 G 4 (nI (skp b 97 122 E p)))), L, D, z) → JJ Γ (jj_E Y_X9_nextToken) Zf (jj_rm (d + 1) 0 0) 0 0 79 [some (.ref mo)] [] (T, R, S, blk 18 I mo (st A 0 G), L, D, z) := by
  have h12 := hb.1
  have hb8 : ∀ j, j < E → b j < 256 := fun j hj => (hb.2 j hj).2
  intro k
  induction k with
  | zero =>
    intro p G hk hp h3 h4 hz
    rw [skp_no (by omega), w1_self h4] at hz
    refine jj_aload_n (q := 80) dX9_nextToken_79 rfl rfl rfl ?_
    refine jj_aload_n (q := 81) dX9_nextToken_80 rfl rfl rfl ?_
    refine jj_getIw (v := nI p) (q := 84) dX9_nextToken_81 fl_X9_101 hm.t0 (by rw [g_rd]; exact h4) rfl rfl ?_
    refine jj_cV1i (q := 87) dX9_nextToken_84 yk_X9_byteAt ml_X9_104 hm.t0 (ex_mbyteAt hm hb h3 (by omega)) rfl rfl rfl ⟨Nat.zero_le _, Nat.zero_le _⟩ ?_
    refine jj_bipush (v := 97) (q := 89) dX9_nextToken_87 rfl rfl ?_
    refine jj_bipush (v := 122) (q := 91) dX9_nextToken_89 rfl rfl ?_
    refine jj_cS3i (q := 94) dX9_nextToken_91 yk_X9_in ml_X9_111 ex_inI rfl rfl rfl ⟨Nat.zero_le _, Nat.zero_le _⟩ ?_
    refine jj_if_eq (q := 97) (tgt := 110) dX9_nextToken_94 rfl rfl (fun h94 => ?_) (fun h94 => absurd ((inL (lo := 97) (hi := 122) hb8 (by omega) (by omega)).mpr (by omega)) h94)
    exact hz
  | succ k ih =>
    intro p G hk hp h3 h4 hz
    by_cases hin : p < E ∧ 97 ≤ b p ∧ b p ≤ 122
    · rw [skp_yes hin, ← w1_w1 (v := nI (p + 1))] at hz
      refine jj_aload_n (q := 80) dX9_nextToken_79 rfl rfl rfl ?_
      refine jj_aload_n (q := 81) dX9_nextToken_80 rfl rfl rfl ?_
      refine jj_getIw (v := nI p) (q := 84) dX9_nextToken_81 fl_X9_101 hm.t0 (by rw [g_rd]; exact h4) rfl rfl ?_
      refine jj_cV1i (q := 87) dX9_nextToken_84 yk_X9_byteAt ml_X9_104 hm.t0 (ex_mbyteAt hm hb h3 (by omega)) rfl rfl rfl ⟨Nat.zero_le _, Nat.zero_le _⟩ ?_
      refine jj_bipush (v := 97) (q := 89) dX9_nextToken_87 rfl rfl ?_
      refine jj_bipush (v := 122) (q := 91) dX9_nextToken_89 rfl rfl ?_
      refine jj_cS3i (q := 94) dX9_nextToken_91 yk_X9_in ml_X9_111 ex_inI rfl rfl rfl ⟨Nat.zero_le _, Nat.zero_le _⟩ ?_
      refine jj_if_eq (q := 97) (tgt := 110) dX9_nextToken_94 rfl rfl (fun h94 => by exfalso; exact ((inL (lo := 97) (hi := 122) hb8 (by omega) (by omega)).mp h94) hin) (fun h94 => ?_)
      refine jj_aload_n (q := 98) dX9_nextToken_97 rfl rfl rfl ?_
      refine jj_dup (q := 99) dX9_nextToken_98 rfl rfl ?_
      refine jj_getIw (v := nI p) (q := 102) dX9_nextToken_99 fl_X9_101 hm.t0 (by rw [g_rd]; exact h4) rfl rfl ?_
      refine jj_iconst (v := 1) (q := 103) dX9_nextToken_102 rfl rfl ?_
      refine jj_iaddN (q := 104) (a := p) (b := 1) dX9_nextToken_103 rfl rfl rfl ?_
      refine jj_putIv (q := 107) dX9_nextToken_104 fl_X9_101 hm.t0 g_wr rfl rfl rfl rfl rfl ?_
      refine jj_goto (tgt := 79) dX9_nextToken_107 rfl ?_
      exact ih (p + 1) _ (by omega) (by omega) (by rw [w1_ne (by omega)]; exact h3) w1_eq hz
    · rw [skp_no hin, w1_self h4] at hz
      refine jj_aload_n (q := 80) dX9_nextToken_79 rfl rfl rfl ?_
      refine jj_aload_n (q := 81) dX9_nextToken_80 rfl rfl rfl ?_
      refine jj_getIw (v := nI p) (q := 84) dX9_nextToken_81 fl_X9_101 hm.t0 (by rw [g_rd]; exact h4) rfl rfl ?_
      refine jj_cV1i (q := 87) dX9_nextToken_84 yk_X9_byteAt ml_X9_104 hm.t0 (ex_mbyteAt hm hb h3 (by omega)) rfl rfl rfl ⟨Nat.zero_le _, Nat.zero_le _⟩ ?_
      refine jj_bipush (v := 97) (q := 89) dX9_nextToken_87 rfl rfl ?_
      refine jj_bipush (v := 122) (q := 91) dX9_nextToken_89 rfl rfl ?_
      refine jj_cS3i (q := 94) dX9_nextToken_91 yk_X9_in ml_X9_111 ex_inI rfl rfl rfl ⟨Nat.zero_le _, Nat.zero_le _⟩ ?_
      refine jj_if_eq (q := 97) (tgt := 110) dX9_nextToken_94 rfl rfl (fun h94 => ?_) (fun h94 => absurd ((inL (lo := 97) (hi := 122) hb8 (by omega) (by omega)).mpr hin) h94)
      exact hz
end M73
