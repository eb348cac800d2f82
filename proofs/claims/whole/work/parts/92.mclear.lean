/-! readText of the model: clearing; the text, pure -/
def rgX (X : JV) (a n : Nat) (v : Int32) : JV := fun j => if a ≤ j ∧ j < a + n then v else X j
theorem rgX_0 {X : JV} {a : Nat} {v : Int32} : rgX X a 0 v = X := by
  funext j
  unfold rgX
  rw [if_neg (by omega)]
theorem rgX_s {X : JV} {a n : Nat} {v : Int32} : rgX (w1 X a v) (a + 1) n v = rgX X a (n + 1) v := by
  funext j
  unfold rgX
  by_cases e : j = a
  · rw [if_neg (by omega), if_pos (by omega), e, w1_eq]
  · by_cases h : a + 1 ≤ j ∧ j < a + 1 + n
    · rw [if_pos h, if_pos (by omega)]
    · rw [if_neg h, if_neg (by omega), w1_ne e]
/-- the lines, the end of the text, pure -/
def pLs (b : Nat → Nat) (E : Nat) : Nat → PSt → Nat → Res PSt
  | 0, s, p => .inr (s, p)
  | n + 1, s, p => if isS b E p 59 = true then (pLin b E s.1 s.2.1 s.2.2 (tN b E p)).bd (fun s2 q => pLs b E n s2 q) else .inr (s, p)
def pEn (b : Nat → Nat) (E : Nat) (s : PSt) (p : Nat) : Res PSt := if tK b E p = 0 then (if s.1 12 = 0 then .inl (5, tS b E p) else .inr (s, p)) else .inl (1, tS b E p)
def clX0 (X : JV) : JV := rgX (rgX (rgX X 0 2086 0) 109 12 (-1)) 133 40 (-1)
def pTxt (b : Nat → Nat) (E : Nat) (N X : JV) (H : Nat → Tst) : Res PSt := (hr20 b E (.inr ((), 0))).bd (fun _ p => (pLs b E 1200 (hN1 b E (.inr ((), 0)) N, hX1 b E (.inr ((), 0)) X, H) p).bd (fun s q => pEn b E s q))
section M92
variable {Γ : Gam} {d : Nat} {T : JT} {R S : JR} {I A : JI} {L : JL} {D : JD} {z : Option Nat} {mo E : Nat} {G N X : JV} {b : Nat → Nat}
theorem lp_t1 (hm : hMo T S mo) {Zf : List Frame → Array Value → State → State → Prop} : ∀ (k i : Nat) (X : JV), i + k = 2086 → JJ Γ (jj_E Y_X9_readText) Zf (jj_rm (d + 42) 0 0) 0 0 22 [some (.ref mo), some (.int (nI 2086))] [] (T, R, S, blk 18 I mo (st (qA A N (rgX X (i) k (0))) 0 G), L, D, z) → JJ Γ (jj_E Y_X9_readText) Zf (jj_rm (d + 42) 0 0) 0 0 2 [some (.ref mo), some (.int (nI i))] [] (T, R, S, blk 18 I mo (st (qA A N X) 0 G), L, D, z) := by
  intro k
  induction k with
  | zero =>
    intro i X hi hz
    rw [rgX_0] at hz
    have e : i = 2086 := by omega
    subst e
    refine jj_iload_n (q := 3) dX9_readText_2 rfl rfl rfl ?_
    refine jj_sipush (v := 2086) (q := 6) dX9_readText_3 rfl rfl ?_
    refine jj_icmp_ge (q := 9) (tgt := 22) dX9_readText_6 rfl rfl (fun h6 => ?_) (fun h6 => absurd (nI_le (a := 2086) (b := 2086) (Nat.le_refl _) (by omega)) h6)
    exact hz
  | succ k ih =>
    intro i X hi hz
    rw [← rgX_s] at hz
    refine jj_iload_n (q := 3) dX9_readText_2 rfl rfl rfl ?_
    refine jj_sipush (v := 2086) (q := 6) dX9_readText_3 rfl rfl ?_
    refine jj_icmp_ge (q := 9) (tgt := 22) dX9_readText_6 rfl rfl (fun h6 => absurd h6 (nI_ge (a := i) (b := 2086) (by omega) (by omega))) (fun h6 => ?_)
    refine jj_aload_n (q := 10) dX9_readText_9 rfl rfl rfl ?_
    refine jj_getS (q := 13) dX9_readText_10 fl_X9_26 hm.t0 hm.r0_13 rfl rfl rfl ?_
    refine jj_iload_n (q := 14) dX9_readText_13 rfl rfl rfl ?_
    refine jj_iconst (v := 0) (q := 15) dX9_readText_14 rfl rfl ?_
    refine jj_iastN (q := 16) (j := i) dX9_readText_15 hm.t5 n5_wr rfl (by omega) rfl ?_
    refine jj_iinc (v := nI (i + 1)) (q := 19) dX9_readText_16 rfl (nI_incn i 1 rfl) (by decide) rfl ?_
    refine jj_goto (tgt := 2) dX9_readText_19 rfl ?_
    exact ih (i + 1) _ (by omega) hz
theorem lp_t2 (hm : hMo T S mo) {Zf : List Frame → Array Value → State → State → Prop} : ∀ (k i : Nat) (N : JV), i + k = 51 → JJ Γ (jj_E Y_X9_readText) Zf (jj_rm (d + 42) 0 0) 0 0 43 [some (.ref mo), some (.int (nI 51))] [] (T, R, S, blk 18 I mo (st (qA A (rgX N (i) k (0)) X) 0 G), L, D, z) → JJ Γ (jj_E Y_X9_readText) Zf (jj_rm (d + 42) 0 0) 0 0 24 [some (.ref mo), some (.int (nI i))] [] (T, R, S, blk 18 I mo (st (qA A N X) 0 G), L, D, z) := by
  intro k
  induction k with
  | zero =>
    intro i N hi hz
    rw [rgX_0] at hz
    have e : i = 51 := by omega
    subst e
    refine jj_iload_n (q := 25) dX9_readText_24 rfl rfl rfl ?_
    refine jj_bipush (v := 51) (q := 27) dX9_readText_25 rfl rfl ?_
    refine jj_icmp_ge (q := 30) (tgt := 43) dX9_readText_27 rfl rfl (fun h27 => ?_) (fun h27 => absurd (nI_le (a := 51) (b := 51) (Nat.le_refl _) (by omega)) h27)
    exact hz
  | succ k ih =>
    intro i N hi hz
    rw [← rgX_s] at hz
    refine jj_iload_n (q := 25) dX9_readText_24 rfl rfl rfl ?_
    refine jj_bipush (v := 51) (q := 27) dX9_readText_25 rfl rfl ?_
    refine jj_icmp_ge (q := 30) (tgt := 43) dX9_readText_27 rfl rfl (fun h27 => absurd h27 (nI_ge (a := i) (b := 51) (by omega) (by omega))) (fun h27 => ?_)
    refine jj_aload_n (q := 31) dX9_readText_30 rfl rfl rfl ?_
    refine jj_getS (q := 34) dX9_readText_31 fl_X9_20 hm.t0 hm.r0_11 rfl rfl rfl ?_
    refine jj_iload_n (q := 35) dX9_readText_34 rfl rfl rfl ?_
    refine jj_iconst (v := 0) (q := 36) dX9_readText_35 rfl rfl ?_
    refine jj_iastN (q := 37) (j := i) dX9_readText_36 hm.t3 n3_wr rfl (by omega) rfl ?_
    refine jj_iinc (v := nI (i + 1)) (q := 40) dX9_readText_37 rfl (nI_incn i 1 rfl) (by decide) rfl ?_
    refine jj_goto (tgt := 24) dX9_readText_40 rfl ?_
    exact ih (i + 1) _ (by omega) hz
theorem lp_t3 (hm : hMo T S mo) {Zf : List Frame → Array Value → State → State → Prop} : ∀ (k i : Nat) (X : JV), i + k = 12 → JJ Γ (jj_E Y_X9_readText) Zf (jj_rm (d + 42) 0 0) 0 0 67 [some (.ref mo), some (.int (nI 12))] [] (T, R, S, blk 18 I mo (st (qA A N (rgX X (109 + i) k (-1))) 0 G), L, D, z) → JJ Γ (jj_E Y_X9_readText) Zf (jj_rm (d + 42) 0 0) 0 0 45 [some (.ref mo), some (.int (nI i))] [] (T, R, S, blk 18 I mo (st (qA A N X) 0 G), L, D, z) := by
  intro k
  induction k with
  | zero =>
    intro i X hi hz
    rw [rgX_0] at hz
    have e : i = 12 := by omega
    subst e
    refine jj_iload_n (q := 46) dX9_readText_45 rfl rfl rfl ?_
    refine jj_bipush (v := 12) (q := 48) dX9_readText_46 rfl rfl ?_
    refine jj_icmp_ge (q := 51) (tgt := 67) dX9_readText_48 rfl rfl (fun h48 => ?_) (fun h48 => absurd (nI_le (a := 12) (b := 12) (Nat.le_refl _) (by omega)) h48)
    exact hz
  | succ k ih =>
    intro i X hi hz
    rw [← rgX_s, show 109 + i + 1 = 109 + (i + 1) by omega] at hz
    refine jj_iload_n (q := 46) dX9_readText_45 rfl rfl rfl ?_
    refine jj_bipush (v := 12) (q := 48) dX9_readText_46 rfl rfl ?_
    refine jj_icmp_ge (q := 51) (tgt := 67) dX9_readText_48 rfl rfl (fun h48 => absurd h48 (nI_ge (a := i) (b := 12) (by omega) (by omega))) (fun h48 => ?_)
    refine jj_aload_n (q := 52) dX9_readText_51 rfl rfl rfl ?_
    refine jj_getS (q := 55) dX9_readText_52 fl_X9_26 hm.t0 hm.r0_13 rfl rfl rfl ?_
    refine jj_bipush (v := 109) (q := 57) dX9_readText_55 rfl rfl ?_
    refine jj_iload_n (q := 58) dX9_readText_57 rfl rfl rfl ?_
    refine jj_iaddN (q := 59) (a := 109) (b := i) dX9_readText_58 rfl rfl rfl ?_
    refine jj_iconst (v := -1) (q := 60) dX9_readText_59 rfl rfl ?_
    refine jj_iastN (q := 61) (j := 109 + i) dX9_readText_60 hm.t5 n5_wr rfl (by omega) rfl ?_
    refine jj_iinc (v := nI (i + 1)) (q := 64) dX9_readText_61 rfl (nI_incn i 1 rfl) (by decide) rfl ?_
    refine jj_goto (tgt := 45) dX9_readText_64 rfl ?_
    exact ih (i + 1) _ (by omega) hz
theorem lp_t4 (hm : hMo T S mo) {Zf : List Frame → Array Value → State → State → Prop} : ∀ (k i : Nat) (X : JV), i + k = 40 → JJ Γ (jj_E Y_X9_readText) Zf (jj_rm (d + 42) 0 0) 0 0 92 [some (.ref mo), some (.int (nI 40))] [] (T, R, S, blk 18 I mo (st (qA A N (rgX X (133 + i) k (-1))) 0 G), L, D, z) → JJ Γ (jj_E Y_X9_readText) Zf (jj_rm (d + 42) 0 0) 0 0 69 [some (.ref mo), some (.int (nI i))] [] (T, R, S, blk 18 I mo (st (qA A N X) 0 G), L, D, z) := by
  intro k
  induction k with
  | zero =>
    intro i X hi hz
    rw [rgX_0] at hz
    have e : i = 40 := by omega
    subst e
    refine jj_iload_n (q := 70) dX9_readText_69 rfl rfl rfl ?_
    refine jj_bipush (v := 40) (q := 72) dX9_readText_70 rfl rfl ?_
    refine jj_icmp_ge (q := 75) (tgt := 92) dX9_readText_72 rfl rfl (fun h72 => ?_) (fun h72 => absurd (nI_le (a := 40) (b := 40) (Nat.le_refl _) (by omega)) h72)
    exact hz
  | succ k ih =>
    intro i X hi hz
    rw [← rgX_s, show 133 + i + 1 = 133 + (i + 1) by omega] at hz
    refine jj_iload_n (q := 70) dX9_readText_69 rfl rfl rfl ?_
    refine jj_bipush (v := 40) (q := 72) dX9_readText_70 rfl rfl ?_
    refine jj_icmp_ge (q := 75) (tgt := 92) dX9_readText_72 rfl rfl (fun h72 => absurd h72 (nI_ge (a := i) (b := 40) (by omega) (by omega))) (fun h72 => ?_)
    refine jj_aload_n (q := 76) dX9_readText_75 rfl rfl rfl ?_
    refine jj_getS (q := 79) dX9_readText_76 fl_X9_26 hm.t0 hm.r0_13 rfl rfl rfl ?_
    refine jj_sipush (v := 133) (q := 82) dX9_readText_79 rfl rfl ?_
    refine jj_iload_n (q := 83) dX9_readText_82 rfl rfl rfl ?_
    refine jj_iaddN (q := 84) (a := 133) (b := i) dX9_readText_83 rfl rfl rfl ?_
    refine jj_iconst (v := -1) (q := 85) dX9_readText_84 rfl rfl ?_
    refine jj_iastN (q := 86) (j := 133 + i) dX9_readText_85 hm.t5 n5_wr rfl (by omega) rfl ?_
    refine jj_iinc (v := nI (i + 1)) (q := 89) dX9_readText_86 rfl (nI_incn i 1 rfl) (by decide) rfl ?_
    refine jj_goto (tgt := 69) dX9_readText_89 rfl ?_
    exact ih (i + 1) _ (by omega) hz
end M92
