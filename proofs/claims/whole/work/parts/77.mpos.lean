/-! a POSITION of the model -/
def anyU (f : Nat → Bool) : Nat → Bool
  | 0 => false
  | n + 1 => anyU f n || f n
abbrev qA (A : JI) (N X : JV) : JI := st (st A 3 N) 5 X
theorem mB_.q {A : JI} {b : Nat → Nat} {E : Nat} {N X : JV} (h : mB_ A b E) : mB_ (qA A N X) b E := h
/-- which positions are taken -/
def tkn (N : JV) (nfq nlq : Nat) (w : Int32) : Bool := (decide (w = N 1) || decide (w = N 2)) || anyU (fun i => decide (N (15 + i) = w)) nfq || anyU (fun i => decide (N (23 + i) = w)) nlq
def pPos (b : Nat → Nat) (E : Nat) (t : Nat → Bool) (hx p : Nat) : Res Nat := (pNum b E 0 hx p).bd (fun v q => if t v = true then .inl (3, tS b E p) else .inr (v, q))
def rPo (b : Nat → Nat) (E : Nat) (t : Nat → Bool) (hx : Nat) (r : Res Unit) : Res Nat := r.bd (fun _ p => pPos b E t hx p)
def rPk (b : Nat → Nat) (E : Nat) (t : Bool) (hx : Nat) (r : Res Unit) : Res Unit := if t = true then rF_ b E 3 (rLk b E 0 hx r) else rLk b E 0 hx r
def gPk (b : Nat → Nat) (E : Nat) (t : Bool) (hx : Nat) (r : Res Unit) (G : JV) : JV := if t = true then gF b E 3 (rLk b E 0 hx r) (gLk b E 0 hx r G) else gLk b E 0 hx r G
def vL (b : Nat → Nat) (E hx : Nat) (r : Res Unit) : Nat := vU 0 (rNu b E 0 hx r)
def gPo (b : Nat → Nat) (E : Nat) (t : Nat → Bool) (hx : Nat) (r : Res Unit) (G : JV) : JV := gN b E (rPk b E (t (vL b E hx r)) hx r) (gPk b E (t (vL b E hx r)) hx r G)
theorem mSt.pk {b : Nat → Nat} {E hx : Nat} {t : Bool} {r : Res Unit} {G : JV} (h : mSt b E r G) : mSt b E (rPk b E t hx r) (gPk b E t hx r G) := by
  unfold rPk gPk
  cases t with
  | true => exact h.lk.f (by omega)
  | false => exact h.lk
theorem rU_Pa {b : Nat → Nat} {E p : Nat} {t : Nat → Bool} {q : Res Nat} (hq : ∀ y, q = .inr y → y.2 = tN b E p) : rU (q.bd (fun v w => if t v = true then .inl (3, tS b E p) else .inr (v, w))) = rN b E (if t (vU 0 q) = true then rF_ b E 3 (q.bd (fun _ _ => .inr ((), p))) else q.bd (fun _ _ => .inr ((), p))) := by
  cases q with
  | inl e =>
    show Sum.inl e = rN b E (if t 0 = true then .inl e else .inl e)
    rw [ite_self]
    rfl
  | inr y =>
    have h2 := hq y rfl
    show rU (if t y.1 = true then .inl (3, tS b E p) else .inr (y.1, y.2)) = rN b E (if t y.1 = true then .inl (3, tS b E p) else .inr ((), p))
    by_cases ht : t y.1 = true
    · rw [if_pos ht, if_pos ht]; rfl
    · rw [if_neg ht, if_neg ht, h2]; rfl
theorem rU_Po {b : Nat → Nat} {E hx : Nat} {t : Nat → Bool} {r : Res Unit} : rU (rPo b E t hx r) = rN b E (rPk b E (t (vL b E hx r)) hx r) := by
  cases r with
  | inl e =>
    unfold rPk
    split <;> rfl
  | inr x =>
    exact rU_Pa (fun y hy => by rw [(pNum_o hy).2.1])
theorem mSt.po {b : Nat → Nat} {E hx : Nat} {t : Nat → Bool} {r : Res Unit} {G : JV} (h : mSt b E r G) : mSt b E (rU (rPo b E t hx r)) (gPo b E t hx r G) := by
  rw [rU_Po]
  exact h.pk.n
theorem gPo_o {b : Nat → Nat} {E hx j : Nat} {t : Nat → Bool} {r : Res Unit} {G : JV} (h : j < 4 ∨ 9 < j) : gPo b E t hx r G j = G j := by
  unfold gPo gPk
  rw [gN_o h]
  split
  · rw [gF_o (by omega)]; exact gLk_o h
  · exact gLk_o h
theorem vL_o {b : Nat → Nat} {E hx : Nat} {t : Nat → Bool} {r : Res Unit} {x : Nat × Nat} (h : rPo b E t hx r = .inr x) : vL b E hx r = x.1 ∧ x.1 < hx ∧ t x.1 = false := by
  cases r with
  | inl e => cases h
  | inr y =>
    unfold vL rNu
    dsimp only [Res.bd]
    unfold rPo pPos at h
    dsimp only [Res.bd] at h
    cases hn : pNum b E 0 hx y.2 with
    | inl e => rw [hn] at h; cases h
    | inr u =>
      rw [hn] at h
      dsimp only at h
      by_cases ht : t u.1 = true
      · rw [if_pos ht] at h; cases h
      · rw [if_neg ht] at h
        cases h
        exact ⟨rfl, (pNum_o hn).2.2.2, by simpa using ht⟩
section M77
variable {Γ : Gam} {d : Nat} {T : JT} {R S : JR} {I A : JI} {L : JL} {D : JD} {z : Option Nat} {mo E : Nat} {G N X : JV} {b : Nat → Nat} {r : Res Unit}
theorem n3_rd : blk 18 I mo (st (qA A N X) 0 G) (mo + 3) = N := by rw [blk_sn (by decide) (by decide)]; rfl
theorem n5_rd : blk 18 I mo (st (qA A N X) 0 G) (mo + 5) = X := by rw [blk_sn (by decide) (by decide)]; rfl
theorem n3_wr {j : Nat} {v : Int32} : u2 (blk 18 I mo (st (qA A N X) 0 G)) (mo + 3) j v = blk 18 I mo (st (qA A (w1 N j v) X) 0 G) := by
  rw [u2_bsk (by decide) (by decide)]
  have e : u2 (qA A N X) 3 j v = qA A (w1 N j v) X := by
    funext k i
    by_cases h3 : k = 3
    · subst h3; simp [u2, st, w1]
    · simp [u2, st, h3]
  rw [e]
theorem n5_wr {j : Nat} {v : Int32} : u2 (blk 18 I mo (st (qA A N X) 0 G)) (mo + 5) j v = blk 18 I mo (st (qA A N (w1 X j v)) 0 G) := by
  rw [u2_bsk (by decide) (by decide)]
  have e : u2 (qA A N X) 5 j v = qA A N (w1 X j v) := by
    funext k i
    by_cases h3 : k = 5
    · subst h3; simp [u2, st, w1]
    · simp [u2, st, h3]
  rw [e]
theorem bI_or {a c : Bool} : (if (a || c) = true then (1 : Int32) else 0) = if a = true then 1 else if c = true then 1 else 0 := by cases a <;> cases c <;> rfl
theorem lp_po1 (hm : hMo T S mo) {nfq nlq : Nat} (h12 : N 12 = nI nfq) (hf8 : nfq ≤ 8) (h13 : N 13 = nI nlq) (hl4 : nlq ≤ 4) {w : Int32} {c : Bool} {Zf : List Frame → Array Value → State → State → Prop} : ∀ (k i : Nat), i + k = nfq → JJ Γ (jj_E Y_X9_position) Zf (jj_rm (d + 4) 0 0) 0 0 82 [some (.ref mo), some (.int w), some (.int (if (c || anyU (fun i => decide (N (15 + i) = w)) nfq) = true then 1 else 0)), some (.int (nI nfq))] [] (T, R, S, blk 18 I mo (st (qA A N X) 0 G), L, D, z) → JJ Γ (jj_E Y_X9_position) Zf (jj_rm (d + 4) 0 0) 0 0 42 [some (.ref mo), some (.int w), some (.int (if (c || anyU (fun i => decide (N (15 + i) = w)) i) = true then 1 else 0)), some (.int (nI i))] [] (T, R, S, blk 18 I mo (st (qA A N X) 0 G), L, D, z) := by
  intro k
  induction k with
  | zero =>
    intro i hi hz
    have e : nfq = i := by omega
    subst e
    refine jj_iload_n (q := 43) dX9_position_42 rfl rfl rfl ?_
    refine jj_aload_n (q := 44) dX9_position_43 rfl rfl rfl ?_
    refine jj_getS (q := 47) dX9_position_44 fl_X9_20 hm.t0 hm.r0_11 rfl rfl rfl ?_
    refine jj_bipush (v := 12) (q := 49) dX9_position_47 rfl rfl ?_
    refine jj_ialdW (q := 50) (j := 12) (v := nI nfq) dX9_position_49 hm.t3 n3_rd rfl (by omega) h12 rfl ?_
    refine jj_icmp_ge (q := 53) (tgt := 82) dX9_position_50 rfl rfl (fun h50 => ?_) (fun h50 => absurd (nI_le (Nat.le_refl nfq) (by omega)) h50)
    exact hz
  | succ k ih =>
    intro i hi hz
    have hz2 := fun m => ih (i + 1) m hz
    have hu : anyU (fun i => decide (N (15 + i) = w)) (i + 1) = (anyU (fun i => decide (N (15 + i) = w)) i || decide (N (15 + i) = w)) := rfl
    rw [hu, ← Bool.or_assoc] at hz2
    cases hc : (c || anyU (fun i => decide (N (15 + i) = w)) i) with
    | true =>
      rw [hc] at hz2
      refine jj_iload_n (q := 43) dX9_position_42 rfl rfl rfl ?_
      refine jj_aload_n (q := 44) dX9_position_43 rfl rfl rfl ?_
      refine jj_getS (q := 47) dX9_position_44 fl_X9_20 hm.t0 hm.r0_11 rfl rfl rfl ?_
      refine jj_bipush (v := 12) (q := 49) dX9_position_47 rfl rfl ?_
      refine jj_ialdW (q := 50) (j := 12) (v := nI nfq) dX9_position_49 hm.t3 n3_rd rfl (by omega) h12 rfl ?_
      refine jj_icmp_ge (q := 53) (tgt := 82) dX9_position_50 rfl rfl (fun h50 => absurd h50 (nI_ge (show i < nfq by omega) (by omega))) (fun h50 => ?_)
      refine jj_iload_n (q := 54) dX9_position_53 rfl rfl rfl ?_
      refine jj_if_ne (q := 57) (tgt := 70) dX9_position_54 rfl rfl (fun h54 => ?_) (fun h54 => by exfalso; exact absurd h54 (by decide))
      refine jj_iconst (v := 1) (q := 71) dX9_position_70 rfl rfl ?_
      refine jj_goto (tgt := 75) dX9_position_71 rfl ?_
      refine jj_istore_n (q := 76) dX9_position_75 rfl (by decide) rfl ?_
      refine jj_iinc (v := nI (i + 1)) (q := 79) dX9_position_76 rfl (nI_incn i 1 rfl) (by decide) rfl ?_
      refine jj_goto (tgt := 42) dX9_position_79 rfl ?_
      exact hz2 (by omega)
    | false =>
      rw [hc, Bool.false_or] at hz2
      by_cases hw : N (15 + i) = w
      · rw [decide_eq_true hw] at hz2
        refine jj_iload_n (q := 43) dX9_position_42 rfl rfl rfl ?_
        refine jj_aload_n (q := 44) dX9_position_43 rfl rfl rfl ?_
        refine jj_getS (q := 47) dX9_position_44 fl_X9_20 hm.t0 hm.r0_11 rfl rfl rfl ?_
        refine jj_bipush (v := 12) (q := 49) dX9_position_47 rfl rfl ?_
        refine jj_ialdW (q := 50) (j := 12) (v := nI nfq) dX9_position_49 hm.t3 n3_rd rfl (by omega) h12 rfl ?_
        refine jj_icmp_ge (q := 53) (tgt := 82) dX9_position_50 rfl rfl (fun h50 => absurd h50 (nI_ge (show i < nfq by omega) (by omega))) (fun h50 => ?_)
        refine jj_iload_n (q := 54) dX9_position_53 rfl rfl rfl ?_
        refine jj_if_ne (q := 57) (tgt := 70) dX9_position_54 rfl rfl (fun h54 => absurd h54 (by decide)) (fun h54 => ?_)
        refine jj_aload_n (q := 58) dX9_position_57 rfl rfl rfl ?_
        refine jj_getS (q := 61) dX9_position_58 fl_X9_20 hm.t0 hm.r0_11 rfl rfl rfl ?_
        refine jj_bipush (v := 15) (q := 63) dX9_position_61 rfl rfl ?_
        refine jj_iload_n (q := 64) dX9_position_63 rfl rfl rfl ?_
        refine jj_iaddN (q := 65) (a := 15) (b := i) dX9_position_64 rfl rfl rfl ?_
        refine jj_ialdW (q := 66) (j := 15 + i) (v := N (15 + i)) dX9_position_65 hm.t3 n3_rd rfl (by omega) rfl rfl ?_
        refine jj_iload_n (q := 67) dX9_position_66 rfl rfl rfl ?_
        refine jj_icmp_ne (q := 70) (tgt := 74) dX9_position_67 rfl rfl (fun h67 => by exfalso; exact h67 hw) (fun h67 => ?_)
        refine jj_iconst (v := 1) (q := 71) dX9_position_70 rfl rfl ?_
        refine jj_goto (tgt := 75) dX9_position_71 rfl ?_
        refine jj_istore_n (q := 76) dX9_position_75 rfl (by decide) rfl ?_
        refine jj_iinc (v := nI (i + 1)) (q := 79) dX9_position_76 rfl (nI_incn i 1 rfl) (by decide) rfl ?_
        refine jj_goto (tgt := 42) dX9_position_79 rfl ?_
        exact hz2 (by omega)
      · rw [decide_eq_false hw] at hz2
        refine jj_iload_n (q := 43) dX9_position_42 rfl rfl rfl ?_
        refine jj_aload_n (q := 44) dX9_position_43 rfl rfl rfl ?_
        refine jj_getS (q := 47) dX9_position_44 fl_X9_20 hm.t0 hm.r0_11 rfl rfl rfl ?_
        refine jj_bipush (v := 12) (q := 49) dX9_position_47 rfl rfl ?_
        refine jj_ialdW (q := 50) (j := 12) (v := nI nfq) dX9_position_49 hm.t3 n3_rd rfl (by omega) h12 rfl ?_
        refine jj_icmp_ge (q := 53) (tgt := 82) dX9_position_50 rfl rfl (fun h50 => absurd h50 (nI_ge (show i < nfq by omega) (by omega))) (fun h50 => ?_)
        refine jj_iload_n (q := 54) dX9_position_53 rfl rfl rfl ?_
        refine jj_if_ne (q := 57) (tgt := 70) dX9_position_54 rfl rfl (fun h54 => absurd h54 (by decide)) (fun h54 => ?_)
        refine jj_aload_n (q := 58) dX9_position_57 rfl rfl rfl ?_
        refine jj_getS (q := 61) dX9_position_58 fl_X9_20 hm.t0 hm.r0_11 rfl rfl rfl ?_
        refine jj_bipush (v := 15) (q := 63) dX9_position_61 rfl rfl ?_
        refine jj_iload_n (q := 64) dX9_position_63 rfl rfl rfl ?_
        refine jj_iaddN (q := 65) (a := 15) (b := i) dX9_position_64 rfl rfl rfl ?_
        refine jj_ialdW (q := 66) (j := 15 + i) (v := N (15 + i)) dX9_position_65 hm.t3 n3_rd rfl (by omega) rfl rfl ?_
        refine jj_iload_n (q := 67) dX9_position_66 rfl rfl rfl ?_
        refine jj_icmp_ne (q := 70) (tgt := 74) dX9_position_67 rfl rfl (fun h67 => ?_) (fun h67 => by exfalso; exact hw h67)
        refine jj_iconst (v := 0) (q := 75) dX9_position_74 rfl rfl ?_
        refine jj_istore_n (q := 76) dX9_position_75 rfl (by decide) rfl ?_
        refine jj_iinc (v := nI (i + 1)) (q := 79) dX9_position_76 rfl (nI_incn i 1 rfl) (by decide) rfl ?_
        refine jj_goto (tgt := 42) dX9_position_79 rfl ?_
        exact hz2 (by omega)
theorem lp_po2 (hm : hMo T S mo) {nfq nlq : Nat} (h12 : N 12 = nI nfq) (hf8 : nfq ≤ 8) (h13 : N 13 = nI nlq) (hl4 : nlq ≤ 4) {w : Int32} {c : Bool} {Zf : List Frame → Array Value → State → State → Prop} : ∀ (k i : Nat), i + k = nlq → JJ Γ (jj_E Y_X9_position) Zf (jj_rm (d + 4) 0 0) 0 0 124 [some (.ref mo), some (.int w), some (.int (if (c || anyU (fun i => decide (N (23 + i) = w)) nlq) = true then 1 else 0)), some (.int (nI nlq))] [] (T, R, S, blk 18 I mo (st (qA A N X) 0 G), L, D, z) → JJ Γ (jj_E Y_X9_position) Zf (jj_rm (d + 4) 0 0) 0 0 84 [some (.ref mo), some (.int w), some (.int (if (c || anyU (fun i => decide (N (23 + i) = w)) i) = true then 1 else 0)), some (.int (nI i))] [] (T, R, S, blk 18 I mo (st (qA A N X) 0 G), L, D, z) := by
  intro k
  induction k with
  | zero =>
    intro i hi hz
    have e : nlq = i := by omega
    subst e
    refine jj_iload_n (q := 85) dX9_position_84 rfl rfl rfl ?_
    refine jj_aload_n (q := 86) dX9_position_85 rfl rfl rfl ?_
    refine jj_getS (q := 89) dX9_position_86 fl_X9_20 hm.t0 hm.r0_11 rfl rfl rfl ?_
    refine jj_bipush (v := 13) (q := 91) dX9_position_89 rfl rfl ?_
    refine jj_ialdW (q := 92) (j := 13) (v := nI nlq) dX9_position_91 hm.t3 n3_rd rfl (by omega) h13 rfl ?_
    refine jj_icmp_ge (q := 95) (tgt := 124) dX9_position_92 rfl rfl (fun h92 => ?_) (fun h92 => absurd (nI_le (Nat.le_refl nlq) (by omega)) h92)
    exact hz
  | succ k ih =>
    intro i hi hz
    have hz2 := fun m => ih (i + 1) m hz
    have hu : anyU (fun i => decide (N (23 + i) = w)) (i + 1) = (anyU (fun i => decide (N (23 + i) = w)) i || decide (N (23 + i) = w)) := rfl
    rw [hu, ← Bool.or_assoc] at hz2
    cases hc : (c || anyU (fun i => decide (N (23 + i) = w)) i) with
    | true =>
      rw [hc] at hz2
      refine jj_iload_n (q := 85) dX9_position_84 rfl rfl rfl ?_
      refine jj_aload_n (q := 86) dX9_position_85 rfl rfl rfl ?_
      refine jj_getS (q := 89) dX9_position_86 fl_X9_20 hm.t0 hm.r0_11 rfl rfl rfl ?_
      refine jj_bipush (v := 13) (q := 91) dX9_position_89 rfl rfl ?_
      refine jj_ialdW (q := 92) (j := 13) (v := nI nlq) dX9_position_91 hm.t3 n3_rd rfl (by omega) h13 rfl ?_
      refine jj_icmp_ge (q := 95) (tgt := 124) dX9_position_92 rfl rfl (fun h92 => absurd h92 (nI_ge (show i < nlq by omega) (by omega))) (fun h92 => ?_)
      refine jj_iload_n (q := 96) dX9_position_95 rfl rfl rfl ?_
      refine jj_if_ne (q := 99) (tgt := 112) dX9_position_96 rfl rfl (fun h96 => ?_) (fun h96 => by exfalso; exact absurd h96 (by decide))
      refine jj_iconst (v := 1) (q := 113) dX9_position_112 rfl rfl ?_
      refine jj_goto (tgt := 117) dX9_position_113 rfl ?_
      refine jj_istore_n (q := 118) dX9_position_117 rfl (by decide) rfl ?_
      refine jj_iinc (v := nI (i + 1)) (q := 121) dX9_position_118 rfl (nI_incn i 1 rfl) (by decide) rfl ?_
      refine jj_goto (tgt := 84) dX9_position_121 rfl ?_
      exact hz2 (by omega)
    | false =>
      rw [hc, Bool.false_or] at hz2
      by_cases hw : N (23 + i) = w
      · rw [decide_eq_true hw] at hz2
        refine jj_iload_n (q := 85) dX9_position_84 rfl rfl rfl ?_
        refine jj_aload_n (q := 86) dX9_position_85 rfl rfl rfl ?_
        refine jj_getS (q := 89) dX9_position_86 fl_X9_20 hm.t0 hm.r0_11 rfl rfl rfl ?_
        refine jj_bipush (v := 13) (q := 91) dX9_position_89 rfl rfl ?_
        refine jj_ialdW (q := 92) (j := 13) (v := nI nlq) dX9_position_91 hm.t3 n3_rd rfl (by omega) h13 rfl ?_
        refine jj_icmp_ge (q := 95) (tgt := 124) dX9_position_92 rfl rfl (fun h92 => absurd h92 (nI_ge (show i < nlq by omega) (by omega))) (fun h92 => ?_)
        refine jj_iload_n (q := 96) dX9_position_95 rfl rfl rfl ?_
        refine jj_if_ne (q := 99) (tgt := 112) dX9_position_96 rfl rfl (fun h96 => absurd h96 (by decide)) (fun h96 => ?_)
        refine jj_aload_n (q := 100) dX9_position_99 rfl rfl rfl ?_
        refine jj_getS (q := 103) dX9_position_100 fl_X9_20 hm.t0 hm.r0_11 rfl rfl rfl ?_
        refine jj_bipush (v := 23) (q := 105) dX9_position_103 rfl rfl ?_
        refine jj_iload_n (q := 106) dX9_position_105 rfl rfl rfl ?_
        refine jj_iaddN (q := 107) (a := 23) (b := i) dX9_position_106 rfl rfl rfl ?_
        refine jj_ialdW (q := 108) (j := 23 + i) (v := N (23 + i)) dX9_position_107 hm.t3 n3_rd rfl (by omega) rfl rfl ?_
        refine jj_iload_n (q := 109) dX9_position_108 rfl rfl rfl ?_
        refine jj_icmp_ne (q := 112) (tgt := 116) dX9_position_109 rfl rfl (fun h109 => by exfalso; exact h109 hw) (fun h109 => ?_)
        refine jj_iconst (v := 1) (q := 113) dX9_position_112 rfl rfl ?_
        refine jj_goto (tgt := 117) dX9_position_113 rfl ?_
        refine jj_istore_n (q := 118) dX9_position_117 rfl (by decide) rfl ?_
        refine jj_iinc (v := nI (i + 1)) (q := 121) dX9_position_118 rfl (nI_incn i 1 rfl) (by decide) rfl ?_
        refine jj_goto (tgt := 84) dX9_position_121 rfl ?_
        exact hz2 (by omega)
      · rw [decide_eq_false hw] at hz2
        refine jj_iload_n (q := 85) dX9_position_84 rfl rfl rfl ?_
        refine jj_aload_n (q := 86) dX9_position_85 rfl rfl rfl ?_
        refine jj_getS (q := 89) dX9_position_86 fl_X9_20 hm.t0 hm.r0_11 rfl rfl rfl ?_
        refine jj_bipush (v := 13) (q := 91) dX9_position_89 rfl rfl ?_
        refine jj_ialdW (q := 92) (j := 13) (v := nI nlq) dX9_position_91 hm.t3 n3_rd rfl (by omega) h13 rfl ?_
        refine jj_icmp_ge (q := 95) (tgt := 124) dX9_position_92 rfl rfl (fun h92 => absurd h92 (nI_ge (show i < nlq by omega) (by omega))) (fun h92 => ?_)
        refine jj_iload_n (q := 96) dX9_position_95 rfl rfl rfl ?_
        refine jj_if_ne (q := 99) (tgt := 112) dX9_position_96 rfl rfl (fun h96 => absurd h96 (by decide)) (fun h96 => ?_)
        refine jj_aload_n (q := 100) dX9_position_99 rfl rfl rfl ?_
        refine jj_getS (q := 103) dX9_position_100 fl_X9_20 hm.t0 hm.r0_11 rfl rfl rfl ?_
        refine jj_bipush (v := 23) (q := 105) dX9_position_103 rfl rfl ?_
        refine jj_iload_n (q := 106) dX9_position_105 rfl rfl rfl ?_
        refine jj_iaddN (q := 107) (a := 23) (b := i) dX9_position_106 rfl rfl rfl ?_
        refine jj_ialdW (q := 108) (j := 23 + i) (v := N (23 + i)) dX9_position_107 hm.t3 n3_rd rfl (by omega) rfl rfl ?_
        refine jj_iload_n (q := 109) dX9_position_108 rfl rfl rfl ?_
        refine jj_icmp_ne (q := 112) (tgt := 116) dX9_position_109 rfl rfl (fun h109 => ?_) (fun h109 => by exfalso; exact hw h109)
        refine jj_iconst (v := 0) (q := 117) dX9_position_116 rfl rfl ?_
        refine jj_istore_n (q := 118) dX9_position_117 rfl (by decide) rfl ?_
        refine jj_iinc (v := nI (i + 1)) (q := 121) dX9_position_118 rfl (nI_incn i 1 rfl) (by decide) rfl ?_
        refine jj_goto (tgt := 84) dX9_position_121 rfl ?_
        exact hz2 (by omega)
theorem exM_position (hm : hMo T S mo) (hb : mB_ A b E) (hs : mSt b E r G) {nfq nlq : Nat} (h12 : N 12 = nI nfq) (hf8 : nfq ≤ 8) (h13 : N 13 = nI nlq) (hl4 : nlq ≤ 4) {sz : Nat} (h0 : N 0 = nI sz) (hz30 : sz < 2 ^ 30) : Ex Γ (d + 4) Y_X9_position [.ref mo] (T, R, S, blk 18 I mo (st (qA A N X) 0 G), L, D, z) 0 0 (rI (nI (vL b E sz r)) (T, R, S, blk 18 I mo (st (qA A N X) 0 (gPo b E (fun v => tkn N nfq nlq (nI v)) sz r G)), L, D, z)) := by
  have hs1 := hs.lk (lo := 0) (hx := sz)
  have hk : ∀ t, t = tkn N nfq nlq (nI (vL b E sz r)) → JJ Γ (jj_E Y_X9_position) (jj_Z Γ (rI (nI (vL b E sz r)) (T, R, S, blk 18 I mo (st (qA A N X) 0 (gPo b E (fun v => tkn N nfq nlq (nI v)) sz r G)), L, D, z)) 0 0) (jj_rm (d + 4) 0 0) 0 0 124 [some (.ref mo), some (.int (nI (vL b E sz r))), some (.int (if t = true then 1 else 0)), some (.int (nI nlq))] [] (T, R, S, blk 18 I mo (st (qA A N X) 0 (gLk b E 0 sz r G)), L, D, z) := by
    intro t ht
    have hgo : gPo b E (fun v => tkn N nfq nlq (nI v)) sz r G = gN b E (rPk b E t sz r) (gPk b E t sz r G) := by rw [ht]; rfl
    rw [hgo]
    have hp := hs.pk (hx := sz) (t := t)
    cases t with
    | false =>
      by_cases h5 : gLk b E 0 sz r G 5 = 0
      · skip
        refine jj_aload_n (q := 125) dX9_position_124 rfl rfl rfl ?_
        refine jj_getIw (v := 0) (q := 128) dX9_position_125 fl_X9_92 hm.t0 (by rw [g_rd]; exact h5) rfl rfl ?_
        refine jj_if_ne (q := 131) (tgt := 140) dX9_position_128 rfl rfl (fun h128 => by exfalso; exact h128 rfl) (fun h128 => ?_)
        refine jj_iload_n (q := 132) dX9_position_131 rfl rfl rfl ?_
        refine jj_if_eq (q := 135) (tgt := 140) dX9_position_132 rfl rfl (fun h132 => ?_) (fun h132 => absurd (rfl) h132)
        refine jj_aload_n (q := 141) dX9_position_140 rfl rfl rfl ?_
        refine jj_cV0v (q := 144) dX9_position_141 yk_X9_nextToken ml_X9_134 hm.t0 (exM_next hm hb.q hp) rfl rfl rfl ⟨Nat.zero_le _, Nat.zero_le _⟩ ?_
        refine jj_iload_n (q := 145) dX9_position_144 rfl rfl rfl ?_
        refine jj_iret dX9_position_145 rfl (Nat.zero_le _) (Nat.zero_le _) ?_
        exact ⟨rfl, rfl⟩
      · skip
        refine jj_aload_n (q := 125) dX9_position_124 rfl rfl rfl ?_
        refine jj_getIw (v := gLk b E 0 sz r G 5) (q := 128) dX9_position_125 fl_X9_92 hm.t0 (by rw [g_rd]) rfl rfl ?_
        refine jj_if_ne (q := 131) (tgt := 140) dX9_position_128 rfl rfl (fun h128 => ?_) (fun h128 => by exfalso; exact h5 h128)
        refine jj_aload_n (q := 141) dX9_position_140 rfl rfl rfl ?_
        refine jj_cV0v (q := 144) dX9_position_141 yk_X9_nextToken ml_X9_134 hm.t0 (exM_next hm hb.q hp) rfl rfl rfl ⟨Nat.zero_le _, Nat.zero_le _⟩ ?_
        refine jj_iload_n (q := 145) dX9_position_144 rfl rfl rfl ?_
        refine jj_iret dX9_position_145 rfl (Nat.zero_le _) (Nat.zero_le _) ?_
        exact ⟨rfl, rfl⟩
    | true =>
      by_cases h5 : gLk b E 0 sz r G 5 = 0
      · skip
        refine jj_aload_n (q := 125) dX9_position_124 rfl rfl rfl ?_
        refine jj_getIw (v := 0) (q := 128) dX9_position_125 fl_X9_92 hm.t0 (by rw [g_rd]; exact h5) rfl rfl ?_
        refine jj_if_ne (q := 131) (tgt := 140) dX9_position_128 rfl rfl (fun h128 => by exfalso; exact h128 rfl) (fun h128 => ?_)
        refine jj_iload_n (q := 132) dX9_position_131 rfl rfl rfl ?_
        refine jj_if_eq (q := 135) (tgt := 140) dX9_position_132 rfl rfl (fun h132 => by exfalso; exact absurd h132 (by decide)) (fun h132 => ?_)
        refine jj_aload_n (q := 136) dX9_position_135 rfl rfl rfl ?_
        refine jj_iconst (v := 3) (q := 137) dX9_position_136 rfl rfl ?_
        refine jj_cV1v (q := 140) dX9_position_137 yk_X9_faults ml_X9_140 hm.t0 (exM_faults (c := 3) hm hb.q hs1) rfl rfl rfl ⟨Nat.zero_le _, Nat.zero_le _⟩ ?_
        refine jj_aload_n (q := 141) dX9_position_140 rfl rfl rfl ?_
        refine jj_cV0v (q := 144) dX9_position_141 yk_X9_nextToken ml_X9_134 hm.t0 (exM_next hm hb.q hp) rfl rfl rfl ⟨Nat.zero_le _, Nat.zero_le _⟩ ?_
        refine jj_iload_n (q := 145) dX9_position_144 rfl rfl rfl ?_
        refine jj_iret dX9_position_145 rfl (Nat.zero_le _) (Nat.zero_le _) ?_
        exact ⟨rfl, rfl⟩
      · have hgf : gF b E 3 (rLk b E 0 sz r) (gLk b E 0 sz r G) = gLk b E 0 sz r G := by
          cases hr : rLk b E 0 sz r with
          | inl e => rfl
          | inr x => rw [hr] at hs1; exact absurd hs1.2.2.2.1 h5
        have hpk : gPk b E true sz r G = gLk b E 0 sz r G := hgf
        rw [hpk] at hp ⊢
        refine jj_aload_n (q := 125) dX9_position_124 rfl rfl rfl ?_
        refine jj_getIw (v := gLk b E 0 sz r G 5) (q := 128) dX9_position_125 fl_X9_92 hm.t0 (by rw [g_rd]) rfl rfl ?_
        refine jj_if_ne (q := 131) (tgt := 140) dX9_position_128 rfl rfl (fun h128 => ?_) (fun h128 => by exfalso; exact h5 h128)
        refine jj_aload_n (q := 141) dX9_position_140 rfl rfl rfl ?_
        refine jj_cV0v (q := 144) dX9_position_141 yk_X9_nextToken ml_X9_134 hm.t0 (exM_next hm hb.q hp) rfl rfl rfl ⟨Nat.zero_le _, Nat.zero_le _⟩ ?_
        refine jj_iload_n (q := 145) dX9_position_144 rfl rfl rfl ?_
        refine jj_iret dX9_position_145 rfl (Nat.zero_le _) (Nat.zero_le _) ?_
        exact ⟨rfl, rfl⟩
  have hm2 : ∀ c, c = (decide (nI (vL b E sz r) = N 1) || decide (nI (vL b E sz r) = N 2)) → JJ Γ (jj_E Y_X9_position) (jj_Z Γ (rI (nI (vL b E sz r)) (T, R, S, blk 18 I mo (st (qA A N X) 0 (gPo b E (fun v => tkn N nfq nlq (nI v)) sz r G)), L, D, z)) 0 0) (jj_rm (d + 4) 0 0) 0 0 42 [some (.ref mo), some (.int (nI (vL b E sz r))), some (.int (if c = true then 1 else 0)), some (.int 0)] [] (T, R, S, blk 18 I mo (st (qA A N X) 0 (gLk b E 0 sz r G)), L, D, z) := by
    intro c hc
    have hl1 := lp_po1 (Γ := Γ) (d := d) (T := T) (R := R) (S := S) (I := I) (A := A) (L := L) (D := D) (z := z) (mo := mo) (G := gLk b E 0 sz r G) (X := X) hm h12 hf8 h13 hl4 (w := nI (vL b E sz r)) (c := c) (Zf := jj_Z Γ (rI (nI (vL b E sz r)) (T, R, S, blk 18 I mo (st (qA A N X) 0 (gPo b E (fun v => tkn N nfq nlq (nI v)) sz r G)), L, D, z)) 0 0) nfq 0 (by omega) ?_
    · rw [show anyU (fun i => decide (N (15 + i) = nI (vL b E sz r))) 0 = false from rfl, Bool.or_false] at hl1
      exact hl1
    · refine jj_iconst (v := 0) (q := 83) dX9_position_82 rfl rfl ?_
      refine jj_istore_n (q := 84) dX9_position_83 rfl (by decide) rfl ?_
      have hl2 := lp_po2 (Γ := Γ) (d := d) (T := T) (R := R) (S := S) (I := I) (A := A) (L := L) (D := D) (z := z) (mo := mo) (G := gLk b E 0 sz r G) (X := X) hm h12 hf8 h13 hl4 (w := nI (vL b E sz r)) (c := c || anyU (fun i => decide (N (15 + i) = nI (vL b E sz r))) nfq) nlq 0 (by omega) (hk _ (by rw [hc]; rfl))
      rw [show anyU (fun i => decide (N (23 + i) = nI (vL b E sz r))) 0 = false from rfl, Bool.or_false] at hl2
      exact hl2
  refine Ex.of (by decide) (by simp [Value.category]) (Nat.le_of_ble_eq_true rfl) rfl ?_
  refine jj_aload_n (q := 1) dX9_position_0 rfl rfl rfl ?_
  refine jj_iconst (v := 0) (q := 2) dX9_position_1 rfl rfl ?_
  refine jj_aload_n (q := 3) dX9_position_2 rfl rfl rfl ?_
  refine jj_getS (q := 6) dX9_position_3 fl_X9_20 hm.t0 hm.r0_11 rfl rfl rfl ?_
  refine jj_iconst (v := 0) (q := 7) dX9_position_6 rfl rfl ?_
  refine jj_ialdW (q := 8) (j := 0) (v := nI sz) dX9_position_7 hm.t3 n3_rd rfl (by omega) h0 rfl ?_
  refine jj_iconst (v := 1) (q := 9) dX9_position_8 rfl rfl ?_
  refine jj_isub (q := 10) dX9_position_9 rfl ?_
  refine jj_cV2i (q := 13) dX9_position_10 yk_X9_look ml_X9_143 hm.t0 (exM_look hm hb.q hs rfl (by decide) hz30) rfl rfl rfl ⟨Nat.zero_le _, Nat.zero_le _⟩ ?_
  refine jj_istore_n (q := 14) dX9_position_13 rfl (by decide) rfl ?_
  refine jj_iload_n (q := 15) dX9_position_14 rfl rfl rfl ?_
  refine jj_aload_n (q := 16) dX9_position_15 rfl rfl rfl ?_
  refine jj_getS (q := 19) dX9_position_16 fl_X9_20 hm.t0 hm.r0_11 rfl rfl rfl ?_
  refine jj_iconst (v := 1) (q := 20) dX9_position_19 rfl rfl ?_
  refine jj_ialdW (q := 21) (j := 1) (v := N 1) dX9_position_20 hm.t3 n3_rd rfl (by omega) rfl rfl ?_
  refine jj_icmp_eq (q := 24) (tgt := 34) dX9_position_21 rfl rfl (fun h21 => ?_) (fun h21 => ?_)
  · refine jj_iconst (v := 1) (q := 35) dX9_position_34 rfl rfl ?_
    refine jj_goto (tgt := 39) dX9_position_35 rfl ?_
    refine jj_istore_n (q := 40) dX9_position_39 rfl (by decide) rfl ?_
    refine jj_iconst (v := 0) (q := 41) dX9_position_40 rfl rfl ?_
    refine jj_istore_n (q := 42) dX9_position_41 rfl (by decide) rfl ?_
    exact hm2 true (by rw [decide_eq_true (show nI (vL b E sz r) = N 1 from h21)]; rfl)
  · refine jj_iload_n (q := 25) dX9_position_24 rfl rfl rfl ?_
    refine jj_aload_n (q := 26) dX9_position_25 rfl rfl rfl ?_
    refine jj_getS (q := 29) dX9_position_26 fl_X9_20 hm.t0 hm.r0_11 rfl rfl rfl ?_
    refine jj_iconst (v := 2) (q := 30) dX9_position_29 rfl rfl ?_
    refine jj_ialdW (q := 31) (j := 2) (v := N 2) dX9_position_30 hm.t3 n3_rd rfl (by omega) rfl rfl ?_
    refine jj_icmp_ne (q := 34) (tgt := 38) dX9_position_31 rfl rfl (fun h31 => ?_) (fun h31 => ?_)
    · refine jj_iconst (v := 0) (q := 39) dX9_position_38 rfl rfl ?_
      refine jj_istore_n (q := 40) dX9_position_39 rfl (by decide) rfl ?_
      refine jj_iconst (v := 0) (q := 41) dX9_position_40 rfl rfl ?_
      refine jj_istore_n (q := 42) dX9_position_41 rfl (by decide) rfl ?_
      exact hm2 false (by rw [decide_eq_false (show ¬ nI (vL b E sz r) = N 1 from h21), decide_eq_false (show ¬ nI (vL b E sz r) = N 2 from h31)]; rfl)
    · refine jj_iconst (v := 1) (q := 35) dX9_position_34 rfl rfl ?_
      refine jj_goto (tgt := 39) dX9_position_35 rfl ?_
      refine jj_istore_n (q := 40) dX9_position_39 rfl (by decide) rfl ?_
      refine jj_iconst (v := 0) (q := 41) dX9_position_40 rfl rfl ?_
      refine jj_istore_n (q := 42) dX9_position_41 rfl (by decide) rfl ?_
      exact hm2 true (by rw [decide_eq_true (show nI (vL b E sz r) = N 2 from h31), Bool.or_true])
end M77
