/-! THE MODEL'S CHANGES: copies, the history, delays, bags -/
/-- only the first 2086 entries count -/
def ag (X Y : JV) : Prop := ∀ j, j < 2086 → Y j = X j
section AG
variable {nf e : Nat} {K : JI} {r : Int64} {Q X Y : JV}
theorem ag.i (h : ag X Y) (hX : mI X) : mI Y := fun i => by
  by_cases hi : i < 2086
  · rw [h i hi]; exact hX i
  · exact rg_free (by omega)
theorem ag.c (h : ag X Y) : mC Y = mC X := by unfold mC; rw [h 2 (by omega)]
theorem ag.ev (h : ag X Y) : mE Y = mE X := by unfold mE; rw [h 3 (by omega)]
theorem ag.he (h : ag X Y) {l : Nat} (hl : l < 4) : mHe Y l = mHe X l := by unfold mHe; rw [h _ (by omega)]
theorem ag.st (h : ag X Y) {b : Nat} (hb : b < 100) : xSt Y b = xSt X b := by unfold xSt; rw [h _ (by omega)]
theorem ag.w (h : ag X Y) (hW : mW Q X e) : mW Q Y e := by
  have hc := hW.c
  have h20 : ∀ l, l < 4 → mHe X l ≤ 20 := fun l hl => hW.h20 hl
  obtain ⟨hJ, hS, r1, r2, r3, r4⟩ := hW
  have hC := h.c
  refine ⟨⟨h.i hJ.1, fun l hl => by rw [h.he hl]; exact hJ.2 l hl⟩, ?_, fun k hk => ?_, fun b hb => ?_, fun b hb hbe => ?_, fun b hb => ?_⟩
  · unfold sI
    rw [hC]
    exact sJ.ext hS (fun p hp => by unfold xLo; rw [h _ (by omega)]) (fun x hx => h.st (by omega)) (fun x hx => by unfold xPl; rw [h _ (by omega)]) (fun l j hl hj => by have := h20 l hl; unfold xLa; rw [h _ (by omega)]) (fun l hl => h.he hl) (fun k hk => by unfold xOw; rw [h _ (by omega)])
  · rw [h _ (by omega), h _ (by omega)]; exact r1 k hk
  · rw [hC] at hb; rw [h.st (by omega), h _ (by omega)]; exact r2 b hb
  · rw [hC] at hb; rw [h.st (by omega), h _ (by omega)]; exact r3 b hb hbe
  · rw [hC] at hb; unfold mF; rw [h _ (by omega)]; exact r4 b hb
theorem ag.n (h : ag X Y) (hn : nf ≤ 8) (hc : mC X ≤ 100) (hN : mN nf X) : mN nf Y := by
  obtain ⟨h1, h2, h3, h4⟩ := hN
  refine ⟨by rw [h _ (by omega)]; exact h1, by rw [h _ (by omega)]; exact h2, fun f hf => ?_, fun b hb => ?_⟩
  · rw [h _ (by omega), h _ (by omega)]; exact h3 f hf
  · rw [h.c] at hb; rw [h _ (by omega)]; exact h4 b hb
theorem mt_lt {k j i : Nat} (h : mt k j i) : i < 2086 := by
  unfold mt at h
  rcases h with h | h | h | h | h | h | h | h | h | h | h | h | h | h | h <;> omega
theorem ag.rv (h : ag X Y) (hX : mI X) (hR : RV nf K r X) : RV nf K r Y := by
  have hc := hX.c.2
  have hE := hX.e.2
  obtain ⟨h1, h2, h3, h4, h5, h6⟩ := hR
  refine ⟨fun k j i hm hv => ?_, ?_, fun b hb hs => ?_, fun k hk => ?_, fun q hq => ?_, fun x hx => ?_⟩
  · rw [h i (mt_lt hm)]
    exact h1 k j i hm (vd_cg hm h.c (fun l hl => h.he hl) hv)
  · rw [h 1 (by omega)]; exact h2
  · rw [h.c] at hb
    rw [h.st (by omega)] at hs
    rw [h _ (by omega)]; exact h3 b hb hs
  · rw [h _ (by omega), h _ (by omega)]; exact h4 k hk
  · rw [h.c, h5 q hq]
    congr 1
    exact fb_ct_cong fun b hb => by unfold pSt_; rw [h _ (by omega)]
  · rw [h.ev] at hx
    unfold RVe evX
    rw [h _ (by omega), h _ (by omega), h _ (by omega), h _ (by omega)]
    exact h6 x hx
end AG
def cpw (Z : JV) (wh n : Nat) (f : JV) : JV := fun j => if wh ≤ j ∧ j < wh + n then f (j - wh) else Z j
theorem cpw_0 (Z : JV) (wh : Nat) (f : JV) : cpw Z wh 0 f = Z := by
  funext j
  unfold cpw
  rw [if_neg (by omega)]
theorem cpw_s (Z : JV) (wh n : Nat) (f : JV) : w1 (cpw Z wh n f) (wh + n) (f n) = cpw Z wh (n + 1) f := by
  funext j
  by_cases e : j = wh + n
  · subst e
    rw [w1_eq]
    unfold cpw
    rw [if_pos (by omega), Nat.add_sub_cancel_left]
  · rw [w1_ne e]
    unfold cpw
    by_cases h : wh ≤ j ∧ j < wh + n
    · rw [if_pos h, if_pos (by omega)]
    · rw [if_neg h, if_neg (by omega)]
theorem cpw_ag (Z X : JV) : ag X (cpw Z 0 2086 X) := fun j hj => by unfold cpw; rw [if_pos (by omega)]; rfl
def shH (Z : JV) (n : Nat) : JV := fun j => if j < n then Z (j + 2086) else Z j
theorem shH_s (Z : JV) (n : Nat) : w1 (shH Z n) n (shH Z n (2086 + n)) = shH Z (n + 1) := by
  funext j
  by_cases e : j = n
  · subst e
    rw [w1_eq]
    unfold shH
    rw [if_neg (by omega), if_pos (by omega), Nat.add_comm]
  · rw [w1_ne e]
    unfold shH
    by_cases h : j < n
    · rw [if_pos h, if_pos (by omega)]
    · rw [if_neg h, if_neg (by omega)]
theorem st_comm {A : JI} {u v : Nat} {X Y : JV} (h : u ≠ v) : st (st A u X) v Y = st (st A v Y) u X := by
  funext k
  unfold st
  by_cases e : k = v
  · subst e; rw [if_pos rfl, if_neg (fun w => h w.symm), if_pos rfl]
  · rw [if_neg e, if_neg e]
def remH (Z X : JV) (u : Nat) : JV := if u = 6 then cpw (shH Z 10430) 10430 2086 X else cpw Z (2086 * u) 2086 X
def remU (u : Nat) : Nat := if u = 6 then 6 else u + 1
def remA (A : JI) (X : JV) (u : Nat) : JI := u2 (st A 7 (remH (A 7) X u)) 0 18 (nI (remU u))
def mDl (X : JV) (f : Nat) (y : Int32) : JV := if mPh X f = 0 then w1 (w1 X (5 + f) (X (5 + f) + y)) (13 + f) (X (13 + f) + y) else w1 X (13 + f) (X (13 + f) + y)
def mAd1 (t f : Int32) (X : JV) (b : Nat) : JV := w1 (w1 (w1 (w1 (w1 (w1 (w1 (w1 X (173 + b) f) (273 + b) t) (373 + b) (if X 0 < t then 0 else 1)) (473 + b) (-1)) (573 + b) 0) (673 + b) 0) (773 + b) (-1)) 2 (nI (b + 1))
def mAd (t f : Int32) : Nat → Nat → JV → JV
  | 0, _, X => X
  | k + 1, b, X => mAd t f k (b + 1) (mAd1 t f X b)
def clX (X : JV) (c : Nat) : Int32 := srch (fun b => decide (X (373 + b) < 10)) c (fun _ => 0) 1
theorem clX_n (X : JV) (c : Nat) : narrow .boolean (.int (clX X c)) = .int (clX X c) := by
  unfold clX srch
  split
  · exact (rfl : narrow .boolean (Value.int 0) = Value.int 0)
  · rfl
section M60
variable {Γ : Gam} {d : Nat} {T : JT} {R S : JR} {I A : JI} {L : JL} {D : JD} {z : Option Nat} {mo u : Nat} {X : JV}
theorem lp_mcopy {cf ct n1 n2 ar wh : Nat} (hT1 : T (mo + cf) = some (.inr (.int, n1))) (hT2 : T (mo + ct) = some (.inr (.int, n2))) (hcf : cf < 18) (hct : ct < 18) (hne : cf ≠ ct) (h1 : ar + 2086 ≤ n1) (h2 : wh + 2086 ≤ n2) (hb : n1 < 2 ^ 30 ∧ n2 < 2 ^ 30) : ∀ (k i : Nat), i + k = 2086 → JJ Γ (jj_E Y_X9_copy) (jj_Z Γ (rV (T, R, S, blk 18 I mo (st A ct (cpw (A ct) wh 2086 (fun k => A cf (ar + k)))), L, D, z)) 0 0) (jj_rm (d) 0 0) 0 0 3 [some (.ref (mo + cf)), some (.int (nI ar)), some (.ref (mo + ct)), some (.int (nI wh)), some (.int (nI i))] [] (T, R, S, blk 18 I mo (st A ct (cpw (A ct) wh i (fun k => A cf (ar + k)))), L, D, z) := by
  intro k
  induction k with
  | zero =>
    intro i hi
    refine jj_iload (q := 5) dX9_copy_3 rfl rfl ?_
    refine jj_sipush (v := 2086) (q := 8) dX9_copy_5 rfl rfl ?_
    refine jj_icmp_ge (q := 11) (tgt := 29) dX9_copy_8 rfl rfl (fun h8 => ?_) (fun h8 => absurd (nI_le (show 2086 ≤ i by omega) (by omega)) h8)
    refine jj_vret dX9_copy_29 rfl (Nat.zero_le _) (Nat.zero_le _) ?_
    exact ⟨rfl, by rw [show i = 2086 by omega]⟩
  | succ k ih =>
    intro i hi
    refine jj_iload (q := 5) dX9_copy_3 rfl rfl ?_
    refine jj_sipush (v := 2086) (q := 8) dX9_copy_5 rfl rfl ?_
    refine jj_icmp_ge (q := 11) (tgt := 29) dX9_copy_8 rfl rfl (fun h8 => absurd h8 (nI_ge (a := i) (b := 2086) (by omega) (by omega))) (fun h8 => ?_)
    refine jj_aload_n (q := 12) dX9_copy_11 rfl rfl rfl ?_
    refine jj_iload_n (q := 13) dX9_copy_12 rfl rfl rfl ?_
    refine jj_iload (q := 15) dX9_copy_13 rfl rfl ?_
    refine jj_iaddN (q := 16) (a := wh) (b := i) dX9_copy_15 rfl rfl rfl ?_
    refine jj_aload_n (q := 17) dX9_copy_16 rfl rfl rfl ?_
    refine jj_iload_n (q := 18) dX9_copy_17 rfl rfl rfl ?_
    refine jj_iload (q := 20) dX9_copy_18 rfl rfl ?_
    refine jj_iaddN (q := 21) (a := ar) (b := i) dX9_copy_20 rfl rfl rfl ?_
    refine jj_ialdN (q := 22) (j := ar + i) dX9_copy_21 hT1 (blk_sn hcf hne) rfl (by omega) rfl ?_
    refine jj_iastN (q := 23) (j := wh + i) dX9_copy_22 hT2 (u2_bst hct) rfl (by omega) rfl ?_
    refine jj_iinc (v := nI (i + 1)) (q := 26) dX9_copy_23 rfl (nI_incn i 1 rfl) (by decide) rfl ?_
    refine jj_goto (tgt := 3) dX9_copy_26 rfl ?_
    rw [cpw_s (A ct) wh i (fun k => A cf (ar + k))]
    exact ih (i + 1) (by omega)
theorem ex_mcopy {cf ct n1 n2 ar wh : Nat} (hT1 : T (mo + cf) = some (.inr (.int, n1))) (hT2 : T (mo + ct) = some (.inr (.int, n2))) (hcf : cf < 18) (hct : ct < 18) (hne : cf ≠ ct) (h1 : ar + 2086 ≤ n1) (h2 : wh + 2086 ≤ n2) (hb : n1 < 2 ^ 30 ∧ n2 < 2 ^ 30) : Ex Γ (d) Y_X9_copy [.ref (mo + cf), .int (nI ar), .ref (mo + ct), .int (nI wh)] (T, R, S, blk 18 I mo A, L, D, z) 0 0 (rV (T, R, S, blk 18 I mo (st A ct (cpw (A ct) wh 2086 (fun k => A cf (ar + k)))), L, D, z)) := by
  refine Ex.of (by decide) (by simp [Value.category]) (Nat.le_of_ble_eq_true rfl) rfl ?_
  refine jj_iconst (v := 0) (q := 1) dX9_copy_0 rfl rfl ?_
  refine jj_istore (q := 3) dX9_copy_1 (by decide) rfl ?_
  have e := lp_mcopy (Γ := Γ) (d := d) (T := T) (R := R) (S := S) (I := I) (A := A) (L := L) (D := D) (z := z) hT1 hT2 hcf hct hne h1 h2 hb 2086 0 (by omega)
  rw [cpw_0, st_self] at e
  exact e
theorem rd7 {Z : JV} : blk 18 I mo (st (st A 7 Z) 4 X) (mo + 7) = Z := by rw [blk_sn (by decide) (by decide), st_eq]
theorem wr7 {Z : JV} {j : Nat} {v : Int32} : u2 (blk 18 I mo (st (st A 7 Z) 4 X)) (mo + 7) j v = blk 18 I mo (st (st A 7 (w1 Z j v)) 4 X) := by rw [u2_bsk (by decide) (by decide), u2_st]
theorem remA_1 {Z X : JV} {v w : Int32} : u2 (st (u2 (st A 7 Z) 0 18 v) 7 (cpw ((u2 (st A 7 Z) 0 18 v) 7) (2086 * 5) 2086 X)) 0 18 w = u2 (st A 7 (cpw Z 10430 2086 X)) 0 18 w := by
  funext k j
  by_cases h0 : k = 0
  · subst h0
    rw [u2_ap, u2_ap, if_pos rfl, if_pos rfl, st_ne (by omega), st_ne (by omega)]
    split
    · rfl
    · rename_i h
      rw [u2_ap, if_pos rfl, if_neg h, st_ne (by omega)]
  · rw [u2_ne h0, u2_ne h0]
    unfold st
    split
    · rfl
    · rename_i h
      rw [u2_ne h0, if_neg h]
theorem lp_rem (hm : hMo T S mo) {Zf : List Frame → Array Value → State → State → Prop} {Z : JV} (hz : JJ Γ (jj_E Y_X9_remember) Zf (jj_rm (d + 1) 0 0) 0 0 44 [some (.ref mo), some (.int (nI 12516))] [] (T, R, S, blk 18 I mo (st (st A 7 (shH Z 10430)) 4 X), L, D, z)) : ∀ (k i : Nat), i + k = 10430 → JJ Γ (jj_E Y_X9_remember) Zf (jj_rm (d + 1) 0 0) 0 0 13 [some (.ref mo), some (.int (nI (2086 + i)))] [] (T, R, S, blk 18 I mo (st (st A 7 (shH Z i)) 4 X), L, D, z) := by
  intro k
  induction k with
  | zero =>
    intro i hi
    refine jj_iload_n (q := 14) dX9_remember_13 rfl rfl rfl ?_
    refine jj_aload_n (q := 15) dX9_remember_14 rfl rfl rfl ?_
    refine jj_getS (q := 18) dX9_remember_15 fl_X9_32 hm.t0 hm.r0_15 rfl rfl rfl ?_
    refine jj_alen (q := 19) dX9_remember_18 hm.t7 (by decide) rfl rfl ?_
    refine jj_icmp_ge (q := 22) (tgt := 44) dX9_remember_19 rfl rfl (fun h19 => ?_) (fun h19 => absurd (nI_le (show 12516 ≤ 2086 + i by omega) (by omega)) h19)
    rw [show i = 10430 by omega]
    exact hz
  | succ k ih =>
    intro i hi
    refine jj_iload_n (q := 14) dX9_remember_13 rfl rfl rfl ?_
    refine jj_aload_n (q := 15) dX9_remember_14 rfl rfl rfl ?_
    refine jj_getS (q := 18) dX9_remember_15 fl_X9_32 hm.t0 hm.r0_15 rfl rfl rfl ?_
    refine jj_alen (q := 19) dX9_remember_18 hm.t7 (by decide) rfl rfl ?_
    refine jj_icmp_ge (q := 22) (tgt := 44) dX9_remember_19 rfl rfl (fun h19 => absurd h19 ((nI_ge (show 2086 + i < 12516 by omega) (by omega)))) (fun h19 => ?_)
    refine jj_aload_n (q := 23) dX9_remember_22 rfl rfl rfl ?_
    refine jj_getS (q := 26) dX9_remember_23 fl_X9_32 hm.t0 hm.r0_15 rfl rfl rfl ?_
    refine jj_iload_n (q := 27) dX9_remember_26 rfl rfl rfl ?_
    refine jj_sipush (v := 2086) (q := 30) dX9_remember_27 rfl rfl ?_
    refine jj_isubN (q := 31) (e := i) (a := 2086 + i) (b := 2086) dX9_remember_30 rfl rfl (by omega) rfl ?_
    refine jj_aload_n (q := 32) dX9_remember_31 rfl rfl rfl ?_
    refine jj_getS (q := 35) dX9_remember_32 fl_X9_32 hm.t0 hm.r0_15 rfl rfl rfl ?_
    refine jj_iload_n (q := 36) dX9_remember_35 rfl rfl rfl ?_
    refine jj_ialdN (q := 37) (j := 2086 + i) dX9_remember_36 hm.t7 (rd7) rfl (by omega) rfl ?_
    refine jj_iastN (q := 38) (j := i) dX9_remember_37 hm.t7 (wr7) rfl (by omega) rfl ?_
    refine jj_iinc (v := nI ((2086 + i) + 1)) (q := 41) dX9_remember_38 rfl (nI_incn (2086 + i) 1 rfl) (by decide) rfl ?_
    refine jj_goto (tgt := 13) dX9_remember_41 rfl ?_
    rw [shH_s]
    exact ih (i + 1) (by omega)
theorem ex_mremember (hm : hMo T S mo) {uu : Nat} (hu : A 0 18 = nI uu) (hu6 : uu ≤ 6) : Ex Γ (d + 1) Y_X9_remember [.ref mo] (T, R, S, blk 18 I mo (st A 4 X), L, D, z) 0 0 (rV (T, R, S, blk 18 I mo (st (remA A X uu) 4 X), L, D, z)) := by
  have key : ∀ (B : JI) (v : Nat) (x1 : Option Value), v ≤ 5 → B 0 18 = nI v → JJ Γ (jj_E Y_X9_remember) (jj_Z Γ (rV (T, R, S, blk 18 I mo (st (u2 (st B 7 (cpw (B 7) (2086 * v) 2086 X)) 0 18 (nI (v + 1))) 4 X), L, D, z)) 0 0) (jj_rm (d + 1) 0 0) 0 0 54 [some (.ref mo), x1] [] (T, R, S, blk 18 I mo (st B 4 X), L, D, z) := by
    intro B v x1 hv hB
    have e := ex_mcopy (Γ := Γ) (d := d) (T := T) (R := R) (S := S) (I := I) (A := st B 4 X) (L := L) (D := D) (z := z) (cf := 4) (ct := 7) (ar := 0) (wh := 2086 * v) hm.t4 hm.t7 (by omega) (by omega) (by omega) (by omega) (by omega) (by omega)
    rw [st_comm (show 4 ≠ 7 by omega), show (st B 4 X) 7 = B 7 from rfl] at e
    rw [show (fun k => st B 4 X 4 (0 + k)) = X by funext k; rw [Nat.zero_add]; rfl] at e
    refine jj_aload_n (q := 55) dX9_remember_54 rfl rfl rfl ?_
    refine jj_getS (q := 58) dX9_remember_55 fl_X9_23 hm.t0 hm.r0_12 rfl rfl rfl ?_
    refine jj_iconst (v := 0) (q := 59) dX9_remember_58 rfl rfl ?_
    refine jj_aload_n (q := 60) dX9_remember_59 rfl rfl rfl ?_
    refine jj_getS (q := 63) dX9_remember_60 fl_X9_32 hm.t0 hm.r0_15 rfl rfl rfl ?_
    refine jj_sipush (v := 2086) (q := 66) dX9_remember_63 rfl rfl ?_
    refine jj_aload_n (q := 67) dX9_remember_66 rfl rfl rfl ?_
    refine jj_getIw (v := nI v) (q := 70) dX9_remember_67 fl_X9_254 hm.t0 (by rw [blk_s0 (by decide) (by decide)]; exact hB) rfl rfl ?_
    refine jj_imulN (q := 71) (a := 2086) (b := v) dX9_remember_70 rfl rfl rfl ?_
    refine jj_cS4v (q := 74) dX9_remember_71 yk_X9_copy ml_X9_246 e rfl rfl rfl ⟨Nat.zero_le _, Nat.zero_le _⟩ ?_
    refine jj_aload_n (q := 75) dX9_remember_74 rfl rfl rfl ?_
    refine jj_dup (q := 76) dX9_remember_75 rfl rfl ?_
    refine jj_getIw (v := nI v) (q := 79) dX9_remember_76 fl_X9_254 hm.t0 (by rw [blk_s0 (by decide) (by decide)]; exact hB) rfl rfl ?_
    refine jj_iconst (v := 1) (q := 80) dX9_remember_79 rfl rfl ?_
    refine jj_iaddN (q := 81) (a := v) (b := 1) dX9_remember_80 rfl rfl rfl ?_
    refine jj_putIv (q := 84) dX9_remember_81 fl_X9_254 hm.t0 (u2_bs0 (by decide) (by decide)) rfl rfl rfl rfl rfl ?_
    refine jj_vret dX9_remember_84 rfl (Nat.zero_le _) (Nat.zero_le _) ?_
    exact ⟨rfl, rfl⟩
  unfold remA remH remU
  by_cases h6 : uu = 6
  · rw [if_pos h6, if_pos h6]
    subst h6
    refine Ex.of (by decide) (by simp [Value.category]) (Nat.le_of_ble_eq_true rfl) rfl ?_
    refine jj_aload_n (q := 1) dX9_remember_0 rfl rfl rfl ?_
    refine jj_getIw (v := nI 6) (q := 4) dX9_remember_1 fl_X9_254 hm.t0 (by rw [blk_s0 (by decide) (by decide)]; exact hu) rfl rfl ?_
    refine jj_bipush (v := 6) (q := 6) dX9_remember_4 rfl rfl ?_
    refine jj_icmp_ne (q := 9) (tgt := 54) dX9_remember_6 rfl rfl (fun h6 => by exfalso; exact h6 rfl) (fun h6 => ?_)
    refine jj_sipush (v := 2086) (q := 12) dX9_remember_9 rfl rfl ?_
    refine jj_istore_n (q := 13) dX9_remember_12 rfl (by decide) rfl ?_
    have e0 : blk 18 I mo (st A 4 X) = blk 18 I mo (st (st A 7 (shH (A 7) 0)) 4 X) := by
      rw [show shH (A 7) 0 = A 7 from funext fun j => if_neg (by omega), st_self]
    rw [e0]
    refine lp_rem hm ?_ 10430 0 (by omega)
    refine jj_aload_n (q := 45) dX9_remember_44 rfl rfl rfl ?_
    refine jj_dup (q := 46) dX9_remember_45 rfl rfl ?_
    refine jj_getIw (v := nI 6) (q := 49) dX9_remember_46 fl_X9_254 hm.t0 (by rw [blk_s0 (by decide) (by decide)]; exact hu) rfl rfl ?_
    refine jj_iconst (v := 1) (q := 50) dX9_remember_49 rfl rfl ?_
    refine jj_isubN (q := 51) (e := 5) (a := 6) (b := 1) dX9_remember_50 rfl rfl rfl rfl ?_
    refine jj_putIv (q := 54) dX9_remember_51 fl_X9_254 hm.t0 (u2_bs0 (by decide) (by decide)) rfl rfl rfl rfl rfl ?_
    have q := key (u2 (st A 7 (shH (A 7) 10430)) 0 18 (nI 5)) 5 (some (.int (nI 12516))) (by omega) rfl
    rw [remA_1] at q
    exact q
  · rw [if_neg h6, if_neg h6]
    refine Ex.of (by decide) (by simp [Value.category]) (Nat.le_of_ble_eq_true rfl) rfl ?_
    refine jj_aload_n (q := 1) dX9_remember_0 rfl rfl rfl ?_
    refine jj_getIw (v := nI uu) (q := 4) dX9_remember_1 fl_X9_254 hm.t0 (by rw [blk_s0 (by decide) (by decide)]; exact hu) rfl rfl ?_
    refine jj_bipush (v := 6) (q := 6) dX9_remember_4 rfl rfl ?_
    refine jj_icmp_ne (q := 9) (tgt := 54) dX9_remember_6 rfl rfl (fun h6_ => ?_) (fun h6_ => by exfalso; exact h6 (nI_inj' (by omega) (by omega) h6_))
    exact key A uu _ (by omega) hu
end M60
