/-! THE WORST FLIGHT, LOADING TIMES -/
theorem i_pos {x : Int32} : 0 < x ↔ ¬ x ≤ 0 := Int32.not_le.symm
theorem nI_ti {n : Nat} (h : n < 2 ^ 31) : (nI n).toInt = (n : Int) := Int32.toInt_ofNat_of_lt h
theorem sub_ti {x y : Int32} (h1 : -2147483648 ≤ x.toInt - y.toInt) (h2 : x.toInt - y.toInt < 2147483648) : (x - y).toInt = x.toInt - y.toInt := by
  rw [Int32.toInt_sub, Int.bmod_eq_of_le (by omega) (by omega)]
theorem fa_first_cg {p q : Nat → Bool} : ∀ {n : Nat}, (∀ i, i < n → p i = q i) → fa_first p n = fa_first q n
  | 0, _ => rfl
  | n + 1, h => by
    unfold fa_first
    rw [fa_first_cg (fun i hi => h i (by omega)), h n (by omega)]
section V7
variable {k nf : Nat} {Q X : JV} {K P : JI} {r : Int64} {j : Nat}
theorem vl_wk (h : SR k nf Q K r X) (o f : Int32) : wK K (mC X) o f = wS X (mC X) o f := by
  unfold wK wS kcn cB
  rw [vl_of h, vl_of h, vl_of h, vl_of h]
  generalize nI (fb_ct (pB X o 11 11) (mC X)) - nI (fb_ct (pB X f 11 11) (mC X)) = s
  generalize nI (fb_ct (pB X o 0 9) (mC X)) - nI (fb_ct (pB X f 0 9) (mC X)) = m
  by_cases hs : s = 0
  · rw [if_pos hs, if_pos hs]
    by_cases hm : m = 0
    · rw [if_neg (by rw [hm]; decide), if_pos hm, if_pos hm]
    · rw [if_neg hm, if_neg hm]
      by_cases h0 : m ≤ 0
      · rw [if_neg (fun g => i_pos.mp g h0), if_pos h0]
      · rw [if_pos (i_pos.mpr h0), if_neg h0]
  · rw [if_neg hs, if_neg hs, if_neg hs]
    by_cases h0 : s ≤ 0
    · rw [if_neg (fun g => i_pos.mp g h0), if_pos h0]
    · rw [if_pos (i_pos.mpr h0), if_neg h0]
theorem wS_self (X : JV) (c : Nat) (f : Int32) : wS X c f f = 0 := by
  unfold wS
  rw [if_pos (Int32.sub_self _), if_pos (Int32.sub_self _), if_pos (Int32.le_refl _)]
theorem wS_01 (X : JV) (c : Nat) (o f : Int32) : wS X c o f = 0 ∨ wS X c o f = 1 := by
  unfold wS
  repeat' split
  all_goals first | exact Or.inl rfl | exact Or.inr rfl
theorem vl_worst (h : SR k nf Q K r X) {n : Nat} (b : Int32) : srch (fun f => decide (nI (fb_ct (pKW K (mC X) (nI f)) n) = b)) n nI (-1) = srch (fun f => decide (nI (fb_ct (pWo X (mC X) f) n) = b)) n nI (-1) := srch_cg fun f hf => by
  rw [show fb_ct (pKW K (mC X) (nI f)) n = fb_ct (pWo X (mC X) f) n from fb_ct_cong fun o ho => ?_]
  unfold pKW pWo
  rw [vl_wk h]
  refine decide_eq_decide.mpr ⟨fun g => ⟨fun e => ?_, by rw [g]; decide⟩, fun g => (wS_01 X (mC X) (nI o) (nI f)).resolve_left g.2⟩
  rw [e, wS_self] at g
  exact absurd g (by decide)
/-! loading times -/
theorem lF_iff {b : Nat} {f : Int32} : ¬ lF X b f = 0 ↔ X (173 + b) = f ∧ X (373 + b) = 10 := by
  unfold lF
  by_cases h1 : X (173 + b) = f
  · rw [if_pos h1]
    by_cases h2 : X (373 + b) = 10
    · rw [if_pos h2]
      exact ⟨fun _ => ⟨h1, h2⟩, fun _ => by decide⟩
    · rw [if_neg h2]
      exact ⟨fun h => absurd rfl h, fun h => absurd h.2 h2⟩
  · rw [if_neg h1]
    exact ⟨fun h => absurd rfl h, fun h => absurd h.1 h1⟩
theorem vl_tk (h : SR k nf Q K r X) {b : Nat} (hb : b < mC X) (h10 : X (373 + b) = 10) : K 7 b - K 4 b = tk_ X b := by
  have hc := h.c
  have h7 : K 7 b = X (773 + b) := h.1.2.2.1 b hb (by unfold xSt; rw [h10]; decide)
  unfold tk_
  rw [h7, h.1.get (mt4 (by omega)) ⟨fun _ _ => hb, fun e => by omega, fun e => by omega⟩]
theorem tk_bd (h : SR k nf Q K r X) {b : Nat} (hb : b < mC X) : -20000 < (tk_ X b).toInt ∧ (tk_ X b).toInt < 20000 := by
  have hc := h.c
  have h1 := h.2.2.2.2.2.1 b hb
  have h2 := h.2.2.2.2.2.2.2.2 b (by omega)
  unfold tk_
  obtain ⟨h11, h12⟩ := h1
  have e2 := nI_ti (n := nN (X (273 + b))) (by omega)
  rw [h11]
  rcases h2 with e | e
  · rw [e]
    have e1 : (-1 : Int32).toInt = -1 := rfl
    rw [sub_ti (by omega) (by omega)]
    omega
  · have e3 := e.2
    rw [e.1]
    have e1 := nI_ti (n := nN (X (773 + b))) (by omega)
    rw [sub_ti (by omega) (by omega)]
    omega
theorem vl_pct (h : SR k nf Q K r X) (f w : Int32) : srch (pTi K f w (mC X)) (mC X) (fun b => K 7 b - K 4 b) (-1) = srch (pPc X f w (mC X)) (mC X) (tk_ X) (-1) := by
  have hc := h.c
  have hi : ∀ b, b < mC X → (K 3 b = f ∧ K 2 b = 10 ↔ X (173 + b) = f ∧ X (373 + b) = 10) := fun b hb => by
    rw [h.1.st hc hb, h.1.get (mt3 (by omega)) ⟨fun _ _ => hb, fun e => by omega, fun e => by omega⟩]
  have hp : ∀ b, b < mC X → pTi K f w (mC X) b = pPc X f w (mC X) b := fun b hb => by
    unfold pTi pPc
    refine decide_eq_decide.mpr ((and_congr_left' ((hi b hb).trans lF_iff.symm)).trans (and_congr_right fun g => ?_))
    have g10 := lF_iff.mp g
    rw [vl_tk h hb g10.2]
    rw [show fb_ct (pWi K f (tk_ X b - 1)) (mC X) = fb_ct (pBe X f b) (mC X) from fb_ct_cong fun o ho => ?_, show fb_ct (pWi K f (tk_ X b)) (mC X) = fb_ct (pUp X f b) (mC X) from fb_ct_cong fun o ho => ?_]
    · unfold pWi pUp
      refine decide_eq_decide.mpr ((and_congr_left' ((hi o ho).trans lF_iff.symm)).trans (and_congr_right fun g2 => ?_))
      rw [vl_tk h ho (lF_iff.mp g2).2]
    · unfold pWi pBe
      refine decide_eq_decide.mpr ((and_congr_left' ((hi o ho).trans lF_iff.symm)).trans (and_congr_right fun g2 => ?_))
      rw [vl_tk h ho (lF_iff.mp g2).2]
      have b1 := tk_bd h ho
      have b2 := tk_bd h hb
      have b3 : (1 : Int32).toInt = 1 := rfl
      rw [fa_le, fa_lt, sub_ti (by omega) (by omega)]
      omega
  unfold srch
  have e : fa_first (pTi K f w (mC X)) (mC X) = fa_first (pPc X f w (mC X)) (mC X) := fa_first_cg hp
  rw [e]
  split
  · rename_i g
    have g2 := fa_first_yes _ _ g
    unfold pPc at g2
    rw [decide_eq_true_eq] at g2
    exact vl_tk h g (lF_iff.mp g2.1).2
  · rfl
end V7
