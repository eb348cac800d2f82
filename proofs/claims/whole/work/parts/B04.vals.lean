/-! ANSWERS ABOUT A BAG -/
section V4
variable {k nf : Nat} {Q X : JV} {K : JI} {r : Int64} {j : Nat}
theorem SR.c (h : SR k nf Q K r X) : mC X ≤ 100 := h.2.1.c
theorem SR.i (h : SR k nf Q K r X) : mI X := h.2.1.1.1
theorem vl_st (h : SR k nf Q K r X) (hj : j < mC X) : atV 100 (K 2) (nI j) = X (373 + j) := by
  rw [atV_nI (by have := h.c; omega) (by omega)]
  exact h.1.st h.c hj
theorem vl_fl (h : SR k nf Q K r X) (hj : j < mC X) : atV 100 (K 3) (nI j) = X (173 + j) := by
  have := h.c
  rw [atV_nI (by omega) (by omega)]
  exact h.1.get (mt3 (by omega)) ⟨fun _ _ => hj, fun e => by omega, fun e => by omega⟩
theorem vl_ar (h : SR k nf Q K r X) (hj : j < mC X) : atV 100 (K 4) (nI j) = X (273 + j) := by
  have := h.c
  rw [atV_nI (by omega) (by omega)]
  exact h.1.get (mt4 (by omega)) ⟨fun _ _ => hj, fun e => by omega, fun e => by omega⟩
theorem vl_la (h : SR k nf Q K r X) (hj : j < mC X) : atV 100 (K 5) (nI j) = X (573 + j) := by
  have := h.c
  rw [atV_nI (by omega) (by omega)]
  exact h.1.get (mt5 (by omega)) ⟨fun _ _ => hj, fun e => by omega, fun e => by omega⟩
theorem vl_lv (h : SR k nf Q K r X) (hj : j < mC X) : atV 100 (K 6) (nI j) = X (673 + j) := by
  have := h.c
  rw [atV_nI (by omega) (by omega)]
  exact h.1.get (mt6 (by omega)) ⟨fun _ _ => hj, fun e => by omega, fun e => by omega⟩
theorem vl_fin (h : SR k nf Q K r X) (hj : j < mC X) : vFin K (nI j) = X (773 + j) := by
  have hc := h.c
  obtain ⟨s1, s2⟩ := h.2.1.st8 hj
  unfold vFin
  rw [vl_st h hj, s2]
  by_cases g : xSt X j < 10
  · rw [if_pos (show nI (xSt X j) < 10 from nI_ltN (b := 10) g (by omega))]
    exact (h.2.1.2.2.2.2.1 j hj (by omega) g).symm
  · rw [if_neg (show ¬ nI (xSt X j) < 10 from nI_nltN (a := 10) (by omega) (by omega)), atV_nI (by omega) (by omega)]
    exact h.1.2.2.1 j hj (by omega)
theorem dO_c {v : Int32} (h : oB v) : (dO v = 100 ∧ v = -1) ∨ (dO v < 100 ∧ v = nI (dO v)) := by
  unfold dO
  by_cases e : v = -1
  · rw [if_pos e]
    exact Or.inl ⟨rfl, e⟩
  · rw [if_neg e]
    obtain ⟨h1, h2⟩ := oB_n h e
    exact Or.inr ⟨h2, h1⟩
theorem nI_ne1 {j : Nat} (h : j < 2 ^ 31) : nI j ≠ -1 := fun e => by
  have := nI_ltz h
  rw [e] at this
  exact this (by decide)
theorem lo_iff (hX : mI X) {p : Nat} (hp : p < 40) (hj : j < 100) : X (133 + p) = nI j ↔ xLo X p = j := by
  unfold xLo
  rcases dO_c (hX.lo hp) with ⟨h1, h2⟩ | ⟨h1, h2⟩
  · rw [h1, h2]
    exact ⟨fun e => absurd e.symm (nI_ne1 (by omega)), fun e => by omega⟩
  · constructor
    · intro e
      rw [h2] at e
      exact nI_inj' (by omega) (by omega) e
    · intro e
      rw [h2, e]
theorem pl_n (h : SR k nf Q K r X) (hj : j < 100) (hp : xPl X j < 40) : X (473 + j) = nI (xPl X j) := by
  rcases h.2.2.2.2.2.2.2.1 j hj with e | e
  · unfold xPl dO at hp
    rw [if_pos e] at hp
    omega
  · unfold xPl dO
    rw [if_neg (fun e2 => by rw [e2] at e; exact absurd e.1 (by decide))]
    exact e.1
theorem vl_pos (h : SR k nf Q K r X) (hj : j < mC X) : srch (fun p => decide (K 14 p = nI j)) 40 nI (-1) = if X (373 + j) = 8 then X (473 + j) else -1 := by
  have hc := h.c
  obtain ⟨s1, s2⟩ := h.2.1.st8 hj
  obtain ⟨j1, j2, _⟩ := h.2.1.2.1
  have hK : ∀ p, p < 40 → (K 14 p = nI j ↔ xLo X p = j) := fun p hp => by
    rw [h.1.lo hp]
    exact lo_iff h.i hp (by omega)
  by_cases e : xSt X j = 8
  · rw [if_pos (by rw [s2, e]; rfl)]
    obtain ⟨g1, g2⟩ := j2 j hj (by omega) e
    rw [srch_hit (i := xPl X j) (fun p hp => ?_) (by rw [decide_eq_true_eq]; exact (hK _ g1).mpr g2) g1]
    · exact (pl_n h (by omega) g1).symm
    · rw [decide_eq_false_iff_not]
      intro e2
      have e3 := (hK p (by omega)).mp e2
      rcases j1 p (by omega) with q1 | ⟨q1, q2, q3, q4, q5⟩
      · omega
      · rw [e3] at q4
        omega
  · rw [if_neg (fun (e2 : X (373 + j) = 8) => e (nI_inj' (b := 8) (by omega) (by omega) (s2.symm.trans e2)))]
    refine srch_none fun p hp => ?_
    rw [decide_eq_false_iff_not]
    intro e2
    have e3 := (hK p hp).mp e2
    rcases j1 p hp with q1 | ⟨q1, q2, q3, q4, q5⟩
    · omega
    · rw [e3] at q3
      exact e q3
theorem vl_lane (h : SR k nf Q K r X) (hj : j < mC X) {ls : Nat → Nat} (hls : ∀ l, l < 4 → ls l = mHe X l) : srch (pLw K ls (nI j)) 4 nI (-1) = if X (373 + j) = 9 then X (473 + j) else -1 := by
  have hc := h.c
  obtain ⟨s1, s2⟩ := h.2.1.st8 hj
  obtain ⟨_, _, j3, j4, j5, _⟩ := h.2.1.2.1
  have hX := h.i
  have hL : ∀ l i, l < 4 → i < mHe X l → (K 13 (l * 20 + i) = nI j ↔ xLa X l i = j) := fun l i hl hi => by
    have hh := (hX.he hl).2
    rw [h.1.la hX hl hi]
    have e1 := hX.lb (l := 20 * l + i) (by omega)
    rw [show 29 + (20 * l + i) = 29 + 20 * l + i by omega] at e1
    unfold xLa
    have e2 : nN (X (29 + 20 * l + i)) = mLb X (20 * l + i) := by unfold mLb; rw [show 29 + (20 * l + i) = 29 + 20 * l + i by omega]
    rw [e2, e1.1]
    exact ⟨fun e => nI_inj' (by omega) (by omega) e, fun e => by rw [e]⟩
  have hP : ∀ l, l < 4 → (pLw K ls (nI j) l = true ↔ ∃ i, i < mHe X l ∧ xLa X l i = j) := fun l hl => by
    unfold pLw
    rw [decide_eq_true_eq, hls l hl]
    constructor
    · intro g
      have g2 := fa_first_yes _ _ g
      unfold pLn at g2
      rw [decide_eq_true_eq] at g2
      exact ⟨_, g, (hL l _ hl g).mp g2⟩
    · rintro ⟨i, hi, e⟩
      refine Nat.lt_of_not_le fun g => ?_
      have g2 := fa_first_no _ _ i (Nat.lt_of_lt_of_le hi g)
      rw [← Bool.not_eq_true] at g2
      refine g2 ?_
      unfold pLn
      rw [decide_eq_true_eq]
      exact (hL l i hl hi).mpr e
  by_cases e : xSt X j = 9
  · rw [if_pos (by rw [s2, e]; rfl)]
    obtain ⟨g1, i, g2, g3⟩ := j5 j hj (by omega) e
    rw [srch_hit (i := xPl X j) (fun l hl => ?_) ((hP _ g1).mpr ⟨i, g2, g3⟩) g1]
    · exact (pl_n h (by omega) (by omega)).symm
    · cases hb : pLw K ls (nI j) l with
      | false => rfl
      | true =>
        obtain ⟨i', q1, q2⟩ := (hP l (by omega)).mp hb
        obtain ⟨_, _, _, q3⟩ := j3 l i' (by omega) q1
        rw [q2] at q3
        omega
  · rw [if_neg (fun (e2 : X (373 + j) = 9) => e (nI_inj' (b := 9) (by omega) (by omega) (s2.symm.trans e2)))]
    refine srch_none fun l hl => ?_
    cases hb : pLw K ls (nI j) l with
    | false => rfl
    | true =>
      obtain ⟨i', q1, q2⟩ := (hP l hl).mp hb
      obtain ⟨_, _, q3, _⟩ := j3 l i' hl q1
      rw [q2] at q3
      exact absurd q3 e
end V4
