/-! LOAD: THE NEW STATE -/
section L25
variable {N X Y Q : JV} {K0 : JI} {dr : Int64} {kf kl kc kk sz c : Nat}
theorem dfl_0 {j : Nat} (h : ¬ (109 ≤ j ∧ j < 121 ∨ 133 ≤ j ∧ j < 173)) : dfl j = 0 := if_neg h
theorem dfl_m {j : Nat} (h : 109 ≤ j ∧ j < 121 ∨ 133 ≤ j ∧ j < 173) : dfl j = -1 := if_pos h
/-- all but the bags' states are as loaded, those are 0 or 1 -/
def lY (X Y : JV) (c : Nat) : Prop := (∀ j, j < 2086 → j < 373 ∨ 473 ≤ j → Y j = X j) ∧ ∀ b, b < c → Y (373 + b) = 0 ∨ Y (373 + b) = 1
theorem ld_mi (hx : yX X kf c) (hk : kf ≤ 8) (hY : lY X Y c) : mI Y := by
  obtain ⟨⟨a1, a2, a3, a4⟩, b1, c1, d1, e1⟩ := hx
  have z : ∀ j, j < 373 → Y j = X j := fun j hj => hY.1 j (by omega) (by omega)
  refine fun i => ⟨fun e => ?_, fun e => ?_, fun e1 e2 => ?_, fun e1 e2 => ?_, fun e1 e2 => ?_, fun e1 e2 => ?_, fun g1 g2 => ?_⟩
  · subst e
    rw [z 2 (by omega), a1]
    exact nB_nI (by omega) (by omega)
  · subst e
    rw [z 3 (by omega), c1 3 (by omega) (by omega), dfl_0 (by omega)]
    exact nB_0 (by omega)
  · rw [z i (by omega), c1 i (by omega) (by omega), dfl_0 (by omega)]
    exact nB_0 (by omega)
  · rw [z i (by omega), c1 i (by omega) (by omega), dfl_0 (by omega)]
    exact nB_0 (by omega)
  · rw [z i (by omega), c1 i (by omega) (by omega), dfl_m (by omega)]
    exact Or.inl rfl
  · rw [z i (by omega), c1 i (by omega) (by omega), dfl_m (by omega)]
    exact Or.inl rfl
  · obtain ⟨b, rfl⟩ : ∃ b, i = 173 + b := ⟨i - 173, by omega⟩
    rw [z _ (by omega)]
    by_cases g : b < c
    · exact (d1 b g).1.up hk
    · rw [(e1 b (by omega) (by omega)).1]
      exact nB_0 (by omega)
theorem ld_mc (hx : yX X kf c) (hY : lY X Y c) : mC Y = c := by
  show nN (Y 2) = c
  rw [hY.1 2 (by omega) (by omega), hx.1.1, nN_nI (by have := hx.1.2.1; omega)]
theorem ld_mw (hx : yX X kf c) (hk : kf ≤ 8) (hY : lY X Y c) (hq : Q 12 = nI kf) : mW Q Y 100 := by
  have hmi := ld_mi hx hk hY
  have hmc := ld_mc hx hY
  obtain ⟨⟨a1, a2, a3, a4⟩, b1, c1, d1, e1⟩ := hx
  have z : ∀ j, j < 373 → Y j = X j := fun j hj => hY.1 j (by omega) (by omega)
  have he : ∀ l, l < 4 → mHe Y l = 0 := fun l hl => by
    show nN (Y (21 + l)) = 0
    rw [z _ (by omega), c1 _ (by omega) (by omega), dfl_0 (by omega)]
    rfl
  have hlo : ∀ p, p < 40 → xLo Y p = 100 := fun p hp => by
    show dO (Y (133 + p)) = 100
    rw [z _ (by omega), c1 _ (by omega) (by omega), dfl_m (by omega)]
    rfl
  have how1 : ∀ p, p < 12 → Y (109 + p) = -1 := fun p hp => by rw [z _ (by omega), c1 _ (by omega) (by omega), dfl_m (by omega)]
  have how : ∀ p, p < 12 → xOw Y p = 100 := fun p hp => by
    show dO (Y (109 + p)) = 100
    rw [how1 p hp]
    rfl
  have hst : ∀ b, b < c → xSt Y b ≤ 1 ∧ Y (373 + b) = nI (xSt Y b) := fun b hb => by
    show nN (Y (373 + b)) ≤ 1 ∧ Y (373 + b) = nI (nN (Y (373 + b)))
    rcases hY.2 b hb with e | e <;> rw [e] <;> decide
  refine ⟨⟨hmi, fun l hl => by rw [he l hl]; omega⟩, ⟨fun p hp => Or.inl (hlo p hp), fun b hb _ h8 => ?_, fun l j hl hj => ?_, fun l i j hl _ hj => ?_, fun b hb _ h9 => ?_, fun k hk => Or.inl (how k hk), fun k k' hk _ _ => Or.inl (how k hk)⟩, fun k hk => Or.inl (how1 k hk), fun b hb => ?_, fun b hb _ _ => ?_, fun b hb => ?_⟩
  · rw [hmc] at hb
    have := (hst b hb).1
    omega
  · rw [he l hl] at hj
    omega
  · rw [he l hl] at hj
    omega
  · rw [hmc] at hb
    have := (hst b hb).1
    omega
  · rw [hmc] at hb
    exact ⟨by have := (hst b hb).1; omega, (hst b hb).2⟩
  · rw [hmc] at hb
    rw [hY.1 _ (by omega) (by omega)]
    exact (d1 b hb).2.2.2.2.2.2
  · rw [hmc] at hb
    show nN (Y (173 + b)) < nN (Q 12)
    rw [z _ (by omega), hq, nN_nI (by omega)]
    exact (d1 b hb).1.2
/-- the draft before the bags of time 0 are let in -/
def ldX (X : JV) (c : Nat) : JV := fun j => if 373 ≤ j ∧ j < 373 + c then 0 else X j
theorem ldX_y (hc : c ≤ 100) : lY X (ldX X c) c := ⟨fun j _ h => if_neg (by omega), fun b hb => Or.inl (if_pos (by omega))⟩
theorem yX_y (hx : yX X kf c) : lY X X c := ⟨fun _ _ _ => rfl, fun b hb => by
  rw [(hx.2.2.2.1 b hb).2.2.1]
  split
  · exact Or.inl rfl
  · exact Or.inr rfl⟩
theorem ld_rv (hx : yX X kf c) (hk : kf ≤ 8) (hs : pSt0 X K0 dr kf c) : RV kf K0 dr (ldX X c) := by
  have hc : c ≤ 100 := hx.1.2.1
  have hY := ldX_y (X := X) hc
  have hmc := ld_mc hx hY
  obtain ⟨⟨a1, a2, a3, a4⟩, b1, c1, d1, e1⟩ := hx
  obtain ⟨⟨s1, s2, s3, s4, s5, s6⟩, s7, s8, s9, s10, s11, s12, s13⟩ := hs
  have z : ∀ j, j < 2086 → j < 373 ∨ 473 ≤ j → ldX X c j = X j := hY.1
  have zd : ∀ j, j < 2086 → j = 0 ∨ j = 3 ∨ 21 ≤ j ∧ j < 173 ∨ 873 ≤ j → ldX X c j = dfl j := fun j h1 h2 => by rw [z j h1 (by omega)]; exact c1 j h1 h2
  have zs : ∀ b, b < c → ldX X c (373 + b) = 0 := fun b hb => if_pos (by omega)
  have he : ∀ l, l < 4 → mHe (ldX X c) l = 0 := fun l hl => by
    show nN (ldX X c (21 + l)) = 0
    rw [zd _ (by omega) (by omega), dfl_0 (by omega)]
    rfl
  refine ⟨fun k j i hm hv => ?_, ⟨nN (X 1), by have := a4.2; omega, by rw [z 1 (by omega) (by omega)]; exact a4.1, ?_⟩, fun b hb h10 => ?_, fun k hk => Or.inl ?_, fun q hq => ?_, fun e he' => ?_⟩
  · obtain ⟨v1, v2, v3⟩ := hv
    rw [hmc] at v1
    rcases hm with ⟨rfl, ⟨rfl, rfl⟩ | ⟨rfl, rfl⟩ | ⟨rfl, rfl⟩ | ⟨rfl, rfl⟩⟩ | ⟨rfl, rfl, rfl⟩ | ⟨rfl, h, rfl⟩ | ⟨rfl, h, rfl⟩ | ⟨rfl, h, rfl⟩ | ⟨rfl, h, rfl⟩ | ⟨rfl, h, rfl⟩ | ⟨rfl, h, rfl⟩ | ⟨rfl, h, rfl⟩ | ⟨rfl, h, rfl⟩ | ⟨rfl, h, rfl⟩ | ⟨rfl, h, rfl⟩ | ⟨rfl, h, rfl⟩ | ⟨rfl, h, rfl⟩ | ⟨rfl, h, rfl⟩
    · rw [zd 0 (by omega) (by omega), s1]
      rfl
    · rw [z 4 (by omega) (by omega)]
      exact s2
    · rw [zd 2085 (by omega) (by omega), s3, dfl_0 (by omega)]
    · rw [zd 3 (by omega) (by omega), s4]
      rfl
    · rw [z 2 (by omega) (by omega), a1]
      exact s5
    · rw [zs j (v1 (by omega) (by omega))]
      exact (s7 j (v1 (by omega) (by omega))).1
    · rw [z _ (by omega) (by omega)]
      exact (s7 j (v1 (by omega) (by omega))).2.1
    · rw [z _ (by omega) (by omega)]
      exact (s7 j (v1 (by omega) (by omega))).2.2.1
    · have hj := v1 (by omega) (by omega)
      rw [z _ (by omega) (by omega), (d1 j hj).2.2.2.2.1]
      exact (s7 j hj).2.2.2.1
    · have hj := v1 (by omega) (by omega)
      rw [z _ (by omega) (by omega), (d1 j hj).2.2.2.2.2.1]
      exact (s7 j hj).2.2.2.2
    · rw [z _ (by omega) (by omega)]
      exact (s10 j (v2 (by omega))).1
    · rw [z _ (by omega) (by omega)]
      exact (s10 j (v2 (by omega))).2
    · rw [zd _ (by omega) (by omega), dfl_0 (by omega)]
      exact (s11 j h).1
    · rw [zd _ (by omega) (by omega), dfl_0 (by omega)]
      exact (s11 j h).2
    · have := v3 rfl
      rw [he _ (by omega)] at this
      omega
    · rw [zd _ (by omega) (by omega), dfl_m (by omega)]
      exact s12 j h
    · rw [zd _ (by omega) (by omega), dfl_m (by omega)]
      exact (s13 j h).1
    · rw [zd _ (by omega) (by omega), dfl_0 (by omega)]
      exact (s13 j h).2
  · have e : (X 1).toInt = (nN (X 1) : Int) := (congrArg Int32.toInt a4.1).trans (nI_ti (by have := a4.2; omega))
    rw [s6, fa_eq64, Int32.toInt_toInt64, e, Int64.toInt_ofNat_of_lt (by have := a4.2; omega)]
  · rw [hmc] at hb
    have : xSt (ldX X c) b = 0 := by
      show nN (ldX X c (373 + b)) = 0
      rw [zs b hb]
      rfl
    omega
  · rw [zd _ (by omega) (by omega), dfl_m (by omega)]
  · rw [hmc]
    by_cases g : q = 0
    · subst g
      rw [s8, (fb_ct_all (p := pSt_ (ldX X c) 0)).mpr fun b hb => decide_eq_true (zs b hb)]
    · have hz : fb_ct (pSt_ (ldX X c) q) c = 0 := fb_ct_zero.mpr fun b hb => decide_eq_false fun e => by
        rw [zs b hb] at e
        exact g (nI_inj' (by omega) (by omega) (show nI q = nI 0 from e.symm))
      rw [s9 q (by omega) hq, hz]
      rfl
  · have : mE (ldX X c) = 0 := by
      show nN (ldX X c 3) = 0
      rw [zd 3 (by omega) (by omega)]
      rfl
    omega
theorem mArL_at : ∀ (k i : Nat) (Y : JV), i + k ≤ 100 → ∀ j, mArL k i Y j = if 373 + i ≤ j ∧ j < 373 + i + k then (if Y j = 0 then (if Y (j - 100) = Y 0 then 1 else Y j) else Y j) else Y j
  | 0, i, Y, _, j => by
    rw [if_neg (by omega)]
    rfl
  | k + 1, i, Y, h, j => by
    show mArL k (i + 1) (mAr Y i) j = _
    rw [mArL_at k (i + 1) (mAr Y i) (by omega) j]
    have e : ∀ x, x ≠ 373 + i → mAr Y i x = Y x := fun x hx => by
      unfold mAr
      split
      · split
        · rw [w1_ne hx]
        · rfl
      · rfl
    by_cases g : j = 373 + i
    · subst g
      rw [if_neg (by omega), if_pos (by omega), show 373 + i - 100 = 273 + i by omega]
      unfold mAr
      by_cases g1 : Y (373 + i) = 0
      · rw [if_pos g1, if_pos g1]
        by_cases g2 : Y (273 + i) = Y 0
        · rw [if_pos g2, if_pos g2, w1_eq]
        · rw [if_neg g2, if_neg g2]
      · rw [if_neg g1, if_neg g1]
    · by_cases r : 373 + (i + 1) ≤ j ∧ j < 373 + (i + 1) + k
      · rw [if_pos r, if_pos (show 373 + i ≤ j ∧ j < 373 + i + (k + 1) by omega), e j g, e 0 (by omega), e (j - 100) (by omega)]
      · rw [if_neg r, if_neg (by omega), e j g]
theorem ld_ag (hx : yX X kf c) : ag (mArL c 0 (ldX X c)) X := fun j hj => by
  have hc := hx.1.2.1
  rw [mArL_at c 0 _ (by omega) j]
  by_cases r : 373 + 0 ≤ j ∧ j < 373 + 0 + c
  · obtain ⟨b, rfl⟩ : ∃ b, j = 373 + b := ⟨j - 373, by omega⟩
    have hb : b < c := by omega
    have e1 : ldX X c (373 + b) = 0 := if_pos (by omega)
    have e2 : ldX X c (373 + b - 100) = X (273 + b) := by
      rw [show 373 + b - 100 = 273 + b by omega]
      exact if_neg (by omega)
    have e3 : ldX X c 0 = 0 := (if_neg (by omega)).trans ((hx.2.2.1 0 (by omega) (by omega)).trans (dfl_0 (by omega)))
    rw [if_pos r, if_pos e1, e2, e3, e1, (hx.2.2.2.1 b hb).2.2.1]
    have n := (hx.2.2.2.1 b hb).2.1
    by_cases g : X (273 + b) = 0
    · rw [if_pos g, if_neg (by rw [g]; decide)]
    · rw [if_neg g, if_pos ?_]
      have e4 : (X (273 + b)).toInt = (nN (X (273 + b)) : Int) := (congrArg Int32.toInt n.1).trans (nI_ti (by have := n.2; omega))
      have e5 : nN (X (273 + b)) ≠ 0 := fun e => g (n.1.trans (by rw [e]; rfl))
      rw [fa_lt, e4, show (0 : Int32).toInt = 0 from rfl]
      omega
  · rw [if_neg r]
    exact (if_neg (by omega)).symm
theorem ld_sr (hx : yX X kf c) (hk : kf ≤ 8) (hs : pSt0 X K0 dr kf c) (hq : Q 12 = nI kf) : SR 0 kf Q (adA c K0) dr X := by
  have hc := hx.1.2.1
  have hY := ldX_y (X := X) hc
  have h3 := adA_same (ld_rv hx hk hs) (ld_mw hx hk hY hq)
  rw [ld_mc hx hY] at h3
  have h4 := ld_mw hx hk (yX_y hx) hq
  have h5 := ld_mc hx (yX_y hx)
  have x0 : X 0 = 0 := (hx.2.2.1 0 (by omega) (by omega)).trans (dfl_0 (by omega))
  refine ⟨(ld_ag hx).rv (fun i => ?_) h3, h4, ⟨0, x0, by omega⟩, hx.1.2.2.1, fun f hf => hx.2.1 f hf, fun b hb => ?_, ?_, fun b hb => ?_, fun b hb => ?_⟩
  · by_cases hi : i < 2086
    · rw [← ld_ag hx i hi]
      exact h4.1.1 i
    · exact ⟨fun e => by omega, fun e => by omega, fun e1 e2 => by omega, fun e1 e2 => by omega, fun e1 e2 => by omega, fun e1 e2 => by omega, fun e1 e2 => by omega⟩
  · rw [h5] at hb
    exact (hx.2.2.2.1 b hb).2.1.up (by omega)
  · rw [x0]
    exact nB_0 (by omega)
  · by_cases g : b < c
    · exact Or.inl (hx.2.2.2.1 b g).2.2.2.1
    · rw [(hx.2.2.2.2 b (by omega) hb).2.1]
      exact Or.inr (nB_0 (by omega))
  · by_cases g : b < c
    · exact Or.inl (hx.2.2.2.1 b g).2.2.2.2.2.2
    · rw [(hx.2.2.2.2 b (by omega) hb).2.2]
      exact Or.inr (nB_0 (by omega))
end L25
