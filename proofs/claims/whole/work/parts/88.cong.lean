/-! LINES: what the numbers of nodes don't change; positions only grow -/
def eqN (M N : JV) : Prop := ∀ j, j < 31 ∨ 33 < j → M j = N j
theorem eqN.w {M N : JV} {j : Nat} {v : Int32} (h : eqN M N) : eqN (w1 M j v) (w1 N j v) := fun i hi => by
  by_cases e : i = j
  · rw [e, w1_eq, w1_eq]
  · rw [w1_ne e, w1_ne e]; exact h i hi
theorem anyU_cg {f g : Nat → Bool} : ∀ {n : Nat}, (∀ i, i < n → f i = g i) → anyU f n = anyU g n
  | 0, _ => rfl
  | n + 1, h => by
    show (anyU f n || f n) = (anyU g n || g n)
    rw [anyU_cg (fun i hi => h i (by omega)), h n (by omega)]
theorem tkn_cg {M N : JV} {kf kl : Nat} (h : eqN M N) (hf : kf ≤ 8) (hl : kl ≤ 4) : tkn M kf kl = tkn N kf kl := by
  funext w
  unfold tkn
  rw [h 1 (by omega), h 2 (by omega), anyU_cg (f := fun i => decide (M (15 + i) = w)) (g := fun i => decide (N (15 + i) = w)) (fun i hi => by rw [h (15 + i) (by omega)]), anyU_cg (f := fun i => decide (M (23 + i) = w)) (g := fun i => decide (N (23 + i) = w)) (fun i hi => by rw [h (23 + i) (by omega)])]
section C88
variable {b : Nat → Nat} {E kf kl sz : Nat} {M N X : JV} {r : Res Unit}
theorem fl_2 (h : eqN M N) (hf : kf ≤ 8) (hl : kl ≤ 4) : flr2 b E kf kl sz M r = flr2 b E kf kl sz N r := by
  show rU (rPo b E (fun v => tkn M kf kl (nI v)) sz (rBg b E 8 kf r)) = rU (rPo b E (fun v => tkn N kf kl (nI v)) sz (rBg b E 8 kf r))
  rw [tkn_cg h hf hl]
theorem fl_v4 (h : eqN M N) (hf : kf ≤ 8) (hl : kl ≤ 4) : fv4 b E kf kl sz M r = fv4 b E kf kl sz N r ∧ flr3 b E kf kl sz M r = flr3 b E kf kl sz N r := by
  unfold fv4 flr3
  rw [fl_2 h hf hl]
  exact ⟨rfl, rfl⟩
theorem fl_v5 (h : eqN M N) (hf : kf ≤ 8) (hl : kl ≤ 4) : fv5 b E kf kl sz M r = fv5 b E kf kl sz N r ∧ flr4 b E kf kl sz M r = flr4 b E kf kl sz N r := by
  unfold fv5 flr4
  rw [(fl_v4 h hf hl).1, (fl_v4 h hf hl).2]
  exact ⟨rfl, rfl⟩
theorem fl_N (h : eqN M N) : eqN (flN b E kf kl sz M r) (flN b E kf kl sz N r) := by
  unfold flN
  rw [show flr1 b E kf kl sz M r = flr1 b E kf kl sz N r from rfl, show fv3 b E kf kl sz M r = fv3 b E kf kl sz N r from rfl]
  cases flr1 b E kf kl sz N r with
  | inl e => exact h
  | inr x => exact h.w.w
theorem fl_X (h : eqN M N) (hf : kf ≤ 8) (hl : kl ≤ 4) : flX b E kf kl sz M r X = flX b E kf kl sz N r X := by
  unfold flX
  rw [show flr1 b E kf kl sz M r = flr1 b E kf kl sz N r from rfl, (fl_v4 h hf hl).1, (fl_v5 h hf hl).1]
theorem la_2 (h : eqN M N) (hf : kf ≤ 8) (hl : kl ≤ 4) : lar2 b E kf kl sz M r = lar2 b E kf kl sz N r := by
  show rU (rPo b E (fun v => tkn M kf kl (nI v)) sz (rBg b E 4 kl r)) = rU (rPo b E (fun v => tkn N kf kl (nI v)) sz (rBg b E 4 kl r))
  rw [tkn_cg h hf hl]
theorem la_v4 (h : eqN M N) (hf : kf ≤ 8) (hl : kl ≤ 4) : lv4 b E kf kl sz M r = lv4 b E kf kl sz N r ∧ lar3 b E kf kl sz M r = lar3 b E kf kl sz N r := by
  unfold lv4 lar3
  rw [la_2 h hf hl]
  exact ⟨rfl, rfl⟩
theorem la_N (h : eqN M N) (hf : kf ≤ 8) (hl : kl ≤ 4) : eqN (laN b E kf kl sz M r) (laN b E kf kl sz N r) := by
  unfold laN
  rw [show lar1 b E kf kl sz M r = lar1 b E kf kl sz N r from rfl, show lv3 b E kf kl sz M r = lv3 b E kf kl sz N r from rfl, (la_v4 h hf hl).1]
  cases lar1 b E kf kl sz N r with
  | inl e => exact h
  | inr x => exact h.w.w.w
theorem sh_N {ksq : Nat} (h : eqN M N) : eqN (shN b E ksq r M) (shN b E ksq r N) := by
  unfold shN
  cases shr1 b E ksq r with
  | inl e => exact h
  | inr x => exact h.w.w.w.w.w
/-- positions only grow -/
theorem rNu_ge {lo hx : Nat} {x : Unit × Nat} {G : JV} (hs : mSt b E r G) (h : rU (rNu b E lo hx r) = .inr x) : ∃ y, r = .inr y ∧ y.2 ≤ x.2 := by
  cases r with
  | inl e => cases h
  | inr y =>
    refine ⟨y, rfl, ?_⟩
    obtain ⟨v, hq⟩ := rU_inr h
    have h1 := (pNum_o hq).2.1
    have h2 := tN_bd (b := b) hs.2.1
    have h3 : x.2 = tN b E y.2 := congrArg Prod.snd h1
    omega
theorem rPo_ge {t : Nat → Bool} {hx : Nat} {x : Unit × Nat} {G : JV} (hs : mSt b E r G) (h : rU (rPo b E t hx r) = .inr x) : ∃ y, r = .inr y ∧ y.2 ≤ x.2 := by
  cases r with
  | inl e => cases h
  | inr y =>
    refine ⟨y, rfl, ?_⟩
    rw [rU_Po] at h
    have h2 := tN_bd (b := b) hs.2.1
    unfold rPk at h
    split at h
    · unfold rLk at h
      dsimp only [Res.bd] at h
      cases hn : pNum b E 0 hx y.2 with
      | inl e => rw [hn] at h; cases h
      | inr u => rw [hn] at h; cases h
    · unfold rLk at h
      dsimp only [Res.bd] at h
      cases hn : pNum b E 0 hx y.2 with
      | inl e => rw [hn] at h; cases h
      | inr u => rw [hn] at h; cases h; exact h2.2.2.1
theorem rBg_ge {most n : Nat} {x : Unit × Nat} {G : JV} (hs : mSt b E r G) (h : rBg b E most n r = .inr x) : ∃ y, r = .inr y ∧ y.2 ≤ x.2 := by
  have hn := rBg_n h
  unfold rBg at h
  rw [if_neg hn] at h
  cases r with
  | inl e => cases h
  | inr y =>
    cases h
    exact ⟨y, rfl, (tN_bd (b := b) hs.2.1).2.2.1⟩
end C88
