/-! THE COMPONENT'S STATE K (draws r) AND THE MODEL'S STATE X SAY THE SAME -/
def pSt_ (X : JV) (q : Nat) : Nat → Bool := fun b => decide (X (373 + b) = nI q)
def evX (X : JV) (e : Nat) : Int32 := X (873 + 4 * e) <<< ((14 : Int32) &&& 31) ||| X (873 + 4 * e + 1) <<< ((10 : Int32) &&& 31) ||| X (873 + 4 * e + 2) <<< ((3 : Int32) &&& 31) ||| X (873 + 4 * e + 3)
def RVe (K : JI) (X : JV) (e : Nat) : Prop := K 18 e = evX X e ∧ nB 16384 (X (873 + 4 * e)) ∧ nB 16 (X (873 + 4 * e + 1)) ∧ nB 128 (X (873 + 4 * e + 2)) ∧ nB 8 (X (873 + 4 * e + 3))
/-- entry j of cell k of the component is entry i of the model -/
def mt (k j i : Nat) : Prop := (k = 0 ∧ (j = 0 ∧ i = 0 ∨ j = 2 ∧ i = 4 ∨ j = 3 ∧ i = 2085 ∨ j = 14 ∧ i = 3)) ∨ (k = 1 ∧ j = 0 ∧ i = 2) ∨ (k = 2 ∧ j < 100 ∧ i = 373 + j) ∨ (k = 3 ∧ j < 100 ∧ i = 173 + j) ∨ (k = 4 ∧ j < 100 ∧ i = 273 + j) ∨ (k = 5 ∧ j < 100 ∧ i = 573 + j) ∨ (k = 6 ∧ j < 100 ∧ i = 673 + j) ∨ (k = 9 ∧ j < 8 ∧ i = 5 + j) ∨ (k = 10 ∧ j < 8 ∧ i = 13 + j) ∨ (k = 11 ∧ j < 4 ∧ i = 25 + j) ∨ (k = 12 ∧ j < 4 ∧ i = 21 + j) ∨ (k = 13 ∧ j < 80 ∧ i = 29 + j) ∨ (k = 14 ∧ j < 40 ∧ i = 133 + j) ∨ (k = 15 ∧ j < 12 ∧ i = 109 + j) ∨ (k = 17 ∧ j < 12 ∧ i = 2073 + j)
/-- which entries count -/
def vd (nf : Nat) (X : JV) (k j : Nat) : Prop := (2 ≤ k → k ≤ 6 → j < mC X) ∧ (k = 9 ∨ k = 10 → j < nf) ∧ (k = 13 → j % 20 < mHe X (j / 20))
def RVm (nf : Nat) (K : JI) (X : JV) : Prop := ∀ k j i, mt k j i → vd nf X k j → K k j = X i
def RV (nf : Nat) (K : JI) (r : Int64) (X : JV) : Prop := RVm nf K X ∧
  (∃ n, n < 2 ^ 31 ∧ X 1 = nI n ∧ r = Int64.ofNat n) ∧
  (∀ b, b < mC X → 10 ≤ xSt X b → K 7 b = X (773 + b)) ∧
  (∀ k, k < 12 → X (109 + k) = -1 ∨ K 16 k = X (121 + k)) ∧
  (∀ q, q < 14 → K 8 q = nI (fb_ct (pSt_ X q) (mC X))) ∧
  (∀ e, e < mE X → RVe K X e)
theorem mt_inj1 {k j i k' j' i' : Nat} (h : mt k j i) (h' : mt k' j' i') (e : i = i') : k = k' ∧ j = j' := by
  unfold mt at h h'
  rcases h with h | h | h | h | h | h | h | h | h | h | h | h | h | h | h <;> rcases h' with g | g | g | g | g | g | g | g | g | g | g | g | g | g | g <;> omega
theorem mt_inj {k j i k' j' i' : Nat} (h : mt k j i) (h' : mt k' j' i') : (k = k' ∧ j = j') ↔ i = i' := by
  refine ⟨fun e => ?_, mt_inj1 h h'⟩
  obtain ⟨e1, e2⟩ := e
  subst e1; subst e2
  unfold mt at h h'
  rcases h with h | h | h | h | h | h | h | h | h | h | h | h | h | h | h <;> rcases h' with g | g | g | g | g | g | g | g | g | g | g | g | g | g | g <;> omega
theorem mt_f {k j i : Nat} (h : mt k j i) : (k = 13 → j < 80) ∧ (i < 473 ∨ 573 ≤ i) ∧ i ≠ 1 ∧ (i < 121 ∨ 133 ≤ i) ∧ (i < 773 ∨ 2073 ≤ i) ∧ k ≠ 7 ∧ k ≠ 8 ∧ k ≠ 16 ∧ k ≠ 18 ∧ (i = 2 → k = 1) ∧ (i = 3 → k = 0 ∧ j = 14) ∧ (21 ≤ i → i < 25 → k = 12) ∧ (109 ≤ i → i < 121 → k = 15) ∧ (373 ≤ i → i < 473 → k = 2 ∧ i = 373 + j) ∧ (k = 2 → i = 373 + j) := by
  unfold mt at h
  rcases h with h | h | h | h | h | h | h | h | h | h | h | h | h | h | h <;> omega
theorem mt2 {j : Nat} (h : j < 100) : mt 2 j (373 + j) := (Or.inr (Or.inr (Or.inl ⟨rfl, h, rfl⟩)))
theorem mt3 {j : Nat} (h : j < 100) : mt 3 j (173 + j) := (Or.inr (Or.inr (Or.inr (Or.inl ⟨rfl, h, rfl⟩))))
theorem mt4 {j : Nat} (h : j < 100) : mt 4 j (273 + j) := (Or.inr (Or.inr (Or.inr (Or.inr (Or.inl ⟨rfl, h, rfl⟩)))))
theorem mt5 {j : Nat} (h : j < 100) : mt 5 j (573 + j) := (Or.inr (Or.inr (Or.inr (Or.inr (Or.inr (Or.inl ⟨rfl, h, rfl⟩))))))
theorem mt6 {j : Nat} (h : j < 100) : mt 6 j (673 + j) := (Or.inr (Or.inr (Or.inr (Or.inr (Or.inr (Or.inr (Or.inl ⟨rfl, h, rfl⟩)))))))
theorem mt9 {j : Nat} (h : j < 8) : mt 9 j (5 + j) := (Or.inr (Or.inr (Or.inr (Or.inr (Or.inr (Or.inr (Or.inr (Or.inl ⟨rfl, h, rfl⟩))))))))
theorem mt10 {j : Nat} (h : j < 8) : mt 10 j (13 + j) := (Or.inr (Or.inr (Or.inr (Or.inr (Or.inr (Or.inr (Or.inr (Or.inr (Or.inl ⟨rfl, h, rfl⟩)))))))))
theorem mt11 {j : Nat} (h : j < 4) : mt 11 j (25 + j) := (Or.inr (Or.inr (Or.inr (Or.inr (Or.inr (Or.inr (Or.inr (Or.inr (Or.inr (Or.inl ⟨rfl, h, rfl⟩))))))))))
theorem mt12 {j : Nat} (h : j < 4) : mt 12 j (21 + j) := (Or.inr (Or.inr (Or.inr (Or.inr (Or.inr (Or.inr (Or.inr (Or.inr (Or.inr (Or.inr (Or.inl ⟨rfl, h, rfl⟩)))))))))))
theorem mt13 {j : Nat} (h : j < 80) : mt 13 j (29 + j) := (Or.inr (Or.inr (Or.inr (Or.inr (Or.inr (Or.inr (Or.inr (Or.inr (Or.inr (Or.inr (Or.inr (Or.inl ⟨rfl, h, rfl⟩))))))))))))
theorem mt14 {j : Nat} (h : j < 40) : mt 14 j (133 + j) := (Or.inr (Or.inr (Or.inr (Or.inr (Or.inr (Or.inr (Or.inr (Or.inr (Or.inr (Or.inr (Or.inr (Or.inr (Or.inl ⟨rfl, h, rfl⟩)))))))))))))
theorem mt15 {j : Nat} (h : j < 12) : mt 15 j (109 + j) := (Or.inr (Or.inr (Or.inr (Or.inr (Or.inr (Or.inr (Or.inr (Or.inr (Or.inr (Or.inr (Or.inr (Or.inr (Or.inr (Or.inl ⟨rfl, h, rfl⟩))))))))))))))
theorem mt17 {j : Nat} (h : j < 12) : mt 17 j (2073 + j) := (Or.inr (Or.inr (Or.inr (Or.inr (Or.inr (Or.inr (Or.inr (Or.inr (Or.inr (Or.inr (Or.inr (Or.inr (Or.inr (Or.inr ⟨rfl, h, rfl⟩))))))))))))))
theorem mt00 : mt 0 0 0 := Or.inl ⟨rfl, Or.inl ⟨rfl, rfl⟩⟩
theorem mt02 : mt 0 2 4 := Or.inl ⟨rfl, Or.inr (Or.inl ⟨rfl, rfl⟩)⟩
theorem mt03 : mt 0 3 2085 := Or.inl ⟨rfl, Or.inr (Or.inr (Or.inl ⟨rfl, rfl⟩))⟩
theorem mt014 : mt 0 14 3 := Or.inl ⟨rfl, Or.inr (Or.inr (Or.inr ⟨rfl, rfl⟩))⟩
theorem mt1 : mt 1 0 2 := Or.inr (Or.inl ⟨rfl, rfl, rfl⟩)
theorem u2_at {K : JI} {k j : Nat} {v : Int32} : u2 K k j v k j = v := by rw [u2_ap, if_pos rfl, if_pos rfl]
theorem u2_nj {K : JI} {k j i : Nat} {v : Int32} (h : i ≠ j) : u2 K k j v k i = K k i := by rw [u2_ap, if_pos rfl, if_neg h]
/-- bag b from state s to s', as the component counts it -/
def kC2 (K : JI) (b s s' : Nat) : JI := u2 (u2 (u2 K 8 s (K 8 s - 1)) 8 s' (u2 K 8 s (K 8 s - 1) 8 s' + 1)) 2 b (nI s')
theorem kCh_C2 {K : JI} {b s s' : Nat} (hb : b < 100) (hs : s < 14) (hs' : s' < 14) (h : K 2 b = nI s) : kCh K (nI b) (nI s') = kC2 K b s s' := by
  unfold kCh kCh2 kCh1 kC2
  rw [atV_nI hb (by omega), h, putI_nI hs (by omega), atV_nI hs (by omega), putI_nI hs' (by omega), atV_nI hs' (by omega), putI_nI hb (by omega)]
theorem kC2_ne {K : JI} {b s s' k : Nat} (h2 : k ≠ 2) (h8 : k ≠ 8) : kC2 K b s s' k = K k := by
  unfold kC2
  rw [u2_ne h2, u2_ne h8, u2_ne h8]
theorem ct_set {X : JV} {b s s' q c : Nat} (hb : b < c) (hs : s < 14) (hs' : s' < 14) (hq : q < 14) (h : X (373 + b) = nI s) : fb_ct (pSt_ (w1 X (373 + b) (nI s')) q) c + (if s = q then 1 else 0) = fb_ct (pSt_ X q) c + (if s' = q then 1 else 0) := by
  have e := fb_ct_upd (pSt_ X q) (decide (nI s' = nI q)) (i := b) (n := c) hb
  have e1 : ∀ x, x < 14 → ((decide (nI x = nI q)) = true ↔ x = q) := fun x hx => by
    rw [decide_eq_true_iff]
    exact ⟨fun w => nI_inj' (by omega) (by omega) w, fun w => by rw [w]⟩
  have e2 : fb_ct (pSt_ (w1 X (373 + b) (nI s')) q) c = fb_ct (fun k => if k = b then decide (nI s' = nI q) else pSt_ X q k) c := fb_ct_cong fun k hk => by
    unfold pSt_
    by_cases w : k = b
    · subst w; rw [if_pos rfl, w1_eq]
    · rw [if_neg w, w1_ne (by omega)]
  rw [← e2] at e
  have e3 : (if pSt_ X q b = true then 1 else 0) = if s = q then 1 else 0 := by
    unfold pSt_
    rw [h]
    by_cases w : s = q
    · rw [if_pos ((e1 s hs).mpr w), if_pos w]
    · rw [if_neg (fun v => w ((e1 s hs).mp v)), if_neg w]
  have e4 : (if decide (nI s' = nI q) = true then 1 else 0) = if s' = q then 1 else 0 := by
    by_cases w : s' = q
    · rw [if_pos ((e1 s' hs').mpr w), if_pos w]
    · rw [if_neg (fun v => w ((e1 s' hs').mp v)), if_neg w]
  rw [e3, e4] at e
  exact e
theorem RV.c2 {nf : Nat} {K : JI} {r : Int64} {X : JV} {b s s' : Nat} (h : RV nf K r X) (hc : mC X ≤ 100) (hb : b < mC X) (hs : s < 14) (hs' : s' < 14) (h8 : X (373 + b) = nI s) : (∀ q, q < 14 → kC2 K b s s' 8 q = nI (fb_ct (pSt_ (w1 X (373 + b) (nI s')) q) (mC X))) := by
  obtain ⟨_, _, _, _, hct, _⟩ := h
  intro q hq
  have e := ct_set (q := q) hb hs hs' hq h8
  have hle : 1 ≤ fb_ct (pSt_ X s) (mC X) := fb_ct_pos.mpr ⟨b, hb, by unfold pSt_; rw [h8]; exact decide_eq_true rfl⟩
  have hdec : ∀ n, 1 ≤ n → nI n - 1 = nI (n - 1) := fun n hn => by
    have := nI_pred (n - 1)
    rw [show n - 1 + 1 = n by omega] at this
    exact this
  unfold kC2
  rw [u2_ne (by omega)]
  by_cases w : q = s'
  · subst w
    rw [u2_at]
    by_cases v : q = s
    · subst v
      rw [u2_at, hct q hq, hdec _ hle, ← nI_succ]
      congr 1
      repeat' split at e
      all_goals omega
    · rw [u2_nj v, hct q hq, ← nI_succ]
      congr 1
      repeat' split at e
      all_goals omega
  · rw [u2_nj w]
    by_cases v : q = s
    · subst v
      rw [u2_at, hct q hq, hdec _ hle]
      congr 1
      repeat' split at e
      all_goals omega
    · rw [u2_nj v, hct q hq]
      congr 1
      repeat' split at e
      all_goals omega
theorem mt_upd {K : JI} {X : JV} {k j i k' j' i' : Nat} {v : Int32} (h : mt k j i) (h' : mt k' j' i') (he : K k' j' = X i') : u2 K k j v k' j' = w1 X i v i' := by
  have hi := mt_inj h h'
  by_cases e : i = i'
  · obtain ⟨e1, e2⟩ := hi.mpr e
    subst e1; subst e2; subst e
    rw [u2_at, w1_eq]
  · rw [w1_ne (fun w => e w.symm)]
    by_cases e1 : k' = k
    · subst e1
      rw [u2_nj (fun w => e (hi.mp ⟨rfl, w.symm⟩))]
      exact he
    · rw [u2_ne e1]; exact he
theorem RV.get {nf : Nat} {K : JI} {r : Int64} {X : JV} (h : RV nf K r X) {k j i : Nat} (hm : mt k j i) (hv : vd nf X k j) : K k j = X i := h.1 k j i hm hv
theorem RV.st {nf : Nat} {K : JI} {r : Int64} {X : JV} (h : RV nf K r X) {b : Nat} (hc : mC X ≤ 100) (hb : b < mC X) : K 2 b = X (373 + b) := h.get (mt2 (by omega)) ⟨fun _ _ => hb, fun e => by omega, fun e => by omega⟩
/-- one entry that both have, not one that the ranges or the counts hang on -/
theorem RV.set {nf : Nat} {K : JI} {r : Int64} {X : JV} {k j i : Nat} {v : Int32} (h : RV nf K r X) (hX : mI X) (hm : mt k j i) (hk : k ≠ 1 ∧ k ≠ 2 ∧ k ≠ 12 ∧ k ≠ 15 ∧ (k = 0 → j ≠ 14)) : RV nf (u2 K k j v) r (w1 X i v) := by
  obtain ⟨h1, h2, h3, h4, h5, h6⟩ := h
  have hc := hX.c.2
  have hE := hX.e.2
  have hm' := mt_f hm
  have hi : i ≠ 2 ∧ i ≠ 1 ∧ i ≠ 3 ∧ (i < 21 ∨ 25 ≤ i) ∧ (i < 109 ∨ 133 ≤ i) ∧ (i < 373 ∨ 473 ≤ i) ∧ (i < 773 ∨ 2073 ≤ i) := by omega
  have hkk : k ≠ 7 ∧ k ≠ 8 ∧ k ≠ 16 ∧ k ≠ 18 := by omega
  have hC : mC (w1 X i v) = mC X := mC_w1 (by omega)
  have hHe : ∀ l, l < 4 → mHe (w1 X i v) l = mHe X l := fun l hl => mHe_w1 (by omega)
  have hEe : mE (w1 X i v) = mE X := mE_w1 (by omega)
  refine ⟨fun k' j' i' hm2 hv => ?_, ?_, fun b hb => ?_, fun m hm2 => ?_, fun q hq => ?_, fun e he => ?_⟩
  · refine mt_upd hm hm2 (h1 k' j' i' hm2 ?_)
    unfold vd at hv ⊢
    rw [hC] at hv
    refine ⟨hv.1, hv.2.1, fun e => ?_⟩
    have := hv.2.2 e
    rw [hHe _ (by have := (mt_f hm2).1 e; omega)] at this
    exact this
  · rw [w1_ne (by omega)]; exact h2
  · rw [hC] at hb
    rw [xSt_w1 (by omega), u2_ne (by omega), w1_ne (by omega)]; exact h3 b hb
  · rw [u2_ne (by omega), w1_ne (by omega), w1_ne (by omega)]; exact h4 m hm2
  · rw [u2_ne (by omega), hC, h5 q hq]
    congr 1
    exact fb_ct_cong fun x hx => by unfold pSt_; rw [w1_ne (by omega)]
  · rw [hEe] at he
    unfold RVe evX
    rw [u2_ne (by omega), w1_ne (by omega), w1_ne (by omega), w1_ne (by omega), w1_ne (by omega)]
    exact h6 e he
theorem RV.place {nf : Nat} {K : JI} {r : Int64} {X : JV} {i : Nat} {v : Int32} (h : RV nf K r X) (hX : mI X) (hi : 473 ≤ i ∧ i < 573) : RV nf K r (w1 X i v) := by
  obtain ⟨h1, h2, h3, h4, h5, h6⟩ := h
  have hc := hX.c.2
  have hC : mC (w1 X i v) = mC X := mC_w1 (by omega)
  have hEe : mE (w1 X i v) = mE X := mE_w1 (by omega)
  refine ⟨fun k' j' i' hm2 hv => ?_, ?_, fun b hb => ?_, fun m hm2 => ?_, fun q hq => ?_, fun e he => ?_⟩
  · rw [w1_ne (by have := mt_f hm2; omega)]
    refine h1 k' j' i' hm2 ?_
    unfold vd at hv ⊢
    rw [hC] at hv
    refine ⟨hv.1, hv.2.1, fun e => ?_⟩
    have := hv.2.2 e
    rw [mHe_w1 (by have := (mt_f hm2).1 e; omega)] at this
    exact this
  · rw [w1_ne (by omega)]; exact h2
  · rw [hC] at hb
    rw [xSt_w1 (by omega), w1_ne (by omega)]; exact h3 b hb
  · rw [w1_ne (by omega), w1_ne (by omega)]; exact h4 m hm2
  · rw [hC, h5 q hq]
    congr 1
    exact fb_ct_cong fun x hx => by unfold pSt_; rw [w1_ne (by omega)]
  · rw [hEe] at he
    unfold RVe evX
    rw [w1_ne (by omega), w1_ne (by omega), w1_ne (by omega), w1_ne (by omega)]
    exact h6 e he
