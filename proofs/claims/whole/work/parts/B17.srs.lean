/-! CHANGES OF A STATE, BOTH SIDES -/
section S17
variable {k nf c : Nat} {Q X : JV} {K P A : JI} {r : Int64} {j : Nat}
theorem SR.hot {m : Nat} (h : SR k nf Q K r X) (hm : m ≤ 999) (hn : nf ≤ 8) : SR k nf Q (u2 K 0 2 (nI m)) r (w1 X 4 (nI m)) := by
  obtain ⟨⟨t, b0, b1⟩, b2, b3, b4, b5⟩ := h.2.2
  refine ⟨h.1.set h.i mt02 (by omega), h.2.1.fr (by unfold fre; omega) (rg_free (by omega)), ⟨t, by rw [w1_ne (by omega)]; exact b0, b1⟩, by rw [w1_eq]; exact nB_nI (by omega) (by omega), fun f hf => by rw [w1_ne (by omega), w1_ne (by omega)]; exact b3 f hf, fun b hb => ?_, b5.o (by omega)⟩
  rw [mC_w (by omega)] at hb
  rw [w1_ne (by omega)]
  exact b4 b hb
theorem mW.fl {e n f : Nat} (h : mW Q X e) (hq : Q 12 = nI nf) (hn : nf ≤ 8) (hf : f < nf) (hc1 : n < 100) : mW Q (w1 X (173 + n) (nI f)) e := by
  have hc := h.c
  have h20 : ∀ l, l < 4 → mHe X l ≤ 20 := fun l hl => h.h20 hl
  obtain ⟨hJ, hS, r1, r2, r3, r4⟩ := h
  have hC : mC (w1 X (173 + n) (nI f)) = mC X := mC_w1 (by omega)
  refine ⟨hJ.set (by unfold rg; exact ⟨fun _ => by omega, fun _ => by omega, fun _ _ => by omega, fun _ _ => by omega, fun _ _ => by omega, fun _ _ => by omega, fun _ _ => nB_nI (by omega) (by omega)⟩) (by omega), ?_, fun k hk => ?_, fun b hb => ?_, fun b hb he => ?_, fun b hb => ?_⟩
  · unfold sI
    rw [hC]
    exact hS.ext (fun p hp => xLo_w1 (by omega)) (fun x hx => xSt_w1 (by omega)) (fun x hx => xPl_w1 (by omega)) (fun l j hl hj => xLa_w1 (by have := h20 l hl; omega)) (fun l hl => mHe_w1 (by omega)) (fun k hk => xOw_w1 (by omega))
  · rw [w1_ne (by omega), w1_ne (by omega)]; exact r1 k hk
  · rw [hC] at hb
    rw [xSt_w1 (by omega), w1_ne (by omega)]; exact r2 b hb
  · rw [hC] at hb
    rw [xSt_w1 (by omega), w1_ne (by omega)]; exact r3 b hb he
  · rw [hC] at hb
    by_cases e9 : b = n
    · subst e9
      unfold mF
      rw [w1_eq, nN_nI (by omega), hq, nN_nI (by omega)]
      exact hf
    · unfold mF
      rw [w1_ne (by omega)]
      exact r4 b hb
theorem SR.fl {n f : Nat} (h : SR k nf Q K r X) (hq : Q 12 = nI nf) (hn : nf ≤ 8) (hf : f < nf) (hc1 : n < 100) : SR k nf Q (u2 K 3 n (nI f)) r (w1 X (173 + n) (nI f)) := by
  obtain ⟨⟨t, b0, b1⟩, b2, b3, b4, b5⟩ := h.2.2
  refine ⟨h.1.set h.i (mt3 (by omega)) (by omega), h.2.1.fl hq hn hf hc1, ⟨t, by rw [w1_ne (by omega)]; exact b0, b1⟩, by rw [w1_ne (by omega)]; exact b2, fun f hf => by rw [w1_ne (by omega), w1_ne (by omega)]; exact b3 f hf, fun b hb => ?_, b5.o (by omega)⟩
  rw [mC_w (by omega)] at hb
  have := h.c
  rw [w1_ne (by omega)]
  exact b4 b hb
theorem be_same {X : JV} {b i : Nat} {v : Int32} (hi : i ≠ 3 ∧ i ≠ 373 + b ∧ i ≠ 773 + b ∧ i < 873) : mBe X b v i = X i := by
  unfold mBe mBe1 mBe2
  split <;> (repeat (rw [w1_ne (by omega)]))
theorem SR.off {n : Nat} (h : SR k nf Q K r X) (hn : n < mC X) (h10 : X (373 + n) = 10) (h8 : nf ≤ 8) : SR k nf Q (kEn K (nI n) 13) r (mBe X n 13) := by
  have hc := h.c
  obtain ⟨⟨t, b0, b1⟩, b2, b3, b4, b5⟩ := h.2.2
  have h10' : xSt X n = 10 := by unfold xSt; rw [h10]; rfl
  have hw := (h.2.1.hang (b := n) (by rw [h10']; unfold lo_; omega)).beF (s := 13) (by omega) (by omega) (by omega)
  have ec : mC (mBe X n 13) = mC X := by unfold mC; rw [be_same (by omega)]
  refine ⟨h.1.enHi (s := 10) (s' := 13) h.i hn (by omega) (by omega) (by omega) h10 (by rw [b0]; exact nB_nI (by omega) (by omega)), hw, ⟨t, by rw [be_same (by omega)]; exact b0, b1⟩, by rw [be_same (by omega)]; exact b2, fun f hf => by rw [be_same (by omega), be_same (by omega)]; exact b3 f hf, fun b hb => ?_, pp_be b5 (by omega)⟩
  rw [ec] at hb
  rw [be_same (by omega)]
  exact b4 b hb
/-! one bag more -/
theorem ad_o {t f : Int32} {i : Nat} (h : i ≠ 2 ∧ i ≠ 173 + c ∧ i ≠ 273 + c ∧ i ≠ 373 + c ∧ i ≠ 473 + c ∧ i ≠ 573 + c ∧ i ≠ 673 + c ∧ i ≠ 773 + c) : mAd1 t f X c i = X i := by
  unfold mAd1
  rw [w1_ne (by omega), w1_ne (by omega), w1_ne (by omega), w1_ne (by omega), w1_ne (by omega), w1_ne (by omega), w1_ne (by omega), w1_ne (by omega)]
theorem ad_c {t f : Int32} (hc : c < 100) (ht : X 0 < t) : mAd1 t f X c 2 = nI (c + 1) ∧ mAd1 t f X c (173 + c) = f ∧ mAd1 t f X c (273 + c) = t ∧ mAd1 t f X c (373 + c) = 0 ∧ mAd1 t f X c (473 + c) = -1 ∧ mAd1 t f X c (573 + c) = 0 ∧ mAd1 t f X c (673 + c) = 0 ∧ mAd1 t f X c (773 + c) = -1 := by
  unfold mAd1
  refine ⟨w1_eq, ?_, ?_, ?_, ?_, ?_, ?_, ?_⟩
  · rw [w1_ne (by omega), w1_ne (by omega), w1_ne (by omega), w1_ne (by omega), w1_ne (by omega), w1_ne (by omega), w1_ne (by omega), w1_eq]
  · rw [w1_ne (by omega), w1_ne (by omega), w1_ne (by omega), w1_ne (by omega), w1_ne (by omega), w1_ne (by omega), w1_eq]
  · rw [w1_ne (by omega), w1_ne (by omega), w1_ne (by omega), w1_ne (by omega), w1_ne (by omega), w1_eq, if_pos ht]
  · rw [w1_ne (by omega), w1_ne (by omega), w1_ne (by omega), w1_ne (by omega), w1_eq]
  · rw [w1_ne (by omega), w1_ne (by omega), w1_ne (by omega), w1_eq]
  · rw [w1_ne (by omega), w1_ne (by omega), w1_eq]
  · rw [w1_ne (by omega), w1_eq]
theorem kAd_ap {t f : Int32} (b i : Nat) : kAd K c t f b i = if b = 8 then (if i = 0 then K 8 0 + 1 else K 8 i) else if b = 1 then (if i = 0 then nI (c + 1) else K 1 i) else if i = c ∧ 2 ≤ b ∧ b ≤ 7 then (if b = 2 then 0 else if b = 3 then f else if b = 4 then t else if b = 5 then 0 else if b = 6 then 0 else -1) else K b i := by
  unfold kAd
  simp only [u2_ap]
  by_cases h8 : b = 8
  · subst h8; simp
  · by_cases h1 : b = 1
    · subst h1; simp
    · have : b = 0 ∨ b = 2 ∨ b = 3 ∨ b = 4 ∨ b = 5 ∨ b = 6 ∨ b = 7 ∨ 9 ≤ b := by omega
      rcases this with rfl | rfl | rfl | rfl | rfl | rfl | rfl | h9
      · simp
      · by_cases hi : i = c <;> simp [hi]
      · by_cases hi : i = c <;> simp [hi]
      · by_cases hi : i = c <;> simp [hi]
      · by_cases hi : i = c <;> simp [hi]
      · by_cases hi : i = c <;> simp [hi]
      · by_cases hi : i = c <;> simp [hi]
      · rw [if_neg (by omega), if_neg (by omega), if_neg (by omega), if_neg (by omega), if_neg (by omega), if_neg (by omega), if_neg (by omega), if_neg (by omega), if_neg (by omega), if_neg (by omega), if_neg (by omega)]
theorem SR.add1 {ta fv : Nat} (h : SR k nf Q K r X) (hmc : mC X = c) (hc : c < 100) (ht : X 0 < nI ta) (hta : ta < 11000) (hfv : fv < nf) (hn : nf ≤ 8) (hq : Q 12 = nI nf) : SR k nf Q (kAd K c (nI ta) (nI fv)) r (mAd1 (nI ta) (nI fv) X c) ∧ mC (mAd1 (nI ta) (nI fv) X c) = c + 1 := by
  obtain ⟨e2, e173, e273, e373, e473, e573, e673, e773⟩ := ad_c (X := X) (f := nI fv) hc ht
  have hmc' : mC (mAd1 (nI ta) (nI fv) X c) = c + 1 := by unfold mC; rw [e2, nN_nI (by omega)]
  have hhe : ∀ l, l < 4 → mHe (mAd1 (nI ta) (nI fv) X c) l = mHe X l := fun l hl => by unfold mHe; rw [ad_o (by omega)]
  have hE : mE (mAd1 (nI ta) (nI fv) X c) = mE X := by unfold mE; rw [ad_o (by omega)]
  have hst : ∀ b, b < c → xSt (mAd1 (nI ta) (nI fv) X c) b = xSt X b := fun b hb => by unfold xSt; rw [ad_o (by omega)]
  have hstc : xSt (mAd1 (nI ta) (nI fv) X c) c = 0 := by unfold xSt; rw [e373]; rfl
  obtain ⟨⟨t, b0, b1⟩, b2, b3, b4, b5⟩ := h.2.2
  obtain ⟨q1, q2, q3, q4, q5, q6⟩ := h.1
  obtain ⟨hJ, hS, r1, r2, r3, r4⟩ := h.2.1
  refine ⟨⟨⟨?_, ?_, ?_, ?_, ?_, ?_⟩, ⟨?_, ?_, ?_, ?_, ?_, ?_⟩, ⟨t, ?_, b1⟩, ?_, ?_, ?_, ?_⟩, hmc'⟩
  · intro k' j i hm hv
    have hv0 : vd nf X k' j ∨ (2 ≤ k' ∧ k' ≤ 6 ∧ j = c) := by
      unfold vd at hv ⊢
      rw [hmc'] at hv
      rw [hmc]
      by_cases g : 2 ≤ k' ∧ k' ≤ 6 ∧ j = c
      · exact Or.inr g
      · refine Or.inl ⟨fun g1 g2 => ?_, hv.2.1, fun g1 => ?_⟩
        · have := hv.1 g1 g2
          omega
        · have := hv.2.2 g1
          by_cases g4 : j / 20 < 4
          · rw [hhe _ g4] at this
            exact this
          · exfalso
            unfold mt at hm
            omega
    have hm0 := hm
    unfold mt at hm
    rcases hm with ⟨rfl, hm⟩ | ⟨rfl, rfl, rfl⟩ | ⟨rfl, hj, rfl⟩ | ⟨rfl, hj, rfl⟩ | ⟨rfl, hj, rfl⟩ | ⟨rfl, hj, rfl⟩ | ⟨rfl, hj, rfl⟩ | ⟨rfl, hj, rfl⟩ | ⟨rfl, hj, rfl⟩ | ⟨rfl, hj, rfl⟩ | ⟨rfl, hj, rfl⟩ | ⟨rfl, hj, rfl⟩ | ⟨rfl, hj, rfl⟩ | ⟨rfl, hj, rfl⟩ | ⟨rfl, hj, rfl⟩
    · rw [kAd_ap, if_neg (by omega), if_neg (by omega), if_neg (by omega), ad_o (by omega)]
      exact q1 _ _ _ hm0 (hv0.resolve_right (by omega))
    · rw [kAd_ap, if_neg (by omega), if_pos rfl, if_pos rfl, e2]
    · rw [kAd_ap, if_neg (by omega), if_neg (by omega)]
      rcases hv0 with g | ⟨_, _, rfl⟩
      · have : j ≠ c := by have := g.1 (by omega) (by omega); omega
        rw [if_neg (by omega), ad_o (by omega)]
        exact q1 _ _ _ hm0 g
      · rw [if_pos (by omega), if_pos rfl, e373]
    · rw [kAd_ap, if_neg (by omega), if_neg (by omega)]
      rcases hv0 with g | ⟨_, _, rfl⟩
      · have : j ≠ c := by have := g.1 (by omega) (by omega); omega
        rw [if_neg (by omega), ad_o (by omega)]
        exact q1 _ _ _ hm0 g
      · rw [if_pos (by omega), if_neg (by omega), if_pos rfl, e173]
    · rw [kAd_ap, if_neg (by omega), if_neg (by omega)]
      rcases hv0 with g | ⟨_, _, rfl⟩
      · have : j ≠ c := by have := g.1 (by omega) (by omega); omega
        rw [if_neg (by omega), ad_o (by omega)]
        exact q1 _ _ _ hm0 g
      · rw [if_pos (by omega), if_neg (by omega), if_neg (by omega), if_pos rfl, e273]
    · rw [kAd_ap, if_neg (by omega), if_neg (by omega)]
      rcases hv0 with g | ⟨_, _, rfl⟩
      · have : j ≠ c := by have := g.1 (by omega) (by omega); omega
        rw [if_neg (by omega), ad_o (by omega)]
        exact q1 _ _ _ hm0 g
      · rw [if_pos (by omega), if_neg (by omega), if_neg (by omega), if_neg (by omega), if_pos rfl, e573]
    · rw [kAd_ap, if_neg (by omega), if_neg (by omega)]
      rcases hv0 with g | ⟨_, _, rfl⟩
      · have : j ≠ c := by have := g.1 (by omega) (by omega); omega
        rw [if_neg (by omega), ad_o (by omega)]
        exact q1 _ _ _ hm0 g
      · rw [if_pos (by omega), if_neg (by omega), if_neg (by omega), if_neg (by omega), if_neg (by omega), if_pos rfl, e673]
    all_goals
      rw [kAd_ap, if_neg (by omega), if_neg (by omega), if_neg (by omega), ad_o (by omega)]
      exact q1 _ _ _ hm0 (hv0.resolve_right (by omega))
  · rw [ad_o (by omega)]
    exact q2
  · intro b hb h10
    rw [hmc'] at hb
    by_cases e : b = c
    · subst e
      omega
    · rw [hst b (by omega)] at h10
      rw [kAd_ap, if_neg (by omega), if_neg (by omega), if_neg (by omega), ad_o (by omega)]
      exact q3 b (by omega) h10
  · intro k' hk'
    rw [kAd_ap, if_neg (by omega), if_neg (by omega), if_neg (by omega), ad_o (by omega), ad_o (by omega)]
    exact q4 k' hk'
  · intro q hq'
    rw [hmc', fb_ct_succ, kAd_ap, if_pos rfl, show fb_ct (pSt_ (mAd1 (nI ta) (nI fv) X c) q) c = fb_ct (pSt_ X q) c from fb_ct_cong fun b hb => by unfold pSt_; rw [ad_o (by omega)]]
    unfold pSt_ at *
    rw [e373]
    have q5' := q5 q hq'
    rw [hmc] at q5'
    by_cases e0 : q = 0
    · subst e0
      rw [if_pos rfl, q5', if_pos (by decide), show (1 : Int32) = nI 1 from rfl, nI_add]
    · rw [if_neg e0, q5', if_neg (by rw [decide_eq_true_eq]; exact fun e => e0 (nI_inj' (a := 0) (b := q) (by omega) (by omega) e).symm)]
      rfl
  · intro e he
    rw [hE] at he
    have h3 : mE X < 301 := ((h.i 3).2.1 rfl).2
    obtain ⟨g1, g2, g3, g4, g5⟩ := q6 e he
    unfold RVe evX at *
    rw [kAd_ap, if_neg (by omega), if_neg (by omega), if_neg (by omega), ad_o (by omega), ad_o (by omega), ad_o (by omega), ad_o (by omega)]
    exact ⟨g1, g2, g3, g4, g5⟩
  · unfold mAd1
    refine (((((((hJ.set ?_ (by omega)).set (rg_free (by omega)) (by omega)).set (rg_free (by omega)) (by omega)).set (rg_free (by omega)) (by omega)).set (rg_free (by omega)) (by omega)).set (rg_free (by omega)) (by omega)).set (rg_free (by omega)) (by omega)).set ?_ (by omega)
    · unfold rg
      exact ⟨fun _ => by omega, fun _ => by omega, fun _ _ => by omega, fun _ _ => by omega, fun _ _ => by omega, fun _ _ => by omega, fun _ _ => nB_nI (by omega) (by omega)⟩
    · unfold rg
      exact ⟨fun _ => nB_nI (by omega) (by omega), fun _ => by omega, fun _ _ => by omega, fun _ _ => by omega, fun _ _ => by omega, fun _ _ => by omega, fun _ _ => by omega⟩
  · unfold sI at *
    rw [hmc']
    rw [hmc] at hS
    obtain ⟨s1, s2, s3, s4, s5, s6, s7⟩ := hS
    have hlo : ∀ p, p < 40 → xLo (mAd1 (nI ta) (nI fv) X c) p = xLo X p := fun p hp => by unfold xLo; rw [ad_o (by omega)]
    have hpl : ∀ b, b < c → xPl (mAd1 (nI ta) (nI fv) X c) b = xPl X b := fun b hb => by unfold xPl; rw [ad_o (by omega)]
    have h20 : ∀ l, l < 4 → mHe X l ≤ 20 := fun l hl => h.2.1.h20 hl
    have hla : ∀ l j, l < 4 → j < mHe X l → xLa (mAd1 (nI ta) (nI fv) X c) l j = xLa X l j := fun l j hl hj => by
      have := h20 l hl
      unfold xLa
      rw [ad_o (by omega)]
    have how : ∀ q, q < 12 → xOw (mAd1 (nI ta) (nI fv) X c) q = xOw X q := fun q hq => by unfold xOw; rw [ad_o (by omega)]
    refine ⟨fun p hp => ?_, fun b hb he h8 => ?_, fun l j hl hj => ?_, fun l i j hl hi hj => ?_, fun b hb he h9 => ?_, fun q hq' => ?_, fun q q' hq1 hq2 e => ?_⟩
    · rw [hlo p hp]
      rcases s1 p hp with g | ⟨g1, g2, g3, g4, g5⟩
      · exact Or.inl g
      · exact Or.inr ⟨by omega, g2, by rw [hst _ g1]; exact g3, by rw [hpl _ g1]; exact g4, g5⟩
    · by_cases e : b = c
      · subst e
        omega
      · rw [hst b (by omega)] at h8
        rw [hpl b (by omega)]
        obtain ⟨g1, g2⟩ := s2 b (by omega) he h8
        exact ⟨g1, by rw [hlo _ g1]; exact g2⟩
    · rw [hhe l hl] at hj
      obtain ⟨g1, g2, g3, g4⟩ := s3 l j hl hj
      rw [hla l j hl hj]
      exact ⟨by omega, g2, by rw [hst _ g1]; exact g3, by rw [hpl _ g1]; exact g4⟩
    · rw [hhe l hl] at hj
      rw [hla l i hl (by omega), hla l j hl hj]
      exact s4 l i j hl hi hj
    · by_cases e : b = c
      · subst e
        omega
      · rw [hst b (by omega)] at h9
        rw [hpl b (by omega)]
        obtain ⟨g1, i, g2, g3⟩ := s5 b (by omega) he h9
        exact ⟨g1, i, by rw [hhe _ g1]; exact g2, by rw [hla _ _ g1 g2]; exact g3⟩
    · rw [how q hq']
      rcases s6 q hq' with g | ⟨g1, g2, g3⟩
      · exact Or.inl g
      · exact Or.inr ⟨by omega, g2, by rw [hst _ g1]; exact g3⟩
    · rw [how q hq1, how q' hq2] at e
      rw [how q hq1]
      exact s7 q q' hq1 hq2 e
  · intro q hq'
    rw [ad_o (by omega), ad_o (by omega)]
    exact r1 q hq'
  · intro b hb
    rw [hmc'] at hb
    by_cases e : b = c
    · subst e
      rw [hstc, e373]
      exact ⟨by omega, rfl⟩
    · rw [hst b (by omega), ad_o (by omega)]
      exact r2 b (by omega)
  · intro b hb he h10
    rw [hmc'] at hb
    by_cases e : b = c
    · subst e
      exact e773
    · rw [hst b (by omega)] at h10
      rw [ad_o (by omega)]
      exact r3 b (by omega) he h10
  · intro b hb
    rw [hmc'] at hb
    by_cases e : b = c
    · subst e
      unfold mF
      rw [e173, nN_nI (by omega), hq, nN_nI (by omega)]
      exact hfv
    · unfold mF
      rw [ad_o (by omega)]
      exact r4 b (by omega)
  · rw [ad_o (by omega)]
    exact b0
  · rw [ad_o (by omega)]
    exact b2
  · intro f hf
    rw [ad_o (by omega), ad_o (by omega)]
    exact b3 f hf
  · intro b hb
    rw [hmc'] at hb
    by_cases e : b = c
    · subst e
      rw [e273]
      exact nB_nI hta (by omega)
    · rw [ad_o (by omega)]
      exact b4 b (by omega)
  · unfold mAd1
    exact (((((((b5.o (by omega)).o (by omega)).o (by omega)).w (by omega) (fun _ _ => Or.inl rfl) (fun g1 g2 => by omega)).o (by omega)).o (by omega)).w (by omega) (fun g1 g2 => by omega) (fun _ _ => Or.inl rfl)).o (by omega)
theorem SR.adds {ta fv : Nat} (hta : ta < 11000) (hfv : fv < nf) (hn : nf ≤ 8) (hq : Q 12 = nI nf) : ∀ (N c : Nat) (K : JI) (X : JV), SR k nf Q K r X → mC X = c → c + N ≤ 100 → X 0 < nI ta → SR k nf Q (kAds (nI ta) (nI fv) N c K) r (mAd (nI ta) (nI fv) N c X)
  | 0, _, _, _, h, _, _, _ => h
  | N + 1, c, K, X, h, hmc, hc, ht => by
    obtain ⟨h1, h2⟩ := h.add1 hmc (by omega) ht hta hfv hn hq
    exact SR.adds hta hfv hn hq N (c + 1) _ _ h1 h2 (by omega) (by rw [ad_o (by omega)]; exact ht)
end S17
