/-! THE MODEL'S INVARIANT: mW; e: a bag that is nowhere for the moment -/
def dO (v : Int32) : Nat := if v = -1 then 100 else nN v
theorem dO_m : dO (-1) = 100 := if_pos rfl
theorem dO_n {n : Nat} (h : n < 2 ^ 31) : dO (nI n) = n := by
  unfold dO
  split
  · rename_i e
    have := congrArg Int32.toInt e
    rw [nI_toInt h] at this
    have h2 : Int32.toInt (-1) = -1 := by decide
    omega
  · exact nN_nI h
theorem dO_100 {v : Int32} (h : oB v) : dO v = 100 ↔ v = -1 := by
  constructor
  · intro hd
    by_cases e : v = -1
    · exact e
    · unfold dO at hd
      rw [if_neg e] at hd
      have := (oB_n h e).2
      omega
  · intro e; rw [e]; exact dO_m
def xLo (X : JV) (p : Nat) : Nat := dO (X (133 + p))
def xSt (X : JV) (b : Nat) : Nat := nN (X (373 + b))
def xPl (X : JV) (b : Nat) : Nat := dO (X (473 + b))
def xLa (X : JV) (l j : Nat) : Nat := nN (X (29 + 20 * l + j))
def xOw (X : JV) (k : Nat) : Nat := dO (X (109 + k))
def sI (Q X : JV) (e : Nat) : Prop := sJ (qLen Q) (mC X) (xLo X) (xSt X) (xPl X) (xLa X) (mHe X) (xOw X) e
def mR (Q X : JV) (e : Nat) : Prop := (∀ k, k < 12 → X (109 + k) = -1 ∨ ∃ t, X (121 + k) = nI t ∧ 1 ≤ t ∧ t ≤ 99) ∧ (∀ b, b < mC X → xSt X b < 14 ∧ X (373 + b) = nI (xSt X b)) ∧ (∀ b, b < mC X → b ≠ e → xSt X b < 10 → X (773 + b) = -1) ∧ (∀ b, b < mC X → mF X b < nN (Q 12))
def mW (Q X : JV) (e : Nat) : Prop := mJ Q X ∧ sI Q X e ∧ mR Q X e
theorem mC_w1 {X : JV} {i : Nat} {v : Int32} (h : 2 ≠ i) : mC (w1 X i v) = mC X := by unfold mC; rw [w1_ne h]
theorem mHe_w1 {X : JV} {i l : Nat} {v : Int32} (h : 21 + l ≠ i) : mHe (w1 X i v) l = mHe X l := by unfold mHe; rw [w1_ne h]
theorem mF_w1 {X : JV} {i b : Nat} {v : Int32} (h : 173 + b ≠ i) : mF (w1 X i v) b = mF X b := by unfold mF; rw [w1_ne h]
theorem xLo_w1 {X : JV} {i p : Nat} {v : Int32} (h : 133 + p ≠ i) : xLo (w1 X i v) p = xLo X p := by unfold xLo; rw [w1_ne h]
theorem xSt_w1 {X : JV} {i p : Nat} {v : Int32} (h : 373 + p ≠ i) : xSt (w1 X i v) p = xSt X p := by unfold xSt; rw [w1_ne h]
theorem xPl_w1 {X : JV} {i p : Nat} {v : Int32} (h : 473 + p ≠ i) : xPl (w1 X i v) p = xPl X p := by unfold xPl; rw [w1_ne h]
theorem xLa_w1 {X : JV} {i l j : Nat} {v : Int32} (h : 29 + 20 * l + j ≠ i) : xLa (w1 X i v) l j = xLa X l j := by unfold xLa; rw [w1_ne h]
theorem xOw_w1 {X : JV} {i p : Nat} {v : Int32} (h : 109 + p ≠ i) : xOw (w1 X i v) p = xOw X p := by unfold xOw; rw [w1_ne h]
def fre (i : Nat) : Prop := i < 2 ∨ i = 3 ∨ 4 ≤ i ∧ i < 21 ∨ 25 ≤ i ∧ i < 29 ∨ 273 ≤ i ∧ i < 373 ∨ 573 ≤ i ∧ i < 773 ∨ 873 ≤ i
theorem mW.c {Q X : JV} {e : Nat} (h : mW Q X e) : mC X ≤ 100 := by have := h.1.1.c.2; omega
theorem mW.h20 {Q X : JV} {e l : Nat} (h : mW Q X e) (hl : l < 4) : mHe X l ≤ 20 := by have := (h.1.1.he hl).2; omega
/-- a place outside of what is looked at -/
theorem mW.fr {Q X : JV} {e i : Nat} {v : Int32} (h : mW Q X e) (hi : fre i) (hr : rg i v) : mW Q (w1 X i v) e := by
  unfold fre at hi
  have hc := h.c
  have h20 : ∀ l, l < 4 → mHe X l ≤ 20 := fun l hl => h.h20 hl
  obtain ⟨hJ, hS, r1, r2, r3, r4⟩ := h
  have hC : mC (w1 X i v) = mC X := mC_w1 (by omega)
  refine ⟨hJ.set hr (by omega), ?_, fun k hk => ?_, fun b hb => ?_, fun b hb he => ?_, fun b hb => ?_⟩
  · unfold sI
    rw [hC]
    exact hS.ext (fun p hp => xLo_w1 (by omega)) (fun x hx => xSt_w1 (by omega)) (fun x hx => xPl_w1 (by omega)) (fun l j hl hj => xLa_w1 (by have := h20 l hl; omega)) (fun l hl => mHe_w1 (by omega)) (fun k hk => xOw_w1 (by omega))
  · rw [w1_ne (by omega), w1_ne (by omega)]; exact r1 k hk
  · rw [hC] at hb
    rw [xSt_w1 (by omega), w1_ne (by omega)]; exact r2 b hb
  · rw [hC] at hb
    rw [xSt_w1 (by omega), w1_ne (by omega)]; exact r3 b hb he
  · rw [hC] at hb
    rw [mF_w1 (by omega)]; exact r4 b hb
theorem mW.st {Q X : JV} {e s : Nat} (h : mW Q X e) (he : e < 100) (hs : s < 14) : mW Q (w1 X (373 + e) (nI s)) e := by
  have hc := h.c
  have h20 : ∀ l, l < 4 → mHe X l ≤ 20 := fun l hl => h.h20 hl
  obtain ⟨hJ, hS, r1, r2, r3, r4⟩ := h
  have hC : mC (w1 X (373 + e) (nI s)) = mC X := mC_w1 (by omega)
  have hx : ∀ x, xSt (w1 X (373 + e) (nI s)) x = up (xSt X) e s x := fun x => by
    by_cases q : x = e
    · subst q; rw [up_eq]; unfold xSt; rw [w1_eq]; exact nN_nI (by omega)
    · rw [up_ne q]; exact xSt_w1 (by omega)
  refine ⟨hJ.set (rg_free (by omega)) (by omega), ?_, fun k hk => ?_, fun b hb => ?_, fun b hb hbe => ?_, fun b hb => ?_⟩
  · unfold sI
    rw [hC]
    exact (sJ.setSt (s := s) hS).ext (fun p hp => xLo_w1 (by omega)) (fun x _ => hx x) (fun x hx => xPl_w1 (by omega)) (fun l j hl hj => xLa_w1 (by have := h20 l hl; omega)) (fun l hl => mHe_w1 (by omega)) (fun k hk => xOw_w1 (by omega))
  · rw [w1_ne (by omega), w1_ne (by omega)]; exact r1 k hk
  · rw [hC] at hb
    rw [hx]
    by_cases q : b = e
    · subst q; rw [up_eq, w1_eq]; exact ⟨hs, rfl⟩
    · rw [up_ne q, w1_ne (by omega)]; exact r2 b hb
  · rw [hC] at hb
    rw [hx, up_ne hbe, w1_ne (by omega)]; exact r3 b hb hbe
  · rw [hC] at hb
    rw [mF_w1 (by omega)]; exact r4 b hb
theorem mW.fin {Q X : JV} {e : Nat} {v : Int32} (h : mW Q X e) (he : e < 100) : mW Q (w1 X (773 + e) v) e := by
  have hc := h.c
  have h20 : ∀ l, l < 4 → mHe X l ≤ 20 := fun l hl => h.h20 hl
  obtain ⟨hJ, hS, r1, r2, r3, r4⟩ := h
  have hC : mC (w1 X (773 + e) v) = mC X := mC_w1 (by omega)
  refine ⟨hJ.set (rg_free (by omega)) (by omega), ?_, fun k hk => ?_, fun b hb => ?_, fun b hb hbe => ?_, fun b hb => ?_⟩
  · unfold sI
    rw [hC]
    exact hS.ext (fun p hp => xLo_w1 (by omega)) (fun x hx => xSt_w1 (by omega)) (fun x hx => xPl_w1 (by omega)) (fun l j hl hj => xLa_w1 (by have := h20 l hl; omega)) (fun l hl => mHe_w1 (by omega)) (fun k hk => xOw_w1 (by omega))
  · rw [w1_ne (by omega), w1_ne (by omega)]; exact r1 k hk
  · rw [hC] at hb
    rw [xSt_w1 (by omega), w1_ne (by omega)]; exact r2 b hb
  · rw [hC] at hb
    rw [xSt_w1 (by omega), w1_ne (by omega)]; exact r3 b hb hbe
  · rw [hC] at hb
    rw [mF_w1 (by omega)]; exact r4 b hb
theorem mW.pl {Q X : JV} {e : Nat} {v : Int32} (h : mW Q X e) (he : e < 100) : mW Q (w1 X (473 + e) v) e := by
  have hc := h.c
  have h20 : ∀ l, l < 4 → mHe X l ≤ 20 := fun l hl => h.h20 hl
  obtain ⟨hJ, hS, r1, r2, r3, r4⟩ := h
  have hC : mC (w1 X (473 + e) v) = mC X := mC_w1 (by omega)
  have hx : ∀ x, xPl (w1 X (473 + e) v) x = up (xPl X) e (dO v) x := fun x => by
    by_cases q : x = e
    · subst q; rw [up_eq]; unfold xPl; rw [w1_eq]
    · rw [up_ne q]; exact xPl_w1 (by omega)
  refine ⟨hJ.set (rg_free (by omega)) (by omega), ?_, fun k hk => ?_, fun b hb => ?_, fun b hb hbe => ?_, fun b hb => ?_⟩
  · unfold sI
    rw [hC]
    exact (sJ.setPl (s := dO v) hS).ext (fun p hp => xLo_w1 (by omega)) (fun x hx => xSt_w1 (by omega)) (fun x _ => hx x) (fun l j hl hj => xLa_w1 (by have := h20 l hl; omega)) (fun l hl => mHe_w1 (by omega)) (fun k hk => xOw_w1 (by omega))
  · rw [w1_ne (by omega), w1_ne (by omega)]; exact r1 k hk
  · rw [hC] at hb
    rw [xSt_w1 (by omega), w1_ne (by omega)]; exact r2 b hb
  · rw [hC] at hb
    rw [xSt_w1 (by omega), w1_ne (by omega)]; exact r3 b hb hbe
  · rw [hC] at hb
    rw [mF_w1 (by omega)]; exact r4 b hb
theorem mE_w1 {X : JV} {i : Nat} {v : Int32} (h : 3 ≠ i) : mE (w1 X i v) = mE X := by unfold mE; rw [w1_ne h]
theorem mW.be {Q X : JV} {e s : Nat} (h : mW Q X e) (he : e < 100) (hs : s < 14) : mW Q (mBe X e (nI s)) e := by
  have h1 : mW Q (mBe1 X e (nI s)) e := (h.st he hs).fin he
  unfold mBe
  split
  · exact h1
  · rename_i hn
    have hE := h.1.1.e
    have he2 : mE X < 300 := by
      have : mE X ≠ 300 := fun w => hn (by rw [hE.1, w]; rfl)
      omega
    unfold mBe2
    rw [mBe1_E]
    exact ((((h1.fr (by unfold fre; omega) (rg_free (by omega))).fr (by unfold fre; omega) (rg_free (by omega))).fr (by unfold fre; omega) (rg_free (by omega))).fr (by unfold fre; omega) (rg_free (by omega))).fr (by unfold fre; omega) (rg_log (nB_nI (by omega) (by omega)))
theorem mW.hang {Q X : JV} {b : Nat} (h : mW Q X 100) (hs : lo_ (xSt X b)) : mW Q X b := by
  have hc := h.c
  obtain ⟨hJ, hS, r1, r2, r3, r4⟩ := h
  exact ⟨hJ, sJ.hang hS hc hs, r1, r2, fun x hx _ => r3 x hx (by omega), r4⟩
theorem mW.free {Q X : JV} {b : Nat} (h : mW Q X b) (hs : xSt X b ≠ 8 ∧ xSt X b ≠ 9) (hf : xSt X b < 10 → X (773 + b) = -1) : mW Q X 100 := by
  have hc := h.c
  obtain ⟨hJ, hS, r1, r2, r3, r4⟩ := h
  refine ⟨hJ, sJ.free hS hc hs, r1, r2, fun x hx _ => ?_, r4⟩
  by_cases e : x = b
  · subst e; exact hf
  · exact r3 x hx e
theorem mW.offLoop {Q X : JV} {b p : Nat} (h : mW Q X 100) (hp : p < 40) (hb : b < 100) (hl : X (133 + p) = nI b) : mW Q (w1 X (133 + p) (-1)) b := by
  have hc := h.c
  have h20 : ∀ l, l < 4 → mHe X l ≤ 20 := fun l hl => h.h20 hl
  obtain ⟨hJ, hS, r1, r2, r3, r4⟩ := h
  have hC : mC (w1 X (133 + p) (-1)) = mC X := mC_w1 (by omega)
  have hx : ∀ x, xLo (w1 X (133 + p) (-1)) x = up (xLo X) p 100 x := fun x => by
    by_cases q : x = p
    · subst q; rw [up_eq]; unfold xLo; rw [w1_eq]; exact dO_m
    · rw [up_ne q]; exact xLo_w1 (by omega)
  refine ⟨hJ.set (rg_loop (by omega) (Or.inl rfl)) (by omega), ?_, fun k' hk' => ?_, fun b' hb' => ?_, fun b' hb' he' => ?_, fun b' hb' => ?_⟩
  · unfold sI
    rw [hC]
    exact (sJ.offLoop (b := b) hS hc hp (by unfold xLo; rw [hl]; exact dO_n (by omega)) (by omega)).ext (fun p _ => hx p) (fun x hx => xSt_w1 (by omega)) (fun x hx => xPl_w1 (by omega)) (fun l j hl hj => xLa_w1 (by have := h20 l hl; omega)) (fun l hl => mHe_w1 (by omega)) (fun k hk => xOw_w1 (by omega))
  · rw [w1_ne (by omega), w1_ne (by omega)]; exact r1 k' hk'
  · rw [hC] at hb'
    rw [xSt_w1 (by omega), w1_ne (by omega)]; exact r2 b' hb'
  · rw [hC] at hb'
    rw [xSt_w1 (by omega), w1_ne (by omega)]
    exact r3 b' hb' (by omega)
  · rw [hC] at hb'
    rw [mF_w1 (by omega)]; exact r4 b' hb'
theorem mW.onLoop {Q X : JV} {b p : Nat} (h : mW Q X b) (hbc : b < mC X) (hp : p < 40) (hpl : p < qLen Q) (hl : X (133 + p) = -1) (h8 : xSt X b = 8) (hpp : xPl X b = p) (hf : X (773 + b) = -1) : mW Q (w1 X (133 + p) (nI b)) 100 := by
  have hc := h.c
  have h20 : ∀ l, l < 4 → mHe X l ≤ 20 := fun l hl => h.h20 hl
  obtain ⟨hJ, hS, r1, r2, r3, r4⟩ := h
  have hC : mC (w1 X (133 + p) (nI b)) = mC X := mC_w1 (by omega)
  have hx : ∀ x, xLo (w1 X (133 + p) (nI b)) x = up (xLo X) p b x := fun x => by
    by_cases q : x = p
    · subst q; rw [up_eq]; unfold xLo; rw [w1_eq]; exact dO_n (by omega)
    · rw [up_ne q]; exact xLo_w1 (by omega)
  refine ⟨hJ.set (rg_loop (by omega) (Or.inr (nB_nI (by omega) (by omega)))) (by omega), ?_, fun k' hk' => ?_, fun b' hb' => ?_, fun b' hb' he' => ?_, fun b' hb' => ?_⟩
  · unfold sI
    rw [hC]
    exact (sJ.onLoop (b := b) hS hc hbc hp hpl (by unfold xLo; rw [hl]; exact dO_m) h8 hpp).ext (fun p _ => hx p) (fun x hx => xSt_w1 (by omega)) (fun x hx => xPl_w1 (by omega)) (fun l j hl hj => xLa_w1 (by have := h20 l hl; omega)) (fun l hl => mHe_w1 (by omega)) (fun k hk => xOw_w1 (by omega))
  · rw [w1_ne (by omega), w1_ne (by omega)]; exact r1 k' hk'
  · rw [hC] at hb'
    rw [xSt_w1 (by omega), w1_ne (by omega)]; exact r2 b' hb'
  · rw [hC] at hb'
    rw [xSt_w1 (by omega), w1_ne (by omega)]
    by_cases q : b' = b; (subst q; exact fun _ => hf); exact r3 b' hb' q
  · rw [hC] at hb'
    rw [mF_w1 (by omega)]; exact r4 b' hb'
theorem mW.offMach {Q X : JV} {b k : Nat} (h : mW Q X 100) (hk : k < 12) (hb : b < 100) (hl : X (109 + k) = nI b) : mW Q (w1 X (109 + k) (-1)) b := by
  have hc := h.c
  have h20 : ∀ l, l < 4 → mHe X l ≤ 20 := fun l hl => h.h20 hl
  obtain ⟨hJ, hS, r1, r2, r3, r4⟩ := h
  have hC : mC (w1 X (109 + k) (-1)) = mC X := mC_w1 (by omega)
  have hx : ∀ x, xOw (w1 X (109 + k) (-1)) x = up (xOw X) k 100 x := fun x => by
    by_cases q : x = k
    · subst q; rw [up_eq]; unfold xOw; rw [w1_eq]; exact dO_m
    · rw [up_ne q]; exact xOw_w1 (by omega)
  refine ⟨hJ.set (rg_own (by omega) (Or.inl rfl)) (by omega), ?_, fun k' hk' => ?_, fun b' hb' => ?_, fun b' hb' he' => ?_, fun b' hb' => ?_⟩
  · unfold sI
    rw [hC]
    exact (sJ.offMach (b := b) hS hc hk (by unfold xOw; rw [hl]; exact dO_n (by omega)) (by omega)).ext (fun p hp => xLo_w1 (by omega)) (fun x hx => xSt_w1 (by omega)) (fun x hx => xPl_w1 (by omega)) (fun l j hl hj => xLa_w1 (by have := h20 l hl; omega)) (fun l hl => mHe_w1 (by omega)) (fun p _ => hx p)
  · by_cases q : k' = k; (subst q; rw [w1_eq]; exact Or.inl rfl); rw [w1_ne (by omega), w1_ne (by omega)]; exact r1 k' hk'
  · rw [hC] at hb'
    rw [xSt_w1 (by omega), w1_ne (by omega)]; exact r2 b' hb'
  · rw [hC] at hb'
    rw [xSt_w1 (by omega), w1_ne (by omega)]
    exact r3 b' hb' (by omega)
  · rw [hC] at hb'
    rw [mF_w1 (by omega)]; exact r4 b' hb'
theorem mW.onMach {Q X : JV} {b k t : Nat} (h : mW Q X b) (hbc : b < mC X) (hk : k < 12) (hl : X (109 + k) = -1) (hs : xSt X b = 2 * (k / 4) + 2) (ht : X (121 + k) = nI t ∧ 1 ≤ t ∧ t ≤ 99) (hf : X (773 + b) = -1) : mW Q (w1 X (109 + k) (nI b)) 100 := by
  have hc := h.c
  have h20 : ∀ l, l < 4 → mHe X l ≤ 20 := fun l hl => h.h20 hl
  obtain ⟨hJ, hS, r1, r2, r3, r4⟩ := h
  have hC : mC (w1 X (109 + k) (nI b)) = mC X := mC_w1 (by omega)
  have hx : ∀ x, xOw (w1 X (109 + k) (nI b)) x = up (xOw X) k b x := fun x => by
    by_cases q : x = k
    · subst q; rw [up_eq]; unfold xOw; rw [w1_eq]; exact dO_n (by omega)
    · rw [up_ne q]; exact xOw_w1 (by omega)
  refine ⟨hJ.set (rg_own (by omega) (Or.inr (nB_nI (by omega) (by omega)))) (by omega), ?_, fun k' hk' => ?_, fun b' hb' => ?_, fun b' hb' he' => ?_, fun b' hb' => ?_⟩
  · unfold sI
    rw [hC]
    exact (sJ.onMach (b := b) hS hc hbc hk (by unfold xOw; rw [hl]; exact dO_m) hs).ext (fun p hp => xLo_w1 (by omega)) (fun x hx => xSt_w1 (by omega)) (fun x hx => xPl_w1 (by omega)) (fun l j hl hj => xLa_w1 (by have := h20 l hl; omega)) (fun l hl => mHe_w1 (by omega)) (fun p _ => hx p)
  · rw [w1_ne (i := 121 + k') (by omega)]; by_cases q : k' = k; (subst q; exact Or.inr ⟨t, ht⟩); rw [w1_ne (by omega)]; exact r1 k' hk'
  · rw [hC] at hb'
    rw [xSt_w1 (by omega), w1_ne (by omega)]; exact r2 b' hb'
  · rw [hC] at hb'
    rw [xSt_w1 (by omega), w1_ne (by omega)]
    by_cases q : b' = b; (subst q; exact fun _ => hf); exact r3 b' hb' q
  · rw [hC] at hb'
    rw [mF_w1 (by omega)]; exact r4 b' hb'
theorem mW.left {Q X : JV} {e k : Nat} {v : Int32} (h : mW Q X e) (hk : k < 12) (hv : X (109 + k) = -1 ∨ ∃ t, v = nI t ∧ 1 ≤ t ∧ t ≤ 99) : mW Q (w1 X (121 + k) v) e := by
  have hc := h.c
  have h20 : ∀ l, l < 4 → mHe X l ≤ 20 := fun l hl => h.h20 hl
  obtain ⟨hJ, hS, r1, r2, r3, r4⟩ := h
  have hC : mC (w1 X (121 + k) v) = mC X := mC_w1 (by omega)
  refine ⟨hJ.set (rg_free (by omega)) (by omega), ?_, fun k' hk' => ?_, fun b' hb' => ?_, fun b' hb' he' => ?_, fun b' hb' => ?_⟩
  · unfold sI
    rw [hC]
    exact hS.ext (fun p hp => xLo_w1 (by omega)) (fun x hx => xSt_w1 (by omega)) (fun x hx => xPl_w1 (by omega)) (fun l j hl hj => xLa_w1 (by have := h20 l hl; omega)) (fun l hl => mHe_w1 (by omega)) (fun k hk => xOw_w1 (by omega))
  · rw [w1_ne (i := 109 + k') (by omega)]; by_cases q : k' = k; (subst q; rw [w1_eq]; exact hv); rw [w1_ne (by omega)]; exact r1 k' hk'
  · rw [hC] at hb'
    rw [xSt_w1 (by omega), w1_ne (by omega)]; exact r2 b' hb'
  · rw [hC] at hb'
    rw [xSt_w1 (by omega), w1_ne (by omega)]
    exact r3 b' hb' he'
  · rw [hC] at hb'
    rw [mF_w1 (by omega)]; exact r4 b' hb'
theorem mW.onLane {Q X : JV} {b l : Nat} (h : mW Q X b) (hbc : b < mC X) (hl : l < 4) (h9 : xSt X b = 9) (hpp : xPl X b = l) (hf : X (773 + b) = -1) (hcap : mHe X l < nN (Q (27 + l))) (h20l : mHe X l < 20) : mW Q (w1 (w1 X (29 + 20 * l + mHe X l) (nI b)) (21 + l) (nI (mHe X l + 1))) 100 := by
  have hc := h.c
  have h20 : ∀ l, l < 4 → mHe X l ≤ 20 := fun l hl => h.h20 hl
  obtain ⟨hJ, hS, r1, r2, r3, r4⟩ := h
  have hC : mC (w1 (w1 X (29 + 20 * l + mHe X l) (nI b)) (21 + l) (nI (mHe X l + 1))) = mC X := by rw [mC_w1 (by omega), mC_w1 (by omega)]
  refine ⟨(hJ.set (rg_lane (by omega) (nB_nI (by omega) (by omega))) (by omega)).held hl (by omega) (by omega), ?_, fun k' hk' => ?_, fun b' hb' => ?_, fun b' hb' he' => ?_, fun b' hb' => ?_⟩
  · unfold sI
    rw [hC]
    refine (sJ.onLane (la' := xLa (w1 (w1 X (29 + 20 * l + mHe X l) (nI b)) (21 + l) (nI (mHe X l + 1)))) (he' := fun k => if k = l then mHe X l + 1 else mHe X k) hS hc hbc hl h9 hpp (fun k => rfl) ?_ ?_).ext (fun p hp => by rw [xLo_w1 (by omega), xLo_w1 (by omega)]) (fun x hx => by rw [xSt_w1 (by omega), xSt_w1 (by omega)]) (fun x hx => by rw [xPl_w1 (by omega), xPl_w1 (by omega)]) (fun l j hl hj => rfl) (fun k hk => ?_) (fun k hk => by rw [xOw_w1 (by omega), xOw_w1 (by omega)])
    · rw [xLa_w1 (by omega)]; unfold xLa; rw [w1_eq]; exact nN_nI (by omega)
    · intro k j hk hj
      have := h20 k hk
      rw [xLa_w1 (by omega), xLa_w1 ?_]
      by_cases q : k = l
      · subst q; omega
      · omega
    · try dsimp only
      by_cases q : k = l
      · subst q; rw [if_pos rfl]; unfold mHe; rw [w1_eq]; exact nN_nI (by have : mHe X k ≤ 20 := h20 k hk; unfold mHe at this; omega)
      · rw [if_neg q, mHe_w1 (by omega), mHe_w1 (by omega)]
  · rw [w1_ne (by omega), w1_ne (by omega), w1_ne (by omega), w1_ne (by omega)]; exact r1 k' hk'
  · rw [hC] at hb'
    rw [xSt_w1 (by omega), xSt_w1 (by omega), w1_ne (by omega), w1_ne (by omega)]; exact r2 b' hb'
  · rw [hC] at hb'
    rw [xSt_w1 (by omega), xSt_w1 (by omega), w1_ne (by omega), w1_ne (by omega)]
    by_cases q : b' = b
    · subst q; exact fun _ => hf
    · exact r3 b' hb' q
  · rw [hC] at hb'
    rw [mF_w1 (by omega), mF_w1 (by omega)]; exact r4 b' hb'
