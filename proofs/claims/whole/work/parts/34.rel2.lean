/-! THE RELATION, step by step: a bag's state, the log, machines, lanes, draws -/
theorem vd_cg {nf : Nat} {X Y : JV} {k j i : Nat} (hm : mt k j i) (hc : mC Y = mC X) (hh : ∀ l, l < 4 → mHe Y l = mHe X l) (hv : vd nf Y k j) : vd nf X k j := by
  unfold vd at hv ⊢
  rw [hc] at hv
  refine ⟨hv.1, hv.2.1, fun e => ?_⟩
  have := hv.2.2 e
  rw [hh _ (by have := (mt_f hm).1 e; omega)] at this
  exact this
theorem RV.enLo {nf : Nat} {K : JI} {r : Int64} {X : JV} {b s s' : Nat} (h : RV nf K r X) (hX : mI X) (hb : b < mC X) (hs : s < 14) (hs' : s' < 14) (h8 : X (373 + b) = nI s) (hf : 10 ≤ s' → K 7 b = X (773 + b)) : RV nf (kC2 K b s s') r (w1 X (373 + b) (nI s')) := by
  have hc := hX.c.2
  have hE := hX.e.2
  have hct := h.c2 (by omega) hb hs hs' h8
  obtain ⟨h1, h2, h3, h4, _, h6⟩ := h
  have hC : mC (w1 X (373 + b) (nI s')) = mC X := mC_w1 (by omega)
  refine ⟨fun k' j' i' hm2 hv => ?_, ?_, fun x hx => ?_, fun m hm2 => ?_, fun q hq => ?_, fun e he => ?_⟩
  · have hf2 := mt_f hm2
    unfold kC2
    refine mt_upd (mt2 (by omega)) hm2 ?_
    rw [u2_ne (by omega), u2_ne (by omega)]
    exact h1 k' j' i' hm2 (vd_cg hm2 hC (fun l hl => mHe_w1 (by omega)) hv)
  · rw [w1_ne (by omega)]; exact h2
  · rw [hC] at hx
    rw [kC2_ne (by omega) (by omega), w1_ne (by omega)]
    by_cases w : x = b
    · subst w; unfold xSt; rw [w1_eq, nN_nI (by omega)]; exact hf
    · rw [xSt_w1 (by omega)]; exact h3 x hx
  · rw [kC2_ne (by omega) (by omega), w1_ne (by omega), w1_ne (by omega)]; exact h4 m hm2
  · rw [hC]; exact hct q hq
  · rw [mE_w1 (by omega)] at he
    unfold RVe evX
    rw [kC2_ne (by omega) (by omega), w1_ne (by omega), w1_ne (by omega), w1_ne (by omega), w1_ne (by omega)]
    exact h6 e he
theorem kEn_lo {K : JI} {b s s' : Nat} (hb : b < 100) (hs : s < 14) (hs' : s' < 9) (h : K 2 b = nI s) : kEn K (nI b) (nI s') = kC2 K b s s' := by
  unfold kEn kEn1
  rw [if_pos (show nI s' < 9 from nI_ltN (b := 9) hs' (by omega)), if_pos (show nI s' < 10 from nI_ltN (b := 10) (by omega) (by omega)), kCh_C2 hb hs (by omega) h]
/-- the time a bag is finished at -/
theorem RV.fin {nf : Nat} {K : JI} {r : Int64} {X : JV} {b : Nat} {v w : Int32} (h : RV nf K r X) (hX : mI X) (hb : b < mC X) (hv : 10 ≤ xSt X b → v = w) : RV nf (u2 K 7 b v) r (w1 X (773 + b) w) := by
  have hc := hX.c.2
  have hE := hX.e.2
  obtain ⟨h1, h2, h3, h4, h5, h6⟩ := h
  have hC : mC (w1 X (773 + b) w) = mC X := mC_w1 (by omega)
  refine ⟨fun k' j' i' hm2 hv => ?_, ?_, fun x hx => ?_, fun m hm2 => ?_, fun q hq => ?_, fun e he => ?_⟩
  · have hf2 := mt_f hm2
    rw [u2_ne (by omega), w1_ne (by omega)]
    exact h1 k' j' i' hm2 (vd_cg hm2 hC (fun l hl => mHe_w1 (by omega)) hv)
  · rw [w1_ne (by omega)]; exact h2
  · rw [hC] at hx
    rw [xSt_w1 (by omega)]
    by_cases q : x = b
    · subst q; rw [u2_at, w1_eq]; exact hv
    · rw [u2_nj q, w1_ne (by omega)]; exact h3 x hx
  · rw [u2_ne (by omega), w1_ne (by omega), w1_ne (by omega)]; exact h4 m hm2
  · rw [hC, u2_ne (by omega), h5 q hq]
    congr 1
    exact fb_ct_cong fun x hx => by unfold pSt_; rw [w1_ne (by omega)]
  · rw [mE_w1 (by omega)] at he
    unfold RVe evX
    rw [u2_ne (by omega), w1_ne (by omega), w1_ne (by omega), w1_ne (by omega), w1_ne (by omega)]
    exact h6 e he
/-- the model's own time of a bag that is not finished -/
theorem RV.finX {nf : Nat} {K : JI} {r : Int64} {X : JV} {b : Nat} {w : Int32} (h : RV nf K r X) (hX : mI X) (hb : b < mC X) (hv : xSt X b < 10) : RV nf K r (w1 X (773 + b) w) := by
  have e := h.fin (v := K 7 b) (w := w) hX hb (fun e => by omega)
  have e2 : u2 K 7 b (K 7 b) = K := by
    funext k j
    rw [u2_ap]
    split
    · rename_i h1; subst h1
      split
      · rename_i h2; subst h2; rfl
      · rfl
    · rfl
  rw [e2] at e
  exact e
theorem kEn1_9 {K : JI} {b s : Nat} (hb : b < 100) (hs : s < 14) (h : K 2 b = nI s) : kEn1 K (nI b) (nI 9) = kC2 K b s 9 := by
  unfold kEn1
  rw [if_pos (show nI 9 < 10 from nI_ltN (b := 10) (by omega) (by omega)), kCh_C2 hb hs (by omega) h]
theorem kEn1_hi {K : JI} {b s s' : Nat} (hb : b < 100) (hs : s < 14) (hs1 : 10 ≤ s') (hs' : s' < 14) (h : K 2 b = nI s) : kEn1 K (nI b) (nI s') = u2 (kC2 K b s s') 7 b (K 0 0) := by
  unfold kEn1
  rw [if_neg (show ¬ nI s' < 10 from nI_nltN (a := 10) hs1 (by omega)), kCh_C2 hb hs hs' h, putI_nI hb (by omega), kC2_ne (k := 0) (by omega) (by omega)]
theorem u2_comm {K : JI} {k k' j j' : Nat} {v v' : Int32} (h : k ≠ k') : u2 (u2 K k j v) k' j' v' = u2 (u2 K k' j' v') k j v := by
  funext a i
  by_cases h1 : a = k
  · subst h1
    rw [u2_ne h, u2_ap, u2_ap, if_pos rfl, if_pos rfl, u2_ne h]
  · rw [u2_ne (b := a) (a := k) h1]
    by_cases h2 : a = k'
    · subst h2
      simp only [u2_ap, if_neg h1, if_pos]
    · rw [u2_ne h2, u2_ne h2, u2_ne h1]
theorem kC2_7 {K : JI} {b s s' : Nat} {v : Int32} : kC2 (u2 K 7 b v) b s s' = u2 (kC2 K b s s') 7 b v := by
  unfold kC2
  rw [u2_ne (b := 8) (by omega), u2_comm (k := 7) (by omega), u2_ne (b := 8) (a := 7) (by omega), u2_comm (k := 7) (by omega), u2_comm (k := 7) (by omega)]
theorem RV.en1 {nf : Nat} {K : JI} {r : Int64} {X : JV} {b s s' : Nat} (h : RV nf K r X) (hX : mI X) (hb : b < mC X) (hs : s < 14) (hs1 : 9 ≤ s') (hs' : s' < 14) (h8 : X (373 + b) = nI s) : RV nf (kEn1 K (nI b) (nI s')) r (mBe1 X b (nI s')) := by
  have hc := hX.c.2
  have hk : K 2 b = nI s := (h.st (by omega) hb).trans h8
  have h0 : K 0 0 = X 0 := h.get mt00 ⟨fun _ _ => by omega, fun e => by omega, fun e => by omega⟩
  unfold mBe1
  have hX2 : mI (w1 X (373 + b) (nI s')) := hX.set (rg_free (by omega))
  have hC : mC (w1 X (373 + b) (nI s')) = mC X := mC_w1 (by omega)
  by_cases e9 : s' = 9
  · subst e9
    rw [kEn1_9 (by omega) (by omega) hk, if_pos (show nI 9 = 9 from rfl)]
    refine (h.enLo hX hb (by omega) (by omega) h8 (fun w => by omega)).finX hX2 (by rw [hC]; exact hb) ?_
    unfold xSt; rw [w1_eq, nN_nI (by omega)]; omega
  · rw [kEn1_hi (by omega) (by omega) (by omega) hs' hk, if_neg (show ¬ nI s' = 9 from fun w => e9 (nI_inj' (b := 9) (by omega) (by omega) w))]
    have hF := h.fin (b := b) (v := K 0 0) (w := X 0) hX hb (fun _ => h0)
    have hX3 : mI (w1 X (773 + b) (X 0)) := hX.set (rg_free (by omega))
    have hG := hF.enLo (b := b) (s := s) (s' := s') hX3 (by rw [mC_w1 (by omega)]; exact hb) (by omega) hs' (by rw [w1_ne (by omega)]; exact h8) (fun _ => by rw [u2_at, w1_eq]; exact h0)
    rw [w1_comm (by omega), kC2_7] at hG
    exact hG
theorem kLog_n {K : JI} {b s' e : Nat} (hb : b < 100) (he : e < 300) (h : K 0 14 = nI e) : kLog K (nI b) (nI s') = u2 (u2 K 18 e (K 0 0 <<< ((14 : Int32) &&& 31) ||| nI s' <<< ((10 : Int32) &&& 31) ||| nI b <<< ((3 : Int32) &&& 31) ||| K 3 b)) 0 14 (nI (e + 1)) := by
  unfold kLog evW
  rw [h, putI_nI he (by omega), atV_nI hb (by omega), u2_ne (by omega), h, ← nI_succ]
theorem RV.log {nf : Nat} {K : JI} {r : Int64} {X : JV} {b s' : Nat} (h : RV nf K r X) (hX : mI X) (hb : b < mC X) (hs' : s' < 14) (he : mE X < 300) (ht : nB 16384 (X 0)) : RV nf (kLog K (nI b) (nI s')) r (mBe2 X b (nI s')) := by
  have hc := hX.c.2
  have hv0 : ∀ j, vd nf X 0 j := fun j => ⟨fun _ _ => by omega, fun e => by omega, fun e => by omega⟩
  have h0 : K 0 0 = X 0 := h.get mt00 (hv0 0)
  have h14 : K 0 14 = nI (mE X) := (h.get mt014 (hv0 14)).trans hX.e.1
  have h3b : K 3 b = X (173 + b) := h.get (mt3 (by omega)) ⟨fun _ _ => hb, fun e => by omega, fun e => by omega⟩
  obtain ⟨h1, h2, h3, h4, h5, h6⟩ := h
  rw [kLog_n (by omega) he h14]
  have ho : ∀ i, i ≠ 3 → (i < 873 + 4 * mE X ∨ 873 + 4 * mE X + 4 ≤ i) → mBe2 X b (nI s') i = X i := fun i w1' w2 => by
    unfold mBe2
    rw [w1_ne (by omega), w1_ne (by omega), w1_ne (by omega), w1_ne (by omega), w1_ne (by omega)]
  have hC : mC (mBe2 X b (nI s')) = mC X := by unfold mC; rw [ho 2 (by omega) (by omega)]
  have e3 : mBe2 X b (nI s') 3 = nI (mE X + 1) := by unfold mBe2; exact w1_eq
  have hE : mE (mBe2 X b (nI s')) = mE X + 1 := by unfold mE at *; rw [e3, nN_nI (by omega)]
  refine ⟨fun k' j' i' hm2 hv => ?_, ?_, fun x hx => ?_, fun m hm2 => ?_, fun q hq => ?_, fun e he2 => ?_⟩
  · have hf2 := mt_f hm2
    by_cases w : i' = 3
    · subst w
      obtain ⟨w1', w2⟩ := hf2.2.2.2.2.2.2.2.2.2.2.1 rfl
      subst w1'; subst w2
      rw [u2_at, e3]
    · have hlt : i' < 873 ∨ 2073 ≤ i' := by omega
      have hne : ¬ (k' = 0 ∧ j' = 14) := fun z => w ((mt_inj mt014 hm2).mp ⟨z.1.symm, z.2.symm⟩).symm
      rw [ho i' w (by omega)]
      have hg := h1 k' j' i' hm2 (vd_cg hm2 hC (fun l hl => by unfold mHe; rw [ho _ (by omega) (by omega)]) hv)
      by_cases hk : k' = 0
      · subst hk
        rw [u2_nj (fun z => hne ⟨rfl, z⟩), u2_ne (by omega)]; exact hg
      · rw [u2_ne hk, u2_ne (by omega)]; exact hg
  · rw [ho 1 (by omega) (by omega)]; exact h2
  · rw [hC] at hx
    unfold xSt
    rw [u2_ne (by omega), u2_ne (by omega), ho _ (by omega) (by omega), ho _ (by omega) (by omega)]; exact h3 x hx
  · rw [u2_ne (by omega), u2_ne (by omega), ho _ (by omega) (by omega), ho _ (by omega) (by omega)]; exact h4 m hm2
  · rw [hC, u2_ne (by omega), u2_ne (by omega), h5 q hq]
    congr 1
    exact fb_ct_cong fun x hx => by unfold pSt_; rw [ho _ (by omega) (by omega)]
  · rw [hE] at he2
    by_cases w : e = mE X
    · subst w
      have f := hX.f (b := b) (by omega)
      unfold RVe evX
      rw [u2_ne (by omega), u2_at]
      have a0 : mBe2 X b (nI s') (873 + 4 * mE X) = X 0 := by unfold mBe2; rw [w1_ne (by omega), w1_ne (by omega), w1_ne (by omega), w1_ne (by omega), w1_eq]
      have a1 : mBe2 X b (nI s') (873 + 4 * mE X + 1) = nI s' := by unfold mBe2; rw [w1_ne (by omega), w1_ne (by omega), w1_ne (by omega), w1_eq]
      have a2 : mBe2 X b (nI s') (873 + 4 * mE X + 2) = nI b := by unfold mBe2; rw [w1_ne (by omega), w1_ne (by omega), w1_eq]
      have a3 : mBe2 X b (nI s') (873 + 4 * mE X + 3) = X (173 + b) := by unfold mBe2; rw [w1_ne (by omega), w1_eq]
      rw [a0, a1, a2, a3, h0, h3b]
      exact ⟨rfl, ht, nB_nI (by omega) (by omega), nB_nI (by omega) (by omega), f.1, f.2⟩
    · unfold RVe evX
      rw [u2_ne (by omega), u2_nj w, ho _ (by omega) (by omega), ho _ (by omega) (by omega), ho _ (by omega) (by omega), ho _ (by omega) (by omega)]
      exact h6 e (by omega)
theorem RV.enHi {nf : Nat} {K : JI} {r : Int64} {X : JV} {b s s' : Nat} (h : RV nf K r X) (hX : mI X) (hb : b < mC X) (hs : s < 14) (hs1 : 9 ≤ s') (hs' : s' < 14) (h8 : X (373 + b) = nI s) (ht : nB 16384 (X 0)) : RV nf (kEn K (nI b) (nI s')) r (mBe X b (nI s')) := by
  have hc := hX.c.2
  have hE := hX.e
  have hX1 : mI (mBe1 X b (nI s')) := (hX.set (rg_free (by omega))).set (rg_free (by omega))
  have e1 := h.en1 hX hb hs hs1 hs' h8
  have h14 : kEn1 K (nI b) (nI s') 0 14 = nI (mE X) := by
    rw [kEn1_ne (by omega) (by omega) (by omega)]
    exact (h.get mt014 ⟨fun _ _ => by omega, fun e => by omega, fun e => by omega⟩).trans hE.1
  unfold kEn mBe
  rw [if_neg (show ¬ nI s' < 9 from nI_nltN (a := 9) hs1 (by omega)), h14, hE.1]
  by_cases w : mE X = 300
  · rw [w, if_pos (show (300 : Int32) ≤ nI 300 by decide), if_pos (show nI 300 = 300 from rfl)]
    exact e1
  · rw [if_neg (show ¬ (300 : Int32) ≤ nI (mE X) from nI_ge (b := 300) (by omega) (by omega)), if_neg (show ¬ nI (mE X) = 300 from fun z => w (nI_inj' (b := 300) (by omega) (by omega) z))]
    exact e1.log hX1 (by unfold mC; rw [mBe1_3 (by omega)]; exact hb) hs' (by rw [mBe1_E]; omega) (by rw [mBe1_3 (by omega)]; exact ht)
