/-! LINES of the model: lane, shift, bags -/
theorem mAd_2 {t f : Int32} : ∀ (k b : Nat) (X : JV), X 2 = nI b → mAd t f k b X 2 = nI (b + k)
  | 0, b, X, h => h
  | k + 1, b, X, h => by
    show mAd t f k (b + 1) (mAd1 t f X b) 2 = _
    rw [mAd_2 k (b + 1) _ (by unfold mAd1; rw [w1_eq]), show b + 1 + k = b + (k + 1) by omega]
section M90
variable {A : JI} {E : Nat} {G M N X : JV} {b : Nat → Nat} {H : Nat → Tst} {kf kl ksq kk kcq sz bq k p : Nat}
theorem ln_lane (hE : E ≤ 1200) (hs : mSt b E (.inr ((), p)) G) (h26 : G 26 = nI k) (hkp : 2 * k ≤ p) (hq : eqN M N) (hd : bdN N X kf kl ksq kk kcq sz) (ht : kpT bq k kk H (qA A M X) M) (h1 : ¬ isW b E p wd_flight = true) (h2 : ¬ isW b E p wd_shift = true) (hw : isW b E p wd_lane = true) : lnP b E bq k p (pLin b E N X H p) (qA A M X) G 0 (qA A (laN b E kf kl sz M (.inr ((), p))) X) (lag3 b E kf kl sz M (.inr ((), p)) G) := by
  have hpE : p ≤ E := hs.2.1
  obtain ⟨hq1, hq2, hq3, hq4, hq5, hq6, hq7, hq8, hq9, hq10, hq11, hq12⟩ := hd
  have ep : pLin b E N X H p = (lar3 b E kf kl sz N (.inr ((), p))).bd (fun _ q => .inr ((laN b E kf kl sz N (.inr ((), p)), X, H), q)) := by
    unfold pLin
    rw [if_neg h1, if_neg h2, if_pos hw, hq1, hq3, hq11, nN_nI (by omega), nN_nI (by omega), nN_nI (by omega)]
  have hs4 := hs.la3 (kf := kf) (kl := kl) (sz := sz) (N := M)
  rw [(la_v4 hq hq2 hq4).2] at hs4
  have hgo : ∀ j, j < 4 ∨ 9 < j → lag3 b E kf kl sz M (.inr ((), p)) G j = G j := fun j hj => (gNu_o hj).trans ((gPo_o hj).trans (gBg_o hj))
  rw [ep]
  refine ⟨k, Nat.le_refl _, by omega, (hgo 26 (by omega)).trans h26, fun j hj _ _ => hgo j (by omega), by rw [rU_bd]; exact hs4, fun c h3 h5 _ => q_o h3 h5, fun c j h3 h5 _ => by rw [q_o h3 h5], fun x hx => ?_⟩
  obtain ⟨hr, hx1⟩ := bd_inr hx
  obtain ⟨y2, hy2, l2⟩ := rNu_ge (hs.la2 (kf := kf) (kl := kl) (sz := sz) (N := N)) hr
  obtain ⟨y1, hy1, l1⟩ := rPo_ge (hs.la1 (kf := kf) (kl := kl) (sz := sz) (N := N)) hy2
  obtain ⟨y0, hy0, l0⟩ := rBg_ge hs hy1
  have hkn : kl ≠ 4 := rBg_n hy1
  cases hy0
  have eN : ∀ Q : JV, laN b E kf kl sz Q (.inr ((), p)) = w1 (w1 (w1 Q (23 + kl) (nI (lv3 b E kf kl sz Q (.inr ((), p))))) (27 + kl) (nI (lv4 b E kf kl sz Q (.inr ((), p))))) 13 (nI (kl + 1)) := fun Q => by
    unfold laN
    rw [show lar1 b E kf kl sz Q (.inr ((), p)) = .inr y1 from hy1]
  rw [hx1]
  refine ⟨by dsimp only at l0; omega, by dsimp only at l0; omega, rfl, ?_, kf, kl + 1, ksq, kk, kcq, sz, ?_, ?_⟩
  · show eqN (laN b E kf kl sz M _) _
    exact la_N hq hq2 hq4
  · show bdN (laN b E kf kl sz N _) X _ _ _ _ _ _
    refine ⟨?_, hq2, by rw [eN, w1_eq], by omega, ?_, hq6, ?_, hq8, hq9, hq10, ?_, hq12⟩
    · rw [eN, w1_ne (by omega), w1_ne (by omega), w1_ne (by omega)]; exact hq1
    · rw [eN, w1_ne (by omega), w1_ne (by omega), w1_ne (by omega)]; exact hq5
    · rw [eN, w1_ne (by omega), w1_ne (by omega), w1_ne (by omega)]; exact hq7
    · rw [eN, w1_ne (by omega), w1_ne (by omega), w1_ne (by omega)]; exact hq11
  · refine ht.cg (fun i hi => ?_) (fun c h1 h2 => q_o (by omega) (by omega))
    show laN b E kf kl sz M _ (31 + i) = _
    rw [eN, w1_ne (by omega), w1_ne (by omega), w1_ne (by omega)]
theorem ln_shift (hE : E ≤ 1200) (hs : mSt b E (.inr ((), p)) G) (h26 : G 26 = nI k) (hkp : 2 * k ≤ p) (hq : eqN M N) (hd : bdN N X kf kl ksq kk kcq sz) (ht : kpT bq k kk H (qA A M X) M) (h1 : ¬ isW b E p wd_flight = true) (hw : isW b E p wd_shift = true) : lnP b E bq k p (pLin b E N X H p) (qA A M X) G 0 (qA A (shN b E ksq (.inr ((), p)) M) X) (shg5 b E ksq (.inr ((), p)) G) := by
  have hpE : p ≤ E := hs.2.1
  obtain ⟨hq1, hq2, hq3, hq4, hq5, hq6, hq7, hq8, hq9, hq10, hq11, hq12⟩ := hd
  have ep : pLin b E N X H p = (shr5 b E ksq (.inr ((), p))).bd (fun _ q => .inr ((shN b E ksq (.inr ((), p)) N, X, H), q)) := by
    unfold pLin
    rw [if_neg h1, if_pos hw, hq5, nN_nI (by omega)]
  have hs4 := hs.sh5 (ksq := ksq)
  have hgo : ∀ j, j < 4 ∨ 9 < j → shg5 b E ksq (.inr ((), p)) G j = G j := fun j hj => (gNu_o hj).trans ((gNu_o hj).trans ((gNu_o hj).trans ((gNu_o hj).trans (gBg_o hj))))
  rw [ep]
  refine ⟨k, Nat.le_refl _, by omega, (hgo 26 (by omega)).trans h26, fun j hj _ _ => hgo j (by omega), by rw [rU_bd]; exact hs4, fun c h3 h5 _ => q_o h3 h5, fun c j h3 h5 _ => by rw [q_o h3 h5], fun x hx => ?_⟩
  obtain ⟨hr, hx1⟩ := bd_inr hx
  obtain ⟨y4, hy4, l4⟩ := rNu_ge (hs.sh4 (ksq := ksq)) hr
  obtain ⟨y3, hy3, l3⟩ := rNu_ge (hs.sh3 (ksq := ksq)) hy4
  obtain ⟨y2, hy2, l2⟩ := rNu_ge (hs.sh2 (ksq := ksq)) hy3
  obtain ⟨y1, hy1, l1⟩ := rNu_ge (hs.sh1 (ksq := ksq)) hy2
  obtain ⟨y0, hy0, l0⟩ := rBg_ge hs hy1
  have hkn : ksq ≠ 4 := rBg_n hy1
  cases hy0
  have eN : ∀ Q : JV, shN b E ksq (.inr ((), p)) Q = w1 (w1 (w1 (w1 (w1 Q (35 + 4 * ksq) (nI (sv2 b E ksq (.inr ((), p))) - 1)) (35 + 4 * ksq + 1) (nI (sv3 b E ksq (.inr ((), p))))) (35 + 4 * ksq + 2) (nI (sv4 b E ksq (.inr ((), p))))) (35 + 4 * ksq + 3) (nI (sv5 b E ksq (.inr ((), p))))) 34 (nI (ksq + 1)) := fun Q => by
    unfold shN
    rw [hy1]
  have eo : ∀ (Q : JV) j, j < 34 → shN b E ksq (.inr ((), p)) Q j = Q j := fun Q j hj => by rw [eN, w1_ne (by omega), w1_ne (by omega), w1_ne (by omega), w1_ne (by omega), w1_ne (by omega)]
  rw [hx1]
  refine ⟨by dsimp only at l0; omega, by dsimp only at l0; omega, rfl, ?_, kf, kl, ksq + 1, kk, kcq, sz, ?_, ?_⟩
  · show eqN (shN b E ksq _ M) _
    exact sh_N hq
  · show bdN (shN b E ksq _ N) X _ _ _ _ _ _
    exact ⟨(eo _ 12 (by omega)).trans hq1, hq2, (eo _ 13 (by omega)).trans hq3, hq4, by rw [eN, w1_eq], by omega, (eo _ 14 (by omega)).trans hq7, hq8, hq9, hq10, (eo _ 0 (by omega)).trans hq11, hq12⟩
  · refine ht.cg (fun i hi => ?_) (fun c h1 h2 => q_o (by omega) (by omega))
    show shN b E ksq _ M (31 + i) = _
    exact eo _ _ (by omega)
theorem ln_bags (hE : E ≤ 1200) (hs : mSt b E (.inr ((), p)) G) (h26 : G 26 = nI k) (hkp : 2 * k ≤ p) (hq : eqN M N) (hd : bdN N X kf kl ksq kk kcq sz) (ht : kpT bq k kk H (qA A M X) M) (h1 : ¬ isW b E p wd_flight = true) (h2 : ¬ isW b E p wd_shift = true) (h3w : ¬ isW b E p wd_lane = true) (hw : isW b E p wd_bags = true) : lnP b E bq k p (pLin b E N X H p) (qA A M X) G 0 (qA A M (bgX b E kcq kf (.inr ((), p)) X)) (bgg4 b E kcq kf (.inr ((), p)) G) := by
  have hpE : p ≤ E := hs.2.1
  obtain ⟨hq1, hq2, hq3, hq4, hq5, hq6, hq7, hq8, hq9, hq10, hq11, hq12⟩ := hd
  have ep : pLin b E N X H p = (bgr4 b E kcq kf (.inr ((), p))).bd (fun _ q => .inr ((N, bgX b E kcq kf (.inr ((), p)) X, H), q)) := by
    unfold pLin
    rw [if_neg h1, if_neg h2, if_neg h3w, if_pos hw, hq1, hq9, nN_nI (by omega), nN_nI (by omega)]
  have hs4 := hs.bg4 (kcq := kcq) (kf := kf)
  have hgo : ∀ j, j < 4 ∨ 9 < j → bgg4 b E kcq kf (.inr ((), p)) G j = G j := fun j hj => (gNu_o hj).trans ((gNu_o hj).trans ((gNu_o hj).trans (gN_o hj)))
  rw [ep]
  refine ⟨k, Nat.le_refl _, by omega, (hgo 26 (by omega)).trans h26, fun j hj _ _ => hgo j (by omega), by rw [rU_bd]; exact hs4, fun c h3 h5 _ => q_o h3 h5, fun c j h3 h5 _ => by rw [q_o h3 h5], fun x hx => ?_⟩
  obtain ⟨hr, hx1⟩ := bd_inr hx
  obtain ⟨y3, hy3, l3⟩ := rNu_ge (hs.bg3 (kcq := kcq) (kf := kf)) hr
  obtain ⟨y2, hy2, l2⟩ := rNu_ge (hs.bg2 (kcq := kcq) (kf := kf)) hy3
  obtain ⟨y1, hy1, l1⟩ := rNu_ge (hs.bg1 (kcq := kcq) (kf := kf)) hy2
  have hy1b : y1 = ((), tN b E p) := by cases hy1; rfl
  have hnb := tN_bd (b := b) hpE
  have hb2 : kcq + bv2 b E kcq kf (.inr ((), p)) ≤ 100 := by
    obtain ⟨v2, hn2⟩ := rU_inr hy3
    have hp2 : pNum b E 1 (101 - kcq) y2.2 = .inr (v2, y3.2) := by rw [show bgr2 b E kcq kf (.inr ((), p)) = .inr y2 from hy2] at hn2; exact hn2
    have h4 := (pNum_o hp2).2.2
    have e : bv2 b E kcq kf (.inr ((), p)) = v2 := by unfold bv2; rw [hn2]; rfl
    rw [e]
    dsimp only at h4
    omega
  have eX : bgX b E kcq kf (.inr ((), p)) X 2 = nI (kcq + bv2 b E kcq kf (.inr ((), p))) := by
    unfold bgX
    rw [hr]
    exact mAd_2 _ _ _ hq9
  rw [hx1]
  refine ⟨by rw [hy1b] at l1; dsimp only at l1; omega, by rw [hy1b] at l1; dsimp only at l1; omega, rfl, hq, kf, kl, ksq, kk, kcq + bv2 b E kcq kf (.inr ((), p)), sz, ?_, ?_⟩
  · show bdN N (bgX b E kcq kf _ X) _ _ _ _ _ _
    exact ⟨hq1, hq2, hq3, hq4, hq5, hq6, hq7, hq8, eX, hb2, hq11, hq12⟩
  · exact ht.cg (fun i hi => rfl) (fun c h1 h2 => q_o (by omega) (by omega))
end M90
