/-! a LINE of the model -/
abbrev PSt : Type := JV × JV × (Nat → Tst)
def pLin (b : Nat → Nat) (E : Nat) (N X : JV) (H : Nat → Tst) (p : Nat) : Res PSt :=
  if isW b E p wd_flight = true then (flr4 b E (nN (N 12)) (nN (N 13)) (nN (N 0)) N (.inr ((), p))).bd (fun _ q => .inr ((flN b E (nN (N 12)) (nN (N 13)) (nN (N 0)) N (.inr ((), p)), flX b E (nN (N 12)) (nN (N 13)) (nN (N 0)) N (.inr ((), p)) X, H), q))
  else if isW b E p wd_shift = true then (shr5 b E (nN (N 34)) (.inr ((), p))).bd (fun _ q => .inr ((shN b E (nN (N 34)) (.inr ((), p)) N, X, H), q))
  else if isW b E p wd_lane = true then (lar3 b E (nN (N 12)) (nN (N 13)) (nN (N 0)) N (.inr ((), p))).bd (fun _ q => .inr ((laN b E (nN (N 12)) (nN (N 13)) (nN (N 0)) N (.inr ((), p)), X, H), q))
  else if isW b E p wd_bags = true then (bgr4 b E (nN (X 2)) (nN (N 12)) (.inr ((), p))).bd (fun _ q => .inr ((N, bgX b E (nN (X 2)) (nN (N 12)) (.inr ((), p)) X, H), q))
  else if isW b E p wd_keep = true then (kpR b E (nN (N 14)) (.inr ((), p))).bd (fun t q => .inr ((w1 N 14 (nI (nN (N 14) + 1)), X, fun i => if i = nN (N 14) then t else H i), q))
  else .inl (1, tS b E p)
def bdN (N X : JV) (kf kl ksq kk kcq sz : Nat) : Prop := N 12 = nI kf ∧ kf ≤ 8 ∧ N 13 = nI kl ∧ kl ≤ 4 ∧ N 34 = nI ksq ∧ ksq ≤ 4 ∧ N 14 = nI kk ∧ kk ≤ 3 ∧ X 2 = nI kcq ∧ kcq ≤ 100 ∧ N 0 = nI sz ∧ sz < 2 ^ 30
/-- the trees of the keep lines so far -/
def kpT (bq k kk : Nat) (H : Nat → Tst) (A : JI) (M : JV) : Prop := ∀ i, i < kk → ∃ n lo, M (31 + i) = nI n ∧ nIx bq 0 ≤ lo ∧ n < nIx bq k ∧ ∀ X' c, vN A X' c 11 lo n (H i (mAs X' c))
def lnP (b : Nat → Nat) (E bq k p : Nat) (res : Res PSt) (B : JI) (G : JV) (_ : Nat) (A' : JI) (G' : JV) : Prop := ∃ k', k ≤ k' ∧ k' ≤ 621 ∧ G' 26 = nI k' ∧ (∀ j, (j < 3 ∨ 9 < j) → j ≠ 26 → j ≠ 27 → G' j = G j) ∧ mSt b E (rU res) G' ∧ (∀ c, c ≠ 3 → c ≠ 5 → c < 11 ∨ 14 < c → A' c = B c) ∧ (∀ c j, c ≠ 3 → c ≠ 5 → j < nIx bq k ∨ nIx bq 700 ≤ j → A' c j = B c j) ∧ ∀ x, res = .inr x → p ≤ x.2 ∧ 2 * k' ≤ x.2 ∧ A' 5 = x.1.2.1 ∧ eqN (A' 3) x.1.1 ∧ (∃ kf kl ksq kk kcq sz, bdN x.1.1 x.1.2.1 kf kl ksq kk kcq sz ∧ kpT bq k' kk x.1.2.2 A' (A' 3))
theorem rU_bd {q : Res Unit} {s : PSt} : rU (q.bd (fun _ y => .inr (s, y)) : Res PSt) = q := by
  cases q with
  | inl e => rfl
  | inr x => rfl
theorem bd_inr {q : Res Unit} {s : PSt} {x : PSt × Nat} (h : (q.bd (fun _ y => .inr (s, y)) : Res PSt) = .inr x) : q = .inr ((), x.2) ∧ x.1 = s := by
  cases q with
  | inl e => cases h
  | inr y => cases h; exact ⟨rfl, rfl⟩
theorem gBg_o {b : Nat → Nat} {E most n j : Nat} {r : Res Unit} {G : JV} (h : j < 4 ∨ 9 < j) : gBg b E most n r G j = G j := by
  unfold gBg
  rw [gN_o (by omega)]
  split
  · exact gF_o (by omega)
  · rfl
theorem kpT.cg {bq k kk : Nat} {H : Nat → Tst} {A A' : JI} {M M' : JV} (h : kpT bq k kk H A M) (hM : ∀ i, i < kk → M' (31 + i) = M (31 + i)) (hA : ∀ c, 10 < c → c < 15 → A' c = A c) : kpT bq k kk H A' M' := fun i hi => by
  obtain ⟨n, lo, h1, h2, h3, h4⟩ := h i hi
  refine ⟨n, lo, (hM i hi).trans h1, h2, h3, fun X' c => ?_⟩
  rw [vN_cg (A' := A) (hA 11 (by omega) (by omega)) (hA 12 (by omega) (by omega)) (hA 13 (by omega) (by omega)) (hA 14 (by omega) (by omega))]
  exact h4 X' c
section M89
variable {Γ : Gam} {d : Nat} {T : JT} {R S : JR} {I A : JI} {L : JL} {D : JD} {z : Option Nat} {mo E : Nat} {G M N X : JV} {b : Nat → Nat} {H : Nat → Tst} {kf kl ksq kk kcq sz bq k p : Nat}
theorem q_o {c : Nat} {M' X' : JV} (h3 : c ≠ 3) (h5 : c ≠ 5) : qA A M' X' c = qA A M X c := by simp [st, h3, h5]
theorem ln_flight (hE : E ≤ 1200) (hs : mSt b E (.inr ((), p)) G) (h26 : G 26 = nI k) (hkp : 2 * k ≤ p) (hq : eqN M N) (hd : bdN N X kf kl ksq kk kcq sz) (ht : kpT bq k kk H (qA A M X) M) (hw : isW b E p wd_flight = true) : lnP b E bq k p (pLin b E N X H p) (qA A M X) G 0 (qA A (flN b E kf kl sz M (.inr ((), p))) (flX b E kf kl sz M (.inr ((), p)) X)) (flg4 b E kf kl sz M (.inr ((), p)) G) := by
  have hpE : p ≤ E := hs.2.1
  obtain ⟨hq1, hq2, hq3, hq4, hq5, hq6, hq7, hq8, hq9, hq10, hq11, hq12⟩ := hd
  have ep : pLin b E N X H p = (flr4 b E kf kl sz N (.inr ((), p))).bd (fun _ q => .inr ((flN b E kf kl sz N (.inr ((), p)), flX b E kf kl sz N (.inr ((), p)) X, H), q)) := by
    unfold pLin
    rw [if_pos hw, hq1, hq3, hq11, nN_nI (by omega), nN_nI (by omega), nN_nI (by omega)]
  have hs4 := hs.fl4 (kf := kf) (kl := kl) (sz := sz) (N := M)
  rw [(fl_v5 hq hq2 hq4).2] at hs4
  have hgo : ∀ j, j < 4 ∨ 9 < j → flg4 b E kf kl sz M (.inr ((), p)) G j = G j := fun j hj => (gNu_o hj).trans ((gNu_o hj).trans ((gPo_o hj).trans (gBg_o hj)))
  rw [ep]
  refine ⟨k, Nat.le_refl _, by omega, (hgo 26 (by omega)).trans h26, fun j hj _ _ => hgo j (by omega), by rw [rU_bd]; exact hs4, fun c h3 h5 _ => q_o h3 h5, fun c j h3 h5 _ => by rw [q_o h3 h5], fun x hx => ?_⟩
  obtain ⟨hr, hx1⟩ := bd_inr hx
  obtain ⟨y3, hy3, l3⟩ := rNu_ge (hs.fl3 (kf := kf) (kl := kl) (sz := sz) (N := N)) hr
  obtain ⟨y2, hy2, l2⟩ := rNu_ge (hs.fl2 (kf := kf) (kl := kl) (sz := sz) (N := N)) hy3
  obtain ⟨y1, hy1, l1⟩ := rPo_ge (hs.fl1 (kf := kf) (kl := kl) (sz := sz) (N := N)) hy2
  obtain ⟨y0, hy0, l0⟩ := rBg_ge hs hy1
  have hkn : kf ≠ 8 := rBg_n hy1
  cases hy0
  have eN : ∀ Q : JV, flN b E kf kl sz Q (.inr ((), p)) = w1 (w1 Q (15 + kf) (nI (fv3 b E kf kl sz Q (.inr ((), p))))) 12 (nI (kf + 1)) := fun Q => by
    unfold flN
    rw [show flr1 b E kf kl sz Q (.inr ((), p)) = .inr y1 from hy1]
  have eX : flX b E kf kl sz N (.inr ((), p)) X 2 = X 2 := by
    unfold flX
    rw [hy1]
    dsimp only
    rw [w1_ne (by omega), w1_ne (by omega)]
  rw [hx1]
  refine ⟨by dsimp only at l0; omega, by dsimp only at l0; omega, ?_, ?_, kf + 1, kl, ksq, kk, kcq, sz, ?_, ?_⟩
  · show flX b E kf kl sz M _ X = _
    exact fl_X hq hq2 hq4
  · show eqN (flN b E kf kl sz M _) _
    exact fl_N hq
  · show bdN (flN b E kf kl sz N _) (flX b E kf kl sz N _ X) _ _ _ _ _ _
    refine ⟨by rw [eN, w1_eq], by omega, ?_, hq4, ?_, hq6, ?_, hq8, by rw [eX]; exact hq9, hq10, ?_, hq12⟩
    · rw [eN, w1_ne (by omega), w1_ne (by omega)]; exact hq3
    · rw [eN, w1_ne (by omega), w1_ne (by omega)]; exact hq5
    · rw [eN, w1_ne (by omega), w1_ne (by omega)]; exact hq7
    · rw [eN, w1_ne (by omega), w1_ne (by omega)]; exact hq11
  · refine ht.cg (fun i hi => ?_) (fun c h1 h2 => q_o (by omega) (by omega))
    show flN b E kf kl sz M _ (31 + i) = _
    rw [eN, w1_ne (by omega), w1_ne (by omega)]
end M89
