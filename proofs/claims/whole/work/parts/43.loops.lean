/-! THE LOOPS OF A TICK keep the relation -/
section LOOPS
variable {nf : Nat} {P : JI} {Q : JV}
theorem wmL_same (hp : RP nf P Q) (hQ : mQ Q) {lv : Nat} (hl : lv < 3) : ∀ (k i : Nat) (x : JI × Int64) (X : JV), i + k ≤ 4 → RV nf x.1 x.2 X → mW Q X 100 → mN nf X → RV nf (wmL P (nI (lv + 1)) k i x).1 (wmL P (nI (lv + 1)) k i x).2 (mGoL Q lv k i X)
  | 0, _, _, _, _, h, _, _ => h
  | k + 1, i, x, X, hk, h, hW, hN => wmL_same hp hQ hl k (i + 1) _ _ (by omega) (wm_same h hp hQ hW hN hl (by omega)) (mGo_W hW hl (by omega)) (hN.ag hp.2.2.2.2.2.2 hW.c (qe_go hW.1.1 hl (by omega)))
theorem qeC {X Y : JV} (h : qe X Y) : mC Y = mC X := by unfold mC; rw [h 2 (by unfold qi; omega)]
theorem fmL_same (hp : RP nf P Q) (hQ : mQ Q) (hQt : mQt Q) {lv c : Nat} {r : Int64} (hl : lv < 3) : ∀ (k i : Nat) (K : JI) (X : JV), i + k ≤ 4 → mC X = c → RV nf K r X → mW Q X 100 → mN nf X → RV nf (fmL P c (nI (lv + 1)) k i K) r (mOcL Q lv k i X)
  | 0, _, _, _, _, _, h, _, _ => h
  | k + 1, i, K, X, hk, hc, h, hW, hN => fmL_same hp hQ hQt hl k (i + 1) _ _ (by omega) ((qeC (qe_oc hl (by omega))).trans hc) (by rw [← hc]; exact fm_same h hp hQ hW hN hl (by omega)) (mOc_W hQt hW hl (by omega)) (hN.ag hp.2.2.2.2.2.2 hW.c (qe_oc hl (by omega)))
theorem emL_same (hp : RP nf P Q) (hQ : mQ Q) (hQt : mQt Q) {r : Int64} : ∀ (k i : Nat) (K : JI) (X : JV), i + k ≤ qLn Q → RV nf K r X → mW Q X 100 → mN nf X → RV nf (emL P k i K) r (mLoL Q k i X)
  | 0, _, _, _, _, h, _, _ => h
  | k + 1, i, K, X, hk, h, hW, hN => by
    have h4 := nQln hQ
    exact emL_same hp hQ hQt k (i + 1) _ _ (by omega) (em_same h hp hQ hQt hW hN (by omega)) (mLo_W hQ (hQt.2 i (by omega)) hW (by omega)) (hN.ag hp.2.2.2.2.2.2 hW.c (qe_lo hQ hW.1.1 (by omega)))
end LOOPS
