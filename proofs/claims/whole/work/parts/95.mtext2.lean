/-! readText of the model, all of it -/
theorem hgK_o {b : Nat → Nat} {E j : Nat} {r : Res Unit} {G : JV} (hj : j < 4 ∨ 9 < j) : hg20 b E r G j = G j := ((gNu_o hj).trans ((gKw_o hj).trans ((gNu_o hj).trans ((gKw_o hj).trans ((gNu_o hj).trans ((gNu_o hj).trans ((gNu_o hj).trans ((gKw_o hj).trans ((gNu_o hj).trans ((gNu_o hj).trans ((gNu_o hj).trans ((gKw_o hj).trans ((gNu_o hj).trans ((gNu_o hj).trans ((gNu_o hj).trans ((gKw_o hj).trans ((gPo_o hj).trans ((gNu_o hj).trans ((gNu_o hj).trans (gKw_o hj))))))))))))))))))))
section M95
variable {Γ : Gam} {d : Nat} {T : JT} {R S : JR} {I A B : JI} {L : JL} {D : JD} {z : Option Nat} {mo E bq : Nat} {G N X : JV} {b : Nat → Nat} {H : Nat → Tst}
theorem exM_text (hm : hMo T S mo) (hE : E ≤ 1200) (hv : hVs Γ R mo) (hb : mB_ A b E) (h3 : G 3 = nI E) (h4 : G 4 = nI 0) (h5 : G 5 = 0) (h6 : G 6 = -1) (h25 : G 25 = nI bq) (hbq : bq ≤ 1) : Ex Γ (d + 42) Y_X9_readText [.ref mo] (T, R, S, blk 18 I mo (st (qA A N X) 0 G), L, D, z) 0 0 (rPv (lnP b E bq 0 0 (pTxt b E (rgX N 0 51 0) (clX0 X) H) (qA A N X) G) (fun A' G' => (T, R, S, blk 18 I mo (st A' 0 G'), L, D, z))) := by
  have hs0 : mSt b E (.inr ((), 0)) (mNx b E 0 (w1 G 26 0)) := ⟨(mNx_o (by omega)).trans ((w1_ne (by omega)).trans h3), Nat.zero_le E, mAt_nx ((w1_ne (by omega)).trans h5) ((w1_ne (by omega)).trans h6)⟩
  have hsK := hs0.g20
  have hfr : ∀ j, (j < 3 ∨ 9 < j) → j ≠ 26 → j ≠ 27 → hg20 b E (.inr ((), 0)) (mNx b E 0 (w1 G 26 0)) j = G j := fun j hj h1 h2 => (hgK_o (by omega)).trans ((mNx_o (by omega)).trans (w1_ne h1))
  have hf26 : hg20 b E (.inr ((), 0)) (mNx b E 0 (w1 G 26 0)) 26 = nI 0 := (hgK_o (by omega)).trans ((mNx_o (by omega)).trans w1_eq)
  have h105 : ∀ v1, JJ Γ (jj_E Y_X9_readText) (jj_Z Γ (rPv (lnP b E bq 0 0 (pTxt b E (rgX N 0 51 0) (clX0 X) H) (qA A N X) G) (fun A' G' => (T, R, S, blk 18 I mo (st A' 0 G'), L, D, z))) 0 0) (jj_rm (d + 42) 0 0) 0 0 105 [some (.ref mo), some (.int v1)] [] (T, R, S, blk 18 I mo (st (qA A (hN1 b E (.inr ((), 0)) (rgX N 0 51 0)) (hX1 b E (.inr ((), 0)) (clX0 X))) 0 (hg20 b E (.inr ((), 0)) (mNx b E 0 (w1 G 26 0)))), L, D, z) := by
    intro v1
    cases hr : hr20 b E (.inr ((), 0)) with
    | inl e =>
      rw [hr] at hsK
      have ep : (pTxt b E (rgX N 0 51 0) (clX0 X) H) = .inl e := by unfold pTxt; rw [hr]; rfl
      rw [ep]
      exact tx_105x (n := 0) hm hb.q hsK ⟨0, Nat.le_refl _, by omega, hf26, hfr, hsK, fun c h3 h5 _ => q_o h3 h5, fun c j h3 h5 _ => by rw [q_o h3 h5], fun x hx => by cases hx⟩
    | inr y =>
      rw [hr] at hsK
      have ep : (pTxt b E (rgX N 0 51 0) (clX0 X) H) = (pLs b E 1200 (hN1 b E (.inr ((), 0)) (rgX N 0 51 0), hX1 b E (.inr ((), 0)) (clX0 X), H) y.2).bd (fun s q => pEn b E s q) := by unfold pTxt; rw [hr]; rfl
      refine lp_tx hm hE hv hb.q h25 hbq 1200 _ y.2 0 _ _ v1 (by omega) ⟨0, Nat.le_refl _, by omega, hf26, hfr, hsK, fun c h3 h5 _ => q_o h3 h5, fun c j h3 h5 _ => by rw [q_o h3 h5], fun x hx => ?_⟩ ep.symm
      cases hx
      have hw0 := vU_lt (b := b) (E := E) (lo := 4) (hx := 41) (r := hr1 b E (.inr ((), 0))) (by omega)
      refine ⟨Nat.zero_le _, Nat.zero_le _, rfl, fun j _ => rfl, 0, 0, 0, 0, 0, hv0 b E (.inr ((), 0)), ⟨(by first | rfl | (simp [hN1, hX1, clX0, w1, rgX]; done) | (simp [hN1, hX1, clX0, w1, rgX]; rfl)), by omega, (by first | rfl | (simp [hN1, hX1, clX0, w1, rgX]; done) | (simp [hN1, hX1, clX0, w1, rgX]; rfl)), by omega, (by first | rfl | (simp [hN1, hX1, clX0, w1, rgX]; done) | (simp [hN1, hX1, clX0, w1, rgX]; rfl)), by omega, (by first | rfl | (simp [hN1, hX1, clX0, w1, rgX]; done) | (simp [hN1, hX1, clX0, w1, rgX]; rfl)), by omega, (by first | rfl | (simp [hN1, hX1, clX0, w1, rgX]; done) | (simp [hN1, hX1, clX0, w1, rgX]; rfl)), by omega, (by first | rfl | (simp [hN1, hX1, clX0, w1, rgX]; done) | (simp [hN1, hX1, clX0, w1, rgX]; rfl)), ?_⟩, fun i hi => absurd hi (by omega)⟩
      show vU 4 _ < _
      omega
  refine Ex.of (by decide) (by simp [Value.category]) (Nat.le_of_ble_eq_true rfl) rfl ?_
  refine jj_iconst (v := 0) (q := 1) dX9_readText_0 rfl rfl ?_
  refine jj_istore_n (q := 2) dX9_readText_1 rfl (by decide) rfl ?_
  refine lp_t1 hm 2086 0 _ (by omega) ?_
  refine jj_iconst (v := 0) (q := 23) dX9_readText_22 rfl rfl ?_
  refine jj_istore_n (q := 24) dX9_readText_23 rfl (by decide) rfl ?_
  refine lp_t2 hm 51 0 _ (by omega) ?_
  refine jj_iconst (v := 0) (q := 44) dX9_readText_43 rfl rfl ?_
  refine jj_istore_n (q := 45) dX9_readText_44 rfl (by decide) rfl ?_
  refine lp_t3 hm 12 0 _ (by omega) ?_
  refine jj_iconst (v := 0) (q := 68) dX9_readText_67 rfl rfl ?_
  refine jj_istore_n (q := 69) dX9_readText_68 rfl (by decide) rfl ?_
  refine lp_t4 hm 40 0 _ (by omega) ?_
  refine jj_aload_n (q := 93) dX9_readText_92 rfl rfl rfl ?_
  refine jj_iconst (v := 0) (q := 94) dX9_readText_93 rfl rfl ?_
  refine jj_putIv (q := 97) dX9_readText_94 fl_X9_175 hm.t0 g_wr rfl rfl rfl rfl rfl ?_
  refine jj_aload_n (q := 98) dX9_readText_97 rfl rfl rfl ?_
  refine jj_cV0v (q := 101) dX9_readText_98 yk_X9_nextToken ml_X9_134 hm.t0 (ex_next hm hb.q (p := 0) ((w1_ne (by omega)).trans h3) ((w1_ne (by omega)).trans h5) (Nat.zero_le E) ((w1_ne (by omega)).trans h4)) rfl rfl rfl ⟨Nat.zero_le _, Nat.zero_le _⟩ ?_
  refine jj_aload_n (q := 102) dX9_readText_101 rfl rfl rfl ?_
  refine jj_cV0v (q := 105) dX9_readText_102 yk_X9_readFirst ml_X9_234 hm.t0 (exM_first hm hb hs0) rfl rfl rfl ⟨Nat.zero_le _, Nat.zero_le _⟩ ?_
  exact h105 _
end M95
