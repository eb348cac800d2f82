/-! THE MODEL'S TICK: the steps -/
theorem vN_cg {A A' : JI} {X : JV} {b : Nat} (h1 : A 11 = A' 11) (h2 : A 12 = A' 12) (h3 : A 13 = A' 13) (h4 : A 14 = A' 14) : ∀ (d lo n : Nat) (v : Bool), vN A X b d lo n v = vN A' X b d lo n v
  | 0, _, _, _ => rfl
  | d + 1, lo, n, v => by simp only [vN, h1, h2, h3, h4, vN_cg h1 h2 h3 h4 d]
def av (A : JI) (V : JV) : JI := st A 0 (w1 (A 0) 28 (V 0))
theorem av_av {A : JI} {V V' : JV} : av (av A V) V' = av A V' := by
  funext k j
  by_cases h : k = 0
  · subst h
    by_cases h2 : j = 28
    · subst h2; rfl
    · simp only [av, st, w1, if_pos, if_neg h2]
  · simp only [av, st, w1, if_neg h]
theorem av_self (A : JI) : av A (fun _ => A 0 28) = A := by
  funext k j
  by_cases h : k = 0
  · subst h
    by_cases h2 : j = 28
    · subst h2; rfl
    · simp only [av, st, w1, if_pos, if_neg h2]
  · simp only [av, st, w1, if_neg h]
theorem blk_av {I A : JI} {mo u k : Nat} {X V : JV} (h : k < 18) (hn : k ≠ u) (h0 : k ≠ 0) : blk 18 I mo (st (av A V) u X) (mo + k) = A k := by
  rw [blk_sn h hn]
  exact st_ne h0
theorem u2_av {I A : JI} {mo u : Nat} {X V : JV} {v : Int32} (hn : 0 ≠ u) : u2 (blk 18 I mo (st (av A V) u X)) mo 28 v = blk 18 I mo (st (av A (fun _ => v)) u X) := by
  rw [u2_blk0 (by omega)]
  congr 1
  funext k j
  rw [u2_ap]
  by_cases h0 : k = 0
  · subst h0
    by_cases hj : j = 28
    · subst hj; simp only [av, st, w1, if_pos, if_neg hn]
    · simp only [av, st, w1, if_pos, if_neg hn, if_neg hj]
  · simp only [av, st, if_neg h0]
theorem nI_dec (k : Nat) : nI (k + 1) + Int32.ofInt (-1) = nI k := by
  rw [show Int32.ofInt (-1) = -(1 : Int32) by decide, ← Int32.sub_eq_add_neg]
  exact nI_pred k
theorem nI_ltN {a b : Nat} (h : a < b) (hb : b < 2 ^ 31) : nI a < nI b := Int32.not_le.mp (nI_ge h hb)
theorem nI_nltN {a b : Nat} (h : a ≤ b) (hb : b < 2 ^ 31) : ¬ nI b < nI a := Int32.not_lt.mpr (nI_le h hb)
def mJ (Q X : JV) : Prop := mI X ∧ ∀ l, l < 4 → mHe X l ≤ nN (Q (27 + l))
theorem mJ.set {Q X : JV} {i : Nat} {v : Int32} (h : mJ Q X) (hr : rg i v) (hn : i < 21 ∨ 25 ≤ i) : mJ Q (w1 X i v) := ⟨h.1.set hr, fun l hl => by
  unfold mHe
  rw [w1_ne (by omega)]
  exact h.2 l hl⟩
theorem mJ.held {Q X : JV} {l n : Nat} (h : mJ Q X) (hl : l < 4) (hn : n ≤ nN (Q (27 + l))) (hn2 : n < 21) : mJ Q (w1 X (21 + l) (nI n)) := ⟨h.1.set (rg_held (by omega) (nB_nI hn2 (by omega))), fun k hk => by
  unfold mHe
  by_cases e : k = l
  · subst e; rw [w1_eq, nN_nI (by omega)]; exact hn
  · rw [w1_ne (by omega)]; exact h.2 k hk⟩
theorem mBe_J {Q X : JV} {b : Nat} {s : Int32} (h : mJ Q X) (hb : b < 100) : mJ Q (mBe X b s) := by
  have h1 : mJ Q (mBe1 X b s) := (h.set (rg_free (by omega)) (by omega)).set (rg_free (by omega)) (by omega)
  unfold mBe
  split
  · exact h1
  · rename_i hn
    have he := h.1.e
    have he2 : mE X < 300 := by
      have : mE X ≠ 300 := fun e => hn (by rw [he.1, e]; rfl)
      omega
    unfold mBe2
    rw [mBe1_E]
    exact ((((h1.set (rg_free (by omega)) (by omega)).set (rg_free (by omega)) (by omega)).set (rg_free (by omega)) (by omega)).set (rg_free (by omega)) (by omega)).set (rg_log (nB_nI (by omega) (by omega))) (by omega)
theorem mLv_J {Q X : JV} {p b : Nat} (h : mJ Q X) (hp : p < 40) : mJ Q (mLv X p b) := (h.set (rg_loop (by omega) (Or.inl rfl)) (by omega)).set (rg_free (by omega)) (by omega)
theorem mOn_J {Q X : JV} {p b : Nat} (h : mJ Q X) (hp : p < 40) (hb : b < 100) : mJ Q (mOn X b p) := ((h.set (rg_loop (by omega) (Or.inr (nB_nI hb (by omega)))) (by omega)).set (rg_free (by omega)) (by omega)).set (rg_free (by omega)) (by omega)
theorem mDr_J {Q X : JV} (h : mJ Q X) : mJ Q (mDr X) := h.set (rg_free (by omega)) (by omega)
def mHB (H : Nat → JV → Nat → Bool) (Q X : JV) (b : Nat) : Int32 := srch (fun t => H t X b) (qKn Q) (fun _ => 1) 0
def hN (A : JI) (H : Nat → JV → Nat → Bool) (Q : JV) : Prop := ∀ X b t, t < qKn Q → ∃ lo n, Q (31 + t) = nI n ∧ vN A X b 11 lo n (H t X b)
def mSh (X : JV) (e p : Nat) : JV := fun i => if 133 + p < i ∧ i ≤ 133 + e then X (i - 1) else X i
theorem mSh_e (X : JV) (e : Nat) : mSh X e e = X := by
  funext i
  unfold mSh
  rw [if_neg (by omega)]
theorem mSh_s {X : JV} {e p : Nat} (h : p + 1 ≤ e) : w1 (mSh X e (p + 1)) (133 + (p + 1)) (mSh X e (p + 1) (133 + p)) = mSh X e p := by
  funext i
  by_cases h1 : i = 133 + (p + 1)
  · subst h1
    rw [w1_eq]
    unfold mSh
    rw [if_neg (by omega), if_pos (by omega), show 133 + (p + 1) - 1 = 133 + p by omega]
  · rw [w1_ne h1]
    unfold mSh
    by_cases h2 : 133 + (p + 1) < i ∧ i ≤ 133 + e
    · rw [if_pos h2, if_pos (by omega)]
    · rw [if_neg h2, if_neg (by omega)]
theorem mSh_J {Q X : JV} {e : Nat} (h : mJ Q X) (he : e < 40) (p : Nat) : mJ Q (mSh X e p) := ⟨fun i => by
  unfold mSh
  split
  · exact rg_loop (by omega) ((h.1 (i - 1)).2.2.2.2.2.1 (by omega) (by omega))
  · exact h.1 i, fun l hl => by
  unfold mHe mSh
  rw [if_neg (by omega)]
  exact h.2 l hl⟩
def mPs (X : JV) (p : Nat) : JV := if X (133 + p) = -1 then X else w1 X (473 + nN (X (133 + p))) (nI p)
def mPL : Nat → Nat → JV → JV
  | 0, _, X => X
  | k + 1, p, X => mPL k (p + 1) (mPs X p)
theorem mPs_J {Q X : JV} {p : Nat} (h : mJ Q X) : mJ Q (mPs X p) := by
  unfold mPs
  split
  · exact h
  · exact h.set (rg_free (by omega)) (by omega)
theorem mPL_J {Q : JV} : ∀ (k p : Nat) (X : JV), mJ Q X → mJ Q (mPL k p X)
  | 0, _, _, h => h
  | k + 1, p, X, h => mPL_J k (p + 1) _ (mPs_J h)
def mMv1 (Q X : JV) : JV := w1 (mSh X (qLen Q - 1) 0) 133 (X (133 + (qLen Q - 1)))
def mMv2 (Q X : JV) : JV := mPL (qLen Q) 0 (mMv1 Q X)
def mMv3 (Q X : JV) : JV := if X (133 + qEn Q) = -1 then X else w1 X (573 + nN (X (133 + qEn Q))) (X (573 + nN (X (133 + qEn Q))) + 1)
def mMv (Q X : JV) : JV := mMv3 Q (mMv2 Q X)
theorem mMv1_J {Q X : JV} (hQ : mQ Q) (h : mJ Q X) : mJ Q (mMv1 Q X) := by
  have hl := nQ0 hQ
  exact (mSh_J h (by omega) 0).set (rg_loop (by omega) (h.1.lo (by omega))) (by omega)
theorem mMv_J {Q X : JV} (hQ : mQ Q) (h : mJ Q X) : mJ Q (mMv Q X) := by
  have h2 : mJ Q (mMv2 Q X) := mPL_J _ _ _ (mMv1_J hQ h)
  unfold mMv mMv3
  split
  · exact h2
  · exact h2.set (rg_free (by omega)) (by omega)
theorem oB_n {v : Int32} (h : oB v) (hn : ¬ v = -1) : v = nI (nN v) ∧ nN v < 100 := h.resolve_left hn
def mSto (X : JV) (l b : Nat) : JV := w1 (w1 (w1 X (29 + 20 * l + mHe X l) (nI b)) (21 + l) (nI (mHe X l + 1))) (473 + b) (nI l)
def mLk3 (H : Nat → JV → Nat → Bool) (Q X : JV) (p b : Nat) : JV := if mLh Q p = -1 then X else if mOf X b = 0 then (if mRoom Q X (nN (mLh Q p)) b = 0 then X else if mHB H Q X b = 0 then mSto (mBe (mLv X p b) b 9) (nN (mLh Q p)) b else X) else X
def mLk2 (H : Nat → JV → Nat → Bool) (Q X : JV) (p b : Nat) : JV := if nI p = Q 2 then (if mOf X b = 2 then mBe (mLv X p b) b 11 else mLk3 H Q X p b) else mLk3 H Q X p b
def mLk (H : Nat → JV → Nat → Bool) (Q X : JV) (p b : Nat) : JV := if Q (15 + mF X b) = nI p then (if mOf X b = 1 then mBe (mLv X p b) b 10 else mLk2 H Q X p b) else mLk2 H Q X p b
theorem mLh_b {Q : JV} (hQ : mQ Q) {p : Nat} (h : ¬ mLh Q p = -1) : mLh Q p = nI (nN (mLh Q p)) ∧ nN (mLh Q p) < 4 := by
  unfold mLh srch at h ⊢
  have hl := nQln hQ
  split
  · rw [nN_nI (by omega)]; exact ⟨rfl, by omega⟩
  · rename_i hn; rw [if_neg hn] at h; exact absurd rfl h
theorem mBe_lo {X : JV} {b : Nat} {s : Int32} {j : Nat} (h : 3 < j) (h2 : j < 373) : mBe X b s j = X j := by
  unfold mBe
  split
  · exact mBe1_3 h2
  · unfold mBe2
    rw [w1_ne (by omega), w1_ne (by omega), w1_ne (by omega), w1_ne (by omega), w1_ne (by omega)]
    exact mBe1_3 h2
theorem mLv_lo {X : JV} {p b j : Nat} (h : j < 133) : mLv X p b j = X j := by
  unfold mLv
  rw [w1_ne (by omega), w1_ne (by omega)]
theorem mLk_J {H : Nat → JV → Nat → Bool} {Q X : JV} {p b : Nat} (hQ : mQ Q) (h : mJ Q X) (hp : p < 40) (hb : b < 100) : mJ Q (mLk H Q X p b) := by
  have hB : ∀ s, mJ Q (mBe (mLv X p b) b s) := fun s => mBe_J (mLv_J h hp) hb
  have h3 : mJ Q (mLk3 H Q X p b) := by
    unfold mLk3
    split
    · exact h
    · rename_i hl
      split
      · split
        · exact h
        · split
          · rename_i hr hk
            obtain ⟨e1, e2⟩ := mLh_b hQ hl
            generalize nN (mLh Q p) = l at *
            have hc : mHe X l < nN (Q (27 + l)) := by
              have hle := h.2 l e2
              have hne : ¬ X (21 + l) = Q (27 + l) := fun e => hr (by
                unfold mRoom
                split
                · rfl
                · rfl)
              have : mHe X l ≠ nN (Q (27 + l)) := fun e => hne (by rw [(h.1.he e2).1, e]; exact (hQ.2.2.2.2.2.2.2 l e2).1.symm)
              omega
            have hcap := (hQ.2.2.2.2.2.2.2 l e2).2
            have hee : mHe (mBe (mLv X p b) b 9) l = mHe X l := by
              unfold mHe
              rw [mBe_lo (by omega) (by omega), mLv_lo (by omega)]
            unfold mSto
            rw [hee]
            exact (((hB 9).set (rg_lane (by omega) (nB_nI hb (by omega))) (by omega)).held e2 (by omega) (by omega)).set (rg_free (by omega)) (by omega)
          · exact h
      · exact h
  have h2 : mJ Q (mLk2 H Q X p b) := by
    unfold mLk2
    split
    · split
      · exact hB 11
      · exact h3
    · exact h3
  unfold mLk
  split
  · split
    · exact hB 10
    · exact h2
  · exact h2
section M29
variable {Γ : Gam} {d : Nat} {T : JT} {R S : JR} {I A : JI} {L : JL} {D : JD} {z : Option Nat} {mo u : Nat} {X : JV}
theorem lp_mHB (hm : hMo T S mo) (hu : 4 ≤ u ∧ u ≤ 6) {Q : JV} (hQ : mQ Q) (hA : A 2 = Q) {H : Nat → JV → Nat → Bool} (hn : hN A H Q) (hX : mI X) {b : Nat} (hb : b < 100) : ∀ (k i : Nat), (i + k = qKn Q ∧ ∀ j, j < i → (fun t => H t X b) j = false) → JJ Γ (jj_E Y_X9_isHeldBack) (jj_Z Γ (rIV (mHB H Q X b) (fun V => (T, R, S, blk 18 I mo (st (av A V) u X), L, D, z))) 0 0) (jj_rm (d + 2 * 11 + 3) 0 0) 0 0 7 [some (.ref mo), some (.ref (mo + u)), some (.int (nI b)), some (.int (nI i))] [] (T, R, S, blk 18 I mo (st (av A (fun _ => nI b)) u X), L, D, z) := by
  have hk := nQkn hQ
  intro k
  induction k with
  | zero =>
    intro i hi
    refine jj_iload_n (q := 8) dX9_isHeldBack_7 rfl rfl rfl ?_
    refine jj_aload_n (q := 9) dX9_isHeldBack_8 rfl rfl rfl ?_
    refine jj_getS (q := 12) dX9_isHeldBack_9 fl_X9_17 hm.t0 hm.r0_10 rfl rfl rfl ?_
    refine jj_bipush (v := 14) (q := 14) dX9_isHeldBack_12 rfl rfl ?_
    refine jj_ialdW (q := 15) (j := 14) (v := nI (qKn Q)) dX9_isHeldBack_14 hm.t2 ((blk_av (show 2 < 18 by omega) (show 2 ≠ u by omega) (by decide)).trans hA) rfl (by omega) hk.1 rfl ?_
    refine jj_icmp_ge (q := 18) (tgt := 43) dX9_isHeldBack_15 rfl rfl (fun h15 => ?_) (fun h15 => absurd (nI_le (show qKn Q ≤ i by omega) (by omega)) h15)
    refine jj_iconst (v := 0) (q := 44) dX9_isHeldBack_43 rfl rfl ?_
    refine jj_zret dX9_isHeldBack_44 rfl (by first | rfl | assumption) (Nat.zero_le _) (Nat.zero_le _) ?_
    exact ⟨_, by unfold mHB; rw [srch_none (fun j hj => hi.2 j (by omega))], rfl⟩
  | succ k ih =>
    intro i hi
    refine jj_iload_n (q := 8) dX9_isHeldBack_7 rfl rfl rfl ?_
    refine jj_aload_n (q := 9) dX9_isHeldBack_8 rfl rfl rfl ?_
    refine jj_getS (q := 12) dX9_isHeldBack_9 fl_X9_17 hm.t0 hm.r0_10 rfl rfl rfl ?_
    refine jj_bipush (v := 14) (q := 14) dX9_isHeldBack_12 rfl rfl ?_
    refine jj_ialdW (q := 15) (j := 14) (v := nI (qKn Q)) dX9_isHeldBack_14 hm.t2 ((blk_av (show 2 < 18 by omega) (show 2 ≠ u by omega) (by decide)).trans hA) rfl (by omega) hk.1 rfl ?_
    refine jj_icmp_ge (q := 18) (tgt := 43) dX9_isHeldBack_15 rfl rfl (fun h15 => absurd h15 ((nI_ge (show i < qKn Q by omega) (by omega)))) (fun h15 => ?_)
    obtain ⟨lo, n, hq, hv0⟩ := hn X b i (by omega)
    have hv : vN (av A (fun _ => nI b)) X b 11 lo n (H i X b) := by
      rw [vN_cg (A := av A (fun _ => nI b)) (A' := A) rfl rfl rfl rfl]
      exact hv0
    refine jj_aload_n (q := 19) dX9_isHeldBack_18 rfl rfl rfl ?_
    refine jj_aload_n (q := 20) dX9_isHeldBack_19 rfl rfl rfl ?_
    refine jj_aload_n (q := 21) dX9_isHeldBack_20 rfl rfl rfl ?_
    refine jj_getS (q := 24) dX9_isHeldBack_21 fl_X9_17 hm.t0 hm.r0_10 rfl rfl rfl ?_
    refine jj_bipush (v := 31) (q := 26) dX9_isHeldBack_24 rfl rfl ?_
    refine jj_iload_n (q := 27) dX9_isHeldBack_26 rfl rfl rfl ?_
    refine jj_iaddN (q := 28) (a := 31) (b := i) dX9_isHeldBack_27 rfl rfl rfl ?_
    refine jj_ialdW (q := 29) (j := 31 + i) (v := nI n) dX9_isHeldBack_28 hm.t2 ((blk_av (show 2 < 18 by omega) (show 2 ≠ u by omega) (by decide)).trans hA) rfl (by omega) hq rfl ?_
    refine jj_cV2i (q := 32) dX9_isHeldBack_29 yk_X9_holds ml_X9_282 hm.t0 (ex_mholds hm hu hX hb rfl 11 d _ _ _ hv) rfl rfl rfl ⟨Nat.zero_le _, Nat.zero_le _⟩ ?_
    refine jj_if_eq (q := 35) (tgt := 37) dX9_isHeldBack_32 rfl rfl (fun h32 => ?_) (fun h32 => ?_)
    · refine jj_iinc (v := nI (i + 1)) (q := 40) dX9_isHeldBack_37 rfl (nI_incn i 1 rfl) (by decide) rfl ?_
      refine jj_goto (tgt := 7) dX9_isHeldBack_40 rfl ?_
      refine ih (i + 1) ⟨by omega, fun j hj => ?_⟩
      rcases Nat.lt_or_ge j i with q | q
      · exact hi.2 j q
      · rw [show j = i by omega]; exact bI_0.mp h32
    · refine jj_iconst (v := 1) (q := 36) dX9_isHeldBack_35 rfl rfl ?_
      refine jj_zret dX9_isHeldBack_36 rfl (by first | rfl | assumption) (Nat.zero_le _) (Nat.zero_le _) ?_
      exact ⟨_, by unfold mHB; rw [srch_hit hi.2 (by cases hh : H i X b; exact absurd (by rw [hh]; rfl) h32; rfl) (by omega)], rfl⟩
theorem ex_mHB (hm : hMo T S mo) (hu : 4 ≤ u ∧ u ≤ 6) {Q : JV} (hQ : mQ Q) (hA : A 2 = Q) {H : Nat → JV → Nat → Bool} (hn : hN A H Q) (hX : mI X) {b : Nat} (hb : b < 100) {V : JV} : Ex Γ (d + 2 * 11 + 3) Y_X9_isHeldBack [.ref mo, .ref (mo + u), .int (nI b)] (T, R, S, blk 18 I mo (st (av A V) u X), L, D, z) 0 0 (rIV (mHB H Q X b) (fun V => (T, R, S, blk 18 I mo (st (av A V) u X), L, D, z))) := by
  refine Ex.of (by decide) (by simp [Value.category]) (Nat.le_of_ble_eq_true rfl) rfl ?_
  refine jj_aload_n (q := 1) dX9_isHeldBack_0 rfl rfl rfl ?_
  refine jj_iload_n (q := 2) dX9_isHeldBack_1 rfl rfl rfl ?_
  refine jj_putIv (q := 5) dX9_isHeldBack_2 fl_X9_268 hm.t0 (u2_av (show 0 ≠ u by omega)) rfl rfl rfl rfl rfl ?_
  refine jj_iconst (v := 0) (q := 6) dX9_isHeldBack_5 rfl rfl ?_
  refine jj_istore_n (q := 7) dX9_isHeldBack_6 rfl (by decide) rfl ?_
  exact lp_mHB hm hu hQ hA hn hX hb (qKn Q) 0 ⟨by omega, fun j hj => absurd hj (Nat.not_lt_zero j)⟩
theorem ex_looksAt (hm : hMo T S mo) (hu : 4 ≤ u ∧ u ≤ 6) {Q : JV} (hQ : mQ Q) (hA : A 2 = Q) {H : Nat → JV → Nat → Bool} (hn : hN A H Q) (hX : mJ Q X) {p b : Nat} (hp : p < 40) (hb : b < 100) (hlo : X (133 + p) = nI b) {V : JV} : Ex Γ (d + 2 * 11 + 4) Y_X9_looksAt [.ref mo, .ref (mo + u), .int (nI p)] (T, R, S, blk 18 I mo (st (av A V) u X), L, D, z) 0 0 (rVV (fun V => (T, R, S, blk 18 I mo (st (av A V) u (mLk H Q X p b)), L, D, z))) := by
  have hf := hX.1.f hb
  refine Ex.of (by decide) (by simp [Value.category]) (Nat.le_of_ble_eq_true rfl) rfl ?_
  refine jj_aload_n (q := 1) dX9_looksAt_0 rfl rfl rfl ?_
  refine jj_sipush (v := 133) (q := 4) dX9_looksAt_1 rfl rfl ?_
  refine jj_iload_n (q := 5) dX9_looksAt_4 rfl rfl rfl ?_
  refine jj_iaddN (q := 6) (a := 133) (b := p) dX9_looksAt_5 rfl rfl rfl ?_
  refine jj_ialdW (q := 7) (j := 133 + p) (v := nI b) dX9_looksAt_6 (hm.tu hu) (blk_st (show u < 18 by omega)) rfl (by omega) hlo rfl ?_
  refine jj_istore_n (q := 8) dX9_looksAt_7 rfl (by decide) rfl ?_
  refine jj_aload_n (q := 9) dX9_looksAt_8 rfl rfl rfl ?_
  refine jj_iload_n (q := 10) dX9_looksAt_9 rfl rfl rfl ?_
  refine jj_cV1i (q := 13) dX9_looksAt_10 yk_X9_laneHere ml_X9_288 hm.t0 (ex_laneHere hm hu hQ (show av A V 2 = Q from hA) hp) rfl rfl rfl ⟨Nat.zero_le _, Nat.zero_le _⟩ ?_
  refine jj_istore (q := 15) dX9_looksAt_13 (by decide) rfl ?_
  refine jj_aload_n (q := 16) dX9_looksAt_15 rfl rfl rfl ?_
  refine jj_getS (q := 19) dX9_looksAt_16 fl_X9_17 hm.t0 hm.r0_10 rfl rfl rfl ?_
  refine jj_bipush (v := 15) (q := 21) dX9_looksAt_19 rfl rfl ?_
  refine jj_aload_n (q := 22) dX9_looksAt_21 rfl rfl rfl ?_
  refine jj_sipush (v := 173) (q := 25) dX9_looksAt_22 rfl rfl ?_
  refine jj_iload_n (q := 26) dX9_looksAt_25 rfl rfl rfl ?_
  refine jj_iaddN (q := 27) (a := 173) (b := b) dX9_looksAt_26 rfl rfl rfl ?_
  refine jj_ialdW (q := 28) (j := 173 + b) (v := nI (mF X b)) dX9_looksAt_27 (hm.tu hu) (blk_st (show u < 18 by omega)) rfl (by omega) hf.1 rfl ?_
  refine jj_iaddN (q := 29) (a := 15) (b := mF X b) dX9_looksAt_28 rfl rfl rfl ?_
  refine jj_ialdN (q := 30) (j := 15 + (mF X b)) dX9_looksAt_29 hm.t2 ((blk_av (show 2 < 18 by omega) (show 2 ≠ u by omega) (by decide)).trans hA) rfl (by omega) rfl ?_
  refine jj_iload_n (q := 31) dX9_looksAt_30 rfl rfl rfl ?_
  refine jj_icmp_ne (q := 34) (tgt := 57) dX9_looksAt_31 rfl rfl (fun h31 => ?_) (fun h31 => ?_)
  · refine jj_iload_n (q := 58) dX9_looksAt_57 rfl rfl rfl ?_
    refine jj_aload_n (q := 59) dX9_looksAt_58 rfl rfl rfl ?_
    refine jj_getS (q := 62) dX9_looksAt_59 fl_X9_17 hm.t0 hm.r0_10 rfl rfl rfl ?_
    refine jj_iconst (v := 2) (q := 63) dX9_looksAt_62 rfl rfl ?_
    refine jj_ialdN (q := 64) (j := 2) dX9_looksAt_63 hm.t2 ((blk_av (show 2 < 18 by omega) (show 2 ≠ u by omega) (by decide)).trans hA) rfl (by omega) rfl ?_
    refine jj_icmp_ne (q := 67) (tgt := 90) dX9_looksAt_64 rfl rfl (fun h64 => ?_) (fun h64 => ?_)
    · refine jj_iload (q := 92) dX9_looksAt_90 rfl rfl ?_
      refine jj_iconst (v := -1) (q := 93) dX9_looksAt_92 rfl rfl ?_
      refine jj_icmp_eq (q := 96) (tgt := 174) dX9_looksAt_93 rfl rfl (fun h93 => ?_) (fun h93 => ?_)
      · refine jj_vret dX9_looksAt_174 rfl (Nat.zero_le _) (Nat.zero_le _) ?_
        exact ⟨V, rfl, by unfold mLk; (first | rw [if_pos h31] | rw [if_neg h31] | skip); (first | rw [if_pos h40] | rw [if_neg h40] | skip); (try unfold mLk2); (first | rw [if_pos h64] | rw [if_neg h64] | skip); (first | rw [if_pos h73] | rw [if_neg h73] | skip); (try unfold mLk3); (first | rw [if_pos h93] | rw [if_neg h93] | skip); (first | rw [if_pos h101] | rw [if_neg h101] | skip); (first | rw [if_pos h112] | rw [if_neg h112] | skip); (first | rw [if_pos h121] | rw [if_neg h121] | skip); try rfl⟩
      · refine jj_aload_n (q := 97) dX9_looksAt_96 rfl rfl rfl ?_
        refine jj_iload_n (q := 98) dX9_looksAt_97 rfl rfl rfl ?_
        refine jj_cS2i (q := 101) dX9_looksAt_98 yk_X9_isOf ml_X9_291 (ex_isOf hm hu hX.1 hb) rfl rfl rfl ⟨Nat.zero_le _, Nat.zero_le _⟩ ?_
        refine jj_if_ne (q := 104) (tgt := 174) dX9_looksAt_101 rfl rfl (fun h101 => ?_) (fun h101 => ?_)
        · refine jj_vret dX9_looksAt_174 rfl (Nat.zero_le _) (Nat.zero_le _) ?_
          exact ⟨V, rfl, by unfold mLk; (first | rw [if_pos h31] | rw [if_neg h31] | skip); (first | rw [if_pos h40] | rw [if_neg h40] | skip); (try unfold mLk2); (first | rw [if_pos h64] | rw [if_neg h64] | skip); (first | rw [if_pos h73] | rw [if_neg h73] | skip); (try unfold mLk3); (first | rw [if_pos h93] | rw [if_neg h93] | skip); (first | rw [if_pos h101] | rw [if_neg h101] | skip); (first | rw [if_pos h112] | rw [if_neg h112] | skip); (first | rw [if_pos h121] | rw [if_neg h121] | skip); try rfl⟩
        · have hl4 := mLh_b hQ h93
          rw [hl4.1]
          refine jj_aload_n (q := 105) dX9_looksAt_104 rfl rfl rfl ?_
          refine jj_aload_n (q := 106) dX9_looksAt_105 rfl rfl rfl ?_
          refine jj_iload (q := 108) dX9_looksAt_106 rfl rfl ?_
          refine jj_iload_n (q := 109) dX9_looksAt_108 rfl rfl rfl ?_
          refine jj_cV3i (q := 112) dX9_looksAt_109 yk_X9_hasRoom ml_X9_301 hm.t0 (ex_hasRoom hm hu hQ (show av A V 2 = Q from hA) hX.1 hl4.2 hb) rfl rfl rfl ⟨Nat.zero_le _, Nat.zero_le _⟩ ?_
          refine jj_if_eq (q := 115) (tgt := 174) dX9_looksAt_112 rfl rfl (fun h112 => ?_) (fun h112 => ?_)
          · refine jj_vret dX9_looksAt_174 rfl (Nat.zero_le _) (Nat.zero_le _) ?_
            exact ⟨V, rfl, by unfold mLk; (first | rw [if_pos h31] | rw [if_neg h31] | skip); (first | rw [if_pos h40] | rw [if_neg h40] | skip); (try unfold mLk2); (first | rw [if_pos h64] | rw [if_neg h64] | skip); (first | rw [if_pos h73] | rw [if_neg h73] | skip); (try unfold mLk3); (first | rw [if_pos h93] | rw [if_neg h93] | skip); (first | rw [if_pos h101] | rw [if_neg h101] | skip); (first | rw [if_pos h112] | rw [if_neg h112] | skip); (first | rw [if_pos h121] | rw [if_neg h121] | skip); try rfl⟩
          · refine jj_aload_n (q := 116) dX9_looksAt_115 rfl rfl rfl ?_
            refine jj_aload_n (q := 117) dX9_looksAt_116 rfl rfl rfl ?_
            refine jj_iload_n (q := 118) dX9_looksAt_117 rfl rfl rfl ?_
            refine jj_eV2i (q := 121) dX9_looksAt_118 yk_X9_isHeldBack ml_X9_304 hm.t0 (ex_mHB hm hu hQ hA hn hX.1 hb) rfl rfl rfl ⟨Nat.zero_le _, Nat.zero_le _⟩ (fun V => ?_)
            refine jj_if_ne (q := 124) (tgt := 174) dX9_looksAt_121 rfl rfl (fun h121 => ?_) (fun h121 => ?_)
            · refine jj_vret dX9_looksAt_174 rfl (Nat.zero_le _) (Nat.zero_le _) ?_
              exact ⟨V, rfl, by unfold mLk; (first | rw [if_pos h31] | rw [if_neg h31] | skip); (first | rw [if_pos h40] | rw [if_neg h40] | skip); (try unfold mLk2); (first | rw [if_pos h64] | rw [if_neg h64] | skip); (first | rw [if_pos h73] | rw [if_neg h73] | skip); (try unfold mLk3); (first | rw [if_pos h93] | rw [if_neg h93] | skip); (first | rw [if_pos h101] | rw [if_neg h101] | skip); (first | rw [if_pos h112] | rw [if_neg h112] | skip); (first | rw [if_pos h121] | rw [if_neg h121] | skip); try rfl⟩
            · refine jj_aload_n (q := 125) dX9_looksAt_124 rfl rfl rfl ?_
              refine jj_aload_n (q := 126) dX9_looksAt_125 rfl rfl rfl ?_
              refine jj_iload_n (q := 127) dX9_looksAt_126 rfl rfl rfl ?_
              refine jj_cS2i (q := 130) dX9_looksAt_127 yk_X9_leavesLoop ml_X9_294 (ex_leavesLoop hm hu hp hb hlo) rfl rfl rfl ⟨Nat.zero_le _, Nat.zero_le _⟩ ?_
              refine jj_bipush (v := 9) (q := 132) dX9_looksAt_130 rfl rfl ?_
              refine jj_cS3v (q := 135) dX9_looksAt_132 yk_X9_becomes ml_X9_297 (ex_becomes hm hu (mLv_J hX hp).1 hb) rfl rfl rfl ⟨Nat.zero_le _, Nat.zero_le _⟩ ?_
              have hee : mHe (mBe (mLv X p b) b 9) (nN (mLh Q p)) = mHe X (nN (mLh Q p)) := by
                unfold mHe
                rw [mBe_lo (by omega) (by omega), mLv_lo (by omega)]
              have hj9 := mBe_J (s := 9) (mLv_J (b := b) hX hp) hb
              have hh := hj9.1.he hl4.2
              refine jj_aload_n (q := 136) dX9_looksAt_135 rfl rfl rfl ?_
              refine jj_bipush (v := 29) (q := 138) dX9_looksAt_136 rfl rfl ?_
              refine jj_bipush (v := 20) (q := 140) dX9_looksAt_138 rfl rfl ?_
              refine jj_iload (q := 142) dX9_looksAt_140 rfl rfl ?_
              refine jj_imulN (q := 143) (a := 20) (b := nN (mLh Q p)) dX9_looksAt_142 rfl rfl rfl ?_
              refine jj_iaddN (q := 144) (a := 29) (b := 20 * (nN (mLh Q p))) dX9_looksAt_143 rfl rfl rfl ?_
              refine jj_aload_n (q := 145) dX9_looksAt_144 rfl rfl rfl ?_
              refine jj_bipush (v := 21) (q := 147) dX9_looksAt_145 rfl rfl ?_
              refine jj_iload (q := 149) dX9_looksAt_147 rfl rfl ?_
              refine jj_iaddN (q := 150) (a := 21) (b := nN (mLh Q p)) dX9_looksAt_149 rfl rfl rfl ?_
              refine jj_ialdW (q := 151) (j := 21 + (nN (mLh Q p))) (v := nI (mHe (mBe (mLv X p b) b 9) (nN (mLh Q p)))) dX9_looksAt_150 (hm.tu hu) (blk_st (show u < 18 by omega)) rfl (by omega) hh.1 rfl ?_
              refine jj_iaddN (q := 152) (a := 29 + (20 * (nN (mLh Q p)))) (b := mHe (mBe (mLv X p b) b 9) (nN (mLh Q p))) dX9_looksAt_151 rfl rfl rfl ?_
              refine jj_iload_n (q := 153) dX9_looksAt_152 rfl rfl rfl ?_
              refine jj_iastN (q := 154) (j := (29 + (20 * (nN (mLh Q p)))) + (mHe (mBe (mLv X p b) b 9) (nN (mLh Q p)))) dX9_looksAt_153 (hm.tu hu) (u2_bst (show u < 18 by omega)) rfl (by omega) rfl ?_
              refine jj_aload_n (q := 155) dX9_looksAt_154 rfl rfl rfl ?_
              refine jj_bipush (v := 21) (q := 157) dX9_looksAt_155 rfl rfl ?_
              refine jj_iload (q := 159) dX9_looksAt_157 rfl rfl ?_
              refine jj_iaddN (q := 160) (a := 21) (b := nN (mLh Q p)) dX9_looksAt_159 rfl rfl rfl ?_
              refine jj_dup2 (q := 161) dX9_looksAt_160 rfl rfl rfl ?_
              refine jj_ialdW (q := 162) (j := 21 + (nN (mLh Q p))) (v := nI (mHe (mBe (mLv X p b) b 9) (nN (mLh Q p)))) dX9_looksAt_161 (hm.tu hu) (blk_st (show u < 18 by omega)) rfl (by omega) (by rw [w1_ne (by omega)]; exact hh.1) rfl ?_
              refine jj_iconst (v := 1) (q := 163) dX9_looksAt_162 rfl rfl ?_
              refine jj_iaddN (q := 164) (a := mHe (mBe (mLv X p b) b 9) (nN (mLh Q p))) (b := 1) dX9_looksAt_163 rfl rfl rfl ?_
              refine jj_iastN (q := 165) (j := 21 + (nN (mLh Q p))) dX9_looksAt_164 (hm.tu hu) (u2_bst (show u < 18 by omega)) rfl (by omega) rfl ?_
              refine jj_aload_n (q := 166) dX9_looksAt_165 rfl rfl rfl ?_
              refine jj_sipush (v := 473) (q := 169) dX9_looksAt_166 rfl rfl ?_
              refine jj_iload_n (q := 170) dX9_looksAt_169 rfl rfl rfl ?_
              refine jj_iaddN (q := 171) (a := 473) (b := b) dX9_looksAt_170 rfl rfl rfl ?_
              refine jj_iload (q := 173) dX9_looksAt_171 rfl rfl ?_
              refine jj_iastN (q := 174) (j := 473 + b) dX9_looksAt_173 (hm.tu hu) (u2_bst (show u < 18 by omega)) rfl (by omega) rfl ?_
              refine jj_vret dX9_looksAt_174 rfl (Nat.zero_le _) (Nat.zero_le _) ?_
              exact ⟨V, rfl, by unfold mLk; (first | rw [if_pos h31] | rw [if_neg h31] | skip); (first | rw [if_pos h40] | rw [if_neg h40] | skip); (try unfold mLk2); (first | rw [if_pos h64] | rw [if_neg h64] | skip); (first | rw [if_pos h73] | rw [if_neg h73] | skip); (try unfold mLk3); (first | rw [if_pos h93] | rw [if_neg h93] | skip); (first | rw [if_pos h101] | rw [if_neg h101] | skip); (first | rw [if_pos h112] | rw [if_neg h112] | skip); (first | rw [if_pos h121] | rw [if_neg h121] | skip); try rfl⟩
    · refine jj_aload_n (q := 68) dX9_looksAt_67 rfl rfl rfl ?_
      refine jj_iload_n (q := 69) dX9_looksAt_68 rfl rfl rfl ?_
      refine jj_cS2i (q := 72) dX9_looksAt_69 yk_X9_isOf ml_X9_291 (ex_isOf hm hu hX.1 hb) rfl rfl rfl ⟨Nat.zero_le _, Nat.zero_le _⟩ ?_
      refine jj_iconst (v := 2) (q := 73) dX9_looksAt_72 rfl rfl ?_
      refine jj_icmp_ne (q := 76) (tgt := 90) dX9_looksAt_73 rfl rfl (fun h73 => ?_) (fun h73 => ?_)
      · refine jj_iload (q := 92) dX9_looksAt_90 rfl rfl ?_
        refine jj_iconst (v := -1) (q := 93) dX9_looksAt_92 rfl rfl ?_
        refine jj_icmp_eq (q := 96) (tgt := 174) dX9_looksAt_93 rfl rfl (fun h93 => ?_) (fun h93 => ?_)
        · refine jj_vret dX9_looksAt_174 rfl (Nat.zero_le _) (Nat.zero_le _) ?_
          exact ⟨V, rfl, by unfold mLk; (first | rw [if_pos h31] | rw [if_neg h31] | skip); (first | rw [if_pos h40] | rw [if_neg h40] | skip); (try unfold mLk2); (first | rw [if_pos h64] | rw [if_neg h64] | skip); (first | rw [if_pos h73] | rw [if_neg h73] | skip); (try unfold mLk3); (first | rw [if_pos h93] | rw [if_neg h93] | skip); (first | rw [if_pos h101] | rw [if_neg h101] | skip); (first | rw [if_pos h112] | rw [if_neg h112] | skip); (first | rw [if_pos h121] | rw [if_neg h121] | skip); try rfl⟩
        · refine jj_aload_n (q := 97) dX9_looksAt_96 rfl rfl rfl ?_
          refine jj_iload_n (q := 98) dX9_looksAt_97 rfl rfl rfl ?_
          refine jj_cS2i (q := 101) dX9_looksAt_98 yk_X9_isOf ml_X9_291 (ex_isOf hm hu hX.1 hb) rfl rfl rfl ⟨Nat.zero_le _, Nat.zero_le _⟩ ?_
          refine jj_if_ne (q := 104) (tgt := 174) dX9_looksAt_101 rfl rfl (fun h101 => ?_) (fun h101 => ?_)
          · refine jj_vret dX9_looksAt_174 rfl (Nat.zero_le _) (Nat.zero_le _) ?_
            exact ⟨V, rfl, by unfold mLk; (first | rw [if_pos h31] | rw [if_neg h31] | skip); (first | rw [if_pos h40] | rw [if_neg h40] | skip); (try unfold mLk2); (first | rw [if_pos h64] | rw [if_neg h64] | skip); (first | rw [if_pos h73] | rw [if_neg h73] | skip); (try unfold mLk3); (first | rw [if_pos h93] | rw [if_neg h93] | skip); (first | rw [if_pos h101] | rw [if_neg h101] | skip); (first | rw [if_pos h112] | rw [if_neg h112] | skip); (first | rw [if_pos h121] | rw [if_neg h121] | skip); try rfl⟩
          · have hl4 := mLh_b hQ h93
            rw [hl4.1]
            refine jj_aload_n (q := 105) dX9_looksAt_104 rfl rfl rfl ?_
            refine jj_aload_n (q := 106) dX9_looksAt_105 rfl rfl rfl ?_
            refine jj_iload (q := 108) dX9_looksAt_106 rfl rfl ?_
            refine jj_iload_n (q := 109) dX9_looksAt_108 rfl rfl rfl ?_
            refine jj_cV3i (q := 112) dX9_looksAt_109 yk_X9_hasRoom ml_X9_301 hm.t0 (ex_hasRoom hm hu hQ (show av A V 2 = Q from hA) hX.1 hl4.2 hb) rfl rfl rfl ⟨Nat.zero_le _, Nat.zero_le _⟩ ?_
            refine jj_if_eq (q := 115) (tgt := 174) dX9_looksAt_112 rfl rfl (fun h112 => ?_) (fun h112 => ?_)
            · refine jj_vret dX9_looksAt_174 rfl (Nat.zero_le _) (Nat.zero_le _) ?_
              exact ⟨V, rfl, by unfold mLk; (first | rw [if_pos h31] | rw [if_neg h31] | skip); (first | rw [if_pos h40] | rw [if_neg h40] | skip); (try unfold mLk2); (first | rw [if_pos h64] | rw [if_neg h64] | skip); (first | rw [if_pos h73] | rw [if_neg h73] | skip); (try unfold mLk3); (first | rw [if_pos h93] | rw [if_neg h93] | skip); (first | rw [if_pos h101] | rw [if_neg h101] | skip); (first | rw [if_pos h112] | rw [if_neg h112] | skip); (first | rw [if_pos h121] | rw [if_neg h121] | skip); try rfl⟩
            · refine jj_aload_n (q := 116) dX9_looksAt_115 rfl rfl rfl ?_
              refine jj_aload_n (q := 117) dX9_looksAt_116 rfl rfl rfl ?_
              refine jj_iload_n (q := 118) dX9_looksAt_117 rfl rfl rfl ?_
              refine jj_eV2i (q := 121) dX9_looksAt_118 yk_X9_isHeldBack ml_X9_304 hm.t0 (ex_mHB hm hu hQ hA hn hX.1 hb) rfl rfl rfl ⟨Nat.zero_le _, Nat.zero_le _⟩ (fun V => ?_)
              refine jj_if_ne (q := 124) (tgt := 174) dX9_looksAt_121 rfl rfl (fun h121 => ?_) (fun h121 => ?_)
              · refine jj_vret dX9_looksAt_174 rfl (Nat.zero_le _) (Nat.zero_le _) ?_
                exact ⟨V, rfl, by unfold mLk; (first | rw [if_pos h31] | rw [if_neg h31] | skip); (first | rw [if_pos h40] | rw [if_neg h40] | skip); (try unfold mLk2); (first | rw [if_pos h64] | rw [if_neg h64] | skip); (first | rw [if_pos h73] | rw [if_neg h73] | skip); (try unfold mLk3); (first | rw [if_pos h93] | rw [if_neg h93] | skip); (first | rw [if_pos h101] | rw [if_neg h101] | skip); (first | rw [if_pos h112] | rw [if_neg h112] | skip); (first | rw [if_pos h121] | rw [if_neg h121] | skip); try rfl⟩
              · refine jj_aload_n (q := 125) dX9_looksAt_124 rfl rfl rfl ?_
                refine jj_aload_n (q := 126) dX9_looksAt_125 rfl rfl rfl ?_
                refine jj_iload_n (q := 127) dX9_looksAt_126 rfl rfl rfl ?_
                refine jj_cS2i (q := 130) dX9_looksAt_127 yk_X9_leavesLoop ml_X9_294 (ex_leavesLoop hm hu hp hb hlo) rfl rfl rfl ⟨Nat.zero_le _, Nat.zero_le _⟩ ?_
                refine jj_bipush (v := 9) (q := 132) dX9_looksAt_130 rfl rfl ?_
                refine jj_cS3v (q := 135) dX9_looksAt_132 yk_X9_becomes ml_X9_297 (ex_becomes hm hu (mLv_J hX hp).1 hb) rfl rfl rfl ⟨Nat.zero_le _, Nat.zero_le _⟩ ?_
                have hee : mHe (mBe (mLv X p b) b 9) (nN (mLh Q p)) = mHe X (nN (mLh Q p)) := by
                  unfold mHe
                  rw [mBe_lo (by omega) (by omega), mLv_lo (by omega)]
                have hj9 := mBe_J (s := 9) (mLv_J (b := b) hX hp) hb
                have hh := hj9.1.he hl4.2
                refine jj_aload_n (q := 136) dX9_looksAt_135 rfl rfl rfl ?_
                refine jj_bipush (v := 29) (q := 138) dX9_looksAt_136 rfl rfl ?_
                refine jj_bipush (v := 20) (q := 140) dX9_looksAt_138 rfl rfl ?_
                refine jj_iload (q := 142) dX9_looksAt_140 rfl rfl ?_
                refine jj_imulN (q := 143) (a := 20) (b := nN (mLh Q p)) dX9_looksAt_142 rfl rfl rfl ?_
                refine jj_iaddN (q := 144) (a := 29) (b := 20 * (nN (mLh Q p))) dX9_looksAt_143 rfl rfl rfl ?_
                refine jj_aload_n (q := 145) dX9_looksAt_144 rfl rfl rfl ?_
                refine jj_bipush (v := 21) (q := 147) dX9_looksAt_145 rfl rfl ?_
                refine jj_iload (q := 149) dX9_looksAt_147 rfl rfl ?_
                refine jj_iaddN (q := 150) (a := 21) (b := nN (mLh Q p)) dX9_looksAt_149 rfl rfl rfl ?_
                refine jj_ialdW (q := 151) (j := 21 + (nN (mLh Q p))) (v := nI (mHe (mBe (mLv X p b) b 9) (nN (mLh Q p)))) dX9_looksAt_150 (hm.tu hu) (blk_st (show u < 18 by omega)) rfl (by omega) hh.1 rfl ?_
                refine jj_iaddN (q := 152) (a := 29 + (20 * (nN (mLh Q p)))) (b := mHe (mBe (mLv X p b) b 9) (nN (mLh Q p))) dX9_looksAt_151 rfl rfl rfl ?_
                refine jj_iload_n (q := 153) dX9_looksAt_152 rfl rfl rfl ?_
                refine jj_iastN (q := 154) (j := (29 + (20 * (nN (mLh Q p)))) + (mHe (mBe (mLv X p b) b 9) (nN (mLh Q p)))) dX9_looksAt_153 (hm.tu hu) (u2_bst (show u < 18 by omega)) rfl (by omega) rfl ?_
                refine jj_aload_n (q := 155) dX9_looksAt_154 rfl rfl rfl ?_
                refine jj_bipush (v := 21) (q := 157) dX9_looksAt_155 rfl rfl ?_
                refine jj_iload (q := 159) dX9_looksAt_157 rfl rfl ?_
                refine jj_iaddN (q := 160) (a := 21) (b := nN (mLh Q p)) dX9_looksAt_159 rfl rfl rfl ?_
                refine jj_dup2 (q := 161) dX9_looksAt_160 rfl rfl rfl ?_
                refine jj_ialdW (q := 162) (j := 21 + (nN (mLh Q p))) (v := nI (mHe (mBe (mLv X p b) b 9) (nN (mLh Q p)))) dX9_looksAt_161 (hm.tu hu) (blk_st (show u < 18 by omega)) rfl (by omega) (by rw [w1_ne (by omega)]; exact hh.1) rfl ?_
                refine jj_iconst (v := 1) (q := 163) dX9_looksAt_162 rfl rfl ?_
                refine jj_iaddN (q := 164) (a := mHe (mBe (mLv X p b) b 9) (nN (mLh Q p))) (b := 1) dX9_looksAt_163 rfl rfl rfl ?_
                refine jj_iastN (q := 165) (j := 21 + (nN (mLh Q p))) dX9_looksAt_164 (hm.tu hu) (u2_bst (show u < 18 by omega)) rfl (by omega) rfl ?_
                refine jj_aload_n (q := 166) dX9_looksAt_165 rfl rfl rfl ?_
                refine jj_sipush (v := 473) (q := 169) dX9_looksAt_166 rfl rfl ?_
                refine jj_iload_n (q := 170) dX9_looksAt_169 rfl rfl rfl ?_
                refine jj_iaddN (q := 171) (a := 473) (b := b) dX9_looksAt_170 rfl rfl rfl ?_
                refine jj_iload (q := 173) dX9_looksAt_171 rfl rfl ?_
                refine jj_iastN (q := 174) (j := 473 + b) dX9_looksAt_173 (hm.tu hu) (u2_bst (show u < 18 by omega)) rfl (by omega) rfl ?_
                refine jj_vret dX9_looksAt_174 rfl (Nat.zero_le _) (Nat.zero_le _) ?_
                exact ⟨V, rfl, by unfold mLk; (first | rw [if_pos h31] | rw [if_neg h31] | skip); (first | rw [if_pos h40] | rw [if_neg h40] | skip); (try unfold mLk2); (first | rw [if_pos h64] | rw [if_neg h64] | skip); (first | rw [if_pos h73] | rw [if_neg h73] | skip); (try unfold mLk3); (first | rw [if_pos h93] | rw [if_neg h93] | skip); (first | rw [if_pos h101] | rw [if_neg h101] | skip); (first | rw [if_pos h112] | rw [if_neg h112] | skip); (first | rw [if_pos h121] | rw [if_neg h121] | skip); try rfl⟩
      · refine jj_aload_n (q := 77) dX9_looksAt_76 rfl rfl rfl ?_
        refine jj_aload_n (q := 78) dX9_looksAt_77 rfl rfl rfl ?_
        refine jj_iload_n (q := 79) dX9_looksAt_78 rfl rfl rfl ?_
        refine jj_cS2i (q := 82) dX9_looksAt_79 yk_X9_leavesLoop ml_X9_294 (ex_leavesLoop hm hu hp hb hlo) rfl rfl rfl ⟨Nat.zero_le _, Nat.zero_le _⟩ ?_
        refine jj_bipush (v := 11) (q := 84) dX9_looksAt_82 rfl rfl ?_
        refine jj_cS3v (q := 87) dX9_looksAt_84 yk_X9_becomes ml_X9_297 (ex_becomes hm hu (mLv_J hX hp).1 hb) rfl rfl rfl ⟨Nat.zero_le _, Nat.zero_le _⟩ ?_
        refine jj_goto (tgt := 174) dX9_looksAt_87 rfl ?_
        refine jj_vret dX9_looksAt_174 rfl (Nat.zero_le _) (Nat.zero_le _) ?_
        exact ⟨V, rfl, by unfold mLk; (first | rw [if_pos h31] | rw [if_neg h31] | skip); (first | rw [if_pos h40] | rw [if_neg h40] | skip); (try unfold mLk2); (first | rw [if_pos h64] | rw [if_neg h64] | skip); (first | rw [if_pos h73] | rw [if_neg h73] | skip); (try unfold mLk3); (first | rw [if_pos h93] | rw [if_neg h93] | skip); (first | rw [if_pos h101] | rw [if_neg h101] | skip); (first | rw [if_pos h112] | rw [if_neg h112] | skip); (first | rw [if_pos h121] | rw [if_neg h121] | skip); try rfl⟩
  · refine jj_aload_n (q := 35) dX9_looksAt_34 rfl rfl rfl ?_
    refine jj_iload_n (q := 36) dX9_looksAt_35 rfl rfl rfl ?_
    refine jj_cS2i (q := 39) dX9_looksAt_36 yk_X9_isOf ml_X9_291 (ex_isOf hm hu hX.1 hb) rfl rfl rfl ⟨Nat.zero_le _, Nat.zero_le _⟩ ?_
    refine jj_iconst (v := 1) (q := 40) dX9_looksAt_39 rfl rfl ?_
    refine jj_icmp_ne (q := 43) (tgt := 57) dX9_looksAt_40 rfl rfl (fun h40 => ?_) (fun h40 => ?_)
    · refine jj_iload_n (q := 58) dX9_looksAt_57 rfl rfl rfl ?_
      refine jj_aload_n (q := 59) dX9_looksAt_58 rfl rfl rfl ?_
      refine jj_getS (q := 62) dX9_looksAt_59 fl_X9_17 hm.t0 hm.r0_10 rfl rfl rfl ?_
      refine jj_iconst (v := 2) (q := 63) dX9_looksAt_62 rfl rfl ?_
      refine jj_ialdN (q := 64) (j := 2) dX9_looksAt_63 hm.t2 ((blk_av (show 2 < 18 by omega) (show 2 ≠ u by omega) (by decide)).trans hA) rfl (by omega) rfl ?_
      refine jj_icmp_ne (q := 67) (tgt := 90) dX9_looksAt_64 rfl rfl (fun h64 => ?_) (fun h64 => ?_)
      · refine jj_iload (q := 92) dX9_looksAt_90 rfl rfl ?_
        refine jj_iconst (v := -1) (q := 93) dX9_looksAt_92 rfl rfl ?_
        refine jj_icmp_eq (q := 96) (tgt := 174) dX9_looksAt_93 rfl rfl (fun h93 => ?_) (fun h93 => ?_)
        · refine jj_vret dX9_looksAt_174 rfl (Nat.zero_le _) (Nat.zero_le _) ?_
          exact ⟨V, rfl, by unfold mLk; (first | rw [if_pos h31] | rw [if_neg h31] | skip); (first | rw [if_pos h40] | rw [if_neg h40] | skip); (try unfold mLk2); (first | rw [if_pos h64] | rw [if_neg h64] | skip); (first | rw [if_pos h73] | rw [if_neg h73] | skip); (try unfold mLk3); (first | rw [if_pos h93] | rw [if_neg h93] | skip); (first | rw [if_pos h101] | rw [if_neg h101] | skip); (first | rw [if_pos h112] | rw [if_neg h112] | skip); (first | rw [if_pos h121] | rw [if_neg h121] | skip); try rfl⟩
        · refine jj_aload_n (q := 97) dX9_looksAt_96 rfl rfl rfl ?_
          refine jj_iload_n (q := 98) dX9_looksAt_97 rfl rfl rfl ?_
          refine jj_cS2i (q := 101) dX9_looksAt_98 yk_X9_isOf ml_X9_291 (ex_isOf hm hu hX.1 hb) rfl rfl rfl ⟨Nat.zero_le _, Nat.zero_le _⟩ ?_
          refine jj_if_ne (q := 104) (tgt := 174) dX9_looksAt_101 rfl rfl (fun h101 => ?_) (fun h101 => ?_)
          · refine jj_vret dX9_looksAt_174 rfl (Nat.zero_le _) (Nat.zero_le _) ?_
            exact ⟨V, rfl, by unfold mLk; (first | rw [if_pos h31] | rw [if_neg h31] | skip); (first | rw [if_pos h40] | rw [if_neg h40] | skip); (try unfold mLk2); (first | rw [if_pos h64] | rw [if_neg h64] | skip); (first | rw [if_pos h73] | rw [if_neg h73] | skip); (try unfold mLk3); (first | rw [if_pos h93] | rw [if_neg h93] | skip); (first | rw [if_pos h101] | rw [if_neg h101] | skip); (first | rw [if_pos h112] | rw [if_neg h112] | skip); (first | rw [if_pos h121] | rw [if_neg h121] | skip); try rfl⟩
          · have hl4 := mLh_b hQ h93
            rw [hl4.1]
            refine jj_aload_n (q := 105) dX9_looksAt_104 rfl rfl rfl ?_
            refine jj_aload_n (q := 106) dX9_looksAt_105 rfl rfl rfl ?_
            refine jj_iload (q := 108) dX9_looksAt_106 rfl rfl ?_
            refine jj_iload_n (q := 109) dX9_looksAt_108 rfl rfl rfl ?_
            refine jj_cV3i (q := 112) dX9_looksAt_109 yk_X9_hasRoom ml_X9_301 hm.t0 (ex_hasRoom hm hu hQ (show av A V 2 = Q from hA) hX.1 hl4.2 hb) rfl rfl rfl ⟨Nat.zero_le _, Nat.zero_le _⟩ ?_
            refine jj_if_eq (q := 115) (tgt := 174) dX9_looksAt_112 rfl rfl (fun h112 => ?_) (fun h112 => ?_)
            · refine jj_vret dX9_looksAt_174 rfl (Nat.zero_le _) (Nat.zero_le _) ?_
              exact ⟨V, rfl, by unfold mLk; (first | rw [if_pos h31] | rw [if_neg h31] | skip); (first | rw [if_pos h40] | rw [if_neg h40] | skip); (try unfold mLk2); (first | rw [if_pos h64] | rw [if_neg h64] | skip); (first | rw [if_pos h73] | rw [if_neg h73] | skip); (try unfold mLk3); (first | rw [if_pos h93] | rw [if_neg h93] | skip); (first | rw [if_pos h101] | rw [if_neg h101] | skip); (first | rw [if_pos h112] | rw [if_neg h112] | skip); (first | rw [if_pos h121] | rw [if_neg h121] | skip); try rfl⟩
            · refine jj_aload_n (q := 116) dX9_looksAt_115 rfl rfl rfl ?_
              refine jj_aload_n (q := 117) dX9_looksAt_116 rfl rfl rfl ?_
              refine jj_iload_n (q := 118) dX9_looksAt_117 rfl rfl rfl ?_
              refine jj_eV2i (q := 121) dX9_looksAt_118 yk_X9_isHeldBack ml_X9_304 hm.t0 (ex_mHB hm hu hQ hA hn hX.1 hb) rfl rfl rfl ⟨Nat.zero_le _, Nat.zero_le _⟩ (fun V => ?_)
              refine jj_if_ne (q := 124) (tgt := 174) dX9_looksAt_121 rfl rfl (fun h121 => ?_) (fun h121 => ?_)
              · refine jj_vret dX9_looksAt_174 rfl (Nat.zero_le _) (Nat.zero_le _) ?_
                exact ⟨V, rfl, by unfold mLk; (first | rw [if_pos h31] | rw [if_neg h31] | skip); (first | rw [if_pos h40] | rw [if_neg h40] | skip); (try unfold mLk2); (first | rw [if_pos h64] | rw [if_neg h64] | skip); (first | rw [if_pos h73] | rw [if_neg h73] | skip); (try unfold mLk3); (first | rw [if_pos h93] | rw [if_neg h93] | skip); (first | rw [if_pos h101] | rw [if_neg h101] | skip); (first | rw [if_pos h112] | rw [if_neg h112] | skip); (first | rw [if_pos h121] | rw [if_neg h121] | skip); try rfl⟩
              · refine jj_aload_n (q := 125) dX9_looksAt_124 rfl rfl rfl ?_
                refine jj_aload_n (q := 126) dX9_looksAt_125 rfl rfl rfl ?_
                refine jj_iload_n (q := 127) dX9_looksAt_126 rfl rfl rfl ?_
                refine jj_cS2i (q := 130) dX9_looksAt_127 yk_X9_leavesLoop ml_X9_294 (ex_leavesLoop hm hu hp hb hlo) rfl rfl rfl ⟨Nat.zero_le _, Nat.zero_le _⟩ ?_
                refine jj_bipush (v := 9) (q := 132) dX9_looksAt_130 rfl rfl ?_
                refine jj_cS3v (q := 135) dX9_looksAt_132 yk_X9_becomes ml_X9_297 (ex_becomes hm hu (mLv_J hX hp).1 hb) rfl rfl rfl ⟨Nat.zero_le _, Nat.zero_le _⟩ ?_
                have hee : mHe (mBe (mLv X p b) b 9) (nN (mLh Q p)) = mHe X (nN (mLh Q p)) := by
                  unfold mHe
                  rw [mBe_lo (by omega) (by omega), mLv_lo (by omega)]
                have hj9 := mBe_J (s := 9) (mLv_J (b := b) hX hp) hb
                have hh := hj9.1.he hl4.2
                refine jj_aload_n (q := 136) dX9_looksAt_135 rfl rfl rfl ?_
                refine jj_bipush (v := 29) (q := 138) dX9_looksAt_136 rfl rfl ?_
                refine jj_bipush (v := 20) (q := 140) dX9_looksAt_138 rfl rfl ?_
                refine jj_iload (q := 142) dX9_looksAt_140 rfl rfl ?_
                refine jj_imulN (q := 143) (a := 20) (b := nN (mLh Q p)) dX9_looksAt_142 rfl rfl rfl ?_
                refine jj_iaddN (q := 144) (a := 29) (b := 20 * (nN (mLh Q p))) dX9_looksAt_143 rfl rfl rfl ?_
                refine jj_aload_n (q := 145) dX9_looksAt_144 rfl rfl rfl ?_
                refine jj_bipush (v := 21) (q := 147) dX9_looksAt_145 rfl rfl ?_
                refine jj_iload (q := 149) dX9_looksAt_147 rfl rfl ?_
                refine jj_iaddN (q := 150) (a := 21) (b := nN (mLh Q p)) dX9_looksAt_149 rfl rfl rfl ?_
                refine jj_ialdW (q := 151) (j := 21 + (nN (mLh Q p))) (v := nI (mHe (mBe (mLv X p b) b 9) (nN (mLh Q p)))) dX9_looksAt_150 (hm.tu hu) (blk_st (show u < 18 by omega)) rfl (by omega) hh.1 rfl ?_
                refine jj_iaddN (q := 152) (a := 29 + (20 * (nN (mLh Q p)))) (b := mHe (mBe (mLv X p b) b 9) (nN (mLh Q p))) dX9_looksAt_151 rfl rfl rfl ?_
                refine jj_iload_n (q := 153) dX9_looksAt_152 rfl rfl rfl ?_
                refine jj_iastN (q := 154) (j := (29 + (20 * (nN (mLh Q p)))) + (mHe (mBe (mLv X p b) b 9) (nN (mLh Q p)))) dX9_looksAt_153 (hm.tu hu) (u2_bst (show u < 18 by omega)) rfl (by omega) rfl ?_
                refine jj_aload_n (q := 155) dX9_looksAt_154 rfl rfl rfl ?_
                refine jj_bipush (v := 21) (q := 157) dX9_looksAt_155 rfl rfl ?_
                refine jj_iload (q := 159) dX9_looksAt_157 rfl rfl ?_
                refine jj_iaddN (q := 160) (a := 21) (b := nN (mLh Q p)) dX9_looksAt_159 rfl rfl rfl ?_
                refine jj_dup2 (q := 161) dX9_looksAt_160 rfl rfl rfl ?_
                refine jj_ialdW (q := 162) (j := 21 + (nN (mLh Q p))) (v := nI (mHe (mBe (mLv X p b) b 9) (nN (mLh Q p)))) dX9_looksAt_161 (hm.tu hu) (blk_st (show u < 18 by omega)) rfl (by omega) (by rw [w1_ne (by omega)]; exact hh.1) rfl ?_
                refine jj_iconst (v := 1) (q := 163) dX9_looksAt_162 rfl rfl ?_
                refine jj_iaddN (q := 164) (a := mHe (mBe (mLv X p b) b 9) (nN (mLh Q p))) (b := 1) dX9_looksAt_163 rfl rfl rfl ?_
                refine jj_iastN (q := 165) (j := 21 + (nN (mLh Q p))) dX9_looksAt_164 (hm.tu hu) (u2_bst (show u < 18 by omega)) rfl (by omega) rfl ?_
                refine jj_aload_n (q := 166) dX9_looksAt_165 rfl rfl rfl ?_
                refine jj_sipush (v := 473) (q := 169) dX9_looksAt_166 rfl rfl ?_
                refine jj_iload_n (q := 170) dX9_looksAt_169 rfl rfl rfl ?_
                refine jj_iaddN (q := 171) (a := 473) (b := b) dX9_looksAt_170 rfl rfl rfl ?_
                refine jj_iload (q := 173) dX9_looksAt_171 rfl rfl ?_
                refine jj_iastN (q := 174) (j := 473 + b) dX9_looksAt_173 (hm.tu hu) (u2_bst (show u < 18 by omega)) rfl (by omega) rfl ?_
                refine jj_vret dX9_looksAt_174 rfl (Nat.zero_le _) (Nat.zero_le _) ?_
                exact ⟨V, rfl, by unfold mLk; (first | rw [if_pos h31] | rw [if_neg h31] | skip); (first | rw [if_pos h40] | rw [if_neg h40] | skip); (try unfold mLk2); (first | rw [if_pos h64] | rw [if_neg h64] | skip); (first | rw [if_pos h73] | rw [if_neg h73] | skip); (try unfold mLk3); (first | rw [if_pos h93] | rw [if_neg h93] | skip); (first | rw [if_pos h101] | rw [if_neg h101] | skip); (first | rw [if_pos h112] | rw [if_neg h112] | skip); (first | rw [if_pos h121] | rw [if_neg h121] | skip); try rfl⟩
      · refine jj_aload_n (q := 68) dX9_looksAt_67 rfl rfl rfl ?_
        refine jj_iload_n (q := 69) dX9_looksAt_68 rfl rfl rfl ?_
        refine jj_cS2i (q := 72) dX9_looksAt_69 yk_X9_isOf ml_X9_291 (ex_isOf hm hu hX.1 hb) rfl rfl rfl ⟨Nat.zero_le _, Nat.zero_le _⟩ ?_
        refine jj_iconst (v := 2) (q := 73) dX9_looksAt_72 rfl rfl ?_
        refine jj_icmp_ne (q := 76) (tgt := 90) dX9_looksAt_73 rfl rfl (fun h73 => ?_) (fun h73 => ?_)
        · refine jj_iload (q := 92) dX9_looksAt_90 rfl rfl ?_
          refine jj_iconst (v := -1) (q := 93) dX9_looksAt_92 rfl rfl ?_
          refine jj_icmp_eq (q := 96) (tgt := 174) dX9_looksAt_93 rfl rfl (fun h93 => ?_) (fun h93 => ?_)
          · refine jj_vret dX9_looksAt_174 rfl (Nat.zero_le _) (Nat.zero_le _) ?_
            exact ⟨V, rfl, by unfold mLk; (first | rw [if_pos h31] | rw [if_neg h31] | skip); (first | rw [if_pos h40] | rw [if_neg h40] | skip); (try unfold mLk2); (first | rw [if_pos h64] | rw [if_neg h64] | skip); (first | rw [if_pos h73] | rw [if_neg h73] | skip); (try unfold mLk3); (first | rw [if_pos h93] | rw [if_neg h93] | skip); (first | rw [if_pos h101] | rw [if_neg h101] | skip); (first | rw [if_pos h112] | rw [if_neg h112] | skip); (first | rw [if_pos h121] | rw [if_neg h121] | skip); try rfl⟩
          · refine jj_aload_n (q := 97) dX9_looksAt_96 rfl rfl rfl ?_
            refine jj_iload_n (q := 98) dX9_looksAt_97 rfl rfl rfl ?_
            refine jj_cS2i (q := 101) dX9_looksAt_98 yk_X9_isOf ml_X9_291 (ex_isOf hm hu hX.1 hb) rfl rfl rfl ⟨Nat.zero_le _, Nat.zero_le _⟩ ?_
            refine jj_if_ne (q := 104) (tgt := 174) dX9_looksAt_101 rfl rfl (fun h101 => ?_) (fun h101 => ?_)
            · refine jj_vret dX9_looksAt_174 rfl (Nat.zero_le _) (Nat.zero_le _) ?_
              exact ⟨V, rfl, by unfold mLk; (first | rw [if_pos h31] | rw [if_neg h31] | skip); (first | rw [if_pos h40] | rw [if_neg h40] | skip); (try unfold mLk2); (first | rw [if_pos h64] | rw [if_neg h64] | skip); (first | rw [if_pos h73] | rw [if_neg h73] | skip); (try unfold mLk3); (first | rw [if_pos h93] | rw [if_neg h93] | skip); (first | rw [if_pos h101] | rw [if_neg h101] | skip); (first | rw [if_pos h112] | rw [if_neg h112] | skip); (first | rw [if_pos h121] | rw [if_neg h121] | skip); try rfl⟩
            · have hl4 := mLh_b hQ h93
              rw [hl4.1]
              refine jj_aload_n (q := 105) dX9_looksAt_104 rfl rfl rfl ?_
              refine jj_aload_n (q := 106) dX9_looksAt_105 rfl rfl rfl ?_
              refine jj_iload (q := 108) dX9_looksAt_106 rfl rfl ?_
              refine jj_iload_n (q := 109) dX9_looksAt_108 rfl rfl rfl ?_
              refine jj_cV3i (q := 112) dX9_looksAt_109 yk_X9_hasRoom ml_X9_301 hm.t0 (ex_hasRoom hm hu hQ (show av A V 2 = Q from hA) hX.1 hl4.2 hb) rfl rfl rfl ⟨Nat.zero_le _, Nat.zero_le _⟩ ?_
              refine jj_if_eq (q := 115) (tgt := 174) dX9_looksAt_112 rfl rfl (fun h112 => ?_) (fun h112 => ?_)
              · refine jj_vret dX9_looksAt_174 rfl (Nat.zero_le _) (Nat.zero_le _) ?_
                exact ⟨V, rfl, by unfold mLk; (first | rw [if_pos h31] | rw [if_neg h31] | skip); (first | rw [if_pos h40] | rw [if_neg h40] | skip); (try unfold mLk2); (first | rw [if_pos h64] | rw [if_neg h64] | skip); (first | rw [if_pos h73] | rw [if_neg h73] | skip); (try unfold mLk3); (first | rw [if_pos h93] | rw [if_neg h93] | skip); (first | rw [if_pos h101] | rw [if_neg h101] | skip); (first | rw [if_pos h112] | rw [if_neg h112] | skip); (first | rw [if_pos h121] | rw [if_neg h121] | skip); try rfl⟩
              · refine jj_aload_n (q := 116) dX9_looksAt_115 rfl rfl rfl ?_
                refine jj_aload_n (q := 117) dX9_looksAt_116 rfl rfl rfl ?_
                refine jj_iload_n (q := 118) dX9_looksAt_117 rfl rfl rfl ?_
                refine jj_eV2i (q := 121) dX9_looksAt_118 yk_X9_isHeldBack ml_X9_304 hm.t0 (ex_mHB hm hu hQ hA hn hX.1 hb) rfl rfl rfl ⟨Nat.zero_le _, Nat.zero_le _⟩ (fun V => ?_)
                refine jj_if_ne (q := 124) (tgt := 174) dX9_looksAt_121 rfl rfl (fun h121 => ?_) (fun h121 => ?_)
                · refine jj_vret dX9_looksAt_174 rfl (Nat.zero_le _) (Nat.zero_le _) ?_
                  exact ⟨V, rfl, by unfold mLk; (first | rw [if_pos h31] | rw [if_neg h31] | skip); (first | rw [if_pos h40] | rw [if_neg h40] | skip); (try unfold mLk2); (first | rw [if_pos h64] | rw [if_neg h64] | skip); (first | rw [if_pos h73] | rw [if_neg h73] | skip); (try unfold mLk3); (first | rw [if_pos h93] | rw [if_neg h93] | skip); (first | rw [if_pos h101] | rw [if_neg h101] | skip); (first | rw [if_pos h112] | rw [if_neg h112] | skip); (first | rw [if_pos h121] | rw [if_neg h121] | skip); try rfl⟩
                · refine jj_aload_n (q := 125) dX9_looksAt_124 rfl rfl rfl ?_
                  refine jj_aload_n (q := 126) dX9_looksAt_125 rfl rfl rfl ?_
                  refine jj_iload_n (q := 127) dX9_looksAt_126 rfl rfl rfl ?_
                  refine jj_cS2i (q := 130) dX9_looksAt_127 yk_X9_leavesLoop ml_X9_294 (ex_leavesLoop hm hu hp hb hlo) rfl rfl rfl ⟨Nat.zero_le _, Nat.zero_le _⟩ ?_
                  refine jj_bipush (v := 9) (q := 132) dX9_looksAt_130 rfl rfl ?_
                  refine jj_cS3v (q := 135) dX9_looksAt_132 yk_X9_becomes ml_X9_297 (ex_becomes hm hu (mLv_J hX hp).1 hb) rfl rfl rfl ⟨Nat.zero_le _, Nat.zero_le _⟩ ?_
                  have hee : mHe (mBe (mLv X p b) b 9) (nN (mLh Q p)) = mHe X (nN (mLh Q p)) := by
                    unfold mHe
                    rw [mBe_lo (by omega) (by omega), mLv_lo (by omega)]
                  have hj9 := mBe_J (s := 9) (mLv_J (b := b) hX hp) hb
                  have hh := hj9.1.he hl4.2
                  refine jj_aload_n (q := 136) dX9_looksAt_135 rfl rfl rfl ?_
                  refine jj_bipush (v := 29) (q := 138) dX9_looksAt_136 rfl rfl ?_
                  refine jj_bipush (v := 20) (q := 140) dX9_looksAt_138 rfl rfl ?_
                  refine jj_iload (q := 142) dX9_looksAt_140 rfl rfl ?_
                  refine jj_imulN (q := 143) (a := 20) (b := nN (mLh Q p)) dX9_looksAt_142 rfl rfl rfl ?_
                  refine jj_iaddN (q := 144) (a := 29) (b := 20 * (nN (mLh Q p))) dX9_looksAt_143 rfl rfl rfl ?_
                  refine jj_aload_n (q := 145) dX9_looksAt_144 rfl rfl rfl ?_
                  refine jj_bipush (v := 21) (q := 147) dX9_looksAt_145 rfl rfl ?_
                  refine jj_iload (q := 149) dX9_looksAt_147 rfl rfl ?_
                  refine jj_iaddN (q := 150) (a := 21) (b := nN (mLh Q p)) dX9_looksAt_149 rfl rfl rfl ?_
                  refine jj_ialdW (q := 151) (j := 21 + (nN (mLh Q p))) (v := nI (mHe (mBe (mLv X p b) b 9) (nN (mLh Q p)))) dX9_looksAt_150 (hm.tu hu) (blk_st (show u < 18 by omega)) rfl (by omega) hh.1 rfl ?_
                  refine jj_iaddN (q := 152) (a := 29 + (20 * (nN (mLh Q p)))) (b := mHe (mBe (mLv X p b) b 9) (nN (mLh Q p))) dX9_looksAt_151 rfl rfl rfl ?_
                  refine jj_iload_n (q := 153) dX9_looksAt_152 rfl rfl rfl ?_
                  refine jj_iastN (q := 154) (j := (29 + (20 * (nN (mLh Q p)))) + (mHe (mBe (mLv X p b) b 9) (nN (mLh Q p)))) dX9_looksAt_153 (hm.tu hu) (u2_bst (show u < 18 by omega)) rfl (by omega) rfl ?_
                  refine jj_aload_n (q := 155) dX9_looksAt_154 rfl rfl rfl ?_
                  refine jj_bipush (v := 21) (q := 157) dX9_looksAt_155 rfl rfl ?_
                  refine jj_iload (q := 159) dX9_looksAt_157 rfl rfl ?_
                  refine jj_iaddN (q := 160) (a := 21) (b := nN (mLh Q p)) dX9_looksAt_159 rfl rfl rfl ?_
                  refine jj_dup2 (q := 161) dX9_looksAt_160 rfl rfl rfl ?_
                  refine jj_ialdW (q := 162) (j := 21 + (nN (mLh Q p))) (v := nI (mHe (mBe (mLv X p b) b 9) (nN (mLh Q p)))) dX9_looksAt_161 (hm.tu hu) (blk_st (show u < 18 by omega)) rfl (by omega) (by rw [w1_ne (by omega)]; exact hh.1) rfl ?_
                  refine jj_iconst (v := 1) (q := 163) dX9_looksAt_162 rfl rfl ?_
                  refine jj_iaddN (q := 164) (a := mHe (mBe (mLv X p b) b 9) (nN (mLh Q p))) (b := 1) dX9_looksAt_163 rfl rfl rfl ?_
                  refine jj_iastN (q := 165) (j := 21 + (nN (mLh Q p))) dX9_looksAt_164 (hm.tu hu) (u2_bst (show u < 18 by omega)) rfl (by omega) rfl ?_
                  refine jj_aload_n (q := 166) dX9_looksAt_165 rfl rfl rfl ?_
                  refine jj_sipush (v := 473) (q := 169) dX9_looksAt_166 rfl rfl ?_
                  refine jj_iload_n (q := 170) dX9_looksAt_169 rfl rfl rfl ?_
                  refine jj_iaddN (q := 171) (a := 473) (b := b) dX9_looksAt_170 rfl rfl rfl ?_
                  refine jj_iload (q := 173) dX9_looksAt_171 rfl rfl ?_
                  refine jj_iastN (q := 174) (j := 473 + b) dX9_looksAt_173 (hm.tu hu) (u2_bst (show u < 18 by omega)) rfl (by omega) rfl ?_
                  refine jj_vret dX9_looksAt_174 rfl (Nat.zero_le _) (Nat.zero_le _) ?_
                  exact ⟨V, rfl, by unfold mLk; (first | rw [if_pos h31] | rw [if_neg h31] | skip); (first | rw [if_pos h40] | rw [if_neg h40] | skip); (try unfold mLk2); (first | rw [if_pos h64] | rw [if_neg h64] | skip); (first | rw [if_pos h73] | rw [if_neg h73] | skip); (try unfold mLk3); (first | rw [if_pos h93] | rw [if_neg h93] | skip); (first | rw [if_pos h101] | rw [if_neg h101] | skip); (first | rw [if_pos h112] | rw [if_neg h112] | skip); (first | rw [if_pos h121] | rw [if_neg h121] | skip); try rfl⟩
        · refine jj_aload_n (q := 77) dX9_looksAt_76 rfl rfl rfl ?_
          refine jj_aload_n (q := 78) dX9_looksAt_77 rfl rfl rfl ?_
          refine jj_iload_n (q := 79) dX9_looksAt_78 rfl rfl rfl ?_
          refine jj_cS2i (q := 82) dX9_looksAt_79 yk_X9_leavesLoop ml_X9_294 (ex_leavesLoop hm hu hp hb hlo) rfl rfl rfl ⟨Nat.zero_le _, Nat.zero_le _⟩ ?_
          refine jj_bipush (v := 11) (q := 84) dX9_looksAt_82 rfl rfl ?_
          refine jj_cS3v (q := 87) dX9_looksAt_84 yk_X9_becomes ml_X9_297 (ex_becomes hm hu (mLv_J hX hp).1 hb) rfl rfl rfl ⟨Nat.zero_le _, Nat.zero_le _⟩ ?_
          refine jj_goto (tgt := 174) dX9_looksAt_87 rfl ?_
          refine jj_vret dX9_looksAt_174 rfl (Nat.zero_le _) (Nat.zero_le _) ?_
          exact ⟨V, rfl, by unfold mLk; (first | rw [if_pos h31] | rw [if_neg h31] | skip); (first | rw [if_pos h40] | rw [if_neg h40] | skip); (try unfold mLk2); (first | rw [if_pos h64] | rw [if_neg h64] | skip); (first | rw [if_pos h73] | rw [if_neg h73] | skip); (try unfold mLk3); (first | rw [if_pos h93] | rw [if_neg h93] | skip); (first | rw [if_pos h101] | rw [if_neg h101] | skip); (first | rw [if_pos h112] | rw [if_neg h112] | skip); (first | rw [if_pos h121] | rw [if_neg h121] | skip); try rfl⟩
    · refine jj_aload_n (q := 44) dX9_looksAt_43 rfl rfl rfl ?_
      refine jj_aload_n (q := 45) dX9_looksAt_44 rfl rfl rfl ?_
      refine jj_iload_n (q := 46) dX9_looksAt_45 rfl rfl rfl ?_
      refine jj_cS2i (q := 49) dX9_looksAt_46 yk_X9_leavesLoop ml_X9_294 (ex_leavesLoop hm hu hp hb hlo) rfl rfl rfl ⟨Nat.zero_le _, Nat.zero_le _⟩ ?_
      refine jj_bipush (v := 10) (q := 51) dX9_looksAt_49 rfl rfl ?_
      refine jj_cS3v (q := 54) dX9_looksAt_51 yk_X9_becomes ml_X9_297 (ex_becomes hm hu (mLv_J hX hp).1 hb) rfl rfl rfl ⟨Nat.zero_le _, Nat.zero_le _⟩ ?_
      refine jj_goto (tgt := 174) dX9_looksAt_54 rfl ?_
      refine jj_vret dX9_looksAt_174 rfl (Nat.zero_le _) (Nat.zero_le _) ?_
      exact ⟨V, rfl, by unfold mLk; (first | rw [if_pos h31] | rw [if_neg h31] | skip); (first | rw [if_pos h40] | rw [if_neg h40] | skip); (try unfold mLk2); (first | rw [if_pos h64] | rw [if_neg h64] | skip); (first | rw [if_pos h73] | rw [if_neg h73] | skip); (try unfold mLk3); (first | rw [if_pos h93] | rw [if_neg h93] | skip); (first | rw [if_pos h101] | rw [if_neg h101] | skip); (first | rw [if_pos h112] | rw [if_neg h112] | skip); (first | rw [if_pos h121] | rw [if_neg h121] | skip); try rfl⟩
theorem lp_mv1 (hm : hMo T S mo) (hu : 4 ≤ u ∧ u ≤ 6) {Q : JV} (hQ : mQ Q) (hA : A 2 = Q) {v : Int32} {Zf : List Frame → Array Value → State → State → Prop} {Rm : Room} (hz : JJ Γ (jj_E Y_X9_moves) Zf Rm 0 0 49 [some (.ref mo), some (.ref (mo + u)), some (.int (nI (qLen Q - 1))), some (.int v), some (.int (nI 0))] [] (T, R, S, blk 18 I mo (st A u (mSh X (qLen Q - 1) 0)), L, D, z)) : ∀ (k : Nat), k ≤ qLen Q - 1 → JJ Γ (jj_E Y_X9_moves) Zf Rm 0 0 20 [some (.ref mo), some (.ref (mo + u)), some (.int (nI (qLen Q - 1))), some (.int v), some (.int (nI k))] [] (T, R, S, blk 18 I mo (st A u (mSh X (qLen Q - 1) k)), L, D, z) := by
  have hl := nQ0 hQ
  intro k
  induction k with
  | zero =>
    intro  hi
    refine jj_iload (q := 22) dX9_moves_20 rfl rfl ?_
    refine jj_if_le (q := 25) (tgt := 49) dX9_moves_22 rfl rfl (fun h22 => ?_) (fun h22 => absurd ((by decide)) h22)
    exact hz
  | succ k ih =>
    intro  hi
    refine jj_iload (q := 22) dX9_moves_20 rfl rfl ?_
    refine jj_if_le (q := 25) (tgt := 49) dX9_moves_22 rfl rfl (fun h22 => absurd h22 ((nI_ge (show 0 < k + 1 by omega) (by omega)))) (fun h22 => ?_)
    refine jj_aload_n (q := 26) dX9_moves_25 rfl rfl rfl ?_
    refine jj_sipush (v := 133) (q := 29) dX9_moves_26 rfl rfl ?_
    refine jj_iload (q := 31) dX9_moves_29 rfl rfl ?_
    refine jj_iaddN (q := 32) (a := 133) (b := (k + 1)) dX9_moves_31 rfl rfl rfl ?_
    refine jj_aload_n (q := 33) dX9_moves_32 rfl rfl rfl ?_
    refine jj_sipush (v := 133) (q := 36) dX9_moves_33 rfl rfl ?_
    refine jj_iload (q := 38) dX9_moves_36 rfl rfl ?_
    refine jj_iaddN (q := 39) (a := 133) (b := (k + 1)) dX9_moves_38 rfl rfl rfl ?_
    refine jj_iconst (v := 1) (q := 40) dX9_moves_39 rfl rfl ?_
    refine jj_isubN (q := 41) (e := 133 + k) (a := 133 + (k + 1)) (b := 1) dX9_moves_40 rfl rfl (by omega) rfl ?_
    refine jj_ialdN (q := 42) (j := 133 + k) dX9_moves_41 (hm.tu hu) (blk_st (show u < 18 by omega)) rfl (by omega) rfl ?_
    refine jj_iastN (q := 43) (j := 133 + (k + 1)) dX9_moves_42 (hm.tu hu) (u2_bst (show u < 18 by omega)) rfl (by omega) rfl ?_
    refine jj_iinc (v := nI k) (q := 46) dX9_moves_43 rfl (nI_dec k) (by decide) rfl ?_
    refine jj_goto (tgt := 20) dX9_moves_46 rfl ?_
    rw [mSh_s (by omega)]
    exact ih (by omega)
theorem mMv2_s {X : JV} {k p : Nat} : mPL (k + 1) p X = mPL k (p + 1) (mPs X p) := rfl
theorem lp_mv2 (hm : hMo T S mo) (hu : 4 ≤ u ∧ u ≤ 6) {Q : JV} (hQ : mQ Q) (hA : A 2 = Q) {v : Int32} : ∀ (k i : Nat) (X : JV), (i + k = qLen Q ∧ mJ Q X) → JJ Γ (jj_E Y_X9_moves) (jj_Z Γ (rV (T, R, S, blk 18 I mo (st A u (mMv3 Q (mPL k i X))), L, D, z)) 0 0) (jj_rm (d) 0 0) 0 0 58 [some (.ref mo), some (.ref (mo + u)), some (.int (nI (qLen Q - 1))), some (.int v), some (.int (nI i))] [] (T, R, S, blk 18 I mo (st A u X), L, D, z) := by
  have hl := nQ0 hQ
  have he := nQen hQ
  intro k
  induction k with
  | zero =>
    intro i X hi
    refine jj_iload (q := 60) dX9_moves_58 rfl rfl ?_
    refine jj_iload_n (q := 61) dX9_moves_60 rfl rfl rfl ?_
    refine jj_icmp_gt (q := 64) (tgt := 98) dX9_moves_61 rfl rfl (fun h61 => ?_) (fun h61 => absurd (nI_ltN (show qLen Q - 1 < i by omega) (by omega)) h61)
    refine jj_aload_n (q := 99) dX9_moves_98 rfl rfl rfl ?_
    refine jj_sipush (v := 133) (q := 102) dX9_moves_99 rfl rfl ?_
    refine jj_aload_n (q := 103) dX9_moves_102 rfl rfl rfl ?_
    refine jj_getS (q := 106) dX9_moves_103 fl_X9_17 hm.t0 hm.r0_10 rfl rfl rfl ?_
    refine jj_iconst (v := 1) (q := 107) dX9_moves_106 rfl rfl ?_
    refine jj_ialdW (q := 108) (j := 1) (v := nI (qEn Q)) dX9_moves_107 hm.t2 ((blk_sn (show 2 < 18 by omega) (show 2 ≠ u by omega)).trans hA) rfl (by omega) he.1 rfl ?_
    refine jj_iaddN (q := 109) (a := 133) (b := qEn Q) dX9_moves_108 rfl rfl rfl ?_
    refine jj_ialdN (q := 110) (j := 133 + (qEn Q)) dX9_moves_109 (hm.tu hu) (blk_st (show u < 18 by omega)) rfl (by omega) rfl ?_
    refine jj_istore (q := 112) dX9_moves_110 (by decide) rfl ?_
    refine jj_iload (q := 114) dX9_moves_112 rfl rfl ?_
    refine jj_iconst (v := -1) (q := 115) dX9_moves_114 rfl rfl ?_
    refine jj_icmp_eq (q := 118) (tgt := 130) dX9_moves_115 rfl rfl (fun h115 => ?_) (fun h115 => ?_)
    · refine jj_vret dX9_moves_130 rfl (Nat.zero_le _) (Nat.zero_le _) ?_
      exact ⟨rfl, by show _ = (T, R, S, blk 18 I mo (st A u (mMv3 Q X)), L, D, z); unfold mMv3; (first | rw [if_pos h115] | rw [if_neg h115] | skip)⟩
    · have ho := oB_n (hi.2.1.lo (show qEn Q < 40 by omega)) h115
      rw [ho.1]
      refine jj_aload_n (q := 119) dX9_moves_118 rfl rfl rfl ?_
      refine jj_sipush (v := 573) (q := 122) dX9_moves_119 rfl rfl ?_
      refine jj_iload (q := 124) dX9_moves_122 rfl rfl ?_
      refine jj_iaddN (q := 125) (a := 573) (b := nN (X (133 + qEn Q))) dX9_moves_124 rfl rfl rfl ?_
      refine jj_dup2 (q := 126) dX9_moves_125 rfl rfl rfl ?_
      refine jj_ialdN (q := 127) (j := 573 + (nN (X (133 + qEn Q)))) dX9_moves_126 (hm.tu hu) (blk_st (show u < 18 by omega)) rfl (by omega) rfl ?_
      refine jj_iconst (v := 1) (q := 128) dX9_moves_127 rfl rfl ?_
      refine jj_iadd (q := 129) dX9_moves_128 rfl ?_
      refine jj_iastN (q := 130) (j := 573 + (nN (X (133 + qEn Q)))) dX9_moves_129 (hm.tu hu) (u2_bst (show u < 18 by omega)) rfl (by omega) rfl ?_
      refine jj_vret dX9_moves_130 rfl (Nat.zero_le _) (Nat.zero_le _) ?_
      exact ⟨rfl, by show _ = (T, R, S, blk 18 I mo (st A u (mMv3 Q X)), L, D, z); unfold mMv3; (first | rw [if_pos h115] | rw [if_neg h115] | skip)⟩
  | succ k ih =>
    intro i X hi
    refine jj_iload (q := 60) dX9_moves_58 rfl rfl ?_
    refine jj_iload_n (q := 61) dX9_moves_60 rfl rfl rfl ?_
    refine jj_icmp_gt (q := 64) (tgt := 98) dX9_moves_61 rfl rfl (fun h61 => absurd h61 (nI_nltN (show i ≤ qLen Q - 1 by omega) (by omega))) (fun h61 => ?_)
    refine jj_aload_n (q := 65) dX9_moves_64 rfl rfl rfl ?_
    refine jj_sipush (v := 133) (q := 68) dX9_moves_65 rfl rfl ?_
    refine jj_iload (q := 70) dX9_moves_68 rfl rfl ?_
    refine jj_iaddN (q := 71) (a := 133) (b := i) dX9_moves_70 rfl rfl rfl ?_
    refine jj_ialdN (q := 72) (j := 133 + i) dX9_moves_71 (hm.tu hu) (blk_st (show u < 18 by omega)) rfl (by omega) rfl ?_
    refine jj_iconst (v := -1) (q := 73) dX9_moves_72 rfl rfl ?_
    refine jj_icmp_eq (q := 76) (tgt := 92) dX9_moves_73 rfl rfl (fun h73 => ?_) (fun h73 => ?_)
    · refine jj_iinc (v := nI (i + 1)) (q := 95) dX9_moves_92 rfl (nI_incn i 1 rfl) (by decide) rfl ?_
      refine jj_goto (tgt := 58) dX9_moves_95 rfl ?_
      have hj := mPs_J (p := i) hi.2
      rw [mMv2_s]
      unfold mPs at hj ⊢
      (first | rw [if_pos h73] at hj ⊢ | rw [if_neg h73] at hj ⊢ | skip)
      exact ih (i + 1) _ ⟨by omega, hj⟩
    · have ho := oB_n (hi.2.1.lo (show i < 40 by omega)) h73
      refine jj_aload_n (q := 77) dX9_moves_76 rfl rfl rfl ?_
      refine jj_sipush (v := 473) (q := 80) dX9_moves_77 rfl rfl ?_
      refine jj_aload_n (q := 81) dX9_moves_80 rfl rfl rfl ?_
      refine jj_sipush (v := 133) (q := 84) dX9_moves_81 rfl rfl ?_
      refine jj_iload (q := 86) dX9_moves_84 rfl rfl ?_
      refine jj_iaddN (q := 87) (a := 133) (b := i) dX9_moves_86 rfl rfl rfl ?_
      refine jj_ialdW (q := 88) (j := 133 + i) (v := nI (nN (X (133 + i)))) dX9_moves_87 (hm.tu hu) (blk_st (show u < 18 by omega)) rfl (by omega) ho.1 rfl ?_
      refine jj_iaddN (q := 89) (a := 473) (b := nN (X (133 + i))) dX9_moves_88 rfl rfl rfl ?_
      refine jj_iload (q := 91) dX9_moves_89 rfl rfl ?_
      refine jj_iastN (q := 92) (j := 473 + (nN (X (133 + i)))) dX9_moves_91 (hm.tu hu) (u2_bst (show u < 18 by omega)) rfl (by omega) rfl ?_
      refine jj_iinc (v := nI (i + 1)) (q := 95) dX9_moves_92 rfl (nI_incn i 1 rfl) (by decide) rfl ?_
      refine jj_goto (tgt := 58) dX9_moves_95 rfl ?_
      have hj := mPs_J (p := i) hi.2
      rw [mMv2_s]
      unfold mPs at hj ⊢
      (first | rw [if_pos h73] at hj ⊢ | rw [if_neg h73] at hj ⊢ | skip)
      exact ih (i + 1) _ ⟨by omega, hj⟩
theorem ex_moves (hm : hMo T S mo) (hu : 4 ≤ u ∧ u ≤ 6) {Q : JV} (hQ : mQ Q) (hA : A 2 = Q) (hX : mJ Q X) : Ex Γ (d) Y_X9_moves [.ref mo, .ref (mo + u)] (T, R, S, blk 18 I mo (st A u X), L, D, z) 0 0 (rV (T, R, S, blk 18 I mo (st A u (mMv Q X)), L, D, z)) := by
  have hl := nQ0 hQ
  have hXX : X (133 + (qLen Q - 1)) = X (133 + (qLen Q - 1)) := rfl
  refine Ex.of (by decide) (by simp [Value.category]) (Nat.le_of_ble_eq_true rfl) rfl ?_
  refine jj_aload_n (q := 1) dX9_moves_0 rfl rfl rfl ?_
  refine jj_getS (q := 4) dX9_moves_1 fl_X9_17 hm.t0 hm.r0_10 rfl rfl rfl ?_
  refine jj_iconst (v := 0) (q := 5) dX9_moves_4 rfl rfl ?_
  refine jj_ialdW (q := 6) (j := 0) (v := nI (qLen Q)) dX9_moves_5 hm.t2 ((blk_sn (show 2 < 18 by omega) (show 2 ≠ u by omega)).trans hA) rfl (by omega) hl.1 rfl ?_
  refine jj_iconst (v := 1) (q := 7) dX9_moves_6 rfl rfl ?_
  refine jj_isubN (q := 8) (e := qLen Q - 1) (a := qLen Q) (b := 1) dX9_moves_7 rfl rfl (by omega) rfl ?_
  refine jj_istore_n (q := 9) dX9_moves_8 rfl (by decide) rfl ?_
  refine jj_aload_n (q := 10) dX9_moves_9 rfl rfl rfl ?_
  refine jj_sipush (v := 133) (q := 13) dX9_moves_10 rfl rfl ?_
  refine jj_iload_n (q := 14) dX9_moves_13 rfl rfl rfl ?_
  refine jj_iaddN (q := 15) (a := 133) (b := qLen Q - 1) dX9_moves_14 rfl rfl rfl ?_
  refine jj_ialdN (q := 16) (j := 133 + (qLen Q - 1)) dX9_moves_15 (hm.tu hu) (blk_st (show u < 18 by omega)) rfl (by omega) rfl ?_
  refine jj_istore_n (q := 17) dX9_moves_16 rfl (by decide) rfl ?_
  refine jj_iload_n (q := 18) dX9_moves_17 rfl rfl rfl ?_
  refine jj_istore (q := 20) dX9_moves_18 (by decide) rfl ?_
  rw [show X = mSh X (qLen Q - 1) (qLen Q - 1) from (mSh_e X _).symm]
  refine lp_mv1 (X := X) hm hu hQ hA ?_ (qLen Q - 1) (Nat.le_refl _)
  rw [mSh_e X (qLen Q - 1)]
  refine jj_aload_n (q := 50) dX9_moves_49 rfl rfl rfl ?_
  refine jj_sipush (v := 133) (q := 53) dX9_moves_50 rfl rfl ?_
  refine jj_iload_n (q := 54) dX9_moves_53 rfl rfl rfl ?_
  refine jj_iastN (q := 55) (j := 133) dX9_moves_54 (hm.tu hu) (u2_bst (show u < 18 by omega)) rfl (by omega) rfl ?_
  refine jj_iconst (v := 0) (q := 56) dX9_moves_55 rfl rfl ?_
  refine jj_istore (q := 58) dX9_moves_56 (by decide) rfl ?_
  exact lp_mv2 hm hu hQ hA (qLen Q) 0 _ ⟨by omega, mMv1_J hQ hX⟩
def mSf (at' : Nat) : Nat → Nat → JV → JV
  | 0, _, X => X
  | k + 1, i, X => mSf at' k (i + 1) (w1 X (at' + i) (X (at' + i + 1)))
theorem mSf_J {Q : JV} {at' : Nat} (h29 : 29 ≤ at') (h3 : at' + 19 < 109) : ∀ (k i : Nat) (X : JV), i + k ≤ 19 → mJ Q X → mJ Q (mSf at' k i X)
  | 0, _, _, _, h => h
  | k + 1, i, X, hk, h => mSf_J h29 h3 k (i + 1) _ (by omega) (h.set (rg_lane (by omega) ((h.1 (at' + i + 1)).2.2.2.1 (by omega) (by omega))) (by omega))
theorem mSf_lo {at' : Nat} {j : Nat} (h29 : j < at') : ∀ (k i : Nat) (X : JV), mSf at' k i X j = X j
  | 0, _, _ => rfl
  | k + 1, i, X => by rw [mSf, mSf_lo h29 k, w1_ne (by omega)]
def mLoY (Q X : JV) (l : Nat) : JV := w1 (mOn X (mLb X (20 * l)) (qLp Q l)) (21 + l) (nI (mHe X l - 1))
def mLo (Q X : JV) (l : Nat) : JV := if X (21 + l) = 0 then X else if mOf X (mLb X (20 * l)) = 0 then X else if X (133 + qLp Q l) = -1 then mSf (29 + 20 * l) (mHe X l - 1) 0 (mLoY Q X l) else X
theorem mLoY_J {Q X : JV} {l : Nat} (hQ : mQ Q) (h : mJ Q X) (hl : l < 4) : mJ Q (mLoY Q X l) := by
  have hlp := nQlp hQ hl
  have hlb := h.1.lb (l := 20 * l) (by omega)
  have hhe := h.1.he hl
  have := h.2 l hl
  exact (mOn_J h (by omega) hlb.2).held hl (by omega) (by omega)
theorem mLo_J {Q X : JV} {l : Nat} (hQ : mQ Q) (h : mJ Q X) (hl : l < 4) : mJ Q (mLo Q X l) := by
  have hhe := h.1.he hl
  unfold mLo
  split
  · exact h
  · split
    · exact h
    · split
      · exact mSf_J (by omega) (by omega) _ _ _ (by omega) (mLoY_J hQ h hl)
      · exact h
theorem lp_letsOut (hm : hMo T S mo) (hu : 4 ≤ u ∧ u ≤ 6) {l n : Nat} (hl : l < 4) (hn : n ≤ 19) : ∀ (k i : Nat) (X : JV), (i + k = n ∧ X (21 + l) = nI n) → JJ Γ (jj_E Y_X9_letsOut) (jj_Z Γ (rV (T, R, S, blk 18 I mo (st A u (mSf (29 + 20 * l) k i X)), L, D, z)) 0 0) (jj_rm (d) 0 0) 0 0 76 [some (.ref mo), some (.ref (mo + u)), some (.int (nI l)), some (.int (nI (29 + 20 * l))), some (.int (nI i))] [] (T, R, S, blk 18 I mo (st A u X), L, D, z) := by
  intro k
  induction k with
  | zero =>
    intro i X hi
    refine jj_iload (q := 78) dX9_letsOut_76 rfl rfl ?_
    refine jj_aload_n (q := 79) dX9_letsOut_78 rfl rfl rfl ?_
    refine jj_bipush (v := 21) (q := 81) dX9_letsOut_79 rfl rfl ?_
    refine jj_iload_n (q := 82) dX9_letsOut_81 rfl rfl rfl ?_
    refine jj_iaddN (q := 83) (a := 21) (b := l) dX9_letsOut_82 rfl rfl rfl ?_
    refine jj_ialdW (q := 84) (j := 21 + l) (v := nI n) dX9_letsOut_83 (hm.tu hu) (blk_st (show u < 18 by omega)) rfl (by omega) hi.2 rfl ?_
    refine jj_icmp_ge (q := 87) (tgt := 107) dX9_letsOut_84 rfl rfl (fun h84 => ?_) (fun h84 => absurd (nI_le (show n ≤ i by omega) (by omega)) h84)
    refine jj_vret dX9_letsOut_107 rfl (Nat.zero_le _) (Nat.zero_le _) ?_
    exact ⟨rfl, rfl⟩
  | succ k ih =>
    intro i X hi
    refine jj_iload (q := 78) dX9_letsOut_76 rfl rfl ?_
    refine jj_aload_n (q := 79) dX9_letsOut_78 rfl rfl rfl ?_
    refine jj_bipush (v := 21) (q := 81) dX9_letsOut_79 rfl rfl ?_
    refine jj_iload_n (q := 82) dX9_letsOut_81 rfl rfl rfl ?_
    refine jj_iaddN (q := 83) (a := 21) (b := l) dX9_letsOut_82 rfl rfl rfl ?_
    refine jj_ialdW (q := 84) (j := 21 + l) (v := nI n) dX9_letsOut_83 (hm.tu hu) (blk_st (show u < 18 by omega)) rfl (by omega) hi.2 rfl ?_
    refine jj_icmp_ge (q := 87) (tgt := 107) dX9_letsOut_84 rfl rfl (fun h84 => absurd h84 ((nI_ge (show i < n by omega) (by omega)))) (fun h84 => ?_)
    refine jj_aload_n (q := 88) dX9_letsOut_87 rfl rfl rfl ?_
    refine jj_iload_n (q := 89) dX9_letsOut_88 rfl rfl rfl ?_
    refine jj_iload (q := 91) dX9_letsOut_89 rfl rfl ?_
    refine jj_iaddN (q := 92) (a := 29 + 20 * l) (b := i) dX9_letsOut_91 rfl rfl rfl ?_
    refine jj_aload_n (q := 93) dX9_letsOut_92 rfl rfl rfl ?_
    refine jj_iload_n (q := 94) dX9_letsOut_93 rfl rfl rfl ?_
    refine jj_iload (q := 96) dX9_letsOut_94 rfl rfl ?_
    refine jj_iaddN (q := 97) (a := 29 + 20 * l) (b := i) dX9_letsOut_96 rfl rfl rfl ?_
    refine jj_iconst (v := 1) (q := 98) dX9_letsOut_97 rfl rfl ?_
    refine jj_iaddN (q := 99) (a := (29 + 20 * l) + i) (b := 1) dX9_letsOut_98 rfl rfl rfl ?_
    refine jj_ialdN (q := 100) (j := ((29 + 20 * l) + i) + 1) dX9_letsOut_99 (hm.tu hu) (blk_st (show u < 18 by omega)) rfl (by omega) rfl ?_
    refine jj_iastN (q := 101) (j := (29 + 20 * l) + i) dX9_letsOut_100 (hm.tu hu) (u2_bst (show u < 18 by omega)) rfl (by omega) rfl ?_
    refine jj_iinc (v := nI (i + 1)) (q := 104) dX9_letsOut_101 rfl (nI_incn i 1 rfl) (by decide) rfl ?_
    refine jj_goto (tgt := 76) dX9_letsOut_104 rfl ?_
    rw [mSf]
    exact ih (i + 1) _ ⟨by omega, by rw [w1_ne (by omega)]; exact hi.2⟩
theorem ex_letsOut (hm : hMo T S mo) (hu : 4 ≤ u ∧ u ≤ 6) {Q : JV} (hQ : mQ Q) (hA : A 2 = Q) (hX : mJ Q X) {l : Nat} (hl : l < 4) : Ex Γ (d + 2) Y_X9_letsOut [.ref mo, .ref (mo + u), .int (nI l)] (T, R, S, blk 18 I mo (st A u X), L, D, z) 0 0 (rV (T, R, S, blk 18 I mo (st A u (mLo Q X l)), L, D, z)) := by
  have hlp := nQlp hQ hl
  have hlb : X (29 + 20 * l) = nI (mLb X (20 * l)) ∧ mLb X (20 * l) < 100 := hX.1.lb (l := 20 * l) (by omega)
  have hhe := hX.1.he hl
  refine Ex.of (by decide) (by simp [Value.category]) (Nat.le_of_ble_eq_true rfl) rfl ?_
  refine jj_bipush (v := 29) (q := 2) dX9_letsOut_0 rfl rfl ?_
  refine jj_bipush (v := 20) (q := 4) dX9_letsOut_2 rfl rfl ?_
  refine jj_iload_n (q := 5) dX9_letsOut_4 rfl rfl rfl ?_
  refine jj_imulN (q := 6) (a := 20) (b := l) dX9_letsOut_5 rfl rfl rfl ?_
  refine jj_iaddN (q := 7) (a := 29) (b := 20 * l) dX9_letsOut_6 rfl rfl rfl ?_
  refine jj_istore_n (q := 8) dX9_letsOut_7 rfl (by decide) rfl ?_
  refine jj_aload_n (q := 9) dX9_letsOut_8 rfl rfl rfl ?_
  refine jj_bipush (v := 21) (q := 11) dX9_letsOut_9 rfl rfl ?_
  refine jj_iload_n (q := 12) dX9_letsOut_11 rfl rfl rfl ?_
  refine jj_iaddN (q := 13) (a := 21) (b := l) dX9_letsOut_12 rfl rfl rfl ?_
  refine jj_ialdN (q := 14) (j := 21 + l) dX9_letsOut_13 (hm.tu hu) (blk_st (show u < 18 by omega)) rfl (by omega) rfl ?_
  refine jj_if_eq (q := 17) (tgt := 46) dX9_letsOut_14 rfl rfl (fun h14 => ?_) (fun h14 => ?_)
  · refine jj_vret dX9_letsOut_46 rfl (Nat.zero_le _) (Nat.zero_le _) ?_
    exact ⟨rfl, by unfold mLo; (first | rw [if_pos h14] | rw [if_neg h14] | skip); (first | rw [if_pos h24] | rw [if_neg h24] | skip); (first | rw [if_pos h43] | rw [if_neg h43] | skip)⟩
  · refine jj_aload_n (q := 18) dX9_letsOut_17 rfl rfl rfl ?_
    refine jj_aload_n (q := 19) dX9_letsOut_18 rfl rfl rfl ?_
    refine jj_iload_n (q := 20) dX9_letsOut_19 rfl rfl rfl ?_
    refine jj_ialdW (q := 21) (j := 29 + (20 * l)) (v := nI (mLb X (20 * l))) dX9_letsOut_20 (hm.tu hu) (blk_st (show u < 18 by omega)) rfl (by omega) hlb.1 rfl ?_
    refine jj_cS2i (q := 24) dX9_letsOut_21 yk_X9_isOf ml_X9_291 (ex_isOf hm hu hX.1 hlb.2) rfl rfl rfl ⟨Nat.zero_le _, Nat.zero_le _⟩ ?_
    refine jj_if_eq (q := 27) (tgt := 46) dX9_letsOut_24 rfl rfl (fun h24 => ?_) (fun h24 => ?_)
    · refine jj_vret dX9_letsOut_46 rfl (Nat.zero_le _) (Nat.zero_le _) ?_
      exact ⟨rfl, by unfold mLo; (first | rw [if_pos h14] | rw [if_neg h14] | skip); (first | rw [if_pos h24] | rw [if_neg h24] | skip); (first | rw [if_pos h43] | rw [if_neg h43] | skip)⟩
    · refine jj_aload_n (q := 28) dX9_letsOut_27 rfl rfl rfl ?_
      refine jj_sipush (v := 133) (q := 31) dX9_letsOut_28 rfl rfl ?_
      refine jj_aload_n (q := 32) dX9_letsOut_31 rfl rfl rfl ?_
      refine jj_getS (q := 35) dX9_letsOut_32 fl_X9_17 hm.t0 hm.r0_10 rfl rfl rfl ?_
      refine jj_bipush (v := 23) (q := 37) dX9_letsOut_35 rfl rfl ?_
      refine jj_iload_n (q := 38) dX9_letsOut_37 rfl rfl rfl ?_
      refine jj_iaddN (q := 39) (a := 23) (b := l) dX9_letsOut_38 rfl rfl rfl ?_
      refine jj_ialdW (q := 40) (j := 23 + l) (v := nI (qLp Q l)) dX9_letsOut_39 hm.t2 ((blk_sn (show 2 < 18 by omega) (show 2 ≠ u by omega)).trans hA) rfl (by omega) hlp.1 rfl ?_
      refine jj_iaddN (q := 41) (a := 133) (b := qLp Q l) dX9_letsOut_40 rfl rfl rfl ?_
      refine jj_ialdN (q := 42) (j := 133 + (qLp Q l)) dX9_letsOut_41 (hm.tu hu) (blk_st (show u < 18 by omega)) rfl (by omega) rfl ?_
      refine jj_iconst (v := -1) (q := 43) dX9_letsOut_42 rfl rfl ?_
      refine jj_icmp_eq (q := 46) (tgt := 47) dX9_letsOut_43 rfl rfl (fun h43 => ?_) (fun h43 => ?_)
      · have hh0 : mHe X l ≠ 0 := fun e => h14 (by rw [hhe.1, e]; rfl)
        refine jj_aload_n (q := 48) dX9_letsOut_47 rfl rfl rfl ?_
        refine jj_aload_n (q := 49) dX9_letsOut_48 rfl rfl rfl ?_
        refine jj_iload_n (q := 50) dX9_letsOut_49 rfl rfl rfl ?_
        refine jj_ialdW (q := 51) (j := 29 + (20 * l)) (v := nI (mLb X (20 * l))) dX9_letsOut_50 (hm.tu hu) (blk_st (show u < 18 by omega)) rfl (by omega) hlb.1 rfl ?_
        refine jj_aload_n (q := 52) dX9_letsOut_51 rfl rfl rfl ?_
        refine jj_getS (q := 55) dX9_letsOut_52 fl_X9_17 hm.t0 hm.r0_10 rfl rfl rfl ?_
        refine jj_bipush (v := 23) (q := 57) dX9_letsOut_55 rfl rfl ?_
        refine jj_iload_n (q := 58) dX9_letsOut_57 rfl rfl rfl ?_
        refine jj_iaddN (q := 59) (a := 23) (b := l) dX9_letsOut_58 rfl rfl rfl ?_
        refine jj_ialdW (q := 60) (j := 23 + l) (v := nI (qLp Q l)) dX9_letsOut_59 hm.t2 ((blk_sn (show 2 < 18 by omega) (show 2 ≠ u by omega)).trans hA) rfl (by omega) hlp.1 rfl ?_
        refine jj_cS3v (q := 63) dX9_letsOut_60 yk_X9_comesOn ml_X9_307 (ex_comesOn hm hu hlp.2 hlb.2) rfl rfl rfl ⟨Nat.zero_le _, Nat.zero_le _⟩ ?_
        have hh2 : mOn X (mLb X (20 * l)) (qLp Q l) (21 + l) = nI (mHe X l) := by
          unfold mOn
          rw [w1_ne (by omega), w1_ne (by omega), w1_ne (by omega)]
          exact hhe.1
        refine jj_aload_n (q := 64) dX9_letsOut_63 rfl rfl rfl ?_
        refine jj_bipush (v := 21) (q := 66) dX9_letsOut_64 rfl rfl ?_
        refine jj_iload_n (q := 67) dX9_letsOut_66 rfl rfl rfl ?_
        refine jj_iaddN (q := 68) (a := 21) (b := l) dX9_letsOut_67 rfl rfl rfl ?_
        refine jj_dup2 (q := 69) dX9_letsOut_68 rfl rfl rfl ?_
        refine jj_ialdW (q := 70) (j := 21 + l) (v := nI (mHe X l)) dX9_letsOut_69 (hm.tu hu) (blk_st (show u < 18 by omega)) rfl (by omega) hh2 rfl ?_
        refine jj_iconst (v := 1) (q := 71) dX9_letsOut_70 rfl rfl ?_
        refine jj_isubN (q := 72) (e := mHe X l - 1) (a := mHe X l) (b := 1) dX9_letsOut_71 rfl rfl (by omega) rfl ?_
        refine jj_iastN (q := 73) (j := 21 + l) dX9_letsOut_72 (hm.tu hu) (u2_bst (show u < 18 by omega)) rfl (by omega) rfl ?_
        refine jj_iconst (v := 0) (q := 74) dX9_letsOut_73 rfl rfl ?_
        refine jj_istore (q := 76) dX9_letsOut_74 (by decide) rfl ?_
        unfold mLo; (first | rw [if_pos h14] | rw [if_neg h14] | skip); (first | rw [if_pos h24] | rw [if_neg h24] | skip); (first | rw [if_pos h43] | rw [if_neg h43] | skip)
        exact lp_letsOut hm hu hl (by omega) (mHe X l - 1) 0 _ ⟨by omega, w1_eq⟩
      · refine jj_vret dX9_letsOut_46 rfl (Nat.zero_le _) (Nat.zero_le _) ?_
        exact ⟨rfl, by unfold mLo; (first | rw [if_pos h14] | rw [if_neg h14] | skip); (first | rw [if_pos h24] | rw [if_neg h24] | skip); (first | rw [if_pos h43] | rw [if_neg h43] | skip)⟩
def mGoY (X : JV) (k : Nat) : JV := w1 X (121 + k) (X (121 + k) - 1)
def mGoZ (X : JV) (k : Nat) : JV := w1 (mGoY X k) (109 + k) (-1)
def mGo2 (Q X : JV) (lv k : Nat) : JV := if Q (9 + lv) ≤ mDd (mGoZ X k) then w1 (mDr (mGoZ X k)) (373 + nN (X (109 + k))) 7 else if nI lv = 2 then mBe (mDr (mGoZ X k)) (nN (X (109 + k))) 12 else w1 (mDr (mGoZ X k)) (373 + nN (X (109 + k))) (nI (2 * lv + 3))
def mGo (Q X : JV) (lv m : Nat) : JV := if X (109 + (4 * lv + m)) = -1 then X else if mOu Q X lv m = 0 then (if X (121 + (4 * lv + m)) - 1 ≤ 0 then mGo2 Q X lv (4 * lv + m) else mGoY X (4 * lv + m)) else X
theorem mGoZ_J {Q X : JV} {k : Nat} (h : mJ Q X) (hk : k < 12) : mJ Q (mGoZ X k) := (h.set (rg_free (by omega)) (by omega)).set (rg_own (by omega) (Or.inl rfl)) (by omega)
theorem mGo_J {Q X : JV} {lv m : Nat} (h : mJ Q X) (hl : lv < 3) (hm : m < 4) : mJ Q (mGo Q X lv m) := by
  unfold mGo
  split
  · exact h
  · rename_i hn
    have ho := oB_n (h.1.ow (show 4 * lv + m < 12 by omega)) hn
    have hz := mDr_J (mGoZ_J h (show 4 * lv + m < 12 by omega))
    split
    · split
      · unfold mGo2
        split
        · exact hz.set (rg_free (by omega)) (by omega)
        · split
          · exact mBe_J hz ho.2
          · exact hz.set (rg_free (by omega)) (by omega)
      · exact h.set (rg_free (by omega)) (by omega)
    · exact h
def mOcY (Q X : JV) (lv k b : Nat) : JV := w1 (w1 (w1 (w1 X (109 + k) (nI b)) (121 + k) (Q (6 + lv))) (373 + b) (nI (2 * lv + 2))) (673 + b) (nI (lv + 1))
def mOc2 (Q X : JV) (lv k : Nat) : JV := if mFi X (nI (2 * lv + 1)) (mC X) = -1 then X else mOcY Q X lv k (nN (mFi X (nI (2 * lv + 1)) (mC X)))
def mOc (Q X : JV) (lv m : Nat) : JV := if X (109 + (4 * lv + m)) = -1 then (if mOu Q X lv m = 0 then mOc2 Q X lv (4 * lv + m) else X) else X
theorem mFi_n {X : JV} (h : mI X) {s : Int32} (hn : ¬ mFi X s (mC X) = -1) : mFi X s (mC X) = nI (nN (mFi X s (mC X))) ∧ nN (mFi X s (mC X)) < 100 := by
  have hc := h.c
  have e := (mFi_oB (X := X) (s := s) (mC X) (by omega)).resolve_left hn
  exact ⟨e.1, by have := e.2; omega⟩
theorem mOc_J {Q X : JV} {lv m : Nat} (h : mJ Q X) (hl : lv < 3) (hm : m < 4) : mJ Q (mOc Q X lv m) := by
  unfold mOc
  split
  · split
    · unfold mOc2
      split
      · exact h
      · rename_i hn
        have hf := mFi_n h.1 hn
        exact (((h.set (rg_own (by omega) (Or.inr (nB_nI hf.2 (by omega)))) (by omega)).set (rg_free (by omega)) (by omega)).set (rg_free (by omega)) (by omega)).set (rg_free (by omega)) (by omega)
    · exact h
  · exact h
theorem ex_goesOn (hm : hMo T S mo) (hu : 4 ≤ u ∧ u ≤ 6) {Q : JV} (hQ : mQ Q) (hA : A 2 = Q) (hX : mJ Q X) {lv m : Nat} (hlv : lv < 3) (hm4 : m < 4) : Ex Γ (d + 2) Y_X9_goesOn [.ref mo, .ref (mo + u), .int (nI lv), .int (nI m)] (T, R, S, blk 18 I mo (st A u X), L, D, z) 0 0 (rV (T, R, S, blk 18 I mo (st A u (mGo Q X lv m)), L, D, z)) := by
  refine Ex.of (by decide) (by simp [Value.category]) (Nat.le_of_ble_eq_true rfl) rfl ?_
  refine jj_iconst (v := 4) (q := 1) dX9_goesOn_0 rfl rfl ?_
  refine jj_iload_n (q := 2) dX9_goesOn_1 rfl rfl rfl ?_
  refine jj_imulN (q := 3) (a := 4) (b := lv) dX9_goesOn_2 rfl rfl rfl ?_
  refine jj_iload_n (q := 4) dX9_goesOn_3 rfl rfl rfl ?_
  refine jj_iaddN (q := 5) (a := 4 * lv) (b := m) dX9_goesOn_4 rfl rfl rfl ?_
  refine jj_istore (q := 7) dX9_goesOn_5 (by decide) rfl ?_
  refine jj_aload_n (q := 8) dX9_goesOn_7 rfl rfl rfl ?_
  refine jj_bipush (v := 109) (q := 10) dX9_goesOn_8 rfl rfl ?_
  refine jj_iload (q := 12) dX9_goesOn_10 rfl rfl ?_
  refine jj_iaddN (q := 13) (a := 109) (b := (4 * lv) + m) dX9_goesOn_12 rfl rfl rfl ?_
  refine jj_ialdN (q := 14) (j := 109 + ((4 * lv) + m)) dX9_goesOn_13 (hm.tu hu) (blk_st (show u < 18 by omega)) rfl (by omega) rfl ?_
  refine jj_iconst (v := -1) (q := 15) dX9_goesOn_14 rfl rfl ?_
  refine jj_icmp_eq (q := 18) (tgt := 28) dX9_goesOn_15 rfl rfl (fun h15 => ?_) (fun h15 => ?_)
  · refine jj_vret dX9_goesOn_28 rfl (Nat.zero_le _) (Nat.zero_le _) ?_
    exact ⟨rfl, by unfold mGo; (first | rw [if_pos h15] | rw [if_neg h15] | skip); (first | rw [if_pos h25] | rw [if_neg h25] | skip); (first | rw [if_pos h47] | rw [if_neg h47] | skip); (try unfold mGo2); (first | rw [if_pos h81] | rw [if_neg h81] | skip); (first | rw [if_pos h111] | rw [if_neg h111] | skip); try rfl⟩
  · refine jj_aload_n (q := 19) dX9_goesOn_18 rfl rfl rfl ?_
    refine jj_aload_n (q := 20) dX9_goesOn_19 rfl rfl rfl ?_
    refine jj_iload_n (q := 21) dX9_goesOn_20 rfl rfl rfl ?_
    refine jj_iload_n (q := 22) dX9_goesOn_21 rfl rfl rfl ?_
    refine jj_cV3i (q := 25) dX9_goesOn_22 yk_X9_isOut ml_X9_317 hm.t0 (ex_isOut hm hu hQ hA hlv hm4) rfl rfl rfl ⟨Nat.zero_le _, Nat.zero_le _⟩ ?_
    refine jj_if_eq (q := 28) (tgt := 29) dX9_goesOn_25 rfl rfl (fun h25 => ?_) (fun h25 => ?_)
    · refine jj_aload_n (q := 30) dX9_goesOn_29 rfl rfl rfl ?_
      refine jj_bipush (v := 121) (q := 32) dX9_goesOn_30 rfl rfl ?_
      refine jj_iload (q := 34) dX9_goesOn_32 rfl rfl ?_
      refine jj_iaddN (q := 35) (a := 121) (b := (4 * lv) + m) dX9_goesOn_34 rfl rfl rfl ?_
      refine jj_dup2 (q := 36) dX9_goesOn_35 rfl rfl rfl ?_
      refine jj_ialdN (q := 37) (j := 121 + ((4 * lv) + m)) dX9_goesOn_36 (hm.tu hu) (blk_st (show u < 18 by omega)) rfl (by omega) rfl ?_
      refine jj_iconst (v := 1) (q := 38) dX9_goesOn_37 rfl rfl ?_
      refine jj_isub (q := 39) dX9_goesOn_38 rfl ?_
      refine jj_iastN (q := 40) (j := 121 + ((4 * lv) + m)) dX9_goesOn_39 (hm.tu hu) (u2_bst (show u < 18 by omega)) rfl (by omega) rfl ?_
      refine jj_aload_n (q := 41) dX9_goesOn_40 rfl rfl rfl ?_
      refine jj_bipush (v := 121) (q := 43) dX9_goesOn_41 rfl rfl ?_
      refine jj_iload (q := 45) dX9_goesOn_43 rfl rfl ?_
      refine jj_iaddN (q := 46) (a := 121) (b := (4 * lv) + m) dX9_goesOn_45 rfl rfl rfl ?_
      refine jj_ialdW (q := 47) (j := 121 + ((4 * lv) + m)) (v := X (121 + (4 * lv + m)) - 1) dX9_goesOn_46 (hm.tu hu) (blk_st (show u < 18 by omega)) rfl (by omega) w1_eq rfl ?_
      refine jj_if_le (q := 50) (tgt := 51) dX9_goesOn_47 rfl rfl (fun h47 => ?_) (fun h47 => ?_)
      · have ho := oB_n (hX.1.ow (show 4 * lv + m < 12 by omega)) h15
        refine jj_aload_n (q := 52) dX9_goesOn_51 rfl rfl rfl ?_
        refine jj_bipush (v := 109) (q := 54) dX9_goesOn_52 rfl rfl ?_
        refine jj_iload (q := 56) dX9_goesOn_54 rfl rfl ?_
        refine jj_iaddN (q := 57) (a := 109) (b := (4 * lv) + m) dX9_goesOn_56 rfl rfl rfl ?_
        refine jj_ialdW (q := 58) (j := 109 + ((4 * lv) + m)) (v := nI (nN (X (109 + (4 * lv + m))))) dX9_goesOn_57 (hm.tu hu) (blk_st (show u < 18 by omega)) rfl (by omega) (by rw [w1_ne (by omega)]; exact ho.1) rfl ?_
        refine jj_istore (q := 60) dX9_goesOn_58 (by decide) rfl ?_
        refine jj_aload_n (q := 61) dX9_goesOn_60 rfl rfl rfl ?_
        refine jj_bipush (v := 109) (q := 63) dX9_goesOn_61 rfl rfl ?_
        refine jj_iload (q := 65) dX9_goesOn_63 rfl rfl ?_
        refine jj_iaddN (q := 66) (a := 109) (b := (4 * lv) + m) dX9_goesOn_65 rfl rfl rfl ?_
        refine jj_iconst (v := -1) (q := 67) dX9_goesOn_66 rfl rfl ?_
        refine jj_iastN (q := 68) (j := 109 + ((4 * lv) + m)) dX9_goesOn_67 (hm.tu hu) (u2_bst (show u < 18 by omega)) rfl (by omega) rfl ?_
        refine jj_aload_n (q := 69) dX9_goesOn_68 rfl rfl rfl ?_
        refine jj_cS1i (q := 72) dX9_goesOn_69 yk_X9_draws ml_X9_320 (ex_draws hm hu) rfl rfl rfl ⟨Nat.zero_le _, Nat.zero_le _⟩ ?_
        refine jj_aload_n (q := 73) dX9_goesOn_72 rfl rfl rfl ?_
        refine jj_getS (q := 76) dX9_goesOn_73 fl_X9_17 hm.t0 hm.r0_10 rfl rfl rfl ?_
        refine jj_bipush (v := 9) (q := 78) dX9_goesOn_76 rfl rfl ?_
        refine jj_iload_n (q := 79) dX9_goesOn_78 rfl rfl rfl ?_
        refine jj_iaddN (q := 80) (a := 9) (b := lv) dX9_goesOn_79 rfl rfl rfl ?_
        refine jj_ialdN (q := 81) (j := 9 + lv) dX9_goesOn_80 hm.t2 ((blk_sn (show 2 < 18 by omega) (show 2 ≠ u by omega)).trans hA) rfl (by omega) rfl ?_
        refine jj_icmp_ge (q := 84) (tgt := 88) dX9_goesOn_81 rfl rfl (fun h81 => ?_) (fun h81 => ?_)
        · refine jj_iconst (v := 0) (q := 89) dX9_goesOn_88 rfl rfl ?_
          refine jj_istore (q := 91) dX9_goesOn_89 (by decide) rfl ?_
          try rw [show w1 (w1 X (121 + (4 * lv + m)) (X (121 + (4 * lv + m)) - 1)) (109 + (4 * lv + m)) (-1) = mGoZ X (4 * lv + m) from rfl] at h81 ⊢
          refine jj_iload (q := 93) dX9_goesOn_91 rfl rfl ?_
          refine jj_if_ne (q := 96) (tgt := 109) dX9_goesOn_93 rfl rfl (fun h93 => absurd h93 ((by decide))) (fun h93 => ?_)
          refine jj_aload_n (q := 97) dX9_goesOn_96 rfl rfl rfl ?_
          refine jj_sipush (v := 373) (q := 100) dX9_goesOn_97 rfl rfl ?_
          refine jj_iload (q := 102) dX9_goesOn_100 rfl rfl ?_
          refine jj_iaddN (q := 103) (a := 373) (b := nN (X (109 + (4 * lv + m)))) dX9_goesOn_102 rfl rfl rfl ?_
          refine jj_bipush (v := 7) (q := 105) dX9_goesOn_103 rfl rfl ?_
          refine jj_iastN (q := 106) (j := 373 + (nN (X (109 + (4 * lv + m))))) dX9_goesOn_105 (hm.tu hu) (u2_bst (show u < 18 by omega)) rfl (by omega) rfl ?_
          refine jj_goto (tgt := 138) dX9_goesOn_106 rfl ?_
          refine jj_vret dX9_goesOn_138 rfl (Nat.zero_le _) (Nat.zero_le _) ?_
          exact ⟨rfl, by unfold mGo; (first | rw [if_pos h15] | rw [if_neg h15] | skip); (first | rw [if_pos h25] | rw [if_neg h25] | skip); (first | rw [if_pos h47] | rw [if_neg h47] | skip); (try unfold mGo2); (first | rw [if_pos h81] | rw [if_neg h81] | skip); (first | rw [if_pos h111] | rw [if_neg h111] | skip); try rfl⟩
        · refine jj_iconst (v := 1) (q := 85) dX9_goesOn_84 rfl rfl ?_
          refine jj_goto (tgt := 89) dX9_goesOn_85 rfl ?_
          refine jj_istore (q := 91) dX9_goesOn_89 (by decide) rfl ?_
          try rw [show w1 (w1 X (121 + (4 * lv + m)) (X (121 + (4 * lv + m)) - 1)) (109 + (4 * lv + m)) (-1) = mGoZ X (4 * lv + m) from rfl] at h81 ⊢
          refine jj_iload (q := 93) dX9_goesOn_91 rfl rfl ?_
          refine jj_if_ne (q := 96) (tgt := 109) dX9_goesOn_93 rfl rfl (fun h93 => ?_) (fun h93 => by exfalso; exact absurd h93 (by decide))
          refine jj_iload_n (q := 110) dX9_goesOn_109 rfl rfl rfl ?_
          refine jj_iconst (v := 2) (q := 111) dX9_goesOn_110 rfl rfl ?_
          refine jj_icmp_ne (q := 114) (tgt := 125) dX9_goesOn_111 rfl rfl (fun h111 => ?_) (fun h111 => ?_)
          · refine jj_aload_n (q := 126) dX9_goesOn_125 rfl rfl rfl ?_
            refine jj_sipush (v := 373) (q := 129) dX9_goesOn_126 rfl rfl ?_
            refine jj_iload (q := 131) dX9_goesOn_129 rfl rfl ?_
            refine jj_iaddN (q := 132) (a := 373) (b := nN (X (109 + (4 * lv + m)))) dX9_goesOn_131 rfl rfl rfl ?_
            refine jj_iconst (v := 2) (q := 133) dX9_goesOn_132 rfl rfl ?_
            refine jj_iload_n (q := 134) dX9_goesOn_133 rfl rfl rfl ?_
            refine jj_imulN (q := 135) (a := 2) (b := lv) dX9_goesOn_134 rfl rfl rfl ?_
            refine jj_iconst (v := 3) (q := 136) dX9_goesOn_135 rfl rfl ?_
            refine jj_iaddN (q := 137) (a := 2 * lv) (b := 3) dX9_goesOn_136 rfl rfl rfl ?_
            refine jj_iastN (q := 138) (j := 373 + (nN (X (109 + (4 * lv + m))))) dX9_goesOn_137 (hm.tu hu) (u2_bst (show u < 18 by omega)) rfl (by omega) rfl ?_
            refine jj_vret dX9_goesOn_138 rfl (Nat.zero_le _) (Nat.zero_le _) ?_
            exact ⟨rfl, by unfold mGo; (first | rw [if_pos h15] | rw [if_neg h15] | skip); (first | rw [if_pos h25] | rw [if_neg h25] | skip); (first | rw [if_pos h47] | rw [if_neg h47] | skip); (try unfold mGo2); (first | rw [if_pos h81] | rw [if_neg h81] | skip); (first | rw [if_pos h111] | rw [if_neg h111] | skip); try rfl⟩
          · refine jj_aload_n (q := 115) dX9_goesOn_114 rfl rfl rfl ?_
            refine jj_iload (q := 117) dX9_goesOn_115 rfl rfl ?_
            refine jj_bipush (v := 12) (q := 119) dX9_goesOn_117 rfl rfl ?_
            refine jj_cS3v (q := 122) dX9_goesOn_119 yk_X9_becomes ml_X9_297 (ex_becomes hm hu (mDr_J (mGoZ_J hX (show 4 * lv + m < 12 by omega))).1 ho.2) rfl rfl rfl ⟨Nat.zero_le _, Nat.zero_le _⟩ ?_
            refine jj_goto (tgt := 138) dX9_goesOn_122 rfl ?_
            refine jj_vret dX9_goesOn_138 rfl (Nat.zero_le _) (Nat.zero_le _) ?_
            exact ⟨rfl, by unfold mGo; (first | rw [if_pos h15] | rw [if_neg h15] | skip); (first | rw [if_pos h25] | rw [if_neg h25] | skip); (first | rw [if_pos h47] | rw [if_neg h47] | skip); (try unfold mGo2); (first | rw [if_pos h81] | rw [if_neg h81] | skip); (first | rw [if_pos h111] | rw [if_neg h111] | skip); try rfl⟩
      · refine jj_vret dX9_goesOn_50 rfl (Nat.zero_le _) (Nat.zero_le _) ?_
        exact ⟨rfl, by unfold mGo; (first | rw [if_pos h15] | rw [if_neg h15] | skip); (first | rw [if_pos h25] | rw [if_neg h25] | skip); (first | rw [if_pos h47] | rw [if_neg h47] | skip); (try unfold mGo2); (first | rw [if_pos h81] | rw [if_neg h81] | skip); (first | rw [if_pos h111] | rw [if_neg h111] | skip); try rfl⟩
    · refine jj_vret dX9_goesOn_28 rfl (Nat.zero_le _) (Nat.zero_le _) ?_
      exact ⟨rfl, by unfold mGo; (first | rw [if_pos h15] | rw [if_neg h15] | skip); (first | rw [if_pos h25] | rw [if_neg h25] | skip); (first | rw [if_pos h47] | rw [if_neg h47] | skip); (try unfold mGo2); (first | rw [if_pos h81] | rw [if_neg h81] | skip); (first | rw [if_pos h111] | rw [if_neg h111] | skip); try rfl⟩
theorem ex_occupies (hm : hMo T S mo) (hu : 4 ≤ u ∧ u ≤ 6) {Q : JV} (hQ : mQ Q) (hA : A 2 = Q) (hX : mJ Q X) {lv m : Nat} (hlv : lv < 3) (hm4 : m < 4) : Ex Γ (d + 3) Y_X9_occupies [.ref mo, .ref (mo + u), .int (nI lv), .int (nI m)] (T, R, S, blk 18 I mo (st A u X), L, D, z) 0 0 (rV (T, R, S, blk 18 I mo (st A u (mOc Q X lv m)), L, D, z)) := by
  refine Ex.of (by decide) (by simp [Value.category]) (Nat.le_of_ble_eq_true rfl) rfl ?_
  refine jj_iconst (v := 4) (q := 1) dX9_occupies_0 rfl rfl ?_
  refine jj_iload_n (q := 2) dX9_occupies_1 rfl rfl rfl ?_
  refine jj_imulN (q := 3) (a := 4) (b := lv) dX9_occupies_2 rfl rfl rfl ?_
  refine jj_iload_n (q := 4) dX9_occupies_3 rfl rfl rfl ?_
  refine jj_iaddN (q := 5) (a := 4 * lv) (b := m) dX9_occupies_4 rfl rfl rfl ?_
  refine jj_istore (q := 7) dX9_occupies_5 (by decide) rfl ?_
  refine jj_aload_n (q := 8) dX9_occupies_7 rfl rfl rfl ?_
  refine jj_bipush (v := 109) (q := 10) dX9_occupies_8 rfl rfl ?_
  refine jj_iload (q := 12) dX9_occupies_10 rfl rfl ?_
  refine jj_iaddN (q := 13) (a := 109) (b := (4 * lv) + m) dX9_occupies_12 rfl rfl rfl ?_
  refine jj_ialdN (q := 14) (j := 109 + ((4 * lv) + m)) dX9_occupies_13 (hm.tu hu) (blk_st (show u < 18 by omega)) rfl (by omega) rfl ?_
  refine jj_iconst (v := -1) (q := 15) dX9_occupies_14 rfl rfl ?_
  refine jj_icmp_ne (q := 18) (tgt := 40) dX9_occupies_15 rfl rfl (fun h15 => ?_) (fun h15 => ?_)
  · refine jj_iconst (v := -1) (q := 41) dX9_occupies_40 rfl rfl ?_
    refine jj_istore (q := 43) dX9_occupies_41 (by decide) rfl ?_
    refine jj_iload (q := 45) dX9_occupies_43 rfl rfl ?_
    refine jj_iconst (v := -1) (q := 46) dX9_occupies_45 rfl rfl ?_
    refine jj_icmp_ne (q := 49) (tgt := 50) dX9_occupies_46 rfl rfl (fun h46 => absurd h46 ((fun q => q rfl))) (fun h46 => ?_)
    refine jj_vret dX9_occupies_49 rfl (Nat.zero_le _) (Nat.zero_le _) ?_
    exact ⟨rfl, by unfold mOc; (first | rw [if_pos h15] | rw [if_neg h15] | skip); (first | rw [if_pos h25] | rw [if_neg h25] | skip); (try unfold mOc2); (first | rw [if_pos h46] | rw [if_neg h46] | skip); try rfl⟩
  · refine jj_aload_n (q := 19) dX9_occupies_18 rfl rfl rfl ?_
    refine jj_aload_n (q := 20) dX9_occupies_19 rfl rfl rfl ?_
    refine jj_iload_n (q := 21) dX9_occupies_20 rfl rfl rfl ?_
    refine jj_iload_n (q := 22) dX9_occupies_21 rfl rfl rfl ?_
    refine jj_cV3i (q := 25) dX9_occupies_22 yk_X9_isOut ml_X9_317 hm.t0 (ex_isOut hm hu hQ hA hlv hm4) rfl rfl rfl ⟨Nat.zero_le _, Nat.zero_le _⟩ ?_
    refine jj_if_ne (q := 28) (tgt := 40) dX9_occupies_25 rfl rfl (fun h25 => ?_) (fun h25 => ?_)
    · refine jj_iconst (v := -1) (q := 41) dX9_occupies_40 rfl rfl ?_
      refine jj_istore (q := 43) dX9_occupies_41 (by decide) rfl ?_
      refine jj_iload (q := 45) dX9_occupies_43 rfl rfl ?_
      refine jj_iconst (v := -1) (q := 46) dX9_occupies_45 rfl rfl ?_
      refine jj_icmp_ne (q := 49) (tgt := 50) dX9_occupies_46 rfl rfl (fun h46 => absurd h46 ((fun q => q rfl))) (fun h46 => ?_)
      refine jj_vret dX9_occupies_49 rfl (Nat.zero_le _) (Nat.zero_le _) ?_
      exact ⟨rfl, by unfold mOc; (first | rw [if_pos h15] | rw [if_neg h15] | skip); (first | rw [if_pos h25] | rw [if_neg h25] | skip); (try unfold mOc2); (first | rw [if_pos h46] | rw [if_neg h46] | skip); try rfl⟩
    · refine jj_aload_n (q := 29) dX9_occupies_28 rfl rfl rfl ?_
      refine jj_iconst (v := 2) (q := 30) dX9_occupies_29 rfl rfl ?_
      refine jj_iload_n (q := 31) dX9_occupies_30 rfl rfl rfl ?_
      refine jj_imulN (q := 32) (a := 2) (b := lv) dX9_occupies_31 rfl rfl rfl ?_
      refine jj_iconst (v := 1) (q := 33) dX9_occupies_32 rfl rfl ?_
      refine jj_iaddN (q := 34) (a := 2 * lv) (b := 1) dX9_occupies_33 rfl rfl rfl ?_
      refine jj_cS2i (q := 37) dX9_occupies_34 yk_X9_firstIn ml_X9_324 (ex_firstIn hm hu hX.1 rfl) rfl rfl rfl ⟨Nat.zero_le _, Nat.zero_le _⟩ ?_
      refine jj_goto (tgt := 41) dX9_occupies_37 rfl ?_
      refine jj_istore (q := 43) dX9_occupies_41 (by decide) rfl ?_
      refine jj_iload (q := 45) dX9_occupies_43 rfl rfl ?_
      refine jj_iconst (v := -1) (q := 46) dX9_occupies_45 rfl rfl ?_
      refine jj_icmp_ne (q := 49) (tgt := 50) dX9_occupies_46 rfl rfl (fun h46 => ?_) (fun h46 => ?_)
      · have hf := mFi_n hX.1 h46
        rw [hf.1]
        refine jj_aload_n (q := 51) dX9_occupies_50 rfl rfl rfl ?_
        refine jj_bipush (v := 109) (q := 53) dX9_occupies_51 rfl rfl ?_
        refine jj_iload (q := 55) dX9_occupies_53 rfl rfl ?_
        refine jj_iaddN (q := 56) (a := 109) (b := (4 * lv) + m) dX9_occupies_55 rfl rfl rfl ?_
        refine jj_iload (q := 58) dX9_occupies_56 rfl rfl ?_
        refine jj_iastN (q := 59) (j := 109 + ((4 * lv) + m)) dX9_occupies_58 (hm.tu hu) (u2_bst (show u < 18 by omega)) rfl (by omega) rfl ?_
        refine jj_aload_n (q := 60) dX9_occupies_59 rfl rfl rfl ?_
        refine jj_bipush (v := 121) (q := 62) dX9_occupies_60 rfl rfl ?_
        refine jj_iload (q := 64) dX9_occupies_62 rfl rfl ?_
        refine jj_iaddN (q := 65) (a := 121) (b := (4 * lv) + m) dX9_occupies_64 rfl rfl rfl ?_
        refine jj_aload_n (q := 66) dX9_occupies_65 rfl rfl rfl ?_
        refine jj_getS (q := 69) dX9_occupies_66 fl_X9_17 hm.t0 hm.r0_10 rfl rfl rfl ?_
        refine jj_bipush (v := 6) (q := 71) dX9_occupies_69 rfl rfl ?_
        refine jj_iload_n (q := 72) dX9_occupies_71 rfl rfl rfl ?_
        refine jj_iaddN (q := 73) (a := 6) (b := lv) dX9_occupies_72 rfl rfl rfl ?_
        refine jj_ialdN (q := 74) (j := 6 + lv) dX9_occupies_73 hm.t2 ((blk_sn (show 2 < 18 by omega) (show 2 ≠ u by omega)).trans hA) rfl (by omega) rfl ?_
        refine jj_iastN (q := 75) (j := 121 + ((4 * lv) + m)) dX9_occupies_74 (hm.tu hu) (u2_bst (show u < 18 by omega)) rfl (by omega) rfl ?_
        refine jj_aload_n (q := 76) dX9_occupies_75 rfl rfl rfl ?_
        refine jj_sipush (v := 373) (q := 79) dX9_occupies_76 rfl rfl ?_
        refine jj_iload (q := 81) dX9_occupies_79 rfl rfl ?_
        refine jj_iaddN (q := 82) (a := 373) (b := nN (mFi X (nI (2 * lv + 1)) (mC X))) dX9_occupies_81 rfl rfl rfl ?_
        refine jj_iconst (v := 2) (q := 83) dX9_occupies_82 rfl rfl ?_
        refine jj_iload_n (q := 84) dX9_occupies_83 rfl rfl rfl ?_
        refine jj_imulN (q := 85) (a := 2) (b := lv) dX9_occupies_84 rfl rfl rfl ?_
        refine jj_iconst (v := 2) (q := 86) dX9_occupies_85 rfl rfl ?_
        refine jj_iaddN (q := 87) (a := 2 * lv) (b := 2) dX9_occupies_86 rfl rfl rfl ?_
        refine jj_iastN (q := 88) (j := 373 + (nN (mFi X (nI (2 * lv + 1)) (mC X)))) dX9_occupies_87 (hm.tu hu) (u2_bst (show u < 18 by omega)) rfl (by omega) rfl ?_
        refine jj_aload_n (q := 89) dX9_occupies_88 rfl rfl rfl ?_
        refine jj_sipush (v := 673) (q := 92) dX9_occupies_89 rfl rfl ?_
        refine jj_iload (q := 94) dX9_occupies_92 rfl rfl ?_
        refine jj_iaddN (q := 95) (a := 673) (b := nN (mFi X (nI (2 * lv + 1)) (mC X))) dX9_occupies_94 rfl rfl rfl ?_
        refine jj_iload_n (q := 96) dX9_occupies_95 rfl rfl rfl ?_
        refine jj_iconst (v := 1) (q := 97) dX9_occupies_96 rfl rfl ?_
        refine jj_iaddN (q := 98) (a := lv) (b := 1) dX9_occupies_97 rfl rfl rfl ?_
        refine jj_iastN (q := 99) (j := 673 + (nN (mFi X (nI (2 * lv + 1)) (mC X)))) dX9_occupies_98 (hm.tu hu) (u2_bst (show u < 18 by omega)) rfl (by omega) rfl ?_
        refine jj_vret dX9_occupies_99 rfl (Nat.zero_le _) (Nat.zero_le _) ?_
        exact ⟨rfl, by unfold mOc; (first | rw [if_pos h15] | rw [if_neg h15] | skip); (first | rw [if_pos h25] | rw [if_neg h25] | skip); (try unfold mOc2); (first | rw [if_pos h46] | rw [if_neg h46] | skip); try rfl⟩
      · refine jj_vret dX9_occupies_49 rfl (Nat.zero_le _) (Nat.zero_le _) ?_
        exact ⟨rfl, by unfold mOc; (first | rw [if_pos h15] | rw [if_neg h15] | skip); (first | rw [if_pos h25] | rw [if_neg h25] | skip); (try unfold mOc2); (first | rw [if_pos h46] | rw [if_neg h46] | skip); try rfl⟩
def mAr (X : JV) (b : Nat) : JV := if X (373 + b) = 0 then (if X (273 + b) = X 0 then w1 X (373 + b) 1 else X) else X
def mArL : Nat → Nat → JV → JV
  | 0, _, X => X
  | k + 1, i, X => mArL k (i + 1) (mAr X i)
def mT1 (Q X : JV) : JV := if X 0 ≤ X 2085 then X else mMv Q X
def mLkS (H : Nat → JV → Nat → Bool) (Q X : JV) (p : Nat) : JV := if X (133 + p) = -1 then X else mLk H Q X p (nN (X (133 + p)))
def mLkL (H : Nat → JV → Nat → Bool) (Q : JV) : Nat → Nat → JV → JV
  | 0, _, X => X
  | k + 1, i, X => mLkL H Q k (i + 1) (mLkS H Q X i)
def mLoL (Q : JV) : Nat → Nat → JV → JV
  | 0, _, X => X
  | k + 1, i, X => mLoL Q k (i + 1) (mLo Q X i)
def mGoL (Q : JV) (lv : Nat) : Nat → Nat → JV → JV
  | 0, _, X => X
  | k + 1, i, X => mGoL Q lv k (i + 1) (mGo Q X lv i)
def mOcL (Q : JV) (lv : Nat) : Nat → Nat → JV → JV
  | 0, _, X => X
  | k + 1, i, X => mOcL Q lv k (i + 1) (mOc Q X lv i)
def mGoA (Q : JV) : Nat → JV → JV
  | 0, X => X
  | k + 1, X => mGoA Q k (mGoL Q k (qMn Q k) 0 X)
def mOcA (Q : JV) : Nat → JV → JV
  | 0, X => X
  | k + 1, X => mOcA Q k (mOcL Q k (qMn Q k) 0 X)
def mEnY (Q X : JV) (b : Nat) : JV := w1 (mOn X b (qEn Q)) (573 + b) 0
def mEn2 (Q X : JV) : JV := if mFi X 7 (mC X) = -1 then X else mEnY Q X (nN (mFi X 7 (mC X)))
def mEn (Q X : JV) : JV := if X (133 + qEn Q) = -1 then mEn2 Q X else X
def mT5 (Q X : JV) : JV := mEn Q (mOcA Q 3 X)
def mT4 (Q X : JV) : JV := mT5 Q (mGoA Q 3 X)
def mT3 (Q X : JV) : JV := mT4 Q (mLoL Q (qLn Q) 0 X)
def mT2 (H : Nat → JV → Nat → Bool) (Q X : JV) : JV := mT3 Q (mLkL H Q (qLen Q) 0 X)
def mTick (H : Nat → JV → Nat → Bool) (Q X : JV) : JV := mT2 H Q (mT1 Q (mArL (mC X) 0 (w1 X 0 (X 0 + 1))))
def mRun (H : Nat → JV → Nat → Bool) (Q : JV) : Nat → JV → JV
  | 0, X => X
  | k + 1, X => mRun H Q k (mTick H Q X)
theorem mAr_J {Q X : JV} {b : Nat} (h : mJ Q X) : mJ Q (mAr X b) := by
  unfold mAr
  split
  · split
    · exact h.set (rg_free (by omega)) (by omega)
    · exact h
  · exact h
theorem mAr_2 {X : JV} {b j : Nat} (hj : j < 373) : mAr X b j = X j := by
  unfold mAr
  split
  · split
    · rw [w1_ne (by omega)]
    · rfl
  · rfl
theorem mArL_J {Q : JV} : ∀ (k i : Nat) (X : JV), mJ Q X → mJ Q (mArL k i X)
  | 0, _, _, h => h
  | k + 1, i, X, h => mArL_J k (i + 1) _ (mAr_J h)
theorem mT1_J {Q X : JV} (hQ : mQ Q) (h : mJ Q X) : mJ Q (mT1 Q X) := by
  unfold mT1
  split
  · exact h
  · exact mMv_J hQ h
theorem mLkS_J {H : Nat → JV → Nat → Bool} {Q X : JV} {p : Nat} (hQ : mQ Q) (h : mJ Q X) (hp : p < 40) : mJ Q (mLkS H Q X p) := by
  unfold mLkS
  split
  · exact h
  · rename_i hn
    exact mLk_J hQ h hp (oB_n (h.1.lo hp) hn).2
theorem mLkL_J {H : Nat → JV → Nat → Bool} {Q : JV} (hQ : mQ Q) : ∀ (k i : Nat) (X : JV), i + k ≤ 40 → mJ Q X → mJ Q (mLkL H Q k i X)
  | 0, _, _, _, h => h
  | k + 1, i, X, hk, h => mLkL_J hQ k (i + 1) _ (by omega) (mLkS_J hQ h (by omega))
theorem mLoL_J {Q : JV} (hQ : mQ Q) : ∀ (k i : Nat) (X : JV), i + k ≤ 4 → mJ Q X → mJ Q (mLoL Q k i X)
  | 0, _, _, _, h => h
  | k + 1, i, X, hk, h => mLoL_J hQ k (i + 1) _ (by omega) (mLo_J hQ h (by omega))
theorem mGoL_J {Q : JV} {lv : Nat} (hl : lv < 3) : ∀ (k i : Nat) (X : JV), i + k ≤ 4 → mJ Q X → mJ Q (mGoL Q lv k i X)
  | 0, _, _, _, h => h
  | k + 1, i, X, hk, h => mGoL_J hl k (i + 1) _ (by omega) (mGo_J h hl (by omega))
theorem mOcL_J {Q : JV} {lv : Nat} (hl : lv < 3) : ∀ (k i : Nat) (X : JV), i + k ≤ 4 → mJ Q X → mJ Q (mOcL Q lv k i X)
  | 0, _, _, _, h => h
  | k + 1, i, X, hk, h => mOcL_J hl k (i + 1) _ (by omega) (mOc_J h hl (by omega))
theorem mGoA_J {Q : JV} (hQ : mQ Q) : ∀ (k : Nat) (X : JV), k ≤ 3 → mJ Q X → mJ Q (mGoA Q k X)
  | 0, _, _, h => h
  | k + 1, X, hk, h => mGoA_J hQ k _ (by omega) (mGoL_J (by omega) _ _ _ (by have := nQmn hQ (k := k) (by omega); omega) h)
theorem mOcA_J {Q : JV} (hQ : mQ Q) : ∀ (k : Nat) (X : JV), k ≤ 3 → mJ Q X → mJ Q (mOcA Q k X)
  | 0, _, _, h => h
  | k + 1, X, hk, h => mOcA_J hQ k _ (by omega) (mOcL_J (by omega) _ _ _ (by have := nQmn hQ (k := k) (by omega); omega) h)
theorem mEn_J {Q X : JV} (hQ : mQ Q) (h : mJ Q X) : mJ Q (mEn Q X) := by
  have he := nQen hQ
  have hl := nQ0 hQ
  unfold mEn
  split
  · unfold mEn2
    split
    · exact h
    · rename_i hn
      exact (mOn_J h (by omega) (mFi_n h.1 hn).2).set (rg_free (by omega)) (by omega)
  · exact h
theorem mTick_J {H : Nat → JV → Nat → Bool} {Q X : JV} (hQ : mQ Q) (h : mJ Q X) : mJ Q (mTick H Q X) := by
  have hl := nQ0 hQ
  have hn := nQln hQ
  exact mEn_J hQ (mOcA_J hQ 3 _ (by omega) (mGoA_J hQ 3 _ (by omega) (mLoL_J hQ _ _ _ (by omega) (mLkL_J hQ _ _ _ (by omega) (mT1_J hQ (mArL_J _ _ _ (h.set (rg_free (by omega)) (by omega))))))))
theorem tk_end (hm : hMo T S mo) (hu : 4 ≤ u ∧ u ≤ 6) {Q : JV} (hQ : mQ Q) (hA : A 2 = Q) (hX : mJ Q X) {V : JV} {x2 x3 : Option Value} : JJ Γ (jj_E Y_X9_tick) (jj_Z Γ (rVV (fun V => (T, R, S, blk 18 I mo (st (av A V) u (mEn Q X)), L, D, z))) 0 0) (jj_rm (d + 2 * 11 + 5) 0 0) 0 0 207 [some (.ref mo), some (.ref (mo + u)), x2, x3] [] (T, R, S, blk 18 I mo (st (av A V) u X), L, D, z) := by
  have hl := nQ0 hQ
  have he := nQen hQ
  refine jj_aload_n (q := 208) dX9_tick_207 rfl rfl rfl ?_
  refine jj_sipush (v := 133) (q := 211) dX9_tick_208 rfl rfl ?_
  refine jj_aload_n (q := 212) dX9_tick_211 rfl rfl rfl ?_
  refine jj_getS (q := 215) dX9_tick_212 fl_X9_17 hm.t0 hm.r0_10 rfl rfl rfl ?_
  refine jj_iconst (v := 1) (q := 216) dX9_tick_215 rfl rfl ?_
  refine jj_ialdW (q := 217) (j := 1) (v := nI (qEn Q)) dX9_tick_216 hm.t2 ((blk_av (show 2 < 18 by omega) (show 2 ≠ u by omega) (by decide)).trans hA) rfl (by omega) he.1 rfl ?_
  refine jj_iaddN (q := 218) (a := 133) (b := qEn Q) dX9_tick_217 rfl rfl rfl ?_
  refine jj_ialdN (q := 219) (j := 133 + (qEn Q)) dX9_tick_218 (hm.tu hu) (blk_st (show u < 18 by omega)) rfl (by omega) rfl ?_
  refine jj_iconst (v := -1) (q := 220) dX9_tick_219 rfl rfl ?_
  refine jj_icmp_ne (q := 223) (tgt := 232) dX9_tick_220 rfl rfl (fun h220 => ?_) (fun h220 => ?_)
  · refine jj_iconst (v := -1) (q := 233) dX9_tick_232 rfl rfl ?_
    refine jj_istore_n (q := 234) dX9_tick_233 rfl (by decide) rfl ?_
    refine jj_iload_n (q := 235) dX9_tick_234 rfl rfl rfl ?_
    refine jj_iconst (v := -1) (q := 236) dX9_tick_235 rfl rfl ?_
    refine jj_icmp_ne (q := 239) (tgt := 240) dX9_tick_236 rfl rfl (fun h236 => absurd h236 ((fun q => q rfl))) (fun h236 => ?_)
    refine jj_vret dX9_tick_239 rfl (Nat.zero_le _) (Nat.zero_le _) ?_
    exact ⟨V, rfl, by unfold mEn; (first | rw [if_pos h220] | rw [if_neg h220] | skip); (try unfold mEn2); (first | rw [if_pos h236] | rw [if_neg h236] | skip); try rfl⟩
  · refine jj_aload_n (q := 224) dX9_tick_223 rfl rfl rfl ?_
    refine jj_bipush (v := 7) (q := 226) dX9_tick_224 rfl rfl ?_
    refine jj_cS2i (q := 229) dX9_tick_226 yk_X9_firstIn ml_X9_324 (ex_firstIn hm hu hX.1 rfl) rfl rfl rfl ⟨Nat.zero_le _, Nat.zero_le _⟩ ?_
    refine jj_goto (tgt := 233) dX9_tick_229 rfl ?_
    refine jj_istore_n (q := 234) dX9_tick_233 rfl (by decide) rfl ?_
    refine jj_iload_n (q := 235) dX9_tick_234 rfl rfl rfl ?_
    refine jj_iconst (v := -1) (q := 236) dX9_tick_235 rfl rfl ?_
    refine jj_icmp_ne (q := 239) (tgt := 240) dX9_tick_236 rfl rfl (fun h236 => ?_) (fun h236 => ?_)
    · have hf := mFi_n hX.1 h236
      rw [hf.1]
      refine jj_aload_n (q := 241) dX9_tick_240 rfl rfl rfl ?_
      refine jj_iload_n (q := 242) dX9_tick_241 rfl rfl rfl ?_
      refine jj_aload_n (q := 243) dX9_tick_242 rfl rfl rfl ?_
      refine jj_getS (q := 246) dX9_tick_243 fl_X9_17 hm.t0 hm.r0_10 rfl rfl rfl ?_
      refine jj_iconst (v := 1) (q := 247) dX9_tick_246 rfl rfl ?_
      refine jj_ialdW (q := 248) (j := 1) (v := nI (qEn Q)) dX9_tick_247 hm.t2 ((blk_av (show 2 < 18 by omega) (show 2 ≠ u by omega) (by decide)).trans hA) rfl (by omega) he.1 rfl ?_
      refine jj_cS3v (q := 251) dX9_tick_248 yk_X9_comesOn ml_X9_307 (ex_comesOn hm hu (show qEn Q < 40 by omega) hf.2) rfl rfl rfl ⟨Nat.zero_le _, Nat.zero_le _⟩ ?_
      refine jj_aload_n (q := 252) dX9_tick_251 rfl rfl rfl ?_
      refine jj_sipush (v := 573) (q := 255) dX9_tick_252 rfl rfl ?_
      refine jj_iload_n (q := 256) dX9_tick_255 rfl rfl rfl ?_
      refine jj_iaddN (q := 257) (a := 573) (b := nN (mFi X 7 (mC X))) dX9_tick_256 rfl rfl rfl ?_
      refine jj_iconst (v := 0) (q := 258) dX9_tick_257 rfl rfl ?_
      refine jj_iastN (q := 259) (j := 573 + (nN (mFi X 7 (mC X)))) dX9_tick_258 (hm.tu hu) (u2_bst (show u < 18 by omega)) rfl (by omega) rfl ?_
      refine jj_vret dX9_tick_259 rfl (Nat.zero_le _) (Nat.zero_le _) ?_
      exact ⟨V, rfl, by unfold mEn; (first | rw [if_pos h220] | rw [if_neg h220] | skip); (try unfold mEn2); (first | rw [if_pos h236] | rw [if_neg h236] | skip); try rfl⟩
    · refine jj_vret dX9_tick_239 rfl (Nat.zero_le _) (Nat.zero_le _) ?_
      exact ⟨V, rfl, by unfold mEn; (first | rw [if_pos h220] | rw [if_neg h220] | skip); (try unfold mEn2); (first | rw [if_pos h236] | rw [if_neg h236] | skip); try rfl⟩
theorem nI_m1 (k : Nat) : nI k + Int32.ofInt (-1) = nI k - 1 := by
  rw [show Int32.ofInt (-1) = -(1 : Int32) by decide, ← Int32.sub_eq_add_neg]
theorem nI_ltz {k : Nat} (h : k < 2 ^ 31) : ¬ nI k < 0 := nI_nltN (a := 0) (Nat.zero_le k) h
theorem lp_ocI (hm : hMo T S mo) (hu : 4 ≤ u ∧ u ≤ 6) {Q : JV} (hQ : mQ Q) (hA : A 2 = Q) {lv n : Nat} (hlv : lv < 3) (hn4 : n < 5) (hq : Q (3 + lv) = nI n) {Y Y2 V : JV} (hz : JJ Γ (jj_E Y_X9_tick) (jj_Z Γ (rVV (fun V => (T, R, S, blk 18 I mo (st (av A V) u Y), L, D, z))) 0 0) (jj_rm (d + 2 * 11 + 5) 0 0) 0 0 201 [some (.ref mo), some (.ref (mo + u)), some (.int (nI lv)), some (.int (nI n))] [] (T, R, S, blk 18 I mo (st (av A V) u Y2), L, D, z)) : ∀ (k i : Nat) (X : JV), mOcL Q lv k i X = Y2 → (i + k = n ∧ mJ Q X) → JJ Γ (jj_E Y_X9_tick) (jj_Z Γ (rVV (fun V => (T, R, S, blk 18 I mo (st (av A V) u Y), L, D, z))) 0 0) (jj_rm (d + 2 * 11 + 5) 0 0) 0 0 176 [some (.ref mo), some (.ref (mo + u)), some (.int (nI lv)), some (.int (nI i))] [] (T, R, S, blk 18 I mo (st (av A V) u X), L, D, z) := by
  intro k
  induction k with
  | zero =>
    intro i X hy hi
    refine jj_iload_n (q := 177) dX9_tick_176 rfl rfl rfl ?_
    refine jj_aload_n (q := 178) dX9_tick_177 rfl rfl rfl ?_
    refine jj_getS (q := 181) dX9_tick_178 fl_X9_17 hm.t0 hm.r0_10 rfl rfl rfl ?_
    refine jj_iconst (v := 3) (q := 182) dX9_tick_181 rfl rfl ?_
    refine jj_iload_n (q := 183) dX9_tick_182 rfl rfl rfl ?_
    refine jj_iaddN (q := 184) (a := 3) (b := lv) dX9_tick_183 rfl rfl rfl ?_
    refine jj_ialdW (q := 185) (j := 3 + lv) (v := nI n) dX9_tick_184 hm.t2 ((blk_av (show 2 < 18 by omega) (show 2 ≠ u by omega) (by decide)).trans hA) rfl (by omega) hq rfl ?_
    refine jj_icmp_ge (q := 188) (tgt := 201) dX9_tick_185 rfl rfl (fun h185 => ?_) (fun h185 => absurd (nI_le (show n ≤ i by omega) (by omega)) h185)
    rw [show i = n by omega, show X = Y2 from hy]
    exact hz
  | succ k ih =>
    intro i X hy hi
    refine jj_iload_n (q := 177) dX9_tick_176 rfl rfl rfl ?_
    refine jj_aload_n (q := 178) dX9_tick_177 rfl rfl rfl ?_
    refine jj_getS (q := 181) dX9_tick_178 fl_X9_17 hm.t0 hm.r0_10 rfl rfl rfl ?_
    refine jj_iconst (v := 3) (q := 182) dX9_tick_181 rfl rfl ?_
    refine jj_iload_n (q := 183) dX9_tick_182 rfl rfl rfl ?_
    refine jj_iaddN (q := 184) (a := 3) (b := lv) dX9_tick_183 rfl rfl rfl ?_
    refine jj_ialdW (q := 185) (j := 3 + lv) (v := nI n) dX9_tick_184 hm.t2 ((blk_av (show 2 < 18 by omega) (show 2 ≠ u by omega) (by decide)).trans hA) rfl (by omega) hq rfl ?_
    refine jj_icmp_ge (q := 188) (tgt := 201) dX9_tick_185 rfl rfl (fun h185 => absurd h185 ((nI_ge (show i < n by omega) (by omega)))) (fun h185 => ?_)
    refine jj_aload_n (q := 189) dX9_tick_188 rfl rfl rfl ?_
    refine jj_aload_n (q := 190) dX9_tick_189 rfl rfl rfl ?_
    refine jj_iload_n (q := 191) dX9_tick_190 rfl rfl rfl ?_
    refine jj_iload_n (q := 192) dX9_tick_191 rfl rfl rfl ?_
    refine jj_cV3v (q := 195) dX9_tick_192 yk_X9_occupies ml_X9_341 hm.t0 (ex_occupies hm hu hQ (show av A V 2 = Q from hA) hi.2 hlv (show i < 4 by omega)) rfl rfl rfl ⟨Nat.zero_le _, Nat.zero_le _⟩ ?_
    refine jj_iinc (v := nI (i + 1)) (q := 198) dX9_tick_195 rfl (nI_incn i 1 rfl) (by decide) rfl ?_
    refine jj_goto (tgt := 176) dX9_tick_198 rfl ?_
    exact ih (i + 1) _ hy ⟨by omega, (mOc_J hi.2 hlv (by omega))⟩
theorem lp_ocO (hm : hMo T S mo) (hu : 4 ≤ u ∧ u ≤ 6) {Q : JV} (hQ : mQ Q) (hA : A 2 = Q) {Y V : JV} (hend : ∀ X x2 x3, mJ Q X → mEn Q X = Y → JJ Γ (jj_E Y_X9_tick) (jj_Z Γ (rVV (fun V => (T, R, S, blk 18 I mo (st (av A V) u Y), L, D, z))) 0 0) (jj_rm (d + 2 * 11 + 5) 0 0) 0 0 207 [some (.ref mo), some (.ref (mo + u)), x2, x3] [] (T, R, S, blk 18 I mo (st (av A V) u X), L, D, z)) : ∀ (k : Nat) (x2 : Int32) (x3 : Option Value) (X : JV), mEn Q (mOcA Q k X) = Y → (x2 = nI k - 1 ∧ k ≤ 3 ∧ mJ Q X) → JJ Γ (jj_E Y_X9_tick) (jj_Z Γ (rVV (fun V => (T, R, S, blk 18 I mo (st (av A V) u Y), L, D, z))) 0 0) (jj_rm (d + 2 * 11 + 5) 0 0) 0 0 170 [some (.ref mo), some (.ref (mo + u)), some (.int x2), x3] [] (T, R, S, blk 18 I mo (st (av A V) u X), L, D, z) := by
  intro k
  induction k with
  | zero =>
    intro x2 x3 X hy hi
    refine jj_iload_n (q := 171) dX9_tick_170 rfl rfl rfl ?_
    refine jj_if_lt (q := 174) (tgt := 207) dX9_tick_171 rfl rfl (fun h171 => ?_) (fun h171 => absurd ((by rw [hi.1]; decide)) h171)
    exact hend X _ _ hi.2.2 hy
  | succ k ih =>
    intro x2 x3 X hy hi
    have hx2 : x2 = nI k := by rw [hi.1]; exact nI_pred k
    subst hx2
    have hmn := nQmn hQ (show k < 3 by omega)
    refine jj_iload_n (q := 171) dX9_tick_170 rfl rfl rfl ?_
    refine jj_if_lt (q := 174) (tgt := 207) dX9_tick_171 rfl rfl (fun h171 => absurd h171 ((nI_ltz (show k < 2 ^ 31 by omega)))) (fun h171 => ?_)
    refine jj_iconst (v := 0) (q := 175) dX9_tick_174 rfl rfl ?_
    refine jj_istore_n (q := 176) dX9_tick_175 rfl (by decide) rfl ?_
    refine lp_ocI hm hu hQ hA (show k < 3 by omega) hmn.2 hmn.1 ?_ (qMn Q k) 0 X rfl ⟨by omega, hi.2.2⟩
    refine jj_iinc (v := nI k - 1) (q := 204) dX9_tick_201 rfl (nI_m1 k) (by decide) rfl ?_
    refine jj_goto (tgt := 170) dX9_tick_204 rfl ?_
    exact ih _ _ _ hy ⟨rfl, by omega, (mOcL_J (by omega) _ _ _ (by omega) hi.2.2)⟩
theorem tk_oc (hm : hMo T S mo) (hu : 4 ≤ u ∧ u ≤ 6) {Q : JV} (hQ : mQ Q) (hA : A 2 = Q) {Y V : JV} {x2 x3 : Option Value} (hX : mJ Q X) (hy : mT5 Q X = Y) : JJ Γ (jj_E Y_X9_tick) (jj_Z Γ (rVV (fun V => (T, R, S, blk 18 I mo (st (av A V) u Y), L, D, z))) 0 0) (jj_rm (d + 2 * 11 + 5) 0 0) 0 0 168 [some (.ref mo), some (.ref (mo + u)), x2, x3] [] (T, R, S, blk 18 I mo (st (av A V) u X), L, D, z) := by
  refine jj_iconst (v := 2) (q := 169) dX9_tick_168 rfl rfl ?_
  refine jj_istore_n (q := 170) dX9_tick_169 rfl (by decide) rfl ?_
  exact lp_ocO hm hu hQ hA (fun X x2 x3 hX hy => by subst hy; exact tk_end hm hu hQ hA hX) 3 2 x3 X hy ⟨by decide, by omega, hX⟩
theorem lp_goI (hm : hMo T S mo) (hu : 4 ≤ u ∧ u ≤ 6) {Q : JV} (hQ : mQ Q) (hA : A 2 = Q) {lv n : Nat} (hlv : lv < 3) (hn4 : n < 5) (hq : Q (3 + lv) = nI n) {Y Y2 V : JV} (hz : JJ Γ (jj_E Y_X9_tick) (jj_Z Γ (rVV (fun V => (T, R, S, blk 18 I mo (st (av A V) u Y), L, D, z))) 0 0) (jj_rm (d + 2 * 11 + 5) 0 0) 0 0 162 [some (.ref mo), some (.ref (mo + u)), some (.int (nI lv)), some (.int (nI n))] [] (T, R, S, blk 18 I mo (st (av A V) u Y2), L, D, z)) : ∀ (k i : Nat) (X : JV), mGoL Q lv k i X = Y2 → (i + k = n ∧ mJ Q X) → JJ Γ (jj_E Y_X9_tick) (jj_Z Γ (rVV (fun V => (T, R, S, blk 18 I mo (st (av A V) u Y), L, D, z))) 0 0) (jj_rm (d + 2 * 11 + 5) 0 0) 0 0 137 [some (.ref mo), some (.ref (mo + u)), some (.int (nI lv)), some (.int (nI i))] [] (T, R, S, blk 18 I mo (st (av A V) u X), L, D, z) := by
  intro k
  induction k with
  | zero =>
    intro i X hy hi
    refine jj_iload_n (q := 138) dX9_tick_137 rfl rfl rfl ?_
    refine jj_aload_n (q := 139) dX9_tick_138 rfl rfl rfl ?_
    refine jj_getS (q := 142) dX9_tick_139 fl_X9_17 hm.t0 hm.r0_10 rfl rfl rfl ?_
    refine jj_iconst (v := 3) (q := 143) dX9_tick_142 rfl rfl ?_
    refine jj_iload_n (q := 144) dX9_tick_143 rfl rfl rfl ?_
    refine jj_iaddN (q := 145) (a := 3) (b := lv) dX9_tick_144 rfl rfl rfl ?_
    refine jj_ialdW (q := 146) (j := 3 + lv) (v := nI n) dX9_tick_145 hm.t2 ((blk_av (show 2 < 18 by omega) (show 2 ≠ u by omega) (by decide)).trans hA) rfl (by omega) hq rfl ?_
    refine jj_icmp_ge (q := 149) (tgt := 162) dX9_tick_146 rfl rfl (fun h146 => ?_) (fun h146 => absurd (nI_le (show n ≤ i by omega) (by omega)) h146)
    rw [show i = n by omega, show X = Y2 from hy]
    exact hz
  | succ k ih =>
    intro i X hy hi
    refine jj_iload_n (q := 138) dX9_tick_137 rfl rfl rfl ?_
    refine jj_aload_n (q := 139) dX9_tick_138 rfl rfl rfl ?_
    refine jj_getS (q := 142) dX9_tick_139 fl_X9_17 hm.t0 hm.r0_10 rfl rfl rfl ?_
    refine jj_iconst (v := 3) (q := 143) dX9_tick_142 rfl rfl ?_
    refine jj_iload_n (q := 144) dX9_tick_143 rfl rfl rfl ?_
    refine jj_iaddN (q := 145) (a := 3) (b := lv) dX9_tick_144 rfl rfl rfl ?_
    refine jj_ialdW (q := 146) (j := 3 + lv) (v := nI n) dX9_tick_145 hm.t2 ((blk_av (show 2 < 18 by omega) (show 2 ≠ u by omega) (by decide)).trans hA) rfl (by omega) hq rfl ?_
    refine jj_icmp_ge (q := 149) (tgt := 162) dX9_tick_146 rfl rfl (fun h146 => absurd h146 ((nI_ge (show i < n by omega) (by omega)))) (fun h146 => ?_)
    refine jj_aload_n (q := 150) dX9_tick_149 rfl rfl rfl ?_
    refine jj_aload_n (q := 151) dX9_tick_150 rfl rfl rfl ?_
    refine jj_iload_n (q := 152) dX9_tick_151 rfl rfl rfl ?_
    refine jj_iload_n (q := 153) dX9_tick_152 rfl rfl rfl ?_
    refine jj_cV3v (q := 156) dX9_tick_153 yk_X9_goesOn ml_X9_338 hm.t0 (ex_goesOn hm hu hQ (show av A V 2 = Q from hA) hi.2 hlv (show i < 4 by omega)) rfl rfl rfl ⟨Nat.zero_le _, Nat.zero_le _⟩ ?_
    refine jj_iinc (v := nI (i + 1)) (q := 159) dX9_tick_156 rfl (nI_incn i 1 rfl) (by decide) rfl ?_
    refine jj_goto (tgt := 137) dX9_tick_159 rfl ?_
    exact ih (i + 1) _ hy ⟨by omega, (mGo_J hi.2 hlv (by omega))⟩
theorem lp_goO (hm : hMo T S mo) (hu : 4 ≤ u ∧ u ≤ 6) {Q : JV} (hQ : mQ Q) (hA : A 2 = Q) {Y V : JV} (hend : ∀ X x2 x3, mJ Q X → mT5 Q X = Y → JJ Γ (jj_E Y_X9_tick) (jj_Z Γ (rVV (fun V => (T, R, S, blk 18 I mo (st (av A V) u Y), L, D, z))) 0 0) (jj_rm (d + 2 * 11 + 5) 0 0) 0 0 168 [some (.ref mo), some (.ref (mo + u)), x2, x3] [] (T, R, S, blk 18 I mo (st (av A V) u X), L, D, z)) : ∀ (k : Nat) (x2 : Int32) (x3 : Option Value) (X : JV), mT5 Q (mGoA Q k X) = Y → (x2 = nI k - 1 ∧ k ≤ 3 ∧ mJ Q X) → JJ Γ (jj_E Y_X9_tick) (jj_Z Γ (rVV (fun V => (T, R, S, blk 18 I mo (st (av A V) u Y), L, D, z))) 0 0) (jj_rm (d + 2 * 11 + 5) 0 0) 0 0 131 [some (.ref mo), some (.ref (mo + u)), some (.int x2), x3] [] (T, R, S, blk 18 I mo (st (av A V) u X), L, D, z) := by
  intro k
  induction k with
  | zero =>
    intro x2 x3 X hy hi
    refine jj_iload_n (q := 132) dX9_tick_131 rfl rfl rfl ?_
    refine jj_if_lt (q := 135) (tgt := 168) dX9_tick_132 rfl rfl (fun h132 => ?_) (fun h132 => absurd ((by rw [hi.1]; decide)) h132)
    exact hend X _ _ hi.2.2 hy
  | succ k ih =>
    intro x2 x3 X hy hi
    have hx2 : x2 = nI k := by rw [hi.1]; exact nI_pred k
    subst hx2
    have hmn := nQmn hQ (show k < 3 by omega)
    refine jj_iload_n (q := 132) dX9_tick_131 rfl rfl rfl ?_
    refine jj_if_lt (q := 135) (tgt := 168) dX9_tick_132 rfl rfl (fun h132 => absurd h132 ((nI_ltz (show k < 2 ^ 31 by omega)))) (fun h132 => ?_)
    refine jj_iconst (v := 0) (q := 136) dX9_tick_135 rfl rfl ?_
    refine jj_istore_n (q := 137) dX9_tick_136 rfl (by decide) rfl ?_
    refine lp_goI hm hu hQ hA (show k < 3 by omega) hmn.2 hmn.1 ?_ (qMn Q k) 0 X rfl ⟨by omega, hi.2.2⟩
    refine jj_iinc (v := nI k - 1) (q := 165) dX9_tick_162 rfl (nI_m1 k) (by decide) rfl ?_
    refine jj_goto (tgt := 131) dX9_tick_165 rfl ?_
    exact ih _ _ _ hy ⟨rfl, by omega, (mGoL_J (by omega) _ _ _ (by omega) hi.2.2)⟩
theorem tk_go (hm : hMo T S mo) (hu : 4 ≤ u ∧ u ≤ 6) {Q : JV} (hQ : mQ Q) (hA : A 2 = Q) {Y V : JV} {x2 x3 : Option Value} (hX : mJ Q X) (hy : mT4 Q X = Y) : JJ Γ (jj_E Y_X9_tick) (jj_Z Γ (rVV (fun V => (T, R, S, blk 18 I mo (st (av A V) u Y), L, D, z))) 0 0) (jj_rm (d + 2 * 11 + 5) 0 0) 0 0 129 [some (.ref mo), some (.ref (mo + u)), x2, x3] [] (T, R, S, blk 18 I mo (st (av A V) u X), L, D, z) := by
  refine jj_iconst (v := 2) (q := 130) dX9_tick_129 rfl rfl ?_
  refine jj_istore_n (q := 131) dX9_tick_130 rfl (by decide) rfl ?_
  exact lp_goO hm hu hQ hA (fun X x2 x3 hX hy => tk_oc hm hu hQ hA hX hy) 3 2 x3 X hy ⟨by decide, by omega, hX⟩
theorem lp_lo (hm : hMo T S mo) (hu : 4 ≤ u ∧ u ≤ 6) {Q : JV} (hQ : mQ Q) (hA : A 2 = Q)  {Y : JV} {x3 : Option Value} : ∀ (k i : Nat) (X V : JV), mT4 Q (mLoL Q k i X) = Y → (i + k = qLn Q ∧ mJ Q X) → JJ Γ (jj_E Y_X9_tick) (jj_Z Γ (rVV (fun V => (T, R, S, blk 18 I mo (st (av A V) u Y), L, D, z))) 0 0) (jj_rm (d + 2 * 11 + 5) 0 0) 0 0 106 [some (.ref mo), some (.ref (mo + u)), some (.int (nI i)), x3] [] (T, R, S, blk 18 I mo (st (av A V) u X), L, D, z) := by
  have hq := nQln hQ
  intro k
  induction k with
  | zero =>
    intro i X V hy hi
    refine jj_iload_n (q := 107) dX9_tick_106 rfl rfl rfl ?_
    refine jj_aload_n (q := 108) dX9_tick_107 rfl rfl rfl ?_
    refine jj_getS (q := 111) dX9_tick_108 fl_X9_17 hm.t0 hm.r0_10 rfl rfl rfl ?_
    refine jj_bipush (v := 13) (q := 113) dX9_tick_111 rfl rfl ?_
    refine jj_ialdW (q := 114) (j := 13) (v := nI (qLn Q)) dX9_tick_113 hm.t2 ((blk_av (show 2 < 18 by omega) (show 2 ≠ u by omega) (by decide)).trans hA) rfl (by omega) hq.1 rfl ?_
    refine jj_icmp_ge (q := 117) (tgt := 129) dX9_tick_114 rfl rfl (fun h114 => ?_) (fun h114 => absurd (nI_le (show qLn Q ≤ i by omega) (by omega)) h114)
    exact tk_go hm hu hQ hA hi.2 hy
  | succ k ih =>
    intro i X V hy hi
    refine jj_iload_n (q := 107) dX9_tick_106 rfl rfl rfl ?_
    refine jj_aload_n (q := 108) dX9_tick_107 rfl rfl rfl ?_
    refine jj_getS (q := 111) dX9_tick_108 fl_X9_17 hm.t0 hm.r0_10 rfl rfl rfl ?_
    refine jj_bipush (v := 13) (q := 113) dX9_tick_111 rfl rfl ?_
    refine jj_ialdW (q := 114) (j := 13) (v := nI (qLn Q)) dX9_tick_113 hm.t2 ((blk_av (show 2 < 18 by omega) (show 2 ≠ u by omega) (by decide)).trans hA) rfl (by omega) hq.1 rfl ?_
    refine jj_icmp_ge (q := 117) (tgt := 129) dX9_tick_114 rfl rfl (fun h114 => absurd h114 ((nI_ge (show i < qLn Q by omega) (by omega)))) (fun h114 => ?_)
    refine jj_aload_n (q := 118) dX9_tick_117 rfl rfl rfl ?_
    refine jj_aload_n (q := 119) dX9_tick_118 rfl rfl rfl ?_
    refine jj_iload_n (q := 120) dX9_tick_119 rfl rfl rfl ?_
    refine jj_cV2v (q := 123) dX9_tick_120 yk_X9_letsOut ml_X9_335 hm.t0 (ex_letsOut hm hu hQ (show av A V 2 = Q from hA) hi.2 (show i < 4 by omega)) rfl rfl rfl ⟨Nat.zero_le _, Nat.zero_le _⟩ ?_
    refine jj_iinc (v := nI (i + 1)) (q := 126) dX9_tick_123 rfl (nI_incn i 1 rfl) (by decide) rfl ?_
    refine jj_goto (tgt := 106) dX9_tick_126 rfl ?_
    exact ih (i + 1) _ V hy ⟨by omega, mLo_J hQ hi.2 (by omega)⟩
theorem tk_lo (hm : hMo T S mo) (hu : 4 ≤ u ∧ u ≤ 6) {Q : JV} (hQ : mQ Q) (hA : A 2 = Q) {Y V : JV} {x2 x3 : Option Value} (hX : mJ Q X) (hy : mT3 Q X = Y) : JJ Γ (jj_E Y_X9_tick) (jj_Z Γ (rVV (fun V => (T, R, S, blk 18 I mo (st (av A V) u Y), L, D, z))) 0 0) (jj_rm (d + 2 * 11 + 5) 0 0) 0 0 104 [some (.ref mo), some (.ref (mo + u)), x2, x3] [] (T, R, S, blk 18 I mo (st (av A V) u X), L, D, z) := by
  refine jj_iconst (v := 0) (q := 105) dX9_tick_104 rfl rfl ?_
  refine jj_istore_n (q := 106) dX9_tick_105 rfl (by decide) rfl ?_
  exact lp_lo hm hu hQ hA (qLn Q) 0 X V hy ⟨by omega, hX⟩
theorem lp_lk (hm : hMo T S mo) (hu : 4 ≤ u ∧ u ≤ 6) {Q : JV} (hQ : mQ Q) (hA : A 2 = Q) {H : Nat → JV → Nat → Bool} (hn : hN A H Q) {Y : JV} {x3 : Option Value} : ∀ (k i : Nat) (X V : JV), mT3 Q (mLkL H Q k i X) = Y → (i + k = qLen Q ∧ mJ Q X) → JJ Γ (jj_E Y_X9_tick) (jj_Z Γ (rVV (fun V => (T, R, S, blk 18 I mo (st (av A V) u Y), L, D, z))) 0 0) (jj_rm (d + 2 * 11 + 5) 0 0) 0 0 71 [some (.ref mo), some (.ref (mo + u)), some (.int (nI i)), x3] [] (T, R, S, blk 18 I mo (st (av A V) u X), L, D, z) := by
  have hq := nQ0 hQ
  intro k
  induction k with
  | zero =>
    intro i X V hy hi
    refine jj_iload_n (q := 72) dX9_tick_71 rfl rfl rfl ?_
    refine jj_aload_n (q := 73) dX9_tick_72 rfl rfl rfl ?_
    refine jj_getS (q := 76) dX9_tick_73 fl_X9_17 hm.t0 hm.r0_10 rfl rfl rfl ?_
    refine jj_iconst (v := 0) (q := 77) dX9_tick_76 rfl rfl ?_
    refine jj_ialdW (q := 78) (j := 0) (v := nI (qLen Q)) dX9_tick_77 hm.t2 ((blk_av (show 2 < 18 by omega) (show 2 ≠ u by omega) (by decide)).trans hA) rfl (by omega) hq.1 rfl ?_
    refine jj_icmp_ge (q := 81) (tgt := 104) dX9_tick_78 rfl rfl (fun h78 => ?_) (fun h78 => absurd (nI_le (show qLen Q ≤ i by omega) (by omega)) h78)
    exact tk_lo hm hu hQ hA hi.2 hy
  | succ k ih =>
    intro i X V hy hi
    refine jj_iload_n (q := 72) dX9_tick_71 rfl rfl rfl ?_
    refine jj_aload_n (q := 73) dX9_tick_72 rfl rfl rfl ?_
    refine jj_getS (q := 76) dX9_tick_73 fl_X9_17 hm.t0 hm.r0_10 rfl rfl rfl ?_
    refine jj_iconst (v := 0) (q := 77) dX9_tick_76 rfl rfl ?_
    refine jj_ialdW (q := 78) (j := 0) (v := nI (qLen Q)) dX9_tick_77 hm.t2 ((blk_av (show 2 < 18 by omega) (show 2 ≠ u by omega) (by decide)).trans hA) rfl (by omega) hq.1 rfl ?_
    refine jj_icmp_ge (q := 81) (tgt := 104) dX9_tick_78 rfl rfl (fun h78 => absurd h78 ((nI_ge (show i < qLen Q by omega) (by omega)))) (fun h78 => ?_)
    refine jj_aload_n (q := 82) dX9_tick_81 rfl rfl rfl ?_
    refine jj_sipush (v := 133) (q := 85) dX9_tick_82 rfl rfl ?_
    refine jj_iload_n (q := 86) dX9_tick_85 rfl rfl rfl ?_
    refine jj_iaddN (q := 87) (a := 133) (b := i) dX9_tick_86 rfl rfl rfl ?_
    refine jj_ialdW (q := 88) (j := 133 + i) (v := X (133 + i)) dX9_tick_87 (hm.tu hu) (blk_st (show u < 18 by omega)) rfl (by omega) rfl rfl ?_
    refine jj_iconst (v := -1) (q := 89) dX9_tick_88 rfl rfl ?_
    refine jj_icmp_eq (q := 92) (tgt := 98) dX9_tick_89 rfl rfl (fun h89 => ?_) (fun h89 => ?_)
    · refine jj_iinc (v := nI (i + 1)) (q := 101) dX9_tick_98 rfl (nI_incn i 1 rfl) (by decide) rfl ?_
      refine jj_goto (tgt := 71) dX9_tick_101 rfl ?_
      have hj := mLkS_J (H := H) hQ hi.2 (show i < 40 by omega)
      rw [mLkL] at hy
      unfold mLkS at hj hy
      first | rw [if_pos h89] at hj hy | rw [if_neg h89] at hj hy
      exact ih (i + 1) _ V hy ⟨by omega, hj⟩
    · have ho := oB_n (hi.2.1.lo (show i < 40 by omega)) h89
      refine jj_aload_n (q := 93) dX9_tick_92 rfl rfl rfl ?_
      refine jj_aload_n (q := 94) dX9_tick_93 rfl rfl rfl ?_
      refine jj_iload_n (q := 95) dX9_tick_94 rfl rfl rfl ?_
      refine jj_eV2v (q := 98) dX9_tick_95 yk_X9_looksAt ml_X9_331 hm.t0 (ex_looksAt hm hu hQ hA hn hi.2 (show i < 40 by omega) ho.2 ho.1) rfl rfl rfl ⟨Nat.zero_le _, Nat.zero_le _⟩ (fun V => ?_)
      refine jj_iinc (v := nI (i + 1)) (q := 101) dX9_tick_98 rfl (nI_incn i 1 rfl) (by decide) rfl ?_
      refine jj_goto (tgt := 71) dX9_tick_101 rfl ?_
      have hj := mLkS_J (H := H) hQ hi.2 (show i < 40 by omega)
      rw [mLkL] at hy
      unfold mLkS at hj hy
      first | rw [if_pos h89] at hj hy | rw [if_neg h89] at hj hy
      exact ih (i + 1) _ V hy ⟨by omega, hj⟩
theorem tk_lk (hm : hMo T S mo) (hu : 4 ≤ u ∧ u ≤ 6) {Q : JV} (hQ : mQ Q) (hA : A 2 = Q) {H : Nat → JV → Nat → Bool} (hn : hN A H Q) {Y V : JV} {x2 x3 : Option Value} (hX : mJ Q X) (hy : mT2 H Q X = Y) : JJ Γ (jj_E Y_X9_tick) (jj_Z Γ (rVV (fun V => (T, R, S, blk 18 I mo (st (av A V) u Y), L, D, z))) 0 0) (jj_rm (d + 2 * 11 + 5) 0 0) 0 0 69 [some (.ref mo), some (.ref (mo + u)), x2, x3] [] (T, R, S, blk 18 I mo (st (av A V) u X), L, D, z) := by
  refine jj_iconst (v := 0) (q := 70) dX9_tick_69 rfl rfl ?_
  refine jj_istore_n (q := 71) dX9_tick_70 rfl (by decide) rfl ?_
  exact lp_lk hm hu hQ hA hn (qLen Q) 0 X V hy ⟨by omega, hX⟩
theorem tk_mv (hm : hMo T S mo) (hu : 4 ≤ u ∧ u ≤ 6) {Q : JV} (hQ : mQ Q) (hA : A 2 = Q) {H : Nat → JV → Nat → Bool} (hn : hN A H Q) {Y V : JV} {x2 x3 : Option Value} (hX : mJ Q X) (hy : mT2 H Q (mT1 Q X) = Y) : JJ Γ (jj_E Y_X9_tick) (jj_Z Γ (rVV (fun V => (T, R, S, blk 18 I mo (st (av A V) u Y), L, D, z))) 0 0) (jj_rm (d + 2 * 11 + 5) 0 0) 0 0 53 [some (.ref mo), some (.ref (mo + u)), x2, x3] [] (T, R, S, blk 18 I mo (st (av A V) u X), L, D, z) := by
  refine jj_aload_n (q := 54) dX9_tick_53 rfl rfl rfl ?_
  refine jj_iconst (v := 0) (q := 55) dX9_tick_54 rfl rfl ?_
  refine jj_ialdN (q := 56) (j := 0) dX9_tick_55 (hm.tu hu) (blk_st (show u < 18 by omega)) rfl (by omega) rfl ?_
  refine jj_aload_n (q := 57) dX9_tick_56 rfl rfl rfl ?_
  refine jj_sipush (v := 2085) (q := 60) dX9_tick_57 rfl rfl ?_
  refine jj_ialdN (q := 61) (j := 2085) dX9_tick_60 (hm.tu hu) (blk_st (show u < 18 by omega)) rfl (by omega) rfl ?_
  refine jj_icmp_le (q := 64) (tgt := 69) dX9_tick_61 rfl rfl (fun h61 => ?_) (fun h61 => ?_)
  · have hj := mT1_J hQ hX
    unfold mT1 at hy hj
    first | rw [if_pos h61] at hy hj | rw [if_neg h61] at hy hj
    exact tk_lk hm hu hQ hA hn hj hy
  · refine jj_aload_n (q := 65) dX9_tick_64 rfl rfl rfl ?_
    refine jj_aload_n (q := 66) dX9_tick_65 rfl rfl rfl ?_
    refine jj_cV1v (q := 69) dX9_tick_66 yk_X9_moves ml_X9_327 hm.t0 (ex_moves hm hu hQ (show av A V 2 = Q from hA) hX) rfl rfl rfl ⟨Nat.zero_le _, Nat.zero_le _⟩ ?_
    have hj := mT1_J hQ hX
    unfold mT1 at hy hj
    first | rw [if_pos h61] at hy hj | rw [if_neg h61] at hy hj
    exact tk_lk hm hu hQ hA hn hj hy
theorem lp_ar (hm : hMo T S mo) (hu : 4 ≤ u ∧ u ≤ 6) {Q : JV} (hQ : mQ Q) (hA : A 2 = Q) {H : Nat → JV → Nat → Bool} (hn : hN A H Q) {Y V : JV} {x3 : Option Value} {c : Nat} (hc : c < 101) : ∀ (k i : Nat) (X : JV), mT2 H Q (mT1 Q (mArL k i X)) = Y → (i + k = c ∧ mJ Q X ∧ X 2 = nI c) → JJ Γ (jj_E Y_X9_tick) (jj_Z Γ (rVV (fun V => (T, R, S, blk 18 I mo (st (av A V) u Y), L, D, z))) 0 0) (jj_rm (d + 2 * 11 + 5) 0 0) 0 0 9 [some (.ref mo), some (.ref (mo + u)), some (.int (nI i)), x3] [] (T, R, S, blk 18 I mo (st (av A V) u X), L, D, z) := by
  intro k
  induction k with
  | zero =>
    intro i X hy hi
    refine jj_iload_n (q := 10) dX9_tick_9 rfl rfl rfl ?_
    refine jj_aload_n (q := 11) dX9_tick_10 rfl rfl rfl ?_
    refine jj_iconst (v := 2) (q := 12) dX9_tick_11 rfl rfl ?_
    refine jj_ialdW (q := 13) (j := 2) (v := nI c) dX9_tick_12 (hm.tu hu) (blk_st (show u < 18 by omega)) rfl (by omega) hi.2.2 rfl ?_
    refine jj_icmp_ge (q := 16) (tgt := 53) dX9_tick_13 rfl rfl (fun h13 => ?_) (fun h13 => absurd (nI_le (show c ≤ i by omega) (by omega)) h13)
    exact tk_mv hm hu hQ hA hn hi.2.1 hy
  | succ k ih =>
    intro i X hy hi
    refine jj_iload_n (q := 10) dX9_tick_9 rfl rfl rfl ?_
    refine jj_aload_n (q := 11) dX9_tick_10 rfl rfl rfl ?_
    refine jj_iconst (v := 2) (q := 12) dX9_tick_11 rfl rfl ?_
    refine jj_ialdW (q := 13) (j := 2) (v := nI c) dX9_tick_12 (hm.tu hu) (blk_st (show u < 18 by omega)) rfl (by omega) hi.2.2 rfl ?_
    refine jj_icmp_ge (q := 16) (tgt := 53) dX9_tick_13 rfl rfl (fun h13 => absurd h13 ((nI_ge (show i < c by omega) (by omega)))) (fun h13 => ?_)
    refine jj_aload_n (q := 17) dX9_tick_16 rfl rfl rfl ?_
    refine jj_sipush (v := 373) (q := 20) dX9_tick_17 rfl rfl ?_
    refine jj_iload_n (q := 21) dX9_tick_20 rfl rfl rfl ?_
    refine jj_iaddN (q := 22) (a := 373) (b := i) dX9_tick_21 rfl rfl rfl ?_
    refine jj_ialdN (q := 23) (j := 373 + i) dX9_tick_22 (hm.tu hu) (blk_st (show u < 18 by omega)) rfl (by omega) rfl ?_
    refine jj_if_ne (q := 26) (tgt := 47) dX9_tick_23 rfl rfl (fun h23 => ?_) (fun h23 => ?_)
    · refine jj_iinc (v := nI (i + 1)) (q := 50) dX9_tick_47 rfl (nI_incn i 1 rfl) (by decide) rfl ?_
      refine jj_goto (tgt := 9) dX9_tick_50 rfl ?_
      have hj := mAr_J (b := i) hi.2.1
      have h2 : mAr X i 2 = nI c := by rw [mAr_2 (by omega)]; exact hi.2.2
      rw [mArL] at hy
      unfold mAr at hj hy h2
      (first | rw [if_pos h23] at hj hy h2 | rw [if_neg h23] at hj hy h2)
      (first | rw [if_pos h36] at hj hy h2 | rw [if_neg h36] at hj hy h2 | skip)
      exact ih (i + 1) _ hy ⟨by omega, hj, h2⟩
    · refine jj_aload_n (q := 27) dX9_tick_26 rfl rfl rfl ?_
      refine jj_sipush (v := 273) (q := 30) dX9_tick_27 rfl rfl ?_
      refine jj_iload_n (q := 31) dX9_tick_30 rfl rfl rfl ?_
      refine jj_iaddN (q := 32) (a := 273) (b := i) dX9_tick_31 rfl rfl rfl ?_
      refine jj_ialdN (q := 33) (j := 273 + i) dX9_tick_32 (hm.tu hu) (blk_st (show u < 18 by omega)) rfl (by omega) rfl ?_
      refine jj_aload_n (q := 34) dX9_tick_33 rfl rfl rfl ?_
      refine jj_iconst (v := 0) (q := 35) dX9_tick_34 rfl rfl ?_
      refine jj_ialdN (q := 36) (j := 0) dX9_tick_35 (hm.tu hu) (blk_st (show u < 18 by omega)) rfl (by omega) rfl ?_
      refine jj_icmp_ne (q := 39) (tgt := 47) dX9_tick_36 rfl rfl (fun h36 => ?_) (fun h36 => ?_)
      · refine jj_iinc (v := nI (i + 1)) (q := 50) dX9_tick_47 rfl (nI_incn i 1 rfl) (by decide) rfl ?_
        refine jj_goto (tgt := 9) dX9_tick_50 rfl ?_
        have hj := mAr_J (b := i) hi.2.1
        have h2 : mAr X i 2 = nI c := by rw [mAr_2 (by omega)]; exact hi.2.2
        rw [mArL] at hy
        unfold mAr at hj hy h2
        (first | rw [if_pos h23] at hj hy h2 | rw [if_neg h23] at hj hy h2)
        (first | rw [if_pos h36] at hj hy h2 | rw [if_neg h36] at hj hy h2 | skip)
        exact ih (i + 1) _ hy ⟨by omega, hj, h2⟩
      · refine jj_aload_n (q := 40) dX9_tick_39 rfl rfl rfl ?_
        refine jj_sipush (v := 373) (q := 43) dX9_tick_40 rfl rfl ?_
        refine jj_iload_n (q := 44) dX9_tick_43 rfl rfl rfl ?_
        refine jj_iaddN (q := 45) (a := 373) (b := i) dX9_tick_44 rfl rfl rfl ?_
        refine jj_iconst (v := 1) (q := 46) dX9_tick_45 rfl rfl ?_
        refine jj_iastN (q := 47) (j := 373 + i) dX9_tick_46 (hm.tu hu) (u2_bst (show u < 18 by omega)) rfl (by omega) rfl ?_
        refine jj_iinc (v := nI (i + 1)) (q := 50) dX9_tick_47 rfl (nI_incn i 1 rfl) (by decide) rfl ?_
        refine jj_goto (tgt := 9) dX9_tick_50 rfl ?_
        have hj := mAr_J (b := i) hi.2.1
        have h2 : mAr X i 2 = nI c := by rw [mAr_2 (by omega)]; exact hi.2.2
        rw [mArL] at hy
        unfold mAr at hj hy h2
        (first | rw [if_pos h23] at hj hy h2 | rw [if_neg h23] at hj hy h2)
        (first | rw [if_pos h36] at hj hy h2 | rw [if_neg h36] at hj hy h2 | skip)
        exact ih (i + 1) _ hy ⟨by omega, hj, h2⟩
theorem ex_mtick (hm : hMo T S mo) (hu : 4 ≤ u ∧ u ≤ 6) {Q : JV} (hQ : mQ Q) (hA : A 2 = Q) {H : Nat → JV → Nat → Bool} (hn : hN A H Q) (hX : mJ Q X) {V : JV} : Ex Γ (d + 2 * 11 + 5) Y_X9_tick [.ref mo, .ref (mo + u)] (T, R, S, blk 18 I mo (st (av A V) u X), L, D, z) 0 0 (rVV (fun V => (T, R, S, blk 18 I mo (st (av A V) u (mTick H Q X)), L, D, z))) := by
  refine Ex.of (by decide) (by simp [Value.category]) (Nat.le_of_ble_eq_true rfl) rfl ?_
  refine jj_aload_n (q := 1) dX9_tick_0 rfl rfl rfl ?_
  refine jj_iconst (v := 0) (q := 2) dX9_tick_1 rfl rfl ?_
  refine jj_dup2 (q := 3) dX9_tick_2 rfl rfl rfl ?_
  refine jj_ialdN (q := 4) (j := 0) dX9_tick_3 (hm.tu hu) (blk_st (show u < 18 by omega)) rfl (by omega) rfl ?_
  refine jj_iconst (v := 1) (q := 5) dX9_tick_4 rfl rfl ?_
  refine jj_iadd (q := 6) dX9_tick_5 rfl ?_
  refine jj_iastN (q := 7) (j := 0) dX9_tick_6 (hm.tu hu) (u2_bst (show u < 18 by omega)) rfl (by omega) rfl ?_
  refine jj_iconst (v := 0) (q := 8) dX9_tick_7 rfl rfl ?_
  refine jj_istore_n (q := 9) dX9_tick_8 rfl (by decide) rfl ?_
  exact lp_ar hm hu hQ hA hn hX.1.c.2 (mC X) 0 _ rfl ⟨by omega, hX.set (rg_free (by omega)) (by omega), by rw [w1_ne (by omega)]; exact hX.1.c.1⟩
theorem lp_mticks (hm : hMo T S mo) (hu : 4 ≤ u ∧ u ≤ 6) {Q : JV} (hQ : mQ Q) (hA : A 2 = Q) {H : Nat → JV → Nat → Bool} (hn : hN A H Q) {Y : JV} {n : Nat} (hn2 : n < 2 ^ 31) : ∀ (k i : Nat) (X V : JV), mRun H Q k X = Y → (i + k = n ∧ mJ Q X) → JJ Γ (jj_E Y_X9_ticks) (jj_Z Γ (rVV (fun V => (T, R, S, blk 18 I mo (st (av A V) u Y), L, D, z))) 0 0) (jj_rm (d + 2 * 11 + 6) 0 0) 0 0 2 [some (.ref mo), some (.ref (mo + u)), some (.int (nI n)), some (.int (nI i))] [] (T, R, S, blk 18 I mo (st (av A V) u X), L, D, z) := by
  intro k
  induction k with
  | zero =>
    intro i X V hy hi
    refine jj_iload_n (q := 3) dX9_ticks_2 rfl rfl rfl ?_
    refine jj_iload_n (q := 4) dX9_ticks_3 rfl rfl rfl ?_
    refine jj_icmp_ge (q := 7) (tgt := 18) dX9_ticks_4 rfl rfl (fun h4 => ?_) (fun h4 => absurd (nI_le (show n ≤ i by omega) (by omega)) h4)
    refine jj_vret dX9_ticks_18 rfl (Nat.zero_le _) (Nat.zero_le _) ?_
    exact ⟨V, rfl, by rw [show X = Y from hy]⟩
  | succ k ih =>
    intro i X V hy hi
    refine jj_iload_n (q := 3) dX9_ticks_2 rfl rfl rfl ?_
    refine jj_iload_n (q := 4) dX9_ticks_3 rfl rfl rfl ?_
    refine jj_icmp_ge (q := 7) (tgt := 18) dX9_ticks_4 rfl rfl (fun h4 => absurd h4 ((nI_ge (show i < n by omega) (by omega)))) (fun h4 => ?_)
    refine jj_aload_n (q := 8) dX9_ticks_7 rfl rfl rfl ?_
    refine jj_aload_n (q := 9) dX9_ticks_8 rfl rfl rfl ?_
    refine jj_eV1v (q := 12) dX9_ticks_9 yk_X9_tick ml_X9_344 hm.t0 (ex_mtick hm hu hQ hA hn hi.2) rfl rfl rfl ⟨Nat.zero_le _, Nat.zero_le _⟩ (fun V => ?_)
    refine jj_iinc (v := nI (i + 1)) (q := 15) dX9_ticks_12 rfl (nI_incn i 1 rfl) (by decide) rfl ?_
    refine jj_goto (tgt := 2) dX9_ticks_15 rfl ?_
    exact ih (i + 1) _ V hy ⟨by omega, mTick_J hQ hi.2⟩
theorem ex_mticks (hm : hMo T S mo) (hu : 4 ≤ u ∧ u ≤ 6) {Q : JV} (hQ : mQ Q) (hA : A 2 = Q) {H : Nat → JV → Nat → Bool} (hn : hN A H Q) (hX : mJ Q X) {V : JV} {n : Nat} (hn2 : n < 2 ^ 31) : Ex Γ (d + 2 * 11 + 6) Y_X9_ticks [.ref mo, .ref (mo + u), .int (nI n)] (T, R, S, blk 18 I mo (st (av A V) u X), L, D, z) 0 0 (rVV (fun V => (T, R, S, blk 18 I mo (st (av A V) u (mRun H Q n X)), L, D, z))) := by
  refine Ex.of (by decide) (by simp [Value.category]) (Nat.le_of_ble_eq_true rfl) rfl ?_
  refine jj_iconst (v := 0) (q := 1) dX9_ticks_0 rfl rfl ?_
  refine jj_istore_n (q := 2) dX9_ticks_1 rfl (by decide) rfl ?_
  exact lp_mticks hm hu hQ hA hn hn2 n 0 X V rfl ⟨by omega, hX⟩
end M29
