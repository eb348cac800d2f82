/-! TESTS of the model: inner, unit -/
theorem gTs.dep {G Gx : JV} {v : Int32} {k dq : Nat} (h : gTs (w1 G 27 v) Gx k) (h27 : G 27 = nI dq) : gTs G (w1 Gx 27 (nI dq)) k := by
  refine ⟨(w1_ne (by omega)).trans h.1, fun j hj hn => ?_⟩
  by_cases e : j = 27
  · rw [e, w1_eq, h27]
  · rw [w1_ne e, h.2 j hj hn, w1_ne e]
theorem wV_w {b : Nat → Nat} {E p : Nat} (hp : p ≤ E) (h : wV b E p ≠ 5) : wV b E p < 5 ∧ p + 4 ≤ tN b E p := by
  have hl : ∀ l, isW b E p l = true → 4 ≤ l.length → p + 4 ≤ tN b E p := fun l hw h4 => by have := (isW_n hp hw).1; omega
  unfold wV at h ⊢
  by_cases h0 : isW b E p wd_wait = true
  · rw [if_pos h0]; exact ⟨by omega, hl _ h0 (by decide)⟩
  · rw [if_neg h0] at h ⊢
    by_cases h1 : isW b E p wd_laps = true
    · rw [if_pos h1]; exact ⟨by omega, hl _ h1 (by decide)⟩
    · rw [if_neg h1] at h ⊢
      by_cases h2 : isW b E p wd_level = true
      · rw [if_pos h2]; exact ⟨by omega, hl _ h2 (by decide)⟩
      · rw [if_neg h2] at h ⊢
        by_cases h3 : isW b E p wd_load = true
        · rw [if_pos h3]; exact ⟨by omega, hl _ h3 (by decide)⟩
        · rw [if_neg h3] at h ⊢
          by_cases h4 : isW b E p wd_time = true
          · rw [if_pos h4]; exact ⟨by omega, hl _ h4 (by decide)⟩
          · rw [if_neg h4] at h; exact absurd rfl h
theorem noT_iff {b : Nat → Nat} {E p : Nat} : noT b E p = true ↔ wV b E p = 5 ∧ ¬ isW b E p wd_not = true ∧ ¬ isS b E p 40 = true := by simp [noT, and_assoc]
/-- the test in parentheses -/
def pInn (b : Nat → Nat) (E : Nat) (u : Nat → Res Tst) (p : Nat) : Res Tst := (pT b E u (tN b E p)).bd (fun t q => (pSg b E 41 q).bd (fun _ q2 => .inr (t, q2)))
section M85
variable {Γ : Gam} {d : Nat} {T : JT} {R S : JR} {I A : JI} {L : JL} {D : JD} {z : Option Nat} {mo E : Nat} {G N X : JV} {b : Nat → Nat} {r : Res Unit}
theorem exM_inner (hm : hMo T S mo) {f : Nat} (hT : cTe Γ T R S I L D z mo b E f) {bq k p slk dq : Nat} (hb : mB_ A b E) (hs : mSt b E (.inr ((), p)) G) (h25 : G 25 = nI bq) (hbq : bq ≤ 1) (h26 : G 26 = nI k) (hkp : 2 * k + slk ≤ p) (h27 : G 27 = nI dq) (hdq : dq + f = 10) : Ex Γ (d + 3 * f + 10) Y_X9_inner [.ref mo] (T, R, S, blk 18 I mo (st A 0 G), L, D, z) 0 0 (rPi (uP b E bq k p slk (2 * f + 1) (f + 1) (pInn b E (pU b E f) p) A G) (fun A' G' => (T, R, S, blk 18 I mo (st A' 0 G'), L, D, z))) := by
  have hpE : p ≤ E := hs.2.1
  have hnb := tN_bd (b := b) hpE
  have hsn : mSt b E (.inr ((), tN b E p)) (gN b E (.inr ((), p)) G) := hs.n
  have a25 : gN b E (.inr ((), p)) G 25 = nI bq := (gN_o (by omega)).trans h25
  have a26 : gN b E (.inr ((), p)) G 26 = nI k := (gN_o (by omega)).trans h26
  have a27 : gN b E (.inr ((), p)) G 27 = nI dq := (gN_o (by omega)).trans h27
  have hrest : ∀ (s : Nat) (A2 : JI) (Gb : JV), uP b E bq k (tN b E p) slk (2 * f + 1) (f + 1) (pT b E (pU b E f) (tN b E p)) A (gN b E (.inr ((), p)) G) s A2 Gb → JJ Γ (jj_E Y_X9_inner) (jj_Z Γ (rPi (uP b E bq k p slk (2 * f + 1) (f + 1) (pInn b E (pU b E f) p) A G) (fun A' G' => (T, R, S, blk 18 I mo (st A' 0 G'), L, D, z))) 0 0) (jj_rm (d + 3 * f + 10) 0 0) 0 0 8 [some (.ref mo), none] [.int (nI s)] (T, R, S, blk 18 I mo (st A2 0 Gb), L, D, z) := by
    intro s A2 Gb hu2
    cases hr : pT b E (pU b E f) (tN b E p) with
    | inl e =>
      rw [hr] at hu2
      have ep : pInn b E (pU b E f) p = .inl e := by unfold pInn; rw [hr]; rfl
      rw [ep]
      obtain ⟨k2, g1, g2, g3, g4, hg5, g6⟩ := hu2
      have hbb := hb.a g4
      have hsx : mSt b E (.inl e) Gb := hg5
      refine jj_istore_n (q := 9) dX9_inner_8 rfl (by decide) rfl ?_
      refine jj_aload_n (q := 10) dX9_inner_9 rfl rfl rfl ?_
      refine jj_bipush (v := 41) (q := 12) dX9_inner_10 rfl rfl ?_
      refine jj_cV1i (q := 15) dX9_inner_12 yk_X9_isSignHere ml_X9_194 hm.t0 (exM_sign (c := 41) hm hbb hsx (by decide)) rfl rfl rfl ⟨Nat.zero_le _, Nat.zero_le _⟩ ?_
      refine jj_if_ne (q := 18) (tgt := 23) dX9_inner_15 rfl rfl (fun h15 => by exfalso; exact h15 rfl) (fun h15 => ?_)
      refine jj_aload_n (q := 19) dX9_inner_18 rfl rfl rfl ?_
      refine jj_iconst (v := 1) (q := 20) dX9_inner_19 rfl rfl ?_
      refine jj_cV1v (q := 23) dX9_inner_20 yk_X9_faults ml_X9_140 hm.t0 (exM_faults (c := 1) hm hbb hsx) rfl rfl rfl ⟨Nat.zero_le _, Nat.zero_le _⟩ ?_
      refine jj_aload_n (q := 24) dX9_inner_23 rfl rfl rfl ?_
      refine jj_cV0v (q := 27) dX9_inner_24 yk_X9_nextToken ml_X9_134 hm.t0 (exM_next hm hbb hsx) rfl rfl rfl ⟨Nat.zero_le _, Nat.zero_le _⟩ ?_
      refine jj_iload_n (q := 28) dX9_inner_27 rfl rfl rfl ?_
      refine jj_iret dX9_inner_28 rfl (Nat.zero_le _) (Nat.zero_le _) ?_
      exact ⟨s, A2, Gb, ⟨k2, g1, g2, (gTs.gn h26).t g3, g4, hg5, fun x hx => by cases hx⟩, rfl, rfl⟩
    | inr y =>
      rw [hr] at hu2
      obtain ⟨k2, g1, g2, g3, g4, hg5, g6⟩ := hu2
      obtain ⟨g7, g8, g9, g10, g11⟩ := g6 y rfl
      have hbb := hb.a g4
      have hsx : mSt b E (.inr ((), y.2)) Gb := hg5
      have hyn := tN_bd (b := b) (E := E) (p := y.2) hsx.2.1
      by_cases hc : isS b E y.2 41 = true
      · have ep : pInn b E (pU b E f) p = .inr (y.1, tN b E y.2) := by unfold pInn; rw [hr]; dsimp only [Res.bd]; unfold pSg; rw [if_pos hc]
        rw [ep]
        refine jj_istore_n (q := 9) dX9_inner_8 rfl (by decide) rfl ?_
        refine jj_aload_n (q := 10) dX9_inner_9 rfl rfl rfl ?_
        refine jj_bipush (v := 41) (q := 12) dX9_inner_10 rfl rfl ?_
        refine jj_cV1i (q := 15) dX9_inner_12 yk_X9_isSignHere ml_X9_194 hm.t0 (exM_sign (c := 41) hm hbb hsx (by decide)) rfl rfl rfl ⟨Nat.zero_le _, Nat.zero_le _⟩ ?_
        refine jj_if_ne (q := 18) (tgt := 23) dX9_inner_15 rfl rfl (fun h15 => ?_) (fun h15 => by exfalso; exact absurd ((if_pos hc).symm.trans h15) (by decide))
        refine jj_aload_n (q := 24) dX9_inner_23 rfl rfl rfl ?_
        refine jj_cV0v (q := 27) dX9_inner_24 yk_X9_nextToken ml_X9_134 hm.t0 (exM_next hm hbb hsx) rfl rfl rfl ⟨Nat.zero_le _, Nat.zero_le _⟩ ?_
        refine jj_iload_n (q := 28) dX9_inner_27 rfl rfl rfl ?_
        refine jj_iret dX9_inner_28 rfl (Nat.zero_le _) (Nat.zero_le _) ?_
        refine ⟨s, A2, _, ⟨k2, g1, g2, ((gTs.gn h26).t g3).t (gTs.gn g3.1), g4, hsx.n, fun x hx => ?_⟩, rfl, rfl⟩
        cases hx
        exact ⟨by dsimp only; omega, by dsimp only; omega, g9, g10, g11⟩
      · have ep : pInn b E (pU b E f) p = .inl (1, tS b E y.2) := by unfold pInn; rw [hr]; dsimp only [Res.bd]; unfold pSg; rw [if_neg hc]
        rw [ep]
        have hsf : mSt b E (.inl (1, tS b E y.2)) (gF b E 1 (.inr ((), y.2)) Gb) := hsx.f (by omega)
        refine jj_istore_n (q := 9) dX9_inner_8 rfl (by decide) rfl ?_
        refine jj_aload_n (q := 10) dX9_inner_9 rfl rfl rfl ?_
        refine jj_bipush (v := 41) (q := 12) dX9_inner_10 rfl rfl ?_
        refine jj_cV1i (q := 15) dX9_inner_12 yk_X9_isSignHere ml_X9_194 hm.t0 (exM_sign (c := 41) hm hbb hsx (by decide)) rfl rfl rfl ⟨Nat.zero_le _, Nat.zero_le _⟩ ?_
        refine jj_if_ne (q := 18) (tgt := 23) dX9_inner_15 rfl rfl (fun h15 => by exfalso; exact h15 (if_neg hc)) (fun h15 => ?_)
        refine jj_aload_n (q := 19) dX9_inner_18 rfl rfl rfl ?_
        refine jj_iconst (v := 1) (q := 20) dX9_inner_19 rfl rfl ?_
        refine jj_cV1v (q := 23) dX9_inner_20 yk_X9_faults ml_X9_140 hm.t0 (exM_faults (c := 1) hm hbb hsx) rfl rfl rfl ⟨Nat.zero_le _, Nat.zero_le _⟩ ?_
        refine jj_aload_n (q := 24) dX9_inner_23 rfl rfl rfl ?_
        refine jj_cV0v (q := 27) dX9_inner_24 yk_X9_nextToken ml_X9_134 hm.t0 (exM_next hm hbb hsf) rfl rfl rfl ⟨Nat.zero_le _, Nat.zero_le _⟩ ?_
        refine jj_iload_n (q := 28) dX9_inner_27 rfl rfl rfl ?_
        refine jj_iret dX9_inner_28 rfl (Nat.zero_le _) (Nat.zero_le _) ?_
        exact ⟨s, A2, _, ⟨k2, g1, g2, ((gTs.gn h26).t g3).t ⟨(gF_o (by omega)).trans g3.1, fun j hj hn => gF_o (by omega)⟩, g4, hsf, fun x hx => by cases hx⟩, rfl, rfl⟩
  refine Ex.of (by decide) (by simp [Value.category]) (Nat.le_of_ble_eq_true rfl) rfl ?_
  refine jj_aload_n (q := 1) dX9_inner_0 rfl rfl rfl ?_
  refine jj_cV0v (q := 4) dX9_inner_1 yk_X9_nextToken ml_X9_134 hm.t0 (exM_next hm hb hs) rfl rfl rfl ⟨Nat.zero_le _, Nat.zero_le _⟩ ?_
  refine jj_aload_n (q := 5) dX9_inner_4 rfl rfl rfl ?_
  refine jj_pV0i (q := 8) dX9_inner_5 yk_X9_test ml_X9_206 hm.t0 (hT (d + 0) bq k (tN b E p) slk dq A _ hb hsn a25 hbq a26 (by omega) a27 hdq) rfl rfl rfl ⟨Nat.zero_le _, Nat.zero_le _⟩ (fun s A2 Gb hu2 => ?_)
  exact hrest s A2 Gb hu2
theorem un_head (hm : hMo T S mo) (hv : hVs Γ R mo) (hb : mB_ A b E) {p f : Nat} (hs : mSt b E (.inr ((), p)) G) (hn : ¬ noT b E p = true) {Zf : List Frame → Array Value → State → State → Prop} (hz : JJ Γ (jj_E Y_X9_unit) Zf (jj_rm (d + 3 * f + 8) 0 0) 0 0 33 [some (.ref mo), some (.int (vI (wV b E p))), none] [] (T, R, S, blk 18 I mo (st A 0 G), L, D, z)) : JJ Γ (jj_E Y_X9_unit) Zf (jj_rm (d + 3 * f + 8) 0 0) 0 0 0 [some (.ref mo), none, none] [] (T, R, S, blk 18 I mo (st A 0 G), L, D, z) := by
  have hiff := noT_iff (b := b) (E := E) (p := p)
  by_cases h5 : wV b E p = 5
  · have e5 : vI (wV b E p) = -1 := by rw [h5]; rfl
    by_cases hw : isW b E p wd_not = true
    · skip
      refine jj_aload_n (q := 1) dX9_unit_0 rfl rfl rfl ?_
      refine jj_cV0i (q := 4) dX9_unit_1 yk_X9_valueHere ml_X9_189 hm.t0 (exM_value hm hb hs hv) rfl rfl rfl ⟨Nat.zero_le _, Nat.zero_le _⟩ ?_
      refine jj_istore_n (q := 5) dX9_unit_4 rfl (by decide) rfl ?_
      refine jj_iload_n (q := 6) dX9_unit_5 rfl rfl rfl ?_
      refine jj_iconst (v := -1) (q := 7) dX9_unit_6 rfl rfl ?_
      refine jj_icmp_ne (q := 10) (tgt := 33) dX9_unit_7 rfl rfl (fun h7 => by exfalso; exact h7 e5) (fun h7 => ?_)
      refine jj_aload_n (q := 11) dX9_unit_10 rfl rfl rfl ?_
      refine jj_ldcS (q := 13) dX9_unit_11 ks_X9_192 rfl ?_
      refine jj_cV1i (q := 16) dX9_unit_13 yk_X9_isWord ml_X9_130 hm.t0 (exM_word hm hb hs ks_X9_192 wl_not (by decide) (by decide)) rfl rfl rfl ⟨Nat.zero_le _, Nat.zero_le _⟩ ?_
      refine jj_if_ne (q := 19) (tgt := 33) dX9_unit_16 rfl rfl (fun h16 => ?_) (fun h16 => by exfalso; exact absurd ((if_pos hw).symm.trans h16) (by decide))
      exact hz
    · have hp4 : isS b E p 40 = true := by
        cases hq : isS b E p 40 with
        | true => rfl
        | false => exact absurd (hiff.mpr ⟨h5, hw, by rw [hq]; decide⟩) hn
      refine jj_aload_n (q := 1) dX9_unit_0 rfl rfl rfl ?_
      refine jj_cV0i (q := 4) dX9_unit_1 yk_X9_valueHere ml_X9_189 hm.t0 (exM_value hm hb hs hv) rfl rfl rfl ⟨Nat.zero_le _, Nat.zero_le _⟩ ?_
      refine jj_istore_n (q := 5) dX9_unit_4 rfl (by decide) rfl ?_
      refine jj_iload_n (q := 6) dX9_unit_5 rfl rfl rfl ?_
      refine jj_iconst (v := -1) (q := 7) dX9_unit_6 rfl rfl ?_
      refine jj_icmp_ne (q := 10) (tgt := 33) dX9_unit_7 rfl rfl (fun h7 => by exfalso; exact h7 e5) (fun h7 => ?_)
      refine jj_aload_n (q := 11) dX9_unit_10 rfl rfl rfl ?_
      refine jj_ldcS (q := 13) dX9_unit_11 ks_X9_192 rfl ?_
      refine jj_cV1i (q := 16) dX9_unit_13 yk_X9_isWord ml_X9_130 hm.t0 (exM_word hm hb hs ks_X9_192 wl_not (by decide) (by decide)) rfl rfl rfl ⟨Nat.zero_le _, Nat.zero_le _⟩ ?_
      refine jj_if_ne (q := 19) (tgt := 33) dX9_unit_16 rfl rfl (fun h16 => by exfalso; exact h16 (if_neg hw)) (fun h16 => ?_)
      refine jj_aload_n (q := 20) dX9_unit_19 rfl rfl rfl ?_
      refine jj_bipush (v := 40) (q := 22) dX9_unit_20 rfl rfl ?_
      refine jj_cV1i (q := 25) dX9_unit_22 yk_X9_isSignHere ml_X9_194 hm.t0 (exM_sign (c := 40) hm hb hs (by decide)) rfl rfl rfl ⟨Nat.zero_le _, Nat.zero_le _⟩ ?_
      refine jj_if_ne (q := 28) (tgt := 33) dX9_unit_25 rfl rfl (fun h25 => ?_) (fun h25 => by exfalso; exact absurd ((if_pos hp4).symm.trans h25) (by decide))
      exact hz
  · have hlt : wV b E p < 5 := (wV_w (b := b) hs.2.1 h5).1
    have e5 : ¬ vI (wV b E p) = -1 := by
      unfold vI
      rw [if_neg h5]
      exact fun w => nI_ltz (k := wV b E p) (by omega) (by rw [w]; decide)
    refine jj_aload_n (q := 1) dX9_unit_0 rfl rfl rfl ?_
    refine jj_cV0i (q := 4) dX9_unit_1 yk_X9_valueHere ml_X9_189 hm.t0 (exM_value hm hb hs hv) rfl rfl rfl ⟨Nat.zero_le _, Nat.zero_le _⟩ ?_
    refine jj_istore_n (q := 5) dX9_unit_4 rfl (by decide) rfl ?_
    refine jj_iload_n (q := 6) dX9_unit_5 rfl rfl rfl ?_
    refine jj_iconst (v := -1) (q := 7) dX9_unit_6 rfl rfl ?_
    refine jj_icmp_ne (q := 10) (tgt := 33) dX9_unit_7 rfl rfl (fun h7 => ?_) (fun h7 => by exfalso; exact e5 h7)
    exact hz
theorem un_no (hm : hMo T S mo) (hE : E ≤ 1200) (hv : hVs Γ R mo) {f e2 F2 : Nat} {bq k p slk dq : Nat} (hb : mB_ A b E) (hs : mSt b E (.inr ((), p)) G) (h25 : G 25 = nI bq) (hbq : bq ≤ 1) (h26 : G 26 = nI k) (hkp : 2 * k + slk ≤ p) (h27 : G 27 = nI dq) (hdq : dq < 100) (hn : noT b E p = true) : Ex Γ (d + 3 * f + 8) Y_X9_unit [.ref mo] (T, R, S, blk 18 I mo (st A 0 G), L, D, z) 0 0 (rPi (uP b E bq k p slk e2 F2 (.inl (1, tS b E p)) A G) (fun A' G' => (T, R, S, blk 18 I mo (st A' 0 G'), L, D, z))) := by
  obtain ⟨h5, hw, hp4⟩ := noT_iff.mp hn
  have hpE : p ≤ E := hs.2.1
  have e5 : vI (wV b E p) = -1 := by rw [h5]; rfl
  have hsf : mSt b E (.inl (1, tS b E p)) (gF b E 1 (.inr ((), p)) G) := hs.f (by omega)
  have hfin : uP b E bq k p slk e2 F2 (.inl (1, tS b E p)) A G 0 A (gF b E 1 (.inr ((), p)) G) := ⟨k, Nat.le_refl _, by omega, ⟨(gF_o (by omega)).trans h26, fun j hj hn => gF_o (by omega)⟩, aTs.r, hsf, fun x hx => by cases hx⟩
  refine Ex.of (by decide) (by simp [Value.category]) (Nat.le_of_ble_eq_true rfl) rfl ?_
  refine jj_aload_n (q := 1) dX9_unit_0 rfl rfl rfl ?_
  refine jj_cV0i (q := 4) dX9_unit_1 yk_X9_valueHere ml_X9_189 hm.t0 (exM_value hm hb hs hv) rfl rfl rfl ⟨Nat.zero_le _, Nat.zero_le _⟩ ?_
  refine jj_istore_n (q := 5) dX9_unit_4 rfl (by decide) rfl ?_
  refine jj_iload_n (q := 6) dX9_unit_5 rfl rfl rfl ?_
  refine jj_iconst (v := -1) (q := 7) dX9_unit_6 rfl rfl ?_
  refine jj_icmp_ne (q := 10) (tgt := 33) dX9_unit_7 rfl rfl (fun h7 => by exfalso; exact h7 e5) (fun h7 => ?_)
  refine jj_aload_n (q := 11) dX9_unit_10 rfl rfl rfl ?_
  refine jj_ldcS (q := 13) dX9_unit_11 ks_X9_192 rfl ?_
  refine jj_cV1i (q := 16) dX9_unit_13 yk_X9_isWord ml_X9_130 hm.t0 (exM_word hm hb hs ks_X9_192 wl_not (by decide) (by decide)) rfl rfl rfl ⟨Nat.zero_le _, Nat.zero_le _⟩ ?_
  refine jj_if_ne (q := 19) (tgt := 33) dX9_unit_16 rfl rfl (fun h16 => by exfalso; exact h16 (if_neg hw)) (fun h16 => ?_)
  refine jj_aload_n (q := 20) dX9_unit_19 rfl rfl rfl ?_
  refine jj_bipush (v := 40) (q := 22) dX9_unit_20 rfl rfl ?_
  refine jj_cV1i (q := 25) dX9_unit_22 yk_X9_isSignHere ml_X9_194 hm.t0 (exM_sign (c := 40) hm hb hs (by decide)) rfl rfl rfl ⟨Nat.zero_le _, Nat.zero_le _⟩ ?_
  refine jj_if_ne (q := 28) (tgt := 33) dX9_unit_25 rfl rfl (fun h25 => by exfalso; exact h25 (if_neg hp4)) (fun h25 => ?_)
  refine jj_aload_n (q := 29) dX9_unit_28 rfl rfl rfl ?_
  refine jj_iconst (v := 1) (q := 30) dX9_unit_29 rfl rfl ?_
  refine jj_cV1v (q := 33) dX9_unit_30 yk_X9_faults ml_X9_140 hm.t0 (exM_faults (c := 1) hm hb hs) rfl rfl rfl ⟨Nat.zero_le _, Nat.zero_le _⟩ ?_
  refine jj_aload_n (q := 34) dX9_unit_33 rfl rfl rfl ?_
  refine jj_getIw (v := nI dq) (q := 37) dX9_unit_34 fl_X9_197 hm.t0 (by rw [g_rd]; exact (gF_o (by omega)).trans h27) rfl rfl ?_
  refine jj_bipush (v := 9) (q := 39) dX9_unit_37 rfl rfl ?_
  refine jj_icmp_le (q := 42) (tgt := 48) dX9_unit_39 rfl rfl (fun h39 => ?_) (fun h39 => ?_)
  · refine jj_aload_n (q := 49) dX9_unit_48 rfl rfl rfl ?_
    refine jj_getIw (v := nI 1) (q := 52) dX9_unit_49 fl_X9_92 hm.t0 (by rw [g_rd]; exact hsf.2.1) rfl rfl ?_
    refine jj_if_le (q := 55) (tgt := 57) dX9_unit_52 rfl rfl (fun h52 => by exfalso; exact absurd h52 (by decide)) (fun h52 => ?_)
    refine jj_iconst (v := 0) (q := 56) dX9_unit_55 rfl rfl ?_
    refine jj_iret dX9_unit_56 rfl (Nat.zero_le _) (Nat.zero_le _) ?_
    exact ⟨0, A, _, hfin, rfl, rfl⟩
  · refine jj_aload_n (q := 43) dX9_unit_42 rfl rfl rfl ?_
    refine jj_bipush (v := 6) (q := 45) dX9_unit_43 rfl rfl ?_
    refine jj_cV1v (q := 48) dX9_unit_45 yk_X9_faults ml_X9_140 hm.t0 (exM_faults (c := 6) hm hb hsf) rfl rfl rfl ⟨Nat.zero_le _, Nat.zero_le _⟩ ?_
    refine jj_aload_n (q := 49) dX9_unit_48 rfl rfl rfl ?_
    refine jj_getIw (v := nI 1) (q := 52) dX9_unit_49 fl_X9_92 hm.t0 (by rw [g_rd]; exact hsf.2.1) rfl rfl ?_
    refine jj_if_le (q := 55) (tgt := 57) dX9_unit_52 rfl rfl (fun h52 => by exfalso; exact absurd h52 (by decide)) (fun h52 => ?_)
    refine jj_iconst (v := 0) (q := 56) dX9_unit_55 rfl rfl ?_
    refine jj_iret dX9_unit_56 rfl (Nat.zero_le _) (Nat.zero_le _) ?_
    exact ⟨0, A, _, hfin, rfl, rfl⟩
theorem un_deep (hm : hMo T S mo) (hE : E ≤ 1200) (hv : hVs Γ R mo) {bq k p slk e2 F2 : Nat} (hb : mB_ A b E) (hs : mSt b E (.inr ((), p)) G) (h26 : G 26 = nI k) (hkp : 2 * k + slk ≤ p) (h27 : G 27 = nI 10) (hn : ¬ noT b E p = true) : Ex Γ (d + 3 * 0 + 8) Y_X9_unit [.ref mo] (T, R, S, blk 18 I mo (st A 0 G), L, D, z) 0 0 (rPi (uP b E bq k p slk e2 F2 (.inl (6, tS b E p)) A G) (fun A' G' => (T, R, S, blk 18 I mo (st A' 0 G'), L, D, z))) := by
  have hpE : p ≤ E := hs.2.1
  have hsf : mSt b E (.inl (6, tS b E p)) (gF b E 6 (.inr ((), p)) G) := hs.f (by omega)
  have hfin : uP b E bq k p slk e2 F2 (.inl (6, tS b E p)) A G 0 A (gF b E 6 (.inr ((), p)) G) := ⟨k, Nat.le_refl _, by omega, ⟨(gF_o (by omega)).trans h26, fun j hj hn => gF_o (by omega)⟩, aTs.r, hsf, fun x hx => by cases hx⟩
  refine Ex.of (by decide) (by simp [Value.category]) (Nat.le_of_ble_eq_true rfl) rfl ?_
  refine un_head (f := 0) hm hv hb hs hn ?_
  refine jj_aload_n (q := 34) dX9_unit_33 rfl rfl rfl ?_
  refine jj_getIw (v := nI 10) (q := 37) dX9_unit_34 fl_X9_197 hm.t0 (by rw [g_rd]; exact h27) rfl rfl ?_
  refine jj_bipush (v := 9) (q := 39) dX9_unit_37 rfl rfl ?_
  refine jj_icmp_le (q := 42) (tgt := 48) dX9_unit_39 rfl rfl (fun h39 => absurd h39 (by decide)) (fun h39 => ?_)
  refine jj_aload_n (q := 43) dX9_unit_42 rfl rfl rfl ?_
  refine jj_bipush (v := 6) (q := 45) dX9_unit_43 rfl rfl ?_
  refine jj_cV1v (q := 48) dX9_unit_45 yk_X9_faults ml_X9_140 hm.t0 (exM_faults (c := 6) hm hb hs) rfl rfl rfl ⟨Nat.zero_le _, Nat.zero_le _⟩ ?_
  refine jj_aload_n (q := 49) dX9_unit_48 rfl rfl rfl ?_
  refine jj_getIw (v := nI 6) (q := 52) dX9_unit_49 fl_X9_92 hm.t0 (by rw [g_rd]; exact hsf.2.1) rfl rfl ?_
  refine jj_if_le (q := 55) (tgt := 57) dX9_unit_52 rfl rfl (fun h52 => by exfalso; exact absurd h52 (by decide)) (fun h52 => ?_)
  refine jj_iconst (v := 0) (q := 56) dX9_unit_55 rfl rfl ?_
  refine jj_iret dX9_unit_56 rfl (Nat.zero_le _) (Nat.zero_le _) ?_
  exact ⟨0, A, _, hfin, rfl, rfl⟩
end M85
