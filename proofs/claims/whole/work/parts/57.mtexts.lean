/-! THE MODEL'S TEXTS -/
def wA (k : Nat) (A : JI) (b : Nat) : JI := u2 (u2 A k (nN (A 0 34)) (nI b)) 0 34 (nI (nN (A 0 34) + 1))
def wAL (k : Nat) (A : JI) (l : List Nat) : JI := l.foldl (wA k) A
theorem wAL_app (k : Nat) (A : JI) (l m : List Nat) : wAL k A (l ++ m) = wAL k (wAL k A l) m := List.foldl_append ..
theorem wAL_nil (k : Nat) (A : JI) : wAL k A [] = A := rfl
theorem wAL_one (k : Nat) (A : JI) (b : Nat) : wAL k A [b] = wA k A b := rfl
theorem wAL_cons (k : Nat) (A : JI) (b : Nat) (l : List Nat) : wAL k A (b :: l) = wAL k (wA k A b) l := rfl
theorem wA_0 {k : Nat} {A : JI} {b s : Nat} (h : A 0 34 = nI s) (hs : s < 2 ^ 30) : wA k A b 0 34 = nI (s + 1) := by
  unfold wA
  rw [u2_at, h, nN_nI (by omega)]
theorem wAL_0 {k : Nat} : ∀ {l : List Nat} {A : JI} {s : Nat}, A 0 34 = nI s → s + l.length < 2 ^ 30 → wAL k A l 0 34 = nI (s + l.length)
  | [], _, _, h, _ => h
  | b :: l, A, s, h, hs => by
    have hs' : s + (l.length + 1) < 2 ^ 30 := hs
    have := wAL_0 (k := k) (l := l) (A := wA k A b) (s := s + 1) (wA_0 h (by omega)) (by omega)
    show wAL k (wA k A b) l 0 34 = nI (s + (l.length + 1))
    rw [this, show s + 1 + l.length = s + (l.length + 1) by omega]
/-- cells that stay -/
theorem wA_c {k c : Nat} {A : JI} {b : Nat} (h0 : c ≠ 0) (hk : c ≠ k) : wA k A b c = A c := by
  unfold wA
  rw [u2_ne h0, u2_ne hk]
theorem wAL_c {k c : Nat} (h0 : c ≠ 0) (hk : c ≠ k) : ∀ (l : List Nat) (A : JI), wAL k A l c = A c
  | [], _ => rfl
  | b :: l, A => by rw [wAL_cons, wAL_c h0 hk l, wA_c h0 hk]
theorem u2_bsk {w : Nat} {I A : JI} {a u k j : Nat} {X : JV} {v : Int32} (h : k < w) (hn : k ≠ u) : u2 (blk w I a (st A u X)) (a + k) j v = blk w I a (st (u2 A k j v) u X) := by
  rw [u2_blk h]
  congr 1
  funext c i
  by_cases e : c = k
  · subst e
    rw [u2_eq, st_ne hn, st_ne hn, u2_eq]
  · rw [u2_ne e]
    unfold st
    split
    · rfl
    · rw [u2_ne e]
theorem hMo.out {T : JT} {S : JR} {mo : Nat} {x : Option Nat} (h : hMo T S mo) : hMo T (u2 S mo 31 x) mo := by
  refine ⟨h.1, fun q hq => ?_⟩
  have h1 : ∀ q ∈ rMo, q.2.1 ≠ 31 := by decide
  rw [u2_ap]
  rw [if_neg (h1 q hq), ite_self]
  exact h.2 q hq
/-- where the model writes -/
def oW (T : JT) (S : JR) (mo k n : Nat) : Prop := (k = 15 ∨ k = 16) ∧ T (mo + k) = some (.inr (.int, n)) ∧ S mo 31 = some (mo + k) ∧ n < 2 ^ 30
theorem oW.c {T : JT} {S : JR} {mo k n : Nat} (h : oW T S mo k n) : k < 18 ∧ k ≠ 4 ∧ k ≠ 0 := by have := h.1; omega
section M57
variable {Γ : Gam} {d : Nat} {T : JT} {R S : JR} {I A : JI} {L : JL} {D : JD} {z : Option Nat} {mo k n s : Nat} {X : JV}
theorem ex_writes (hm : hMo T S mo) (ho : oW T S mo k n) (hs : A 0 34 = nI s) {b : Nat} (hsn : s + ([b] : List Nat).length ≤ n) : Ex Γ (d) Y_X9_writes [.ref mo, .int (nI b)] (T, R, S, blk 18 I mo (st A 4 X), L, D, z) 0 0 (rV (T, R, S, blk 18 I mo (st (wAL k A [b]) 4 X), L, D, z)) := by
  have hsn : s + 1 ≤ n := hsn
  have hn30 := ho.2.2.2
  have hk := ho.c
  refine Ex.of (by decide) (by simp [Value.category]) (Nat.le_of_ble_eq_true rfl) rfl ?_
  refine jj_aload_n (q := 1) dX9_writes_0 rfl rfl rfl ?_
  refine jj_getS (q := 4) dX9_writes_1 fl_X9_76 hm.t0 ho.2.2.1 rfl rfl rfl ?_
  refine jj_aload_n (q := 5) dX9_writes_4 rfl rfl rfl ?_
  refine jj_getIw (v := nI s) (q := 8) dX9_writes_5 fl_X9_388 hm.t0 (by rw [blk_s0 (by decide) (by decide)]; exact hs) rfl rfl ?_
  refine jj_iload_n (q := 9) dX9_writes_8 rfl rfl rfl ?_
  refine jj_iastN (q := 10) (j := s) dX9_writes_9 ho.2.1 (u2_bsk ho.c.1 ho.c.2.1) rfl (by omega) rfl ?_
  refine jj_aload_n (q := 11) dX9_writes_10 rfl rfl rfl ?_
  refine jj_dup (q := 12) dX9_writes_11 rfl rfl ?_
  refine jj_getIw (v := nI s) (q := 15) dX9_writes_12 fl_X9_388 hm.t0 (by rw [blk_s0 (by decide) (by decide), u2_ne (fun e => hk.2.2 e.symm)]; exact hs) rfl rfl ?_
  refine jj_iconst (v := 1) (q := 16) dX9_writes_15 rfl rfl ?_
  refine jj_iaddN (q := 17) (a := s) (b := 1) dX9_writes_16 rfl rfl rfl ?_
  refine jj_putIv (q := 20) dX9_writes_17 fl_X9_388 hm.t0 (u2_bs0 (by decide) (by decide)) rfl rfl rfl rfl rfl ?_
  refine jj_vret dX9_writes_20 rfl (Nat.zero_le _) (Nat.zero_le _) ?_
  exact ⟨rfl, by rw [wAL_one]; unfold wA; rw [hs, nN_nI (by omega)]⟩
theorem lp_wn2 (hm : hMo T S mo) (ho : oW T S mo k n) {v : Nat} (hv : v < 2 ^ 31) : ∀ (j s : Nat) (A A' : JI), j ≤ 9 → A 0 34 = nI s → s + (dk v j).length ≤ n → wAL k A (dk v j) = A' → JJ Γ (jj_E Y_X9_writesNumber) (jj_Z Γ (rV (T, R, S, blk 18 I mo (st A' 4 X), L, D, z)) 0 0) (jj_rm (d + 1) 0 0) 0 0 18 [some (.ref mo), some (.int (nI v)), some (.int (nI (10 ^ j)))] [] (T, R, S, blk 18 I mo (st A 4 X), L, D, z) := by
  intro j
  induction j with
  | zero =>
    intro s A A' hj hs hl he
    subst he
    have hl : s + 1 ≤ n := hl
    refine jj_iload_n (q := 19) dX9_writesNumber_18 rfl rfl rfl ?_
    refine jj_if_le (q := 22) (tgt := 43) dX9_writesNumber_19 rfl rfl (fun h19 => absurd h19 (by decide)) (fun h19 => ?_)
    refine jj_aload_n (q := 23) dX9_writesNumber_22 rfl rfl rfl ?_
    refine jj_bipush (v := 48) (q := 25) dX9_writesNumber_23 rfl rfl ?_
    refine jj_iload_n (q := 26) dX9_writesNumber_25 rfl rfl rfl ?_
    refine jj_iload_n (q := 27) dX9_writesNumber_26 rfl rfl rfl ?_
    refine jj_idiv (q := 28) dX9_writesNumber_27 (by decide) rfl ?_
    refine jj_bipush (v := 10) (q := 30) dX9_writesNumber_28 rfl rfl ?_
    refine jj_irem (q := 31) dX9_writesNumber_30 (by decide) rfl ?_
    rw [show nI v / nI (10 ^ 0) = nI v by rw [pk_div hv (p10_0 0) (p10 (by omega)), Nat.pow_zero, Nat.div_one], show nI v - nI v / 10 * 10 = nI (v % 10) from pk_rem (d := 10) hv (by omega) (by omega)]
    refine jj_iadd (q := 32) dX9_writesNumber_31 rfl ?_
    rw [show (48 : Int32) + nI (v % 10) = nI (48 + v % 10) from nI_add 48 _]
    refine jj_cV1v (q := 35) dX9_writesNumber_32 yk_X9_writes ml_X9_391 hm.t0 (ex_writes (b := 48 + v % 10) hm ho hs (by rw [List.length_singleton]; omega)) rfl rfl rfl ⟨Nat.zero_le _, Nat.zero_le _⟩ ?_
    refine jj_iload_n (q := 36) dX9_writesNumber_35 rfl rfl rfl ?_
    refine jj_bipush (v := 10) (q := 38) dX9_writesNumber_36 rfl rfl ?_
    refine jj_idiv (q := 39) dX9_writesNumber_38 (by decide) rfl ?_
    refine jj_istore_n (q := 40) dX9_writesNumber_39 rfl (by decide) rfl ?_
    refine jj_goto (tgt := 18) dX9_writesNumber_40 rfl ?_
    refine jj_iload_n (q := 19) dX9_writesNumber_18 rfl rfl rfl ?_
    refine jj_if_le (q := 22) (tgt := 43) dX9_writesNumber_19 rfl rfl (fun h19 => ?_) (fun h19 => absurd (by decide) h19)
    refine jj_vret dX9_writesNumber_43 rfl (Nat.zero_le _) (Nat.zero_le _) ?_
    exact ⟨rfl, rfl⟩
  | succ j ih =>
    intro s A A' hj hs hl he
    have h10 := p10 (j := j + 1) hj
    have hd : nI (10 ^ (j + 1)) / 10 = nI (10 ^ j) := by
      rw [show nI (10 ^ (j + 1)) / 10 = nI (10 ^ (j + 1) / 10) from pk_div (d := 10) h10 (by omega) (by omega), Nat.pow_succ, Nat.mul_div_cancel _ (by omega)]
    have hp := p10_0 (j + 1)
    rw [dk, wAL_cons] at he
    have hl : s + ((dk v j).length + 1) ≤ n := hl
    have hn30 := ho.2.2.2
    refine jj_iload_n (q := 19) dX9_writesNumber_18 rfl rfl rfl ?_
    refine jj_if_le (q := 22) (tgt := 43) dX9_writesNumber_19 rfl rfl (fun h19 => absurd h19 (nI_ge (a := 0) hp h10)) (fun h19 => ?_)
    refine jj_aload_n (q := 23) dX9_writesNumber_22 rfl rfl rfl ?_
    refine jj_bipush (v := 48) (q := 25) dX9_writesNumber_23 rfl rfl ?_
    refine jj_iload_n (q := 26) dX9_writesNumber_25 rfl rfl rfl ?_
    refine jj_iload_n (q := 27) dX9_writesNumber_26 rfl rfl rfl ?_
    refine jj_idiv (q := 28) dX9_writesNumber_27 (fun w => absurd w (nI_ne0 hp h10)) rfl ?_
    refine jj_bipush (v := 10) (q := 30) dX9_writesNumber_28 rfl rfl ?_
    refine jj_irem (q := 31) dX9_writesNumber_30 (by decide) rfl ?_
    rw [pk_div hv hp h10, show nI (v / 10 ^ (j + 1)) - nI (v / 10 ^ (j + 1)) / 10 * 10 = nI (v / 10 ^ (j + 1) % 10) from pk_rem (d := 10) (Nat.lt_of_le_of_lt (Nat.div_le_self _ _) hv) (by omega) (by omega)]
    refine jj_iadd (q := 32) dX9_writesNumber_31 rfl ?_
    rw [show (48 : Int32) + nI (v / 10 ^ (j + 1) % 10) = nI (48 + v / 10 ^ (j + 1) % 10) from nI_add 48 _]
    refine jj_cV1v (q := 35) dX9_writesNumber_32 yk_X9_writes ml_X9_391 hm.t0 (ex_writes (b := 48 + v / 10 ^ (j + 1) % 10) hm ho hs (by rw [List.length_singleton]; omega)) rfl rfl rfl ⟨Nat.zero_le _, Nat.zero_le _⟩ ?_
    refine jj_iload_n (q := 36) dX9_writesNumber_35 rfl rfl rfl ?_
    refine jj_bipush (v := 10) (q := 38) dX9_writesNumber_36 rfl rfl ?_
    refine jj_idiv (q := 39) dX9_writesNumber_38 (by decide) rfl ?_
    rw [hd]
    refine jj_istore_n (q := 40) dX9_writesNumber_39 rfl (by decide) rfl ?_
    refine jj_goto (tgt := 18) dX9_writesNumber_40 rfl ?_
    exact ih (s + 1) _ A' (by omega) (wA_0 (k := k) (b := 48 + v / 10 ^ (j + 1) % 10) hs (by omega)) (by omega) he
theorem lp_wn1 (hm : hMo T S mo) (ho : oW T S mo k n) {v : Nat} (hv : v < 2 ^ 31) (hs : A 0 34 = nI s) (hl : s + (dg v).length ≤ n) : ∀ (m j : Nat), j + m = 9 → (j = 0 ∨ 10 ^ j ≤ v) → JJ Γ (jj_E Y_X9_writesNumber) (jj_Z Γ (rV (T, R, S, blk 18 I mo (st (wAL k A (dg v)) 4 X), L, D, z)) 0 0) (jj_rm (d + 1) 0 0) 0 0 2 [some (.ref mo), some (.int (nI v)), some (.int (nI (10 ^ j)))] [] (T, R, S, blk 18 I mo (st A 4 X), L, D, z) := by
  intro m
  induction m with
  | zero =>
    intro j hj h0
    have h10 := p10 (j := j) (by omega)
    have hp := p10_0 j
    have hdv : v / 10 ^ j < 10 := (Nat.div_lt_iff_lt_mul hp).mpr (by rw [show j = 9 by omega]; omega)
    have hlt : v < 10 ^ (j + 1) := by rw [show j = 9 by omega]; omega
    have e := dg_dk (by omega) h0 hlt
    refine jj_iload_n (q := 3) dX9_writesNumber_2 rfl rfl rfl ?_
    refine jj_iload_n (q := 4) dX9_writesNumber_3 rfl rfl rfl ?_
    refine jj_idiv (q := 5) dX9_writesNumber_4 (fun w => absurd w (nI_ne0 hp h10)) rfl ?_
    rw [pk_div hv hp h10]
    refine jj_bipush (v := 10) (q := 7) dX9_writesNumber_5 rfl rfl ?_
    refine jj_icmp_lt (q := 10) (tgt := 18) dX9_writesNumber_7 rfl rfl (fun h7 => ?_) (fun h7 => absurd (nI_lt hdv (by omega)) h7)
    rw [e] at hl ⊢
    exact lp_wn2 hm ho hv j s A _ (by omega) hs hl rfl
  | succ m ih =>
    intro j hj h0
    have h10 := p10 (j := j) (by omega)
    have hp := p10_0 j
    by_cases hdv : v / 10 ^ j < 10
    · have hlt : v < 10 ^ (j + 1) := by rw [Nat.pow_succ, Nat.mul_comm]; exact (Nat.div_lt_iff_lt_mul hp).mp hdv
      have e := dg_dk (by omega) h0 hlt
      refine jj_iload_n (q := 3) dX9_writesNumber_2 rfl rfl rfl ?_
      refine jj_iload_n (q := 4) dX9_writesNumber_3 rfl rfl rfl ?_
      refine jj_idiv (q := 5) dX9_writesNumber_4 (fun w => absurd w (nI_ne0 hp h10)) rfl ?_
      rw [pk_div hv hp h10]
      refine jj_bipush (v := 10) (q := 7) dX9_writesNumber_5 rfl rfl ?_
      refine jj_icmp_lt (q := 10) (tgt := 18) dX9_writesNumber_7 rfl rfl (fun h7 => ?_) (fun h7 => absurd (nI_lt hdv (by omega)) h7)
      rw [e] at hl ⊢
      exact lp_wn2 hm ho hv j s A _ (by omega) hs hl rfl
    · have hge : 10 ^ (j + 1) ≤ v := by
        rw [Nat.pow_succ, Nat.mul_comm]
        exact (Nat.le_div_iff_mul_le hp).mp (by omega)
      refine jj_iload_n (q := 3) dX9_writesNumber_2 rfl rfl rfl ?_
      refine jj_iload_n (q := 4) dX9_writesNumber_3 rfl rfl rfl ?_
      refine jj_idiv (q := 5) dX9_writesNumber_4 (fun w => absurd w (nI_ne0 hp h10)) rfl ?_
      rw [pk_div hv hp h10]
      refine jj_bipush (v := 10) (q := 7) dX9_writesNumber_5 rfl rfl ?_
      refine jj_icmp_lt (q := 10) (tgt := 18) dX9_writesNumber_7 rfl rfl (fun h7 => absurd h7 (nI_nlt (a := v / 10 ^ j) (b := 10) (by omega) (Nat.lt_of_le_of_lt (Nat.div_le_self _ _) hv))) (fun h7 => ?_)
      refine jj_iload_n (q := 11) dX9_writesNumber_10 rfl rfl rfl ?_
      refine jj_bipush (v := 10) (q := 13) dX9_writesNumber_11 rfl rfl ?_
      refine jj_imul (q := 14) dX9_writesNumber_13 rfl ?_
      rw [show nI (10 ^ j) * 10 = nI (10 ^ (j + 1)) by rw [show (10 : Int32) = nI 10 from rfl, pk_mul, Nat.pow_succ]]
      refine jj_istore_n (q := 15) dX9_writesNumber_14 rfl (by decide) rfl ?_
      refine jj_goto (tgt := 2) dX9_writesNumber_15 rfl ?_
      exact ih (j + 1) (by omega) (Or.inr hge)
theorem ex_writesNumber (hm : hMo T S mo) (ho : oW T S mo k n) (hs : A 0 34 = nI s) {v : Nat} (hv : v < 2 ^ 31) (hl : s + (dg v).length ≤ n) : Ex Γ (d + 1) Y_X9_writesNumber [.ref mo, .int (nI v)] (T, R, S, blk 18 I mo (st A 4 X), L, D, z) 0 0 (rV (T, R, S, blk 18 I mo (st (wAL k A (dg v)) 4 X), L, D, z)) := by
  refine Ex.of (by decide) (by simp [Value.category]) (Nat.le_of_ble_eq_true rfl) rfl ?_
  refine jj_iconst (v := 1) (q := 1) dX9_writesNumber_0 rfl rfl ?_
  refine jj_istore_n (q := 2) dX9_writesNumber_1 rfl (by decide) rfl ?_
  exact lp_wn1 hm ho hv hs hl 9 0 (by omega) (Or.inl rfl)
end M57
