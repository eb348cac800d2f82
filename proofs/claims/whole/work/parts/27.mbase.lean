/-! THE MODEL'S STATE ARRAY: pure functions, ranges, the small methods walked -/
def nN (v : Int32) : Nat := v.toNatClampNeg
abbrev JV := Nat → Int32
def w1 (X : JV) (j : Nat) (v : Int32) : JV := fun i => if i = j then v else X i
def st (A : JI) (u : Nat) (X : JV) : JI := fun k => if k = u then X else A k
theorem w1_eq {X : JV} {j : Nat} {v : Int32} : w1 X j v j = v := if_pos rfl
theorem w1_ne {X : JV} {i j : Nat} {v : Int32} (h : i ≠ j) : w1 X j v i = X i := if_neg h
theorem st_eq {A : JI} {u : Nat} {X : JV} : st A u X u = X := if_pos rfl
theorem st_ne {A : JI} {u k : Nat} {X : JV} (h : k ≠ u) : st A u X k = A k := if_neg h
theorem st_self (A : JI) (u : Nat) : st A u (A u) = A := by
  funext k
  unfold st
  split
  · rename_i h; rw [h]
  · rfl
theorem st_st {A : JI} {u : Nat} {X Y : JV} : st (st A u X) u Y = st A u Y := by
  funext k
  unfold st
  split <;> rfl
theorem u2_st {A : JI} {u j : Nat} {X : JV} {v : Int32} : u2 (st A u X) u j v = st A u (w1 X j v) := by
  funext k i
  unfold st w1
  rw [u2_ap]
  split
  · rfl
  · rfl
theorem u2_w1 (A : JI) (u j : Nat) (v : Int32) : u2 A u j v = st A u (w1 (A u) j v) := by
  have e : u2 (st A u (A u)) u j v = st A u (w1 (A u) j v) := u2_st
  rw [st_self] at e
  exact e
theorem blk_st {w : Nat} {I A : JI} {a u : Nat} {X : JV} (h : u < w) : blk w I a (st A u X) (a + u) = X := by rw [blk_k h, st_eq]
theorem blk_sn {w : Nat} {I A : JI} {a u k : Nat} {X : JV} (h : k < w) (hn : k ≠ u) : blk w I a (st A u X) (a + k) = A k := by rw [blk_k h, st_ne hn]
theorem blk_s0 {w : Nat} {I A : JI} {a u : Nat} {X : JV} (h : 0 < w) (hn : 0 ≠ u) : blk w I a (st A u X) a = A 0 := by rw [blk_0 h, st_ne hn]
theorem u2_bst {w : Nat} {I A : JI} {a u j : Nat} {X : JV} {v : Int32} (h : u < w) : u2 (blk w I a (st A u X)) (a + u) j v = blk w I a (st A u (w1 X j v)) := by rw [u2_blk h, u2_st]
theorem hMo.tu {T : JT} {S : JR} {mo u : Nat} (h : hMo T S mo) (hu : 4 ≤ u ∧ u ≤ 6) : T (mo + u) = some (.inr (.int, 2086)) := by
  have e : u = 4 ∨ u = 5 ∨ u = 6 := by omega
  rcases e with e | e | e <;> subst e
  · exact h.t4
  · exact h.t5
  · exact h.t6
def nB (n : Nat) (v : Int32) : Prop := v = nI (nN v) ∧ nN v < n
def oB (v : Int32) : Prop := v = -1 ∨ nB 100 v
theorem nN_nI {n : Nat} (h : n < 2 ^ 31) : nN (nI n) = n := nI_clamp h
theorem nB_nI {n m : Nat} (h : n < m) (h2 : n < 2 ^ 31) : nB m (nI n) := by
  unfold nB
  rw [nN_nI h2]
  exact ⟨rfl, h⟩
/-- the range of an entry of the state array -/
def rg (i : Nat) (v : Int32) : Prop := (i = 2 → nB 101 v) ∧ (i = 3 → nB 301 v) ∧ (21 ≤ i → i < 25 → nB 21 v) ∧ (29 ≤ i → i < 109 → nB 100 v) ∧ (109 ≤ i → i < 121 → oB v) ∧ (133 ≤ i → i < 173 → oB v) ∧ (173 ≤ i → i < 273 → nB 8 v)
def mI (X : JV) : Prop := ∀ i, rg i (X i)
theorem mI.set {X : JV} {i : Nat} {v : Int32} (h : mI X) (hr : rg i v) : mI (w1 X i v) := fun j => by
  by_cases e : j = i
  · subst e; rw [w1_eq]; exact hr
  · rw [w1_ne e]; exact h j
theorem rg_free {i : Nat} {v : Int32} (h : i < 2 ∨ 3 < i ∧ i < 21 ∨ 25 ≤ i ∧ i < 29 ∨ 121 ≤ i ∧ i < 133 ∨ 273 ≤ i) : rg i v := by
  unfold rg
  refine ⟨?_, ?_, ?_, ?_, ?_, ?_, ?_⟩ <;> (intros; exfalso; omega)
theorem rg_loop {i : Nat} {v : Int32} (h : 133 ≤ i ∧ i < 173) (hv : oB v) : rg i v := by
  unfold rg
  refine ⟨?_, ?_, ?_, ?_, ?_, fun _ _ => hv, ?_⟩ <;> (intros; exfalso; omega)
theorem rg_own {i : Nat} {v : Int32} (h : 109 ≤ i ∧ i < 121) (hv : oB v) : rg i v := by
  unfold rg
  refine ⟨?_, ?_, ?_, ?_, fun _ _ => hv, ?_, ?_⟩ <;> (intros; exfalso; omega)
theorem rg_lane {i : Nat} {v : Int32} (h : 29 ≤ i ∧ i < 109) (hv : nB 100 v) : rg i v := by
  unfold rg
  refine ⟨?_, ?_, ?_, fun _ _ => hv, ?_, ?_, ?_⟩ <;> (intros; exfalso; omega)
theorem rg_held {i : Nat} {v : Int32} (h : 21 ≤ i ∧ i < 25) (hv : nB 21 v) : rg i v := by
  unfold rg
  refine ⟨?_, ?_, fun _ _ => hv, ?_, ?_, ?_, ?_⟩ <;> (intros; exfalso; omega)
theorem rg_fl {i : Nat} {v : Int32} (h : 173 ≤ i ∧ i < 273) (hv : nB 8 v) : rg i v := by
  unfold rg
  refine ⟨?_, ?_, ?_, ?_, ?_, ?_, fun _ _ => hv⟩ <;> (intros; exfalso; omega)
theorem rg_many {v : Int32} (hv : nB 101 v) : rg 2 v := by
  unfold rg
  refine ⟨fun _ => hv, ?_, ?_, ?_, ?_, ?_, ?_⟩ <;> (intros; exfalso; omega)
theorem rg_log {v : Int32} (hv : nB 301 v) : rg 3 v := by
  unfold rg
  refine ⟨?_, fun _ => hv, ?_, ?_, ?_, ?_, ?_⟩ <;> (intros; exfalso; omega)
def mC (X : JV) : Nat := nN (X 2)
def mF (X : JV) (b : Nat) : Nat := nN (X (173 + b))
def mE (X : JV) : Nat := nN (X 3)
def mHe (X : JV) (l : Nat) : Nat := nN (X (21 + l))
def mLb (X : JV) (j : Nat) : Nat := nN (X (29 + j))
theorem mI.c {X : JV} (h : mI X) : X 2 = nI (mC X) ∧ mC X < 101 := (h 2).1 rfl
theorem mI.e {X : JV} (h : mI X) : X 3 = nI (mE X) ∧ mE X < 301 := (h 3).2.1 rfl
theorem mI.f {X : JV} (h : mI X) {b : Nat} (hb : b < 100) : X (173 + b) = nI (mF X b) ∧ mF X b < 8 := (h (173 + b)).2.2.2.2.2.2 (by omega) (by omega)
theorem mI.he {X : JV} (h : mI X) {l : Nat} (hl : l < 4) : X (21 + l) = nI (mHe X l) ∧ mHe X l < 21 := (h (21 + l)).2.2.1 (by omega) (by omega)
theorem mI.lb {X : JV} (h : mI X) {l : Nat} (hl : l < 80) : X (29 + l) = nI (mLb X l) ∧ mLb X l < 100 := (h (29 + l)).2.2.2.1 (by omega) (by omega)
theorem mI.ow {X : JV} (h : mI X) {l : Nat} (hl : l < 12) : oB (X (109 + l)) := (h (109 + l)).2.2.2.2.1 (by omega) (by omega)
theorem mI.lo {X : JV} (h : mI X) {l : Nat} (hl : l < 40) : oB (X (133 + l)) := (h (133 + l)).2.2.2.2.2.1 (by omega) (by omega)
/-- the plan's array -/
def mQ (Q : JV) : Prop := (nB 41 (Q 0) ∧ 1 ≤ nN (Q 0)) ∧ nB (nN (Q 0)) (Q 1) ∧ (∀ k, k < 3 → nB 5 (Q (3 + k))) ∧ nB 5 (Q 13) ∧ (∀ k, k < 4 → nB 40 (Q (23 + k))) ∧ nB 5 (Q 34) ∧ nB 4 (Q 14) ∧ (∀ k, k < 4 → nB 21 (Q (27 + k)))
def qLen (Q : JV) : Nat := nN (Q 0)
def mPh (X : JV) (f : Nat) : Int32 := if X (5 + f) ≤ X 0 then (if X (13 + f) ≤ X 0 then 2 else 1) else 0
def mOf (X : JV) (b : Nat) : Int32 := mPh X (mF X b)
def mHot (X : JV) (b : Nat) : Int32 := if X 4 < X (13 + mF X b) - X 0 then 0 else 1
def mSo (X : JV) (a b : Nat) : Int32 := X (13 + mF X a) - X (13 + mF X b)
def mAh (X : JV) (a b : Nat) : Int32 := if mHot X a = mHot X b then (if mSo X a b = 0 then (if X (273 + a) = X (273 + b) then (if nI b ≤ nI a then 0 else 1) else if X (273 + b) ≤ X (273 + a) then 0 else 1) else if 0 ≤ mSo X a b then 0 else 1) else mHot X a
def mFs (X : JV) (s : Int32) (i : Nat) (best : Int32) : Int32 := if X (373 + i) = s then (if best = -1 then nI i else if mAh X i (nN best) = 0 then best else nI i) else best
def mFi (X : JV) (s : Int32) : Nat → Int32
  | 0 => -1
  | i + 1 => mFs X s i (mFi X s i)
def mIn (X : JV) (s : Int32) : Nat → Nat
  | 0 => 0
  | i + 1 => if X (373 + i) = s then mIn X s i + 1 else mIn X s i
def mBe1 (X : JV) (b : Nat) (s : Int32) : JV := w1 (w1 X (373 + b) s) (773 + b) (if s = 9 then -1 else X 0)
def mBe2 (X : JV) (b : Nat) (s : Int32) : JV := w1 (w1 (w1 (w1 (w1 X (873 + 4 * mE X) (X 0)) (873 + 4 * mE X + 1) s) (873 + 4 * mE X + 2) (nI b)) (873 + 4 * mE X + 3) (X (173 + b))) 3 (nI (mE X + 1))
def mBe (X : JV) (b : Nat) (s : Int32) : JV := if X 3 = 300 then mBe1 X b s else mBe2 (mBe1 X b s) b s
def mLv (X : JV) (p b : Nat) : JV := w1 (w1 X (133 + p) (-1)) (473 + b) (-1)
def mOn (X : JV) (b p : Nat) : JV := w1 (w1 (w1 X (133 + p) (nI b)) (473 + b) (nI p)) (373 + b) 8
theorem mFi_oB {X : JV} {s : Int32} : ∀ i, i ≤ 100 → mFi X s i = -1 ∨ nB i (mFi X s i)
  | 0, _ => Or.inl rfl
  | i + 1, h => by
    have ih := mFi_oB (X := X) (s := s) i (by omega)
    have hn : mFi X s i = -1 ∨ nB (i + 1) (mFi X s i) := by
      rcases ih with e | e
      · exact Or.inl e
      · exact Or.inr ⟨e.1, by have := e.2; omega⟩
    have hi : nB (i + 1) (nI i) := nB_nI (by omega) (by omega)
    rw [mFi, mFs]
    split
    · split
      · exact Or.inr hi
      · split
        · exact hn
        · exact Or.inr hi
    · exact hn
section M27
variable {Γ : Gam} {d : Nat} {T : JT} {R S : JR} {I A : JI} {L : JL} {D : JD} {z : Option Nat} {mo u : Nat} {X : JV}
theorem ex_min {v lo hi : Int32} {M : JM} : Ex Γ (d) Y_X9_in [.int v, .int lo, .int hi] M 0 0 (rI (if v < lo then 0 else if hi < v then 0 else 1) M) := by
  refine Ex.of (by decide) (by simp [Value.category]) (Nat.le_of_ble_eq_true rfl) rfl ?_
  refine jj_iload_n (q := 1) dX9_in_0 rfl rfl rfl ?_
  refine jj_iload_n (q := 2) dX9_in_1 rfl rfl rfl ?_
  refine jj_icmp_lt (q := 5) (tgt := 14) dX9_in_2 rfl rfl (fun h2 => ?_) (fun h2 => ?_)
  · refine jj_iconst (v := 0) (q := 15) dX9_in_14 rfl rfl ?_
    refine jj_zret dX9_in_15 rfl (by first | rfl | assumption) (Nat.zero_le _) (Nat.zero_le _) ?_
    exact ⟨by (first | rw [if_pos h2] | rw [if_neg h2] | skip); (first | rw [if_pos h7] | rw [if_neg h7] | skip), rfl⟩
  · refine jj_iload_n (q := 6) dX9_in_5 rfl rfl rfl ?_
    refine jj_iload_n (q := 7) dX9_in_6 rfl rfl rfl ?_
    refine jj_icmp_gt (q := 10) (tgt := 14) dX9_in_7 rfl rfl (fun h7 => ?_) (fun h7 => ?_)
    · refine jj_iconst (v := 0) (q := 15) dX9_in_14 rfl rfl ?_
      refine jj_zret dX9_in_15 rfl (by first | rfl | assumption) (Nat.zero_le _) (Nat.zero_le _) ?_
      exact ⟨by (first | rw [if_pos h2] | rw [if_neg h2] | skip); (first | rw [if_pos h7] | rw [if_neg h7] | skip), rfl⟩
    · refine jj_iconst (v := 1) (q := 11) dX9_in_10 rfl rfl ?_
      refine jj_goto (tgt := 15) dX9_in_11 rfl ?_
      refine jj_zret dX9_in_15 rfl (by first | rfl | assumption) (Nat.zero_le _) (Nat.zero_le _) ?_
      exact ⟨by (first | rw [if_pos h2] | rw [if_neg h2] | skip); (first | rw [if_pos h7] | rw [if_neg h7] | skip), rfl⟩
theorem ex_flightIs (hm : hMo T S mo) (hu : 4 ≤ u ∧ u ≤ 6) {f : Nat} (hf : f < 8) : Ex Γ (d) Y_X9_flightIs [.ref (mo + u), .int (nI f)] (T, R, S, blk 18 I mo (st A u X), L, D, z) 0 0 (rI (mPh X f) (T, R, S, blk 18 I mo (st A u X), L, D, z)) := by
  refine Ex.of (by decide) (by simp [Value.category]) (Nat.le_of_ble_eq_true rfl) rfl ?_
  refine jj_aload_n (q := 1) dX9_flightIs_0 rfl rfl rfl ?_
  refine jj_iconst (v := 0) (q := 2) dX9_flightIs_1 rfl rfl ?_
  refine jj_ialdN (q := 3) (j := 0) dX9_flightIs_2 (hm.tu hu) (blk_st (show u < 18 by omega)) rfl (by omega) rfl ?_
  refine jj_aload_n (q := 4) dX9_flightIs_3 rfl rfl rfl ?_
  refine jj_iconst (v := 5) (q := 5) dX9_flightIs_4 rfl rfl ?_
  refine jj_iload_n (q := 6) dX9_flightIs_5 rfl rfl rfl ?_
  refine jj_iaddN (q := 7) (a := 5) (b := f) dX9_flightIs_6 rfl rfl rfl ?_
  refine jj_ialdN (q := 8) (j := 5 + f) dX9_flightIs_7 (hm.tu hu) (blk_st (show u < 18 by omega)) rfl (by omega) rfl ?_
  refine jj_icmp_ge (q := 11) (tgt := 15) dX9_flightIs_8 rfl rfl (fun h8 => ?_) (fun h8 => ?_)
  · refine jj_aload_n (q := 16) dX9_flightIs_15 rfl rfl rfl ?_
    refine jj_iconst (v := 0) (q := 17) dX9_flightIs_16 rfl rfl ?_
    refine jj_ialdN (q := 18) (j := 0) dX9_flightIs_17 (hm.tu hu) (blk_st (show u < 18 by omega)) rfl (by omega) rfl ?_
    refine jj_aload_n (q := 19) dX9_flightIs_18 rfl rfl rfl ?_
    refine jj_bipush (v := 13) (q := 21) dX9_flightIs_19 rfl rfl ?_
    refine jj_iload_n (q := 22) dX9_flightIs_21 rfl rfl rfl ?_
    refine jj_iaddN (q := 23) (a := 13) (b := f) dX9_flightIs_22 rfl rfl rfl ?_
    refine jj_ialdN (q := 24) (j := 13 + f) dX9_flightIs_23 (hm.tu hu) (blk_st (show u < 18 by omega)) rfl (by omega) rfl ?_
    refine jj_icmp_ge (q := 27) (tgt := 31) dX9_flightIs_24 rfl rfl (fun h24 => ?_) (fun h24 => ?_)
    · refine jj_iconst (v := 2) (q := 32) dX9_flightIs_31 rfl rfl ?_
      refine jj_iret dX9_flightIs_32 rfl (Nat.zero_le _) (Nat.zero_le _) ?_
      exact ⟨by unfold mPh; (first | rw [if_pos h8] | rw [if_neg h8] | skip); (first | rw [if_pos h24] | rw [if_neg h24] | skip), rfl⟩
    · refine jj_iconst (v := 1) (q := 28) dX9_flightIs_27 rfl rfl ?_
      refine jj_goto (tgt := 32) dX9_flightIs_28 rfl ?_
      refine jj_iret dX9_flightIs_32 rfl (Nat.zero_le _) (Nat.zero_le _) ?_
      exact ⟨by unfold mPh; (first | rw [if_pos h8] | rw [if_neg h8] | skip); (first | rw [if_pos h24] | rw [if_neg h24] | skip), rfl⟩
  · refine jj_iconst (v := 0) (q := 12) dX9_flightIs_11 rfl rfl ?_
    refine jj_goto (tgt := 32) dX9_flightIs_12 rfl ?_
    refine jj_iret dX9_flightIs_32 rfl (Nat.zero_le _) (Nat.zero_le _) ?_
    exact ⟨by unfold mPh; (first | rw [if_pos h8] | rw [if_neg h8] | skip); (first | rw [if_pos h24] | rw [if_neg h24] | skip), rfl⟩
theorem ex_isOf (hm : hMo T S mo) (hu : 4 ≤ u ∧ u ≤ 6) (hX : mI X) {b : Nat} (hb : b < 100) : Ex Γ (d + 1) Y_X9_isOf [.ref (mo + u), .int (nI b)] (T, R, S, blk 18 I mo (st A u X), L, D, z) 0 0 (rI (mOf X b) (T, R, S, blk 18 I mo (st A u X), L, D, z)) := by
  have hf := hX.f hb
  refine Ex.of (by decide) (by simp [Value.category]) (Nat.le_of_ble_eq_true rfl) rfl ?_
  refine jj_aload_n (q := 1) dX9_isOf_0 rfl rfl rfl ?_
  refine jj_aload_n (q := 2) dX9_isOf_1 rfl rfl rfl ?_
  refine jj_sipush (v := 173) (q := 5) dX9_isOf_2 rfl rfl ?_
  refine jj_iload_n (q := 6) dX9_isOf_5 rfl rfl rfl ?_
  refine jj_iaddN (q := 7) (a := 173) (b := b) dX9_isOf_6 rfl rfl rfl ?_
  refine jj_ialdW (q := 8) (j := 173 + b) (v := nI (mF X b)) dX9_isOf_7 (hm.tu hu) (blk_st (show u < 18 by omega)) rfl (by omega) hf.1 rfl ?_
  refine jj_cS2i (q := 11) dX9_isOf_8 yk_X9_flightIs ml_X9_257 (ex_flightIs hm hu hf.2) rfl rfl rfl ⟨Nat.zero_le _, Nat.zero_le _⟩ ?_
  refine jj_iret dX9_isOf_11 rfl (Nat.zero_le _) (Nat.zero_le _) ?_
  exact ⟨rfl, rfl⟩
theorem ex_hot (hm : hMo T S mo) (hu : 4 ≤ u ∧ u ≤ 6) (hX : mI X) {b : Nat} (hb : b < 100) : Ex Γ (d) Y_X9_hot [.ref (mo + u), .int (nI b)] (T, R, S, blk 18 I mo (st A u X), L, D, z) 0 0 (rI (mHot X b) (T, R, S, blk 18 I mo (st A u X), L, D, z)) := by
  have hf := hX.f hb
  refine Ex.of (by decide) (by simp [Value.category]) (Nat.le_of_ble_eq_true rfl) rfl ?_
  refine jj_aload_n (q := 1) dX9_hot_0 rfl rfl rfl ?_
  refine jj_bipush (v := 13) (q := 3) dX9_hot_1 rfl rfl ?_
  refine jj_aload_n (q := 4) dX9_hot_3 rfl rfl rfl ?_
  refine jj_sipush (v := 173) (q := 7) dX9_hot_4 rfl rfl ?_
  refine jj_iload_n (q := 8) dX9_hot_7 rfl rfl rfl ?_
  refine jj_iaddN (q := 9) (a := 173) (b := b) dX9_hot_8 rfl rfl rfl ?_
  refine jj_ialdW (q := 10) (j := 173 + b) (v := nI (mF X b)) dX9_hot_9 (hm.tu hu) (blk_st (show u < 18 by omega)) rfl (by omega) hf.1 rfl ?_
  refine jj_iaddN (q := 11) (a := 13) (b := mF X b) dX9_hot_10 rfl rfl rfl ?_
  refine jj_ialdN (q := 12) (j := 13 + (mF X b)) dX9_hot_11 (hm.tu hu) (blk_st (show u < 18 by omega)) rfl (by omega) rfl ?_
  refine jj_aload_n (q := 13) dX9_hot_12 rfl rfl rfl ?_
  refine jj_iconst (v := 0) (q := 14) dX9_hot_13 rfl rfl ?_
  refine jj_ialdN (q := 15) (j := 0) dX9_hot_14 (hm.tu hu) (blk_st (show u < 18 by omega)) rfl (by omega) rfl ?_
  refine jj_isub (q := 16) dX9_hot_15 rfl ?_
  refine jj_aload_n (q := 17) dX9_hot_16 rfl rfl rfl ?_
  refine jj_iconst (v := 4) (q := 18) dX9_hot_17 rfl rfl ?_
  refine jj_ialdN (q := 19) (j := 4) dX9_hot_18 (hm.tu hu) (blk_st (show u < 18 by omega)) rfl (by omega) rfl ?_
  refine jj_icmp_gt (q := 22) (tgt := 26) dX9_hot_19 rfl rfl (fun h19 => ?_) (fun h19 => ?_)
  · refine jj_iconst (v := 0) (q := 27) dX9_hot_26 rfl rfl ?_
    refine jj_zret dX9_hot_27 rfl (by first | rfl | assumption) (Nat.zero_le _) (Nat.zero_le _) ?_
    exact ⟨by unfold mHot; (first | rw [if_pos h19] | rw [if_neg h19] | skip), rfl⟩
  · refine jj_iconst (v := 1) (q := 23) dX9_hot_22 rfl rfl ?_
    refine jj_goto (tgt := 27) dX9_hot_23 rfl ?_
    refine jj_zret dX9_hot_27 rfl (by first | rfl | assumption) (Nat.zero_le _) (Nat.zero_le _) ?_
    exact ⟨by unfold mHot; (first | rw [if_pos h19] | rw [if_neg h19] | skip), rfl⟩
theorem ex_isAhead (hm : hMo T S mo) (hu : 4 ≤ u ∧ u ≤ 6) (hX : mI X) {a b : Nat} (ha : a < 100) (hb : b < 100) : Ex Γ (d + 1) Y_X9_isAhead [.ref (mo + u), .int (nI a), .int (nI b)] (T, R, S, blk 18 I mo (st A u X), L, D, z) 0 0 (rI (mAh X a b) (T, R, S, blk 18 I mo (st A u X), L, D, z)) := by
  have hfa := hX.f ha
  have hfb := hX.f hb
  refine Ex.of (by decide) (by simp [Value.category]) (Nat.le_of_ble_eq_true rfl) rfl ?_
  refine jj_aload_n (q := 1) dX9_isAhead_0 rfl rfl rfl ?_
  refine jj_iload_n (q := 2) dX9_isAhead_1 rfl rfl rfl ?_
  refine jj_cS2i (q := 5) dX9_isAhead_2 yk_X9_hot ml_X9_261 (ex_hot hm hu hX ha) rfl rfl rfl ⟨Nat.zero_le _, Nat.zero_le _⟩ ?_
  refine jj_aload_n (q := 6) dX9_isAhead_5 rfl rfl rfl ?_
  refine jj_iload_n (q := 7) dX9_isAhead_6 rfl rfl rfl ?_
  refine jj_cS2i (q := 10) dX9_isAhead_7 yk_X9_hot ml_X9_261 (ex_hot hm hu hX hb) rfl rfl rfl ⟨Nat.zero_le _, Nat.zero_le _⟩ ?_
  refine jj_icmp_eq (q := 13) (tgt := 19) dX9_isAhead_10 rfl rfl (fun h10 => ?_) (fun h10 => ?_)
  · refine jj_aload_n (q := 20) dX9_isAhead_19 rfl rfl rfl ?_
    refine jj_bipush (v := 13) (q := 22) dX9_isAhead_20 rfl rfl ?_
    refine jj_aload_n (q := 23) dX9_isAhead_22 rfl rfl rfl ?_
    refine jj_sipush (v := 173) (q := 26) dX9_isAhead_23 rfl rfl ?_
    refine jj_iload_n (q := 27) dX9_isAhead_26 rfl rfl rfl ?_
    refine jj_iaddN (q := 28) (a := 173) (b := a) dX9_isAhead_27 rfl rfl rfl ?_
    refine jj_ialdW (q := 29) (j := 173 + a) (v := nI (mF X a)) dX9_isAhead_28 (hm.tu hu) (blk_st (show u < 18 by omega)) rfl (by omega) hfa.1 rfl ?_
    refine jj_iaddN (q := 30) (a := 13) (b := mF X a) dX9_isAhead_29 rfl rfl rfl ?_
    refine jj_ialdN (q := 31) (j := 13 + (mF X a)) dX9_isAhead_30 (hm.tu hu) (blk_st (show u < 18 by omega)) rfl (by omega) rfl ?_
    refine jj_aload_n (q := 32) dX9_isAhead_31 rfl rfl rfl ?_
    refine jj_bipush (v := 13) (q := 34) dX9_isAhead_32 rfl rfl ?_
    refine jj_aload_n (q := 35) dX9_isAhead_34 rfl rfl rfl ?_
    refine jj_sipush (v := 173) (q := 38) dX9_isAhead_35 rfl rfl ?_
    refine jj_iload_n (q := 39) dX9_isAhead_38 rfl rfl rfl ?_
    refine jj_iaddN (q := 40) (a := 173) (b := b) dX9_isAhead_39 rfl rfl rfl ?_
    refine jj_ialdW (q := 41) (j := 173 + b) (v := nI (mF X b)) dX9_isAhead_40 (hm.tu hu) (blk_st (show u < 18 by omega)) rfl (by omega) hfb.1 rfl ?_
    refine jj_iaddN (q := 42) (a := 13) (b := mF X b) dX9_isAhead_41 rfl rfl rfl ?_
    refine jj_ialdN (q := 43) (j := 13 + (mF X b)) dX9_isAhead_42 (hm.tu hu) (blk_st (show u < 18 by omega)) rfl (by omega) rfl ?_
    refine jj_isub (q := 44) dX9_isAhead_43 rfl ?_
    refine jj_istore_n (q := 45) dX9_isAhead_44 rfl (by decide) rfl ?_
    refine jj_iload_n (q := 46) dX9_isAhead_45 rfl rfl rfl ?_
    refine jj_if_eq (q := 49) (tgt := 59) dX9_isAhead_46 rfl rfl (fun h46 => ?_) (fun h46 => ?_)
    · refine jj_aload_n (q := 60) dX9_isAhead_59 rfl rfl rfl ?_
      refine jj_sipush (v := 273) (q := 63) dX9_isAhead_60 rfl rfl ?_
      refine jj_iload_n (q := 64) dX9_isAhead_63 rfl rfl rfl ?_
      refine jj_iaddN (q := 65) (a := 273) (b := a) dX9_isAhead_64 rfl rfl rfl ?_
      refine jj_ialdN (q := 66) (j := 273 + a) dX9_isAhead_65 (hm.tu hu) (blk_st (show u < 18 by omega)) rfl (by omega) rfl ?_
      refine jj_aload_n (q := 67) dX9_isAhead_66 rfl rfl rfl ?_
      refine jj_sipush (v := 273) (q := 70) dX9_isAhead_67 rfl rfl ?_
      refine jj_iload_n (q := 71) dX9_isAhead_70 rfl rfl rfl ?_
      refine jj_iaddN (q := 72) (a := 273) (b := b) dX9_isAhead_71 rfl rfl rfl ?_
      refine jj_ialdN (q := 73) (j := 273 + b) dX9_isAhead_72 (hm.tu hu) (blk_st (show u < 18 by omega)) rfl (by omega) rfl ?_
      refine jj_icmp_eq (q := 76) (tgt := 101) dX9_isAhead_73 rfl rfl (fun h73 => ?_) (fun h73 => ?_)
      · refine jj_iload_n (q := 102) dX9_isAhead_101 rfl rfl rfl ?_
        refine jj_iload_n (q := 103) dX9_isAhead_102 rfl rfl rfl ?_
        refine jj_icmp_ge (q := 106) (tgt := 110) dX9_isAhead_103 rfl rfl (fun h103 => ?_) (fun h103 => ?_)
        · refine jj_iconst (v := 0) (q := 111) dX9_isAhead_110 rfl rfl ?_
          refine jj_zret dX9_isAhead_111 rfl (by first | rfl | assumption) (Nat.zero_le _) (Nat.zero_le _) ?_
          exact ⟨by unfold mAh mSo; (first | rw [if_pos h10] | rw [if_neg h10] | skip); (first | rw [if_pos h46] | rw [if_neg h46] | skip); (first | rw [if_pos h50] | rw [if_neg h50] | skip); (first | rw [if_pos h73] | rw [if_neg h73] | skip); (first | rw [if_pos h90] | rw [if_neg h90] | skip); (first | rw [if_pos h103] | rw [if_neg h103] | skip), rfl⟩
        · refine jj_iconst (v := 1) (q := 107) dX9_isAhead_106 rfl rfl ?_
          refine jj_goto (tgt := 111) dX9_isAhead_107 rfl ?_
          refine jj_zret dX9_isAhead_111 rfl (by first | rfl | assumption) (Nat.zero_le _) (Nat.zero_le _) ?_
          exact ⟨by unfold mAh mSo; (first | rw [if_pos h10] | rw [if_neg h10] | skip); (first | rw [if_pos h46] | rw [if_neg h46] | skip); (first | rw [if_pos h50] | rw [if_neg h50] | skip); (first | rw [if_pos h73] | rw [if_neg h73] | skip); (first | rw [if_pos h90] | rw [if_neg h90] | skip); (first | rw [if_pos h103] | rw [if_neg h103] | skip), rfl⟩
      · refine jj_aload_n (q := 77) dX9_isAhead_76 rfl rfl rfl ?_
        refine jj_sipush (v := 273) (q := 80) dX9_isAhead_77 rfl rfl ?_
        refine jj_iload_n (q := 81) dX9_isAhead_80 rfl rfl rfl ?_
        refine jj_iaddN (q := 82) (a := 273) (b := a) dX9_isAhead_81 rfl rfl rfl ?_
        refine jj_ialdN (q := 83) (j := 273 + a) dX9_isAhead_82 (hm.tu hu) (blk_st (show u < 18 by omega)) rfl (by omega) rfl ?_
        refine jj_aload_n (q := 84) dX9_isAhead_83 rfl rfl rfl ?_
        refine jj_sipush (v := 273) (q := 87) dX9_isAhead_84 rfl rfl ?_
        refine jj_iload_n (q := 88) dX9_isAhead_87 rfl rfl rfl ?_
        refine jj_iaddN (q := 89) (a := 273) (b := b) dX9_isAhead_88 rfl rfl rfl ?_
        refine jj_ialdN (q := 90) (j := 273 + b) dX9_isAhead_89 (hm.tu hu) (blk_st (show u < 18 by omega)) rfl (by omega) rfl ?_
        refine jj_icmp_ge (q := 93) (tgt := 97) dX9_isAhead_90 rfl rfl (fun h90 => ?_) (fun h90 => ?_)
        · refine jj_iconst (v := 0) (q := 98) dX9_isAhead_97 rfl rfl ?_
          refine jj_goto (tgt := 111) dX9_isAhead_98 rfl ?_
          refine jj_zret dX9_isAhead_111 rfl (by first | rfl | assumption) (Nat.zero_le _) (Nat.zero_le _) ?_
          exact ⟨by unfold mAh mSo; (first | rw [if_pos h10] | rw [if_neg h10] | skip); (first | rw [if_pos h46] | rw [if_neg h46] | skip); (first | rw [if_pos h50] | rw [if_neg h50] | skip); (first | rw [if_pos h73] | rw [if_neg h73] | skip); (first | rw [if_pos h90] | rw [if_neg h90] | skip); (first | rw [if_pos h103] | rw [if_neg h103] | skip), rfl⟩
        · refine jj_iconst (v := 1) (q := 94) dX9_isAhead_93 rfl rfl ?_
          refine jj_goto (tgt := 111) dX9_isAhead_94 rfl ?_
          refine jj_zret dX9_isAhead_111 rfl (by first | rfl | assumption) (Nat.zero_le _) (Nat.zero_le _) ?_
          exact ⟨by unfold mAh mSo; (first | rw [if_pos h10] | rw [if_neg h10] | skip); (first | rw [if_pos h46] | rw [if_neg h46] | skip); (first | rw [if_pos h50] | rw [if_neg h50] | skip); (first | rw [if_pos h73] | rw [if_neg h73] | skip); (first | rw [if_pos h90] | rw [if_neg h90] | skip); (first | rw [if_pos h103] | rw [if_neg h103] | skip), rfl⟩
    · refine jj_iload_n (q := 50) dX9_isAhead_49 rfl rfl rfl ?_
      refine jj_if_ge (q := 53) (tgt := 57) dX9_isAhead_50 rfl rfl (fun h50 => ?_) (fun h50 => ?_)
      · refine jj_iconst (v := 0) (q := 58) dX9_isAhead_57 rfl rfl ?_
        refine jj_zret dX9_isAhead_58 rfl (by first | rfl | assumption) (Nat.zero_le _) (Nat.zero_le _) ?_
        exact ⟨by unfold mAh mSo; (first | rw [if_pos h10] | rw [if_neg h10] | skip); (first | rw [if_pos h46] | rw [if_neg h46] | skip); (first | rw [if_pos h50] | rw [if_neg h50] | skip); (first | rw [if_pos h73] | rw [if_neg h73] | skip); (first | rw [if_pos h90] | rw [if_neg h90] | skip); (first | rw [if_pos h103] | rw [if_neg h103] | skip), rfl⟩
      · refine jj_iconst (v := 1) (q := 54) dX9_isAhead_53 rfl rfl ?_
        refine jj_goto (tgt := 58) dX9_isAhead_54 rfl ?_
        refine jj_zret dX9_isAhead_58 rfl (by first | rfl | assumption) (Nat.zero_le _) (Nat.zero_le _) ?_
        exact ⟨by unfold mAh mSo; (first | rw [if_pos h10] | rw [if_neg h10] | skip); (first | rw [if_pos h46] | rw [if_neg h46] | skip); (first | rw [if_pos h50] | rw [if_neg h50] | skip); (first | rw [if_pos h73] | rw [if_neg h73] | skip); (first | rw [if_pos h90] | rw [if_neg h90] | skip); (first | rw [if_pos h103] | rw [if_neg h103] | skip), rfl⟩
  · refine jj_aload_n (q := 14) dX9_isAhead_13 rfl rfl rfl ?_
    refine jj_iload_n (q := 15) dX9_isAhead_14 rfl rfl rfl ?_
    refine jj_cS2i (q := 18) dX9_isAhead_15 yk_X9_hot ml_X9_261 (ex_hot hm hu hX ha) rfl rfl rfl ⟨Nat.zero_le _, Nat.zero_le _⟩ ?_
    refine jj_zret dX9_isAhead_18 rfl (by unfold mHot; split <;> rfl) (Nat.zero_le _) (Nat.zero_le _) ?_
    exact ⟨by unfold mAh mSo; (first | rw [if_pos h10] | rw [if_neg h10] | skip); (first | rw [if_pos h46] | rw [if_neg h46] | skip); (first | rw [if_pos h50] | rw [if_neg h50] | skip); (first | rw [if_pos h73] | rw [if_neg h73] | skip); (first | rw [if_pos h90] | rw [if_neg h90] | skip); (first | rw [if_pos h103] | rw [if_neg h103] | skip), rfl⟩
theorem lp_firstIn (hm : hMo T S mo) (hu : 4 ≤ u ∧ u ≤ 6) {c : Nat} (hX : mI X) (hc : mC X = c) {s : Int32} : ∀ (k i : Nat) (best : Int32), (i + k = c ∧ best = mFi X s i) → JJ Γ (jj_E Y_X9_firstIn) (jj_Z Γ (rI (mFi X s c) (T, R, S, blk 18 I mo (st A u X), L, D, z)) 0 0) (jj_rm (d + 2) 0 0) 0 0 4 [some (.ref (mo + u)), some (.int s), some (.int best), some (.int (nI i))] [] (T, R, S, blk 18 I mo (st A u X), L, D, z) := by
  have hc2 : X 2 = nI c := by rw [← hc]; exact hX.c.1
  have hc1 : c < 101 := by rw [← hc]; exact hX.c.2
  intro k
  induction k with
  | zero =>
    intro i best hi
    refine jj_iload_n (q := 5) dX9_firstIn_4 rfl rfl rfl ?_
    refine jj_aload_n (q := 6) dX9_firstIn_5 rfl rfl rfl ?_
    refine jj_iconst (v := 2) (q := 7) dX9_firstIn_6 rfl rfl ?_
    refine jj_ialdW (q := 8) (j := 2) (v := nI c) dX9_firstIn_7 (hm.tu hu) (blk_st (show u < 18 by omega)) rfl (by omega) hc2 rfl ?_
    refine jj_icmp_ge (q := 11) (tgt := 44) dX9_firstIn_8 rfl rfl (fun h8 => ?_) (fun h8 => absurd (nI_le (show c ≤ i by omega) (by omega)) h8)
    refine jj_iload_n (q := 45) dX9_firstIn_44 rfl rfl rfl ?_
    refine jj_iret dX9_firstIn_45 rfl (Nat.zero_le _) (Nat.zero_le _) ?_
    exact ⟨by rw [hi.2, show i = c by omega], rfl⟩
  | succ k ih =>
    intro i best hi
    refine jj_iload_n (q := 5) dX9_firstIn_4 rfl rfl rfl ?_
    refine jj_aload_n (q := 6) dX9_firstIn_5 rfl rfl rfl ?_
    refine jj_iconst (v := 2) (q := 7) dX9_firstIn_6 rfl rfl ?_
    refine jj_ialdW (q := 8) (j := 2) (v := nI c) dX9_firstIn_7 (hm.tu hu) (blk_st (show u < 18 by omega)) rfl (by omega) hc2 rfl ?_
    refine jj_icmp_ge (q := 11) (tgt := 44) dX9_firstIn_8 rfl rfl (fun h8 => absurd h8 ((nI_ge (show i < c by omega) (by omega)))) (fun h8 => ?_)
    refine jj_aload_n (q := 12) dX9_firstIn_11 rfl rfl rfl ?_
    refine jj_sipush (v := 373) (q := 15) dX9_firstIn_12 rfl rfl ?_
    refine jj_iload_n (q := 16) dX9_firstIn_15 rfl rfl rfl ?_
    refine jj_iaddN (q := 17) (a := 373) (b := i) dX9_firstIn_16 rfl rfl rfl ?_
    refine jj_ialdN (q := 18) (j := 373 + i) dX9_firstIn_17 (hm.tu hu) (blk_st (show u < 18 by omega)) rfl (by omega) rfl ?_
    refine jj_iload_n (q := 19) dX9_firstIn_18 rfl rfl rfl ?_
    refine jj_icmp_ne (q := 22) (tgt := 38) dX9_firstIn_19 rfl rfl (fun h19 => ?_) (fun h19 => ?_)
    · refine jj_iinc (v := nI (i + 1)) (q := 41) dX9_firstIn_38 rfl (nI_incn i 1 rfl) (by decide) rfl ?_
      refine jj_goto (tgt := 4) dX9_firstIn_41 rfl ?_
      refine ih (i + 1) _ ⟨by omega, ?_⟩
      rw [mFi, mFs, ← hi.2]
      (first | rw [if_pos h19] | rw [if_neg h19] | skip)
      (first | rw [if_pos h24] | rw [if_neg h24] | skip)
      (first | rw [if_pos h33] | rw [if_neg h33] | skip)
      try exact hb1.symm
    · refine jj_iload_n (q := 23) dX9_firstIn_22 rfl rfl rfl ?_
      refine jj_iconst (v := -1) (q := 24) dX9_firstIn_23 rfl rfl ?_
      refine jj_icmp_eq (q := 27) (tgt := 36) dX9_firstIn_24 rfl rfl (fun h24 => ?_) (fun h24 => ?_)
      · refine jj_iload_n (q := 37) dX9_firstIn_36 rfl rfl rfl ?_
        refine jj_istore_n (q := 38) dX9_firstIn_37 rfl (by decide) rfl ?_
        refine jj_iinc (v := nI (i + 1)) (q := 41) dX9_firstIn_38 rfl (nI_incn i 1 rfl) (by decide) rfl ?_
        refine jj_goto (tgt := 4) dX9_firstIn_41 rfl ?_
        refine ih (i + 1) _ ⟨by omega, ?_⟩
        rw [mFi, mFs, ← hi.2]
        (first | rw [if_pos h19] | rw [if_neg h19] | skip)
        (first | rw [if_pos h24] | rw [if_neg h24] | skip)
        (first | rw [if_pos h33] | rw [if_neg h33] | skip)
        try exact hb1.symm
      · obtain ⟨hb1, hb2⟩ := (mFi_oB (X := X) (s := s) i (by omega)).resolve_left (by rw [← hi.2]; exact h24)
        rw [← hi.2] at hb1 hb2
        have hbb : nN best < 100 := by omega
        rw [hb1]
        refine jj_aload_n (q := 28) dX9_firstIn_27 rfl rfl rfl ?_
        refine jj_iload_n (q := 29) dX9_firstIn_28 rfl rfl rfl ?_
        refine jj_iload_n (q := 30) dX9_firstIn_29 rfl rfl rfl ?_
        refine jj_cS3i (q := 33) dX9_firstIn_30 yk_X9_isAhead ml_X9_264 (ex_isAhead hm hu hX (show i < 100 by omega) hbb) rfl rfl rfl ⟨Nat.zero_le _, Nat.zero_le _⟩ ?_
        refine jj_if_eq (q := 36) (tgt := 38) dX9_firstIn_33 rfl rfl (fun h33 => ?_) (fun h33 => ?_)
        · refine jj_iinc (v := nI (i + 1)) (q := 41) dX9_firstIn_38 rfl (nI_incn i 1 rfl) (by decide) rfl ?_
          refine jj_goto (tgt := 4) dX9_firstIn_41 rfl ?_
          refine ih (i + 1) _ ⟨by omega, ?_⟩
          rw [mFi, mFs, ← hi.2]
          (first | rw [if_pos h19] | rw [if_neg h19] | skip)
          (first | rw [if_pos h24] | rw [if_neg h24] | skip)
          (first | rw [if_pos h33] | rw [if_neg h33] | skip)
          try exact hb1.symm
        · refine jj_iload_n (q := 37) dX9_firstIn_36 rfl rfl rfl ?_
          refine jj_istore_n (q := 38) dX9_firstIn_37 rfl (by decide) rfl ?_
          refine jj_iinc (v := nI (i + 1)) (q := 41) dX9_firstIn_38 rfl (nI_incn i 1 rfl) (by decide) rfl ?_
          refine jj_goto (tgt := 4) dX9_firstIn_41 rfl ?_
          refine ih (i + 1) _ ⟨by omega, ?_⟩
          rw [mFi, mFs, ← hi.2]
          (first | rw [if_pos h19] | rw [if_neg h19] | skip)
          (first | rw [if_pos h24] | rw [if_neg h24] | skip)
          (first | rw [if_pos h33] | rw [if_neg h33] | skip)
          try exact hb1.symm
theorem ex_firstIn (hm : hMo T S mo) (hu : 4 ≤ u ∧ u ≤ 6) {c : Nat} (hX : mI X) (hc : mC X = c) {s : Int32} : Ex Γ (d + 2) Y_X9_firstIn [.ref (mo + u), .int s] (T, R, S, blk 18 I mo (st A u X), L, D, z) 0 0 (rI (mFi X s c) (T, R, S, blk 18 I mo (st A u X), L, D, z)) := by
  refine Ex.of (by decide) (by simp [Value.category]) (Nat.le_of_ble_eq_true rfl) rfl ?_
  refine jj_iconst (v := -1) (q := 1) dX9_firstIn_0 rfl rfl ?_
  refine jj_istore_n (q := 2) dX9_firstIn_1 rfl (by decide) rfl ?_
  refine jj_iconst (v := 0) (q := 3) dX9_firstIn_2 rfl rfl ?_
  refine jj_istore_n (q := 4) dX9_firstIn_3 rfl (by decide) rfl ?_
  exact lp_firstIn hm hu hX hc c 0 (-1) ⟨by omega, rfl⟩
theorem lp_inState (hm : hMo T S mo) (hu : 4 ≤ u ∧ u ≤ 6) {c : Nat} (hX : mI X) (hc : mC X = c) {s : Int32} : ∀ (k i n : Nat), (i + k = c ∧ n = mIn X s i) → JJ Γ (jj_E Y_X9_inState) (jj_Z Γ (rI (nI (mIn X s c)) (T, R, S, blk 18 I mo (st A u X), L, D, z)) 0 0) (jj_rm (d) 0 0) 0 0 4 [some (.ref (mo + u)), some (.int s), some (.int (nI n)), some (.int (nI i))] [] (T, R, S, blk 18 I mo (st A u X), L, D, z) := by
  have hc2 : X 2 = nI c := by rw [← hc]; exact hX.c.1
  have hc1 : c < 101 := by rw [← hc]; exact hX.c.2
  intro k
  induction k with
  | zero =>
    intro i n hi
    refine jj_iload_n (q := 5) dX9_inState_4 rfl rfl rfl ?_
    refine jj_aload_n (q := 6) dX9_inState_5 rfl rfl rfl ?_
    refine jj_iconst (v := 2) (q := 7) dX9_inState_6 rfl rfl ?_
    refine jj_ialdW (q := 8) (j := 2) (v := nI c) dX9_inState_7 (hm.tu hu) (blk_st (show u < 18 by omega)) rfl (by omega) hc2 rfl ?_
    refine jj_icmp_ge (q := 11) (tgt := 36) dX9_inState_8 rfl rfl (fun h8 => ?_) (fun h8 => absurd (nI_le (show c ≤ i by omega) (by omega)) h8)
    refine jj_iload_n (q := 37) dX9_inState_36 rfl rfl rfl ?_
    refine jj_iret dX9_inState_37 rfl (Nat.zero_le _) (Nat.zero_le _) ?_
    exact ⟨by rw [hi.2, show i = c by omega], rfl⟩
  | succ k ih =>
    intro i n hi
    refine jj_iload_n (q := 5) dX9_inState_4 rfl rfl rfl ?_
    refine jj_aload_n (q := 6) dX9_inState_5 rfl rfl rfl ?_
    refine jj_iconst (v := 2) (q := 7) dX9_inState_6 rfl rfl ?_
    refine jj_ialdW (q := 8) (j := 2) (v := nI c) dX9_inState_7 (hm.tu hu) (blk_st (show u < 18 by omega)) rfl (by omega) hc2 rfl ?_
    refine jj_icmp_ge (q := 11) (tgt := 36) dX9_inState_8 rfl rfl (fun h8 => absurd h8 ((nI_ge (show i < c by omega) (by omega)))) (fun h8 => ?_)
    refine jj_iload_n (q := 12) dX9_inState_11 rfl rfl rfl ?_
    refine jj_aload_n (q := 13) dX9_inState_12 rfl rfl rfl ?_
    refine jj_sipush (v := 373) (q := 16) dX9_inState_13 rfl rfl ?_
    refine jj_iload_n (q := 17) dX9_inState_16 rfl rfl rfl ?_
    refine jj_iaddN (q := 18) (a := 373) (b := i) dX9_inState_17 rfl rfl rfl ?_
    refine jj_ialdN (q := 19) (j := 373 + i) dX9_inState_18 (hm.tu hu) (blk_st (show u < 18 by omega)) rfl (by omega) rfl ?_
    refine jj_iload_n (q := 20) dX9_inState_19 rfl rfl rfl ?_
    refine jj_icmp_ne (q := 23) (tgt := 27) dX9_inState_20 rfl rfl (fun h20 => ?_) (fun h20 => ?_)
    · refine jj_iconst (v := 0) (q := 28) dX9_inState_27 rfl rfl ?_
      refine jj_iaddN (q := 29) (a := n) (b := 0) dX9_inState_28 rfl rfl rfl ?_
      refine jj_istore_n (q := 30) dX9_inState_29 rfl (by decide) rfl ?_
      refine jj_iinc (v := nI (i + 1)) (q := 33) dX9_inState_30 rfl (nI_incn i 1 rfl) (by decide) rfl ?_
      refine jj_goto (tgt := 4) dX9_inState_33 rfl ?_
      refine ih (i + 1) _ ⟨by omega, ?_⟩
      rw [mIn, ← hi.2]
      (first | rw [if_pos h20] | rw [if_neg h20])
      try rfl
    · refine jj_iconst (v := 1) (q := 24) dX9_inState_23 rfl rfl ?_
      refine jj_goto (tgt := 28) dX9_inState_24 rfl ?_
      refine jj_iaddN (q := 29) (a := n) (b := 1) dX9_inState_28 rfl rfl rfl ?_
      refine jj_istore_n (q := 30) dX9_inState_29 rfl (by decide) rfl ?_
      refine jj_iinc (v := nI (i + 1)) (q := 33) dX9_inState_30 rfl (nI_incn i 1 rfl) (by decide) rfl ?_
      refine jj_goto (tgt := 4) dX9_inState_33 rfl ?_
      refine ih (i + 1) _ ⟨by omega, ?_⟩
      rw [mIn, ← hi.2]
      (first | rw [if_pos h20] | rw [if_neg h20])
      try rfl
theorem ex_inState (hm : hMo T S mo) (hu : 4 ≤ u ∧ u ≤ 6) {c : Nat} (hX : mI X) (hc : mC X = c) {s : Int32} : Ex Γ (d) Y_X9_inState [.ref (mo + u), .int s] (T, R, S, blk 18 I mo (st A u X), L, D, z) 0 0 (rI (nI (mIn X s c)) (T, R, S, blk 18 I mo (st A u X), L, D, z)) := by
  refine Ex.of (by decide) (by simp [Value.category]) (Nat.le_of_ble_eq_true rfl) rfl ?_
  refine jj_iconst (v := 0) (q := 1) dX9_inState_0 rfl rfl ?_
  refine jj_istore_n (q := 2) dX9_inState_1 rfl (by decide) rfl ?_
  refine jj_iconst (v := 0) (q := 3) dX9_inState_2 rfl rfl ?_
  refine jj_istore_n (q := 4) dX9_inState_3 rfl (by decide) rfl ?_
  exact lp_inState hm hu hX hc c 0 0 ⟨by omega, rfl⟩
theorem mBe1_3 {X : JV} {b : Nat} {s : Int32} {j : Nat} (h : j < 373) : mBe1 X b s j = X j := by
  unfold mBe1
  rw [w1_ne (by omega), w1_ne (by omega)]
theorem mBe1_E {X : JV} {b : Nat} {s : Int32} : mE (mBe1 X b s) = mE X := by unfold mE; rw [mBe1_3 (by omega)]
theorem mBe1_eq {X : JV} {b : Nat} {s v : Int32} (h : (if s = 9 then -1 else X 0) = v) : w1 (w1 X (373 + b) s) (773 + b) v = mBe1 X b s := by subst h; rfl
theorem ex_becomes (hm : hMo T S mo) (hu : 4 ≤ u ∧ u ≤ 6) (hX : mI X) {b : Nat} {s : Int32} (hb : b < 100) : Ex Γ (d) Y_X9_becomes [.ref (mo + u), .int (nI b), .int s] (T, R, S, blk 18 I mo (st A u X), L, D, z) 0 0 (rV (T, R, S, blk 18 I mo (st A u (mBe X b s)), L, D, z)) := by
  have he := hX.e
  refine Ex.of (by decide) (by simp [Value.category]) (Nat.le_of_ble_eq_true rfl) rfl ?_
  refine jj_aload_n (q := 1) dX9_becomes_0 rfl rfl rfl ?_
  refine jj_sipush (v := 373) (q := 4) dX9_becomes_1 rfl rfl ?_
  refine jj_iload_n (q := 5) dX9_becomes_4 rfl rfl rfl ?_
  refine jj_iaddN (q := 6) (a := 373) (b := b) dX9_becomes_5 rfl rfl rfl ?_
  refine jj_iload_n (q := 7) dX9_becomes_6 rfl rfl rfl ?_
  refine jj_iastN (q := 8) (j := 373 + b) dX9_becomes_7 (hm.tu hu) (u2_bst (show u < 18 by omega)) rfl (by omega) rfl ?_
  refine jj_aload_n (q := 9) dX9_becomes_8 rfl rfl rfl ?_
  refine jj_sipush (v := 773) (q := 12) dX9_becomes_9 rfl rfl ?_
  refine jj_iload_n (q := 13) dX9_becomes_12 rfl rfl rfl ?_
  refine jj_iaddN (q := 14) (a := 773) (b := b) dX9_becomes_13 rfl rfl rfl ?_
  refine jj_iload_n (q := 15) dX9_becomes_14 rfl rfl rfl ?_
  refine jj_bipush (v := 9) (q := 17) dX9_becomes_15 rfl rfl ?_
  refine jj_icmp_ne (q := 20) (tgt := 24) dX9_becomes_17 rfl rfl (fun h17 => ?_) (fun h17 => ?_)
  · refine jj_aload_n (q := 25) dX9_becomes_24 rfl rfl rfl ?_
    refine jj_iconst (v := 0) (q := 26) dX9_becomes_25 rfl rfl ?_
    refine jj_ialdN (q := 27) (j := 0) dX9_becomes_26 (hm.tu hu) (blk_st (show u < 18 by omega)) rfl (by omega) rfl ?_
    refine jj_iastN (q := 28) (j := 773 + b) dX9_becomes_27 (hm.tu hu) (u2_bst (show u < 18 by omega)) rfl (by omega) rfl ?_
    rw [mBe1_eq (by first | rw [if_pos h17] | rw [if_neg h17, w1_ne (by omega)])]
    have h3 : mBe1 X b s 3 = nI (mE X) := by rw [mBe1_3 (by omega)]; exact he.1
    refine jj_aload_n (q := 29) dX9_becomes_28 rfl rfl rfl ?_
    refine jj_iconst (v := 3) (q := 30) dX9_becomes_29 rfl rfl ?_
    refine jj_ialdW (q := 31) (j := 3) (v := nI (mE X)) dX9_becomes_30 (hm.tu hu) (blk_st (show u < 18 by omega)) rfl (by omega) h3 rfl ?_
    refine jj_sipush (v := 300) (q := 34) dX9_becomes_31 rfl rfl ?_
    refine jj_icmp_ne (q := 37) (tgt := 38) dX9_becomes_34 rfl rfl (fun h34 => ?_) (fun h34 => ?_)
    · have he2 : mE X < 300 := by
        have : mE X ≠ 300 := fun e => h34 (by rw [e]; rfl)
        omega
      refine jj_sipush (v := 873) (q := 41) dX9_becomes_38 rfl rfl ?_
      refine jj_iconst (v := 4) (q := 42) dX9_becomes_41 rfl rfl ?_
      refine jj_aload_n (q := 43) dX9_becomes_42 rfl rfl rfl ?_
      refine jj_iconst (v := 3) (q := 44) dX9_becomes_43 rfl rfl ?_
      refine jj_ialdW (q := 45) (j := 3) (v := nI (mE X)) dX9_becomes_44 (hm.tu hu) (blk_st (show u < 18 by omega)) rfl (by omega) h3 rfl ?_
      refine jj_imulN (q := 46) (a := 4) (b := mE X) dX9_becomes_45 rfl rfl rfl ?_
      refine jj_iaddN (q := 47) (a := 873) (b := 4 * (mE X)) dX9_becomes_46 rfl rfl rfl ?_
      refine jj_istore_n (q := 48) dX9_becomes_47 rfl (by decide) rfl ?_
      refine jj_aload_n (q := 49) dX9_becomes_48 rfl rfl rfl ?_
      refine jj_iload_n (q := 50) dX9_becomes_49 rfl rfl rfl ?_
      refine jj_aload_n (q := 51) dX9_becomes_50 rfl rfl rfl ?_
      refine jj_iconst (v := 0) (q := 52) dX9_becomes_51 rfl rfl ?_
      refine jj_ialdN (q := 53) (j := 0) dX9_becomes_52 (hm.tu hu) (blk_st (show u < 18 by omega)) rfl (by omega) rfl ?_
      refine jj_iastN (q := 54) (j := 873 + (4 * (mE X))) dX9_becomes_53 (hm.tu hu) (u2_bst (show u < 18 by omega)) rfl (by omega) rfl ?_
      refine jj_aload_n (q := 55) dX9_becomes_54 rfl rfl rfl ?_
      refine jj_iload_n (q := 56) dX9_becomes_55 rfl rfl rfl ?_
      refine jj_iconst (v := 1) (q := 57) dX9_becomes_56 rfl rfl ?_
      refine jj_iaddN (q := 58) (a := 873 + (4 * (mE X))) (b := 1) dX9_becomes_57 rfl rfl rfl ?_
      refine jj_iload_n (q := 59) dX9_becomes_58 rfl rfl rfl ?_
      refine jj_iastN (q := 60) (j := (873 + (4 * (mE X))) + 1) dX9_becomes_59 (hm.tu hu) (u2_bst (show u < 18 by omega)) rfl (by omega) rfl ?_
      refine jj_aload_n (q := 61) dX9_becomes_60 rfl rfl rfl ?_
      refine jj_iload_n (q := 62) dX9_becomes_61 rfl rfl rfl ?_
      refine jj_iconst (v := 2) (q := 63) dX9_becomes_62 rfl rfl ?_
      refine jj_iaddN (q := 64) (a := 873 + (4 * (mE X))) (b := 2) dX9_becomes_63 rfl rfl rfl ?_
      refine jj_iload_n (q := 65) dX9_becomes_64 rfl rfl rfl ?_
      refine jj_iastN (q := 66) (j := (873 + (4 * (mE X))) + 2) dX9_becomes_65 (hm.tu hu) (u2_bst (show u < 18 by omega)) rfl (by omega) rfl ?_
      refine jj_aload_n (q := 67) dX9_becomes_66 rfl rfl rfl ?_
      refine jj_iload_n (q := 68) dX9_becomes_67 rfl rfl rfl ?_
      refine jj_iconst (v := 3) (q := 69) dX9_becomes_68 rfl rfl ?_
      refine jj_iaddN (q := 70) (a := 873 + (4 * (mE X))) (b := 3) dX9_becomes_69 rfl rfl rfl ?_
      refine jj_aload_n (q := 71) dX9_becomes_70 rfl rfl rfl ?_
      refine jj_sipush (v := 173) (q := 74) dX9_becomes_71 rfl rfl ?_
      refine jj_iload_n (q := 75) dX9_becomes_74 rfl rfl rfl ?_
      refine jj_iaddN (q := 76) (a := 173) (b := b) dX9_becomes_75 rfl rfl rfl ?_
      refine jj_ialdN (q := 77) (j := 173 + b) dX9_becomes_76 (hm.tu hu) (blk_st (show u < 18 by omega)) rfl (by omega) rfl ?_
      refine jj_iastN (q := 78) (j := (873 + (4 * (mE X))) + 3) dX9_becomes_77 (hm.tu hu) (u2_bst (show u < 18 by omega)) rfl (by omega) rfl ?_
      refine jj_aload_n (q := 79) dX9_becomes_78 rfl rfl rfl ?_
      refine jj_iconst (v := 3) (q := 80) dX9_becomes_79 rfl rfl ?_
      refine jj_dup2 (q := 81) dX9_becomes_80 rfl rfl rfl ?_
      refine jj_ialdW (q := 82) (j := 3) (v := nI (mE X)) dX9_becomes_81 (hm.tu hu) (blk_st (show u < 18 by omega)) rfl (by omega) (by rw [w1_ne (by omega), w1_ne (by omega), w1_ne (by omega), w1_ne (by omega)]; exact h3) rfl ?_
      refine jj_iconst (v := 1) (q := 83) dX9_becomes_82 rfl rfl ?_
      refine jj_iaddN (q := 84) (a := mE X) (b := 1) dX9_becomes_83 rfl rfl rfl ?_
      refine jj_iastN (q := 85) (j := 3) dX9_becomes_84 (hm.tu hu) (u2_bst (show u < 18 by omega)) rfl (by omega) rfl ?_
      refine jj_vret dX9_becomes_85 rfl (Nat.zero_le _) (Nat.zero_le _) ?_
      exact ⟨rfl, by unfold mBe; rw [he.1, if_neg h34]; unfold mBe2; rw [mBe1_E, w1_ne (i := 173 + b) (by omega), w1_ne (i := 173 + b) (by omega), w1_ne (i := 173 + b) (by omega)]⟩
    · refine jj_vret dX9_becomes_37 rfl (Nat.zero_le _) (Nat.zero_le _) ?_
      exact ⟨rfl, by unfold mBe; rw [he.1, if_pos h34]⟩
  · refine jj_iconst (v := -1) (q := 21) dX9_becomes_20 rfl rfl ?_
    refine jj_goto (tgt := 27) dX9_becomes_21 rfl ?_
    refine jj_iastN (q := 28) (j := 773 + b) dX9_becomes_27 (hm.tu hu) (u2_bst (show u < 18 by omega)) rfl (by omega) rfl ?_
    rw [mBe1_eq (by first | rw [if_pos h17] | rw [if_neg h17, w1_ne (by omega)])]
    have h3 : mBe1 X b s 3 = nI (mE X) := by rw [mBe1_3 (by omega)]; exact he.1
    refine jj_aload_n (q := 29) dX9_becomes_28 rfl rfl rfl ?_
    refine jj_iconst (v := 3) (q := 30) dX9_becomes_29 rfl rfl ?_
    refine jj_ialdW (q := 31) (j := 3) (v := nI (mE X)) dX9_becomes_30 (hm.tu hu) (blk_st (show u < 18 by omega)) rfl (by omega) h3 rfl ?_
    refine jj_sipush (v := 300) (q := 34) dX9_becomes_31 rfl rfl ?_
    refine jj_icmp_ne (q := 37) (tgt := 38) dX9_becomes_34 rfl rfl (fun h34 => ?_) (fun h34 => ?_)
    · have he2 : mE X < 300 := by
        have : mE X ≠ 300 := fun e => h34 (by rw [e]; rfl)
        omega
      refine jj_sipush (v := 873) (q := 41) dX9_becomes_38 rfl rfl ?_
      refine jj_iconst (v := 4) (q := 42) dX9_becomes_41 rfl rfl ?_
      refine jj_aload_n (q := 43) dX9_becomes_42 rfl rfl rfl ?_
      refine jj_iconst (v := 3) (q := 44) dX9_becomes_43 rfl rfl ?_
      refine jj_ialdW (q := 45) (j := 3) (v := nI (mE X)) dX9_becomes_44 (hm.tu hu) (blk_st (show u < 18 by omega)) rfl (by omega) h3 rfl ?_
      refine jj_imulN (q := 46) (a := 4) (b := mE X) dX9_becomes_45 rfl rfl rfl ?_
      refine jj_iaddN (q := 47) (a := 873) (b := 4 * (mE X)) dX9_becomes_46 rfl rfl rfl ?_
      refine jj_istore_n (q := 48) dX9_becomes_47 rfl (by decide) rfl ?_
      refine jj_aload_n (q := 49) dX9_becomes_48 rfl rfl rfl ?_
      refine jj_iload_n (q := 50) dX9_becomes_49 rfl rfl rfl ?_
      refine jj_aload_n (q := 51) dX9_becomes_50 rfl rfl rfl ?_
      refine jj_iconst (v := 0) (q := 52) dX9_becomes_51 rfl rfl ?_
      refine jj_ialdN (q := 53) (j := 0) dX9_becomes_52 (hm.tu hu) (blk_st (show u < 18 by omega)) rfl (by omega) rfl ?_
      refine jj_iastN (q := 54) (j := 873 + (4 * (mE X))) dX9_becomes_53 (hm.tu hu) (u2_bst (show u < 18 by omega)) rfl (by omega) rfl ?_
      refine jj_aload_n (q := 55) dX9_becomes_54 rfl rfl rfl ?_
      refine jj_iload_n (q := 56) dX9_becomes_55 rfl rfl rfl ?_
      refine jj_iconst (v := 1) (q := 57) dX9_becomes_56 rfl rfl ?_
      refine jj_iaddN (q := 58) (a := 873 + (4 * (mE X))) (b := 1) dX9_becomes_57 rfl rfl rfl ?_
      refine jj_iload_n (q := 59) dX9_becomes_58 rfl rfl rfl ?_
      refine jj_iastN (q := 60) (j := (873 + (4 * (mE X))) + 1) dX9_becomes_59 (hm.tu hu) (u2_bst (show u < 18 by omega)) rfl (by omega) rfl ?_
      refine jj_aload_n (q := 61) dX9_becomes_60 rfl rfl rfl ?_
      refine jj_iload_n (q := 62) dX9_becomes_61 rfl rfl rfl ?_
      refine jj_iconst (v := 2) (q := 63) dX9_becomes_62 rfl rfl ?_
      refine jj_iaddN (q := 64) (a := 873 + (4 * (mE X))) (b := 2) dX9_becomes_63 rfl rfl rfl ?_
      refine jj_iload_n (q := 65) dX9_becomes_64 rfl rfl rfl ?_
      refine jj_iastN (q := 66) (j := (873 + (4 * (mE X))) + 2) dX9_becomes_65 (hm.tu hu) (u2_bst (show u < 18 by omega)) rfl (by omega) rfl ?_
      refine jj_aload_n (q := 67) dX9_becomes_66 rfl rfl rfl ?_
      refine jj_iload_n (q := 68) dX9_becomes_67 rfl rfl rfl ?_
      refine jj_iconst (v := 3) (q := 69) dX9_becomes_68 rfl rfl ?_
      refine jj_iaddN (q := 70) (a := 873 + (4 * (mE X))) (b := 3) dX9_becomes_69 rfl rfl rfl ?_
      refine jj_aload_n (q := 71) dX9_becomes_70 rfl rfl rfl ?_
      refine jj_sipush (v := 173) (q := 74) dX9_becomes_71 rfl rfl ?_
      refine jj_iload_n (q := 75) dX9_becomes_74 rfl rfl rfl ?_
      refine jj_iaddN (q := 76) (a := 173) (b := b) dX9_becomes_75 rfl rfl rfl ?_
      refine jj_ialdN (q := 77) (j := 173 + b) dX9_becomes_76 (hm.tu hu) (blk_st (show u < 18 by omega)) rfl (by omega) rfl ?_
      refine jj_iastN (q := 78) (j := (873 + (4 * (mE X))) + 3) dX9_becomes_77 (hm.tu hu) (u2_bst (show u < 18 by omega)) rfl (by omega) rfl ?_
      refine jj_aload_n (q := 79) dX9_becomes_78 rfl rfl rfl ?_
      refine jj_iconst (v := 3) (q := 80) dX9_becomes_79 rfl rfl ?_
      refine jj_dup2 (q := 81) dX9_becomes_80 rfl rfl rfl ?_
      refine jj_ialdW (q := 82) (j := 3) (v := nI (mE X)) dX9_becomes_81 (hm.tu hu) (blk_st (show u < 18 by omega)) rfl (by omega) (by rw [w1_ne (by omega), w1_ne (by omega), w1_ne (by omega), w1_ne (by omega)]; exact h3) rfl ?_
      refine jj_iconst (v := 1) (q := 83) dX9_becomes_82 rfl rfl ?_
      refine jj_iaddN (q := 84) (a := mE X) (b := 1) dX9_becomes_83 rfl rfl rfl ?_
      refine jj_iastN (q := 85) (j := 3) dX9_becomes_84 (hm.tu hu) (u2_bst (show u < 18 by omega)) rfl (by omega) rfl ?_
      refine jj_vret dX9_becomes_85 rfl (Nat.zero_le _) (Nat.zero_le _) ?_
      exact ⟨rfl, by unfold mBe; rw [he.1, if_neg h34]; unfold mBe2; rw [mBe1_E, w1_ne (i := 173 + b) (by omega), w1_ne (i := 173 + b) (by omega), w1_ne (i := 173 + b) (by omega)]⟩
    · refine jj_vret dX9_becomes_37 rfl (Nat.zero_le _) (Nat.zero_le _) ?_
      exact ⟨rfl, by unfold mBe; rw [he.1, if_pos h34]⟩
theorem ex_leavesLoop (hm : hMo T S mo) (hu : 4 ≤ u ∧ u ≤ 6) {p b : Nat} (hp : p < 40) (hb : b < 100) (hl : X (133 + p) = nI b) : Ex Γ (d) Y_X9_leavesLoop [.ref (mo + u), .int (nI p)] (T, R, S, blk 18 I mo (st A u X), L, D, z) 0 0 (rI (nI b) (T, R, S, blk 18 I mo (st A u (mLv X p b)), L, D, z)) := by
  refine Ex.of (by decide) (by simp [Value.category]) (Nat.le_of_ble_eq_true rfl) rfl ?_
  refine jj_aload_n (q := 1) dX9_leavesLoop_0 rfl rfl rfl ?_
  refine jj_sipush (v := 133) (q := 4) dX9_leavesLoop_1 rfl rfl ?_
  refine jj_iload_n (q := 5) dX9_leavesLoop_4 rfl rfl rfl ?_
  refine jj_iaddN (q := 6) (a := 133) (b := p) dX9_leavesLoop_5 rfl rfl rfl ?_
  refine jj_ialdW (q := 7) (j := 133 + p) (v := nI b) dX9_leavesLoop_6 (hm.tu hu) (blk_st (show u < 18 by omega)) rfl (by omega) hl rfl ?_
  refine jj_istore_n (q := 8) dX9_leavesLoop_7 rfl (by decide) rfl ?_
  refine jj_aload_n (q := 9) dX9_leavesLoop_8 rfl rfl rfl ?_
  refine jj_sipush (v := 133) (q := 12) dX9_leavesLoop_9 rfl rfl ?_
  refine jj_iload_n (q := 13) dX9_leavesLoop_12 rfl rfl rfl ?_
  refine jj_iaddN (q := 14) (a := 133) (b := p) dX9_leavesLoop_13 rfl rfl rfl ?_
  refine jj_iconst (v := -1) (q := 15) dX9_leavesLoop_14 rfl rfl ?_
  refine jj_iastN (q := 16) (j := 133 + p) dX9_leavesLoop_15 (hm.tu hu) (u2_bst (show u < 18 by omega)) rfl (by omega) rfl ?_
  refine jj_aload_n (q := 17) dX9_leavesLoop_16 rfl rfl rfl ?_
  refine jj_sipush (v := 473) (q := 20) dX9_leavesLoop_17 rfl rfl ?_
  refine jj_iload_n (q := 21) dX9_leavesLoop_20 rfl rfl rfl ?_
  refine jj_iaddN (q := 22) (a := 473) (b := b) dX9_leavesLoop_21 rfl rfl rfl ?_
  refine jj_iconst (v := -1) (q := 23) dX9_leavesLoop_22 rfl rfl ?_
  refine jj_iastN (q := 24) (j := 473 + b) dX9_leavesLoop_23 (hm.tu hu) (u2_bst (show u < 18 by omega)) rfl (by omega) rfl ?_
  refine jj_iload_n (q := 25) dX9_leavesLoop_24 rfl rfl rfl ?_
  refine jj_iret dX9_leavesLoop_25 rfl (Nat.zero_le _) (Nat.zero_le _) ?_
  exact ⟨rfl, rfl⟩
theorem ex_comesOn (hm : hMo T S mo) (hu : 4 ≤ u ∧ u ≤ 6) {p b : Nat} (hp : p < 40) (hb : b < 100) : Ex Γ (d) Y_X9_comesOn [.ref (mo + u), .int (nI b), .int (nI p)] (T, R, S, blk 18 I mo (st A u X), L, D, z) 0 0 (rV (T, R, S, blk 18 I mo (st A u (mOn X b p)), L, D, z)) := by
  refine Ex.of (by decide) (by simp [Value.category]) (Nat.le_of_ble_eq_true rfl) rfl ?_
  refine jj_aload_n (q := 1) dX9_comesOn_0 rfl rfl rfl ?_
  refine jj_sipush (v := 133) (q := 4) dX9_comesOn_1 rfl rfl ?_
  refine jj_iload_n (q := 5) dX9_comesOn_4 rfl rfl rfl ?_
  refine jj_iaddN (q := 6) (a := 133) (b := p) dX9_comesOn_5 rfl rfl rfl ?_
  refine jj_iload_n (q := 7) dX9_comesOn_6 rfl rfl rfl ?_
  refine jj_iastN (q := 8) (j := 133 + p) dX9_comesOn_7 (hm.tu hu) (u2_bst (show u < 18 by omega)) rfl (by omega) rfl ?_
  refine jj_aload_n (q := 9) dX9_comesOn_8 rfl rfl rfl ?_
  refine jj_sipush (v := 473) (q := 12) dX9_comesOn_9 rfl rfl ?_
  refine jj_iload_n (q := 13) dX9_comesOn_12 rfl rfl rfl ?_
  refine jj_iaddN (q := 14) (a := 473) (b := b) dX9_comesOn_13 rfl rfl rfl ?_
  refine jj_iload_n (q := 15) dX9_comesOn_14 rfl rfl rfl ?_
  refine jj_iastN (q := 16) (j := 473 + b) dX9_comesOn_15 (hm.tu hu) (u2_bst (show u < 18 by omega)) rfl (by omega) rfl ?_
  refine jj_aload_n (q := 17) dX9_comesOn_16 rfl rfl rfl ?_
  refine jj_sipush (v := 373) (q := 20) dX9_comesOn_17 rfl rfl ?_
  refine jj_iload_n (q := 21) dX9_comesOn_20 rfl rfl rfl ?_
  refine jj_iaddN (q := 22) (a := 373) (b := b) dX9_comesOn_21 rfl rfl rfl ?_
  refine jj_bipush (v := 8) (q := 24) dX9_comesOn_22 rfl rfl ?_
  refine jj_iastN (q := 25) (j := 373 + b) dX9_comesOn_24 (hm.tu hu) (u2_bst (show u < 18 by omega)) rfl (by omega) rfl ?_
  refine jj_vret dX9_comesOn_25 rfl (Nat.zero_le _) (Nat.zero_le _) ?_
  exact ⟨rfl, rfl⟩
def mDw (X : JV) : Int32 := ((X 1).toInt64 * 1103515245 + 12345 - ((X 1).toInt64 * 1103515245 + 12345) / 2147483648 * 2147483648).toInt32
def mDd (X : JV) : Int32 := mDw X / 65536 - mDw X / 65536 / 1000 * 1000
def mDr (X : JV) : JV := w1 X 1 (mDw X)
theorem ex_draws (hm : hMo T S mo) (hu : 4 ≤ u ∧ u ≤ 6) : Ex Γ (d) Y_X9_draws [.ref (mo + u)] (T, R, S, blk 18 I mo (st A u X), L, D, z) 0 0 (rI (mDd X) (T, R, S, blk 18 I mo (st A u (mDr X)), L, D, z)) := by
  refine Ex.of (by decide) (by simp [Value.category]) (Nat.le_of_ble_eq_true rfl) rfl ?_
  refine jj_aload_n (q := 1) dX9_draws_0 rfl rfl rfl ?_
  refine jj_iconst (v := 1) (q := 2) dX9_draws_1 rfl rfl ?_
  refine jj_aload_n (q := 3) dX9_draws_2 rfl rfl rfl ?_
  refine jj_iconst (v := 1) (q := 4) dX9_draws_3 rfl rfl ?_
  refine jj_ialdN (q := 5) (j := 1) dX9_draws_4 (hm.tu hu) (blk_st (show u < 18 by omega)) rfl (by omega) rfl ?_
  refine jj_i2l (q := 6) dX9_draws_5 rfl ?_
  refine jj_ldc2 (q := 9) dX9_draws_6 kc_X9_310 rfl ?_
  refine jj_lmul (q := 10) dX9_draws_9 rfl ?_
  refine jj_ldc2 (q := 13) dX9_draws_10 kc_X9_312 rfl ?_
  refine jj_ladd (q := 14) dX9_draws_13 rfl ?_
  refine jj_ldc2 (q := 17) dX9_draws_14 kc_X9_314 rfl ?_
  refine jj_lrem (q := 18) dX9_draws_17 (by decide) rfl ?_
  refine jj_l2i (q := 19) dX9_draws_18 rfl ?_
  refine jj_iastN (q := 20) (j := 1) dX9_draws_19 (hm.tu hu) (u2_bst (show u < 18 by omega)) rfl (by omega) rfl ?_
  refine jj_aload_n (q := 21) dX9_draws_20 rfl rfl rfl ?_
  refine jj_iconst (v := 1) (q := 22) dX9_draws_21 rfl rfl ?_
  refine jj_ialdW (q := 23) (j := 1) (v := mDw X) dX9_draws_22 (hm.tu hu) (blk_st (show u < 18 by omega)) rfl (by omega) w1_eq rfl ?_
  refine jj_ldcwi (q := 26) dX9_draws_23 kc_X9_316 rfl ?_
  refine jj_idiv (q := 27) dX9_draws_26 (by decide) rfl ?_
  refine jj_sipush (v := 1000) (q := 30) dX9_draws_27 rfl rfl ?_
  refine jj_irem (q := 31) dX9_draws_30 (by decide) rfl ?_
  refine jj_iret dX9_draws_31 rfl (Nat.zero_le _) (Nat.zero_le _) ?_
  exact ⟨rfl, rfl⟩
theorem nQ0 {Q : JV} (h : mQ Q) : Q 0 = nI (qLen Q) ∧ qLen Q < 41 ∧ 1 ≤ qLen Q := ⟨h.1.1.1, h.1.1.2, h.1.2⟩
def qLn (Q : JV) : Nat := nN (Q 13)
def qSn (Q : JV) : Nat := nN (Q 34)
def qKn (Q : JV) : Nat := nN (Q 14)
def qMn (Q : JV) (k : Nat) : Nat := nN (Q (3 + k))
def qLp (Q : JV) (l : Nat) : Nat := nN (Q (23 + l))
def qEn (Q : JV) : Nat := nN (Q 1)
theorem nQln {Q : JV} (h : mQ Q) : Q 13 = nI (qLn Q) ∧ qLn Q < 5 := h.2.2.2.1
theorem nQsn {Q : JV} (h : mQ Q) : Q 34 = nI (qSn Q) ∧ qSn Q < 5 := h.2.2.2.2.2.1
theorem nQkn {Q : JV} (h : mQ Q) : Q 14 = nI (qKn Q) ∧ qKn Q < 4 := h.2.2.2.2.2.2.1
theorem nQmn {Q : JV} (h : mQ Q) {k : Nat} (hk : k < 3) : Q (3 + k) = nI (qMn Q k) ∧ qMn Q k < 5 := h.2.2.1 k hk
theorem nQlp {Q : JV} (h : mQ Q) {k : Nat} (hk : k < 4) : Q (23 + k) = nI (qLp Q k) ∧ qLp Q k < 40 := h.2.2.2.2.1 k hk
theorem nQen {Q : JV} (h : mQ Q) : Q 1 = nI (qEn Q) ∧ qEn Q < qLen Q := h.2.1
/-- the first lane at a place -/
def mLh (Q : JV) (p : Nat) : Int32 := srch (fun l => decide (Q (23 + l) = nI p)) (qLn Q) nI (-1)
def mRoom (Q X : JV) (l b : Nat) : Int32 := if X (25 + l) = 1 then 0 else if X (21 + l) = Q (27 + l) then 0 else if X (21 + l) = 0 then 1 else if X (5 + mF X b) < X (5 + mF X (mLb X (20 * l + mHe X l - 1))) then 0 else 1
def mOu1 (Q X : JV) (lv : Nat) (m : Nat) (k : Nat) : Bool := decide (Q (35 + 4 * k) = nI lv ∧ Q (35 + 4 * k + 1) ≤ nI m ∧ ¬ X 0 < Q (35 + 4 * k + 2) ∧ ¬ Q (35 + 4 * k + 3) < X 0)
def mOuS (Q X : JV) (lv m k : Nat) (x : Int32) : Int32 := if x = 0 then (if Q (35 + 4 * k) = nI lv then (if nI m < Q (35 + 4 * k + 1) then 0 else if (if X 0 < Q (35 + 4 * k + 2) then 0 else if Q (35 + 4 * k + 3) < X 0 then 0 else 1) = (0 : Int32) then 0 else 1) else 0) else 1
def mOuL (Q X : JV) (lv m : Nat) : Nat → Int32
  | 0 => if X (2073 + 4 * lv + m) < X 0 then 0 else 1
  | k + 1 => mOuS Q X lv m k (mOuL Q X lv m k)
def mOu (Q X : JV) (lv m : Nat) : Int32 := mOuL Q X lv m (qSn Q)
theorem mOuL_b (Q X : JV) (lv m : Nat) : ∀ k, mOuL Q X lv m k = 0 ∨ mOuL Q X lv m k = 1
  | 0 => by rw [mOuL]; split <;> first | exact Or.inl rfl | exact Or.inr rfl
  | k + 1 => by
    rw [mOuL, mOuS]
    repeat' split
    all_goals first | exact Or.inl rfl | exact Or.inr rfl
theorem lp_laneHere (hm : hMo T S mo) (hu : 4 ≤ u ∧ u ≤ 6) {Q : JV} (hQ : mQ Q) (hA : A 2 = Q) {p : Nat} (hp : p < 40) : ∀ (k i : Nat), (i + k = qLn Q ∧ ∀ j, j < i → (fun l => decide (Q (23 + l) = nI p)) j = false) → JJ Γ (jj_E Y_X9_laneHere) (jj_Z Γ (rI (mLh Q p) (T, R, S, blk 18 I mo (st A u X), L, D, z)) 0 0) (jj_rm (d) 0 0) 0 0 2 [some (.ref mo), some (.int (nI p)), some (.int (nI i))] [] (T, R, S, blk 18 I mo (st A u X), L, D, z) := by
  have hl := nQln hQ
  intro k
  induction k with
  | zero =>
    intro i hi
    refine jj_iload_n (q := 3) dX9_laneHere_2 rfl rfl rfl ?_
    refine jj_aload_n (q := 4) dX9_laneHere_3 rfl rfl rfl ?_
    refine jj_getS (q := 7) dX9_laneHere_4 fl_X9_17 hm.t0 hm.r0_10 rfl rfl rfl ?_
    refine jj_bipush (v := 13) (q := 9) dX9_laneHere_7 rfl rfl ?_
    refine jj_ialdW (q := 10) (j := 13) (v := nI (qLn Q)) dX9_laneHere_9 hm.t2 (blk_sn (show 2 < 18 by omega) (show 2 ≠ u by omega)) rfl (by omega) (by rw [hA]; exact hl.1) rfl ?_
    refine jj_icmp_ge (q := 13) (tgt := 34) dX9_laneHere_10 rfl rfl (fun h10 => ?_) (fun h10 => absurd (nI_le (show qLn Q ≤ i by omega) (by omega)) h10)
    refine jj_iconst (v := -1) (q := 35) dX9_laneHere_34 rfl rfl ?_
    refine jj_iret dX9_laneHere_35 rfl (Nat.zero_le _) (Nat.zero_le _) ?_
    exact ⟨by unfold mLh; rw [srch_none (fun j hj => hi.2 j (by omega))], rfl⟩
  | succ k ih =>
    intro i hi
    refine jj_iload_n (q := 3) dX9_laneHere_2 rfl rfl rfl ?_
    refine jj_aload_n (q := 4) dX9_laneHere_3 rfl rfl rfl ?_
    refine jj_getS (q := 7) dX9_laneHere_4 fl_X9_17 hm.t0 hm.r0_10 rfl rfl rfl ?_
    refine jj_bipush (v := 13) (q := 9) dX9_laneHere_7 rfl rfl ?_
    refine jj_ialdW (q := 10) (j := 13) (v := nI (qLn Q)) dX9_laneHere_9 hm.t2 (blk_sn (show 2 < 18 by omega) (show 2 ≠ u by omega)) rfl (by omega) (by rw [hA]; exact hl.1) rfl ?_
    refine jj_icmp_ge (q := 13) (tgt := 34) dX9_laneHere_10 rfl rfl (fun h10 => absurd h10 ((nI_ge (show i < qLn Q by omega) (by omega)))) (fun h10 => ?_)
    refine jj_aload_n (q := 14) dX9_laneHere_13 rfl rfl rfl ?_
    refine jj_getS (q := 17) dX9_laneHere_14 fl_X9_17 hm.t0 hm.r0_10 rfl rfl rfl ?_
    refine jj_bipush (v := 23) (q := 19) dX9_laneHere_17 rfl rfl ?_
    refine jj_iload_n (q := 20) dX9_laneHere_19 rfl rfl rfl ?_
    refine jj_iaddN (q := 21) (a := 23) (b := i) dX9_laneHere_20 rfl rfl rfl ?_
    refine jj_ialdW (q := 22) (j := 23 + i) (v := Q (23 + i)) dX9_laneHere_21 hm.t2 (blk_sn (show 2 < 18 by omega) (show 2 ≠ u by omega)) rfl (by omega) (by rw [hA]) rfl ?_
    refine jj_iload_n (q := 23) dX9_laneHere_22 rfl rfl rfl ?_
    refine jj_icmp_ne (q := 26) (tgt := 28) dX9_laneHere_23 rfl rfl (fun h23 => ?_) (fun h23 => ?_)
    · refine jj_iinc (v := nI (i + 1)) (q := 31) dX9_laneHere_28 rfl (nI_incn i 1 rfl) (by decide) rfl ?_
      refine jj_goto (tgt := 2) dX9_laneHere_31 rfl ?_
      refine ih (i + 1) ⟨by omega, fun j hj => ?_⟩
      rcases Nat.lt_or_ge j i with q | q
      · exact hi.2 j q
      · rw [show j = i by omega]; exact decide_eq_false h23
    · refine jj_iload_n (q := 27) dX9_laneHere_26 rfl rfl rfl ?_
      refine jj_iret dX9_laneHere_27 rfl (Nat.zero_le _) (Nat.zero_le _) ?_
      exact ⟨by unfold mLh; rw [srch_hit hi.2 (decide_eq_true h23) (by omega)], rfl⟩
theorem ex_laneHere (hm : hMo T S mo) (hu : 4 ≤ u ∧ u ≤ 6) {Q : JV} (hQ : mQ Q) (hA : A 2 = Q) {p : Nat} (hp : p < 40) : Ex Γ (d) Y_X9_laneHere [.ref mo, .int (nI p)] (T, R, S, blk 18 I mo (st A u X), L, D, z) 0 0 (rI (mLh Q p) (T, R, S, blk 18 I mo (st A u X), L, D, z)) := by
  refine Ex.of (by decide) (by simp [Value.category]) (Nat.le_of_ble_eq_true rfl) rfl ?_
  refine jj_iconst (v := 0) (q := 1) dX9_laneHere_0 rfl rfl ?_
  refine jj_istore_n (q := 2) dX9_laneHere_1 rfl (by decide) rfl ?_
  exact lp_laneHere hm hu hQ hA hp (qLn Q) 0 ⟨by omega, fun j hj => absurd hj (Nat.not_lt_zero j)⟩
theorem ex_hasRoom (hm : hMo T S mo) (hu : 4 ≤ u ∧ u ≤ 6) {Q : JV} (hQ : mQ Q) (hA : A 2 = Q) (hX : mI X) {l b : Nat} (hl : l < 4) (hb : b < 100) : Ex Γ (d) Y_X9_hasRoom [.ref mo, .ref (mo + u), .int (nI l), .int (nI b)] (T, R, S, blk 18 I mo (st A u X), L, D, z) 0 0 (rI (mRoom Q X l b) (T, R, S, blk 18 I mo (st A u X), L, D, z)) := by
  have hh := hX.he hl
  have hf := hX.f hb
  refine Ex.of (by decide) (by simp [Value.category]) (Nat.le_of_ble_eq_true rfl) rfl ?_
  refine jj_aload_n (q := 1) dX9_hasRoom_0 rfl rfl rfl ?_
  refine jj_bipush (v := 25) (q := 3) dX9_hasRoom_1 rfl rfl ?_
  refine jj_iload_n (q := 4) dX9_hasRoom_3 rfl rfl rfl ?_
  refine jj_iaddN (q := 5) (a := 25) (b := l) dX9_hasRoom_4 rfl rfl rfl ?_
  refine jj_ialdN (q := 6) (j := 25 + l) dX9_hasRoom_5 (hm.tu hu) (blk_st (show u < 18 by omega)) rfl (by omega) rfl ?_
  refine jj_iconst (v := 1) (q := 7) dX9_hasRoom_6 rfl rfl ?_
  refine jj_icmp_eq (q := 10) (tgt := 28) dX9_hasRoom_7 rfl rfl (fun h7 => ?_) (fun h7 => ?_)
  · refine jj_iconst (v := 0) (q := 29) dX9_hasRoom_28 rfl rfl ?_
    refine jj_zret dX9_hasRoom_29 rfl (by first | rfl | assumption) (Nat.zero_le _) (Nat.zero_le _) ?_
    exact ⟨by unfold mRoom; (first | rw [if_pos h7] | rw [if_neg h7] | skip); (first | rw [if_pos h25] | rw [if_neg h25] | skip); (first | rw [if_pos h36] | rw [if_neg h36] | skip); (first | rw [if_pos h84] | rw [if_neg h84] | skip), rfl⟩
  · refine jj_aload_n (q := 11) dX9_hasRoom_10 rfl rfl rfl ?_
    refine jj_bipush (v := 21) (q := 13) dX9_hasRoom_11 rfl rfl ?_
    refine jj_iload_n (q := 14) dX9_hasRoom_13 rfl rfl rfl ?_
    refine jj_iaddN (q := 15) (a := 21) (b := l) dX9_hasRoom_14 rfl rfl rfl ?_
    refine jj_ialdN (q := 16) (j := 21 + l) dX9_hasRoom_15 (hm.tu hu) (blk_st (show u < 18 by omega)) rfl (by omega) rfl ?_
    refine jj_aload_n (q := 17) dX9_hasRoom_16 rfl rfl rfl ?_
    refine jj_getS (q := 20) dX9_hasRoom_17 fl_X9_17 hm.t0 hm.r0_10 rfl rfl rfl ?_
    refine jj_bipush (v := 27) (q := 22) dX9_hasRoom_20 rfl rfl ?_
    refine jj_iload_n (q := 23) dX9_hasRoom_22 rfl rfl rfl ?_
    refine jj_iaddN (q := 24) (a := 27) (b := l) dX9_hasRoom_23 rfl rfl rfl ?_
    refine jj_ialdW (q := 25) (j := 27 + l) (v := Q (27 + l)) dX9_hasRoom_24 hm.t2 (blk_sn (show 2 < 18 by omega) (show 2 ≠ u by omega)) rfl (by omega) (by rw [hA]) rfl ?_
    refine jj_icmp_ne (q := 28) (tgt := 30) dX9_hasRoom_25 rfl rfl (fun h25 => ?_) (fun h25 => ?_)
    · refine jj_aload_n (q := 31) dX9_hasRoom_30 rfl rfl rfl ?_
      refine jj_bipush (v := 21) (q := 33) dX9_hasRoom_31 rfl rfl ?_
      refine jj_iload_n (q := 34) dX9_hasRoom_33 rfl rfl rfl ?_
      refine jj_iaddN (q := 35) (a := 21) (b := l) dX9_hasRoom_34 rfl rfl rfl ?_
      refine jj_ialdN (q := 36) (j := 21 + l) dX9_hasRoom_35 (hm.tu hu) (blk_st (show u < 18 by omega)) rfl (by omega) rfl ?_
      refine jj_if_ne (q := 39) (tgt := 41) dX9_hasRoom_36 rfl rfl (fun h36 => ?_) (fun h36 => ?_)
      · have hh0 : mHe X l ≠ 0 := fun e => h36 (by rw [hh.1, e]; rfl)
        have hlb := hX.lb (l := 20 * l + mHe X l - 1) (by omega)
        have hfl := hX.f hlb.2
        refine jj_aload_n (q := 42) dX9_hasRoom_41 rfl rfl rfl ?_
        refine jj_bipush (v := 29) (q := 44) dX9_hasRoom_42 rfl rfl ?_
        refine jj_bipush (v := 20) (q := 46) dX9_hasRoom_44 rfl rfl ?_
        refine jj_iload_n (q := 47) dX9_hasRoom_46 rfl rfl rfl ?_
        refine jj_imulN (q := 48) (a := 20) (b := l) dX9_hasRoom_47 rfl rfl rfl ?_
        refine jj_iaddN (q := 49) (a := 29) (b := 20 * l) dX9_hasRoom_48 rfl rfl rfl ?_
        refine jj_aload_n (q := 50) dX9_hasRoom_49 rfl rfl rfl ?_
        refine jj_bipush (v := 21) (q := 52) dX9_hasRoom_50 rfl rfl ?_
        refine jj_iload_n (q := 53) dX9_hasRoom_52 rfl rfl rfl ?_
        refine jj_iaddN (q := 54) (a := 21) (b := l) dX9_hasRoom_53 rfl rfl rfl ?_
        refine jj_ialdW (q := 55) (j := 21 + l) (v := nI (mHe X l)) dX9_hasRoom_54 (hm.tu hu) (blk_st (show u < 18 by omega)) rfl (by omega) hh.1 rfl ?_
        refine jj_iaddN (q := 56) (a := 29 + (20 * l)) (b := mHe X l) dX9_hasRoom_55 rfl rfl rfl ?_
        refine jj_iconst (v := 1) (q := 57) dX9_hasRoom_56 rfl rfl ?_
        refine jj_isubN (q := 58) (e := 29 + 20 * l + mHe X l - 1) (a := (29 + (20 * l)) + (mHe X l)) (b := 1) dX9_hasRoom_57 rfl rfl (by omega) rfl ?_
        refine jj_ialdW (q := 59) (j := 29 + 20 * l + mHe X l - 1) (v := nI (mLb X (20 * l + mHe X l - 1))) dX9_hasRoom_58 (hm.tu hu) (blk_st (show u < 18 by omega)) rfl (by omega) (by rw [show 29 + 20 * l + mHe X l - 1 = 29 + (20 * l + mHe X l - 1) by omega]; exact hlb.1) rfl ?_
        refine jj_istore (q := 61) dX9_hasRoom_59 (by decide) rfl ?_
        refine jj_aload_n (q := 62) dX9_hasRoom_61 rfl rfl rfl ?_
        refine jj_iconst (v := 5) (q := 63) dX9_hasRoom_62 rfl rfl ?_
        refine jj_aload_n (q := 64) dX9_hasRoom_63 rfl rfl rfl ?_
        refine jj_sipush (v := 173) (q := 67) dX9_hasRoom_64 rfl rfl ?_
        refine jj_iload (q := 69) dX9_hasRoom_67 rfl rfl ?_
        refine jj_iaddN (q := 70) (a := 173) (b := mLb X (20 * l + mHe X l - 1)) dX9_hasRoom_69 rfl rfl rfl ?_
        refine jj_ialdW (q := 71) (j := 173 + (mLb X (20 * l + mHe X l - 1))) (v := nI (mF X (mLb X (20 * l + mHe X l - 1)))) dX9_hasRoom_70 (hm.tu hu) (blk_st (show u < 18 by omega)) rfl (by omega) hfl.1 rfl ?_
        refine jj_iaddN (q := 72) (a := 5) (b := mF X (mLb X (20 * l + mHe X l - 1))) dX9_hasRoom_71 rfl rfl rfl ?_
        refine jj_ialdN (q := 73) (j := 5 + (mF X (mLb X (20 * l + mHe X l - 1)))) dX9_hasRoom_72 (hm.tu hu) (blk_st (show u < 18 by omega)) rfl (by omega) rfl ?_
        refine jj_aload_n (q := 74) dX9_hasRoom_73 rfl rfl rfl ?_
        refine jj_iconst (v := 5) (q := 75) dX9_hasRoom_74 rfl rfl ?_
        refine jj_aload_n (q := 76) dX9_hasRoom_75 rfl rfl rfl ?_
        refine jj_sipush (v := 173) (q := 79) dX9_hasRoom_76 rfl rfl ?_
        refine jj_iload_n (q := 80) dX9_hasRoom_79 rfl rfl rfl ?_
        refine jj_iaddN (q := 81) (a := 173) (b := b) dX9_hasRoom_80 rfl rfl rfl ?_
        refine jj_ialdW (q := 82) (j := 173 + b) (v := nI (mF X b)) dX9_hasRoom_81 (hm.tu hu) (blk_st (show u < 18 by omega)) rfl (by omega) hf.1 rfl ?_
        refine jj_iaddN (q := 83) (a := 5) (b := mF X b) dX9_hasRoom_82 rfl rfl rfl ?_
        refine jj_ialdN (q := 84) (j := 5 + (mF X b)) dX9_hasRoom_83 (hm.tu hu) (blk_st (show u < 18 by omega)) rfl (by omega) rfl ?_
        refine jj_icmp_gt (q := 87) (tgt := 91) dX9_hasRoom_84 rfl rfl (fun h84 => ?_) (fun h84 => ?_)
        · refine jj_iconst (v := 0) (q := 92) dX9_hasRoom_91 rfl rfl ?_
          refine jj_zret dX9_hasRoom_92 rfl (by first | rfl | assumption) (Nat.zero_le _) (Nat.zero_le _) ?_
          exact ⟨by unfold mRoom; (first | rw [if_pos h7] | rw [if_neg h7] | skip); (first | rw [if_pos h25] | rw [if_neg h25] | skip); (first | rw [if_pos h36] | rw [if_neg h36] | skip); (first | rw [if_pos h84] | rw [if_neg h84] | skip), rfl⟩
        · refine jj_iconst (v := 1) (q := 88) dX9_hasRoom_87 rfl rfl ?_
          refine jj_goto (tgt := 92) dX9_hasRoom_88 rfl ?_
          refine jj_zret dX9_hasRoom_92 rfl (by first | rfl | assumption) (Nat.zero_le _) (Nat.zero_le _) ?_
          exact ⟨by unfold mRoom; (first | rw [if_pos h7] | rw [if_neg h7] | skip); (first | rw [if_pos h25] | rw [if_neg h25] | skip); (first | rw [if_pos h36] | rw [if_neg h36] | skip); (first | rw [if_pos h84] | rw [if_neg h84] | skip), rfl⟩
      · refine jj_iconst (v := 1) (q := 40) dX9_hasRoom_39 rfl rfl ?_
        refine jj_zret dX9_hasRoom_40 rfl (by first | rfl | assumption) (Nat.zero_le _) (Nat.zero_le _) ?_
        exact ⟨by unfold mRoom; (first | rw [if_pos h7] | rw [if_neg h7] | skip); (first | rw [if_pos h25] | rw [if_neg h25] | skip); (first | rw [if_pos h36] | rw [if_neg h36] | skip); (first | rw [if_pos h84] | rw [if_neg h84] | skip), rfl⟩
    · refine jj_iconst (v := 0) (q := 29) dX9_hasRoom_28 rfl rfl ?_
      refine jj_zret dX9_hasRoom_29 rfl (by first | rfl | assumption) (Nat.zero_le _) (Nat.zero_le _) ?_
      exact ⟨by unfold mRoom; (first | rw [if_pos h7] | rw [if_neg h7] | skip); (first | rw [if_pos h25] | rw [if_neg h25] | skip); (first | rw [if_pos h36] | rw [if_neg h36] | skip); (first | rw [if_pos h84] | rw [if_neg h84] | skip), rfl⟩
theorem lp_isOut (hm : hMo T S mo) (hu : 4 ≤ u ∧ u ≤ 6) {Q : JV} (hQ : mQ Q) (hA : A 2 = Q) {lv m : Nat} (hlv : lv < 3) (hm4 : m < 4) : ∀ (k i : Nat) (x : Int32) (x6 : Option Value), (i + k = qSn Q ∧ x = mOuL Q X lv m i) → JJ Γ (jj_E Y_X9_isOut) (jj_Z Γ (rI (mOu Q X lv m) (T, R, S, blk 18 I mo (st A u X), L, D, z)) 0 0) (jj_rm (d + 1) 0 0) 0 0 27 [some (.ref mo), some (.ref (mo + u)), some (.int (nI lv)), some (.int (nI m)), some (.int x), some (.int (nI i)), x6] [] (T, R, S, blk 18 I mo (st A u X), L, D, z) := by
  have hl := nQsn hQ
  intro k
  induction k with
  | zero =>
    intro i x x6 hi
    refine jj_iload (q := 29) dX9_isOut_27 rfl rfl ?_
    refine jj_aload_n (q := 30) dX9_isOut_29 rfl rfl rfl ?_
    refine jj_getS (q := 33) dX9_isOut_30 fl_X9_17 hm.t0 hm.r0_10 rfl rfl rfl ?_
    refine jj_bipush (v := 34) (q := 35) dX9_isOut_33 rfl rfl ?_
    refine jj_ialdW (q := 36) (j := 34) (v := nI (qSn Q)) dX9_isOut_35 hm.t2 (blk_sn (show 2 < 18 by omega) (show 2 ≠ u by omega)) rfl (by omega) (by rw [hA]; exact hl.1) rfl ?_
    refine jj_icmp_ge (q := 39) (tgt := 117) dX9_isOut_36 rfl rfl (fun h36 => ?_) (fun h36 => absurd (nI_le (show qSn Q ≤ i by omega) (by omega)) h36)
    refine jj_iload (q := 119) dX9_isOut_117 rfl rfl ?_
    refine jj_zret dX9_isOut_119 rfl (by rw [hi.2]; rcases mOuL_b Q X lv m i with e | e <;> rw [e] <;> rfl) (Nat.zero_le _) (Nat.zero_le _) ?_
    exact ⟨by rw [hi.2, show i = qSn Q by omega]; rfl, rfl⟩
  | succ k ih =>
    intro i x x6 hi
    refine jj_iload (q := 29) dX9_isOut_27 rfl rfl ?_
    refine jj_aload_n (q := 30) dX9_isOut_29 rfl rfl rfl ?_
    refine jj_getS (q := 33) dX9_isOut_30 fl_X9_17 hm.t0 hm.r0_10 rfl rfl rfl ?_
    refine jj_bipush (v := 34) (q := 35) dX9_isOut_33 rfl rfl ?_
    refine jj_ialdW (q := 36) (j := 34) (v := nI (qSn Q)) dX9_isOut_35 hm.t2 (blk_sn (show 2 < 18 by omega) (show 2 ≠ u by omega)) rfl (by omega) (by rw [hA]; exact hl.1) rfl ?_
    refine jj_icmp_ge (q := 39) (tgt := 117) dX9_isOut_36 rfl rfl (fun h36 => absurd h36 ((nI_ge (show i < qSn Q by omega) (by omega)))) (fun h36 => ?_)
    refine jj_bipush (v := 35) (q := 41) dX9_isOut_39 rfl rfl ?_
    refine jj_iconst (v := 4) (q := 42) dX9_isOut_41 rfl rfl ?_
    refine jj_iload (q := 44) dX9_isOut_42 rfl rfl ?_
    refine jj_imulN (q := 45) (a := 4) (b := i) dX9_isOut_44 rfl rfl rfl ?_
    refine jj_iaddN (q := 46) (a := 35) (b := 4 * i) dX9_isOut_45 rfl rfl rfl ?_
    refine jj_istore (q := 48) dX9_isOut_46 (by decide) rfl ?_
    refine jj_iload (q := 50) dX9_isOut_48 rfl rfl ?_
    refine jj_if_ne (q := 53) (tgt := 104) dX9_isOut_50 rfl rfl (fun h50 => ?_) (fun h50 => ?_)
    · refine jj_iconst (v := 1) (q := 105) dX9_isOut_104 rfl rfl ?_
      refine jj_goto (tgt := 109) dX9_isOut_105 rfl ?_
      refine jj_istore (q := 111) dX9_isOut_109 (by decide) rfl ?_
      refine jj_iinc (v := nI (i + 1)) (q := 114) dX9_isOut_111 rfl (nI_incn i 1 rfl) (by decide) rfl ?_
      refine jj_goto (tgt := 27) dX9_isOut_114 rfl ?_
      exact ih (i + 1) _ _ ⟨by omega, by rw [mOuL, mOuS, ← hi.2]; (first | rw [if_pos h50] | rw [if_neg h50] | skip); (first | rw [if_pos h61] | rw [if_neg h61] | skip); (first | rw [if_pos h74] | rw [if_neg h74] | skip); (first | rw [if_pos h101] | rw [if_neg h101] | skip)⟩
    · refine jj_aload_n (q := 54) dX9_isOut_53 rfl rfl rfl ?_
      refine jj_getS (q := 57) dX9_isOut_54 fl_X9_17 hm.t0 hm.r0_10 rfl rfl rfl ?_
      refine jj_iload (q := 59) dX9_isOut_57 rfl rfl ?_
      refine jj_ialdW (q := 60) (j := 35 + (4 * i)) (v := Q (35 + 4 * i)) dX9_isOut_59 hm.t2 (blk_sn (show 2 < 18 by omega) (show 2 ≠ u by omega)) rfl (by omega) (by rw [hA]) rfl ?_
      refine jj_iload_n (q := 61) dX9_isOut_60 rfl rfl rfl ?_
      refine jj_icmp_ne (q := 64) (tgt := 108) dX9_isOut_61 rfl rfl (fun h61 => ?_) (fun h61 => ?_)
      · refine jj_iconst (v := 0) (q := 109) dX9_isOut_108 rfl rfl ?_
        refine jj_istore (q := 111) dX9_isOut_109 (by decide) rfl ?_
        refine jj_iinc (v := nI (i + 1)) (q := 114) dX9_isOut_111 rfl (nI_incn i 1 rfl) (by decide) rfl ?_
        refine jj_goto (tgt := 27) dX9_isOut_114 rfl ?_
        exact ih (i + 1) _ _ ⟨by omega, by rw [mOuL, mOuS, ← hi.2]; (first | rw [if_pos h50] | rw [if_neg h50] | skip); (first | rw [if_pos h61] | rw [if_neg h61] | skip); (first | rw [if_pos h74] | rw [if_neg h74] | skip); (first | rw [if_pos h101] | rw [if_neg h101] | skip)⟩
      · refine jj_iload_n (q := 65) dX9_isOut_64 rfl rfl rfl ?_
        refine jj_aload_n (q := 66) dX9_isOut_65 rfl rfl rfl ?_
        refine jj_getS (q := 69) dX9_isOut_66 fl_X9_17 hm.t0 hm.r0_10 rfl rfl rfl ?_
        refine jj_iload (q := 71) dX9_isOut_69 rfl rfl ?_
        refine jj_iconst (v := 1) (q := 72) dX9_isOut_71 rfl rfl ?_
        refine jj_iaddN (q := 73) (a := 35 + (4 * i)) (b := 1) dX9_isOut_72 rfl rfl rfl ?_
        refine jj_ialdW (q := 74) (j := (35 + (4 * i)) + 1) (v := Q (35 + 4 * i + 1)) dX9_isOut_73 hm.t2 (blk_sn (show 2 < 18 by omega) (show 2 ≠ u by omega)) rfl (by omega) (by rw [hA]) rfl ?_
        refine jj_icmp_lt (q := 77) (tgt := 108) dX9_isOut_74 rfl rfl (fun h74 => ?_) (fun h74 => ?_)
        · refine jj_iconst (v := 0) (q := 109) dX9_isOut_108 rfl rfl ?_
          refine jj_istore (q := 111) dX9_isOut_109 (by decide) rfl ?_
          refine jj_iinc (v := nI (i + 1)) (q := 114) dX9_isOut_111 rfl (nI_incn i 1 rfl) (by decide) rfl ?_
          refine jj_goto (tgt := 27) dX9_isOut_114 rfl ?_
          exact ih (i + 1) _ _ ⟨by omega, by rw [mOuL, mOuS, ← hi.2]; (first | rw [if_pos h50] | rw [if_neg h50] | skip); (first | rw [if_pos h61] | rw [if_neg h61] | skip); (first | rw [if_pos h74] | rw [if_neg h74] | skip); (first | rw [if_pos h101] | rw [if_neg h101] | skip)⟩
        · refine jj_aload_n (q := 78) dX9_isOut_77 rfl rfl rfl ?_
          refine jj_iconst (v := 0) (q := 79) dX9_isOut_78 rfl rfl ?_
          refine jj_ialdN (q := 80) (j := 0) dX9_isOut_79 (hm.tu hu) (blk_st (show u < 18 by omega)) rfl (by omega) rfl ?_
          refine jj_aload_n (q := 81) dX9_isOut_80 rfl rfl rfl ?_
          refine jj_getS (q := 84) dX9_isOut_81 fl_X9_17 hm.t0 hm.r0_10 rfl rfl rfl ?_
          refine jj_iload (q := 86) dX9_isOut_84 rfl rfl ?_
          refine jj_iconst (v := 2) (q := 87) dX9_isOut_86 rfl rfl ?_
          refine jj_iaddN (q := 88) (a := 35 + (4 * i)) (b := 2) dX9_isOut_87 rfl rfl rfl ?_
          refine jj_ialdW (q := 89) (j := (35 + (4 * i)) + 2) (v := Q (35 + 4 * i + 2)) dX9_isOut_88 hm.t2 (blk_sn (show 2 < 18 by omega) (show 2 ≠ u by omega)) rfl (by omega) (by rw [hA]) rfl ?_
          refine jj_aload_n (q := 90) dX9_isOut_89 rfl rfl rfl ?_
          refine jj_getS (q := 93) dX9_isOut_90 fl_X9_17 hm.t0 hm.r0_10 rfl rfl rfl ?_
          refine jj_iload (q := 95) dX9_isOut_93 rfl rfl ?_
          refine jj_iconst (v := 3) (q := 96) dX9_isOut_95 rfl rfl ?_
          refine jj_iaddN (q := 97) (a := 35 + (4 * i)) (b := 3) dX9_isOut_96 rfl rfl rfl ?_
          refine jj_ialdW (q := 98) (j := (35 + (4 * i)) + 3) (v := Q (35 + 4 * i + 3)) dX9_isOut_97 hm.t2 (blk_sn (show 2 < 18 by omega) (show 2 ≠ u by omega)) rfl (by omega) (by rw [hA]) rfl ?_
          refine jj_cS3i (q := 101) dX9_isOut_98 yk_X9_in ml_X9_111 ex_min rfl rfl rfl ⟨Nat.zero_le _, Nat.zero_le _⟩ ?_
          refine jj_if_eq (q := 104) (tgt := 108) dX9_isOut_101 rfl rfl (fun h101 => ?_) (fun h101 => ?_)
          · refine jj_iconst (v := 0) (q := 109) dX9_isOut_108 rfl rfl ?_
            refine jj_istore (q := 111) dX9_isOut_109 (by decide) rfl ?_
            refine jj_iinc (v := nI (i + 1)) (q := 114) dX9_isOut_111 rfl (nI_incn i 1 rfl) (by decide) rfl ?_
            refine jj_goto (tgt := 27) dX9_isOut_114 rfl ?_
            exact ih (i + 1) _ _ ⟨by omega, by rw [mOuL, mOuS, ← hi.2]; (first | rw [if_pos h50] | rw [if_neg h50] | skip); (first | rw [if_pos h61] | rw [if_neg h61] | skip); (first | rw [if_pos h74] | rw [if_neg h74] | skip); (first | rw [if_pos h101] | rw [if_neg h101] | skip)⟩
          · refine jj_iconst (v := 1) (q := 105) dX9_isOut_104 rfl rfl ?_
            refine jj_goto (tgt := 109) dX9_isOut_105 rfl ?_
            refine jj_istore (q := 111) dX9_isOut_109 (by decide) rfl ?_
            refine jj_iinc (v := nI (i + 1)) (q := 114) dX9_isOut_111 rfl (nI_incn i 1 rfl) (by decide) rfl ?_
            refine jj_goto (tgt := 27) dX9_isOut_114 rfl ?_
            exact ih (i + 1) _ _ ⟨by omega, by rw [mOuL, mOuS, ← hi.2]; (first | rw [if_pos h50] | rw [if_neg h50] | skip); (first | rw [if_pos h61] | rw [if_neg h61] | skip); (first | rw [if_pos h74] | rw [if_neg h74] | skip); (first | rw [if_pos h101] | rw [if_neg h101] | skip)⟩
theorem ex_isOut (hm : hMo T S mo) (hu : 4 ≤ u ∧ u ≤ 6) {Q : JV} (hQ : mQ Q) (hA : A 2 = Q) {lv m : Nat} (hlv : lv < 3) (hm4 : m < 4) : Ex Γ (d + 1) Y_X9_isOut [.ref mo, .ref (mo + u), .int (nI lv), .int (nI m)] (T, R, S, blk 18 I mo (st A u X), L, D, z) 0 0 (rI (mOu Q X lv m) (T, R, S, blk 18 I mo (st A u X), L, D, z)) := by
  refine Ex.of (by decide) (by simp [Value.category]) (Nat.le_of_ble_eq_true rfl) rfl ?_
  refine jj_aload_n (q := 1) dX9_isOut_0 rfl rfl rfl ?_
  refine jj_iconst (v := 0) (q := 2) dX9_isOut_1 rfl rfl ?_
  refine jj_ialdN (q := 3) (j := 0) dX9_isOut_2 (hm.tu hu) (blk_st (show u < 18 by omega)) rfl (by omega) rfl ?_
  refine jj_aload_n (q := 4) dX9_isOut_3 rfl rfl rfl ?_
  refine jj_sipush (v := 2073) (q := 7) dX9_isOut_4 rfl rfl ?_
  refine jj_iconst (v := 4) (q := 8) dX9_isOut_7 rfl rfl ?_
  refine jj_iload_n (q := 9) dX9_isOut_8 rfl rfl rfl ?_
  refine jj_imulN (q := 10) (a := 4) (b := lv) dX9_isOut_9 rfl rfl rfl ?_
  refine jj_iaddN (q := 11) (a := 2073) (b := 4 * lv) dX9_isOut_10 rfl rfl rfl ?_
  refine jj_iload_n (q := 12) dX9_isOut_11 rfl rfl rfl ?_
  refine jj_iaddN (q := 13) (a := 2073 + (4 * lv)) (b := m) dX9_isOut_12 rfl rfl rfl ?_
  refine jj_ialdN (q := 14) (j := (2073 + (4 * lv)) + m) dX9_isOut_13 (hm.tu hu) (blk_st (show u < 18 by omega)) rfl (by omega) rfl ?_
  refine jj_icmp_gt (q := 17) (tgt := 21) dX9_isOut_14 rfl rfl (fun h14 => ?_) (fun h14 => ?_)
  · refine jj_iconst (v := 0) (q := 22) dX9_isOut_21 rfl rfl ?_
    refine jj_istore (q := 24) dX9_isOut_22 (by decide) rfl ?_
    refine jj_iconst (v := 0) (q := 25) dX9_isOut_24 rfl rfl ?_
    refine jj_istore (q := 27) dX9_isOut_25 (by decide) rfl ?_
    exact lp_isOut hm hu hQ hA hlv hm4 (qSn Q) 0 _ none ⟨by omega, by rw [mOuL]; (first | rw [if_pos h14] | rw [if_neg h14])⟩
  · refine jj_iconst (v := 1) (q := 18) dX9_isOut_17 rfl rfl ?_
    refine jj_goto (tgt := 22) dX9_isOut_18 rfl ?_
    refine jj_istore (q := 24) dX9_isOut_22 (by decide) rfl ?_
    refine jj_iconst (v := 0) (q := 25) dX9_isOut_24 rfl rfl ?_
    refine jj_istore (q := 27) dX9_isOut_25 (by decide) rfl ?_
    exact lp_isOut hm hu hQ hA hlv hm4 (qSn Q) 0 _ none ⟨by omega, by rw [mOuL]; (first | rw [if_pos h14] | rw [if_neg h14])⟩
end M27
