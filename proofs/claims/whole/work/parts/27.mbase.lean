/-! THE MODEL'S STATE ARRAY: pure functions, ranges, the small methods walked -/
def nN (v : Int32) : Nat := v.toNatClampNeg
abbrev JV := Nat → Int32
def w1 (X : JV) (j : Nat) (v : Int32) : JV := fun i => if i = j then v else X i
def st (A : JI) (u : Nat) (X : JV) : JI := fun k => if k = u then X else A k
theorem w1_eq {X : JV} {j : Nat} {v : Int32} : w1 X j v j = v := if_pos rfl
theorem w1_ne {X : JV} {i j : Nat} {v : Int32} (h : i ≠ j) : w1 X j v i = X i := if_neg h
theorem st_eq {A : JI} {u : Nat} {X : JV} : st A u X u = X := if_pos rfl
theorem st_ne {A : JI} {u k : Nat} {X : JV} (h : k ≠ u) : st A u X k = A k := if_neg h
theorem st_self (A : JI) (u : Nat) : st A u (A u) = A := by
  funext k
  unfold st
  split
  · rename_i h; rw [h]
  · rfl
theorem st_st {A : JI} {u : Nat} {X Y : JV} : st (st A u X) u Y = st A u Y := by
  funext k
  unfold st
  split <;> rfl
theorem u2_st {A : JI} {u j : Nat} {X : JV} {v : Int32} : u2 (st A u X) u j v = st A u (w1 X j v) := by
  funext k i
  unfold st w1
  rw [u2_ap]
  split
  · rfl
  · rfl
theorem u2_w1 (A : JI) (u j : Nat) (v : Int32) : u2 A u j v = st A u (w1 (A u) j v) := by
  have e : u2 (st A u (A u)) u j v = st A u (w1 (A u) j v) := u2_st
  rw [st_self] at e
  exact e
theorem blk_st {w : Nat} {I A : JI} {a u : Nat} {X : JV} (h : u < w) : blk w I a (st A u X) (a + u) = X := by rw [blk_k h, st_eq]
theorem blk_sn {w : Nat} {I A : JI} {a u k : Nat} {X : JV} (h : k < w) (hn : k ≠ u) : blk w I a (st A u X) (a + k) = A k := by rw [blk_k h, st_ne hn]
theorem blk_s0 {w : Nat} {I A : JI} {a u : Nat} {X : JV} (h : 0 < w) (hn : 0 ≠ u) : blk w I a (st A u X) a = A 0 := by rw [blk_0 h, st_ne hn]
theorem u2_bst {w : Nat} {I A : JI} {a u j : Nat} {X : JV} {v : Int32} (h : u < w) : u2 (blk w I a (st A u X)) (a + u) j v = blk w I a (st A u (w1 X j v)) := by rw [u2_blk h, u2_st]
theorem hMo.tu {T : JT} {S : JR} {mo u : Nat} (h : hMo T S mo) (hu : 4 ≤ u ∧ u ≤ 6) : T (mo + u) = some (.inr (.int, 2086)) := by
  have e : u = 4 ∨ u = 5 ∨ u = 6 := by omega
  rcases e with e | e | e <;> subst e
  · exact h.t4
  · exact h.t5
  · exact h.t6
def nB (n : Nat) (v : Int32) : Prop := v = nI (nN v) ∧ nN v < n
def oB (v : Int32) : Prop := v = -1 ∨ nB 100 v
theorem nN_nI {n : Nat} (h : n < 2 ^ 31) : nN (nI n) = n := nI_clamp h
theorem nB_nI {n m : Nat} (h : n < m) (h2 : n < 2 ^ 31) : nB m (nI n) := by
  unfold nB
  rw [nN_nI h2]
  exact ⟨rfl, h⟩
/-- the range of an entry of the state array -/
def rg (i : Nat) (v : Int32) : Prop := (i = 2 → nB 101 v) ∧ (i = 3 → nB 301 v) ∧ (21 ≤ i → i < 25 → nB 21 v) ∧ (29 ≤ i → i < 109 → nB 100 v) ∧ (109 ≤ i → i < 121 → oB v) ∧ (133 ≤ i → i < 173 → oB v) ∧ (173 ≤ i → i < 273 → nB 8 v)
def mI (X : JV) : Prop := ∀ i, rg i (X i)
theorem mI.set {X : JV} {i : Nat} {v : Int32} (h : mI X) (hr : rg i v) : mI (w1 X i v) := fun j => by
  by_cases e : j = i
  · subst e; rw [w1_eq]; exact hr
  · rw [w1_ne e]; exact h j
theorem rg_free {i : Nat} {v : Int32} (h : i < 2 ∨ 3 < i ∧ i < 21 ∨ 25 ≤ i ∧ i < 29 ∨ 121 ≤ i ∧ i < 133 ∨ 273 ≤ i) : rg i v := by
  unfold rg
  refine ⟨?_, ?_, ?_, ?_, ?_, ?_, ?_⟩ <;> (intros; exfalso; omega)
theorem rg_loop {i : Nat} {v : Int32} (h : 133 ≤ i ∧ i < 173) (hv : oB v) : rg i v := by
  unfold rg
  refine ⟨?_, ?_, ?_, ?_, ?_, fun _ _ => hv, ?_⟩ <;> (intros; exfalso; omega)
theorem rg_own {i : Nat} {v : Int32} (h : 109 ≤ i ∧ i < 121) (hv : oB v) : rg i v := by
  unfold rg
  refine ⟨?_, ?_, ?_, ?_, fun _ _ => hv, ?_, ?_⟩ <;> (intros; exfalso; omega)
theorem rg_lane {i : Nat} {v : Int32} (h : 29 ≤ i ∧ i < 109) (hv : nB 100 v) : rg i v := by
  unfold rg
  refine ⟨?_, ?_, ?_, fun _ _ => hv, ?_, ?_, ?_⟩ <;> (intros; exfalso; omega)
theorem rg_held {i : Nat} {v : Int32} (h : 21 ≤ i ∧ i < 25) (hv : nB 21 v) : rg i v := by
  unfold rg
  refine ⟨?_, ?_, fun _ _ => hv, ?_, ?_, ?_, ?_⟩ <;> (intros; exfalso; omega)
theorem rg_fl {i : Nat} {v : Int32} (h : 173 ≤ i ∧ i < 273) (hv : nB 8 v) : rg i v := by
  unfold rg
  refine ⟨?_, ?_, ?_, ?_, ?_, ?_, fun _ _ => hv⟩ <;> (intros; exfalso; omega)
theorem rg_many {v : Int32} (hv : nB 101 v) : rg 2 v := by
  unfold rg
  refine ⟨fun _ => hv, ?_, ?_, ?_, ?_, ?_, ?_⟩ <;> (intros; exfalso; omega)
theorem rg_log {v : Int32} (hv : nB 301 v) : rg 3 v := by
  unfold rg
  refine ⟨?_, fun _ => hv, ?_, ?_, ?_, ?_, ?_⟩ <;> (intros; exfalso; omega)
def mC (X : JV) : Nat := nN (X 2)
def mF (X : JV) (b : Nat) : Nat := nN (X (173 + b))
def mE (X : JV) : Nat := nN (X 3)
def mHe (X : JV) (l : Nat) : Nat := nN (X (21 + l))
def mLb (X : JV) (j : Nat) : Nat := nN (X (29 + j))
theorem mI.c {X : JV} (h : mI X) : X 2 = nI (mC X) ∧ mC X < 101 := (h 2).1 rfl
theorem mI.e {X : JV} (h : mI X) : X 3 = nI (mE X) ∧ mE X < 301 := (h 3).2.1 rfl
theorem mI.f {X : JV} (h : mI X) {b : Nat} (hb : b < 100) : X (173 + b) = nI (mF X b) ∧ mF X b < 8 := (h (173 + b)).2.2.2.2.2.2 (by omega) (by omega)
theorem mI.he {X : JV} (h : mI X) {l : Nat} (hl : l < 4) : X (21 + l) = nI (mHe X l) ∧ mHe X l < 21 := (h (21 + l)).2.2.1 (by omega) (by omega)
theorem mI.lb {X : JV} (h : mI X) {l : Nat} (hl : l < 80) : X (29 + l) = nI (mLb X l) ∧ mLb X l < 100 := (h (29 + l)).2.2.2.1 (by omega) (by omega)
theorem mI.ow {X : JV} (h : mI X) {l : Nat} (hl : l < 12) : oB (X (109 + l)) := (h (109 + l)).2.2.2.2.1 (by omega) (by omega)
theorem mI.lo {X : JV} (h : mI X) {l : Nat} (hl : l < 40) : oB (X (133 + l)) := (h (133 + l)).2.2.2.2.2.1 (by omega) (by omega)
/-- the plan's array -/
def mQ (Q : JV) : Prop := (nB 41 (Q 0) ∧ 1 ≤ nN (Q 0)) ∧ nB (nN (Q 0)) (Q 1) ∧ (∀ k, k < 3 → nB 5 (Q (3 + k))) ∧ nB 5 (Q 13) ∧ (∀ k, k < 4 → nB 40 (Q (23 + k))) ∧ nB 5 (Q 34) ∧ nB 4 (Q 14) ∧ (∀ k, k < 4 → nB 21 (Q (27 + k)))
def qLen (Q : JV) : Nat := nN (Q 0)
def mPh (X : JV) (f : Nat) : Int32 := if X (5 + f) ≤ X 0 then (if X (13 + f) ≤ X 0 then 2 else 1) else 0
def mOf (X : JV) (b : Nat) : Int32 := mPh X (mF X b)
def mHot (X : JV) (b : Nat) : Int32 := if X 4 < X (13 + mF X b) - X 0 then 0 else 1
def mSo (X : JV) (a b : Nat) : Int32 := X (13 + mF X a) - X (13 + mF X b)
def mAh (X : JV) (a b : Nat) : Int32 := if mHot X a = mHot X b then (if mSo X a b = 0 then (if X (273 + a) = X (273 + b) then (if nI b ≤ nI a then 0 else 1) else if X (273 + b) ≤ X (273 + a) then 0 else 1) else if 0 ≤ mSo X a b then 0 else 1) else mHot X a
def mFs (X : JV) (s : Int32) (i : Nat) (best : Int32) : Int32 := if X (373 + i) = s then (if best = -1 then nI i else if mAh X i (nN best) = 0 then best else nI i) else best
def mFi (X : JV) (s : Int32) : Nat → Int32
  | 0 => -1
  | i + 1 => mFs X s i (mFi X s i)
def mIn (X : JV) (s : Int32) : Nat → Nat
  | 0 => 0
  | i + 1 => if X (373 + i) = s then mIn X s i + 1 else mIn X s i
def mBe1 (X : JV) (b : Nat) (s : Int32) : JV := w1 (w1 X (373 + b) s) (773 + b) (if s = 9 then -1 else X 0)
def mBe2 (X : JV) (b : Nat) (s : Int32) : JV := w1 (w1 (w1 (w1 (w1 X (873 + 4 * mE X) (X 0)) (873 + 4 * mE X + 1) s) (873 + 4 * mE X + 2) (nI b)) (873 + 4 * mE X + 3) (X (173 + b))) 3 (nI (mE X + 1))
def mBe (X : JV) (b : Nat) (s : Int32) : JV := if X 3 = 300 then mBe1 X b s else mBe2 (mBe1 X b s) b s
def mLv (X : JV) (p b : Nat) : JV := w1 (w1 X (133 + p) (-1)) (473 + b) (-1)
def mOn (X : JV) (b p : Nat) : JV := w1 (w1 (w1 X (133 + p) (nI b)) (473 + b) (nI p)) (373 + b) 8
def mD (X : JV) : Int32 := ((X 1).toInt64 * 1103515245 + 12345) % 2147483648 |>.toInt32
theorem mFi_oB {X : JV} {s : Int32} : ∀ i, i ≤ 100 → mFi X s i = -1 ∨ nB i (mFi X s i)
  | 0, _ => Or.inl rfl
  | i + 1, h => by
    have ih := mFi_oB (X := X) (s := s) i (by omega)
    have hn : mFi X s i = -1 ∨ nB (i + 1) (mFi X s i) := by
      rcases ih with e | e
      · exact Or.inl e
      · exact Or.inr ⟨e.1, by have := e.2; omega⟩
    have hi : nB (i + 1) (nI i) := nB_nI (by omega) (by omega)
    rw [mFi, mFs]
    split
    · split
      · exact Or.inr hi
      · split
        · exact hn
        · exact Or.inr hi
    · exact hn
section M27
variable {Γ : Gam} {d : Nat} {T : JT} {R S : JR} {I A : JI} {L : JL} {D : JD} {z : Option Nat} {mo u : Nat} {X : JV}
theorem ex_min {v lo hi : Int32} {M : JM} : Ex Γ (d) Y_X9_in [.int v, .int lo, .int hi] M 0 0 (rI (if v < lo then 0 else if hi < v then 0 else 1) M) := by
  refine Ex.of (by decide) (by simp [Value.category]) (Nat.le_of_ble_eq_true rfl) rfl ?_
  refine jj_iload_n (q := 1) dX9_in_0 rfl rfl rfl ?_
  refine jj_iload_n (q := 2) dX9_in_1 rfl rfl rfl ?_
  refine jj_icmp_lt (q := 5) (tgt := 14) dX9_in_2 rfl rfl (fun h2 => ?_) (fun h2 => ?_)
  · refine jj_iconst (v := 0) (q := 15) dX9_in_14 rfl rfl ?_
    refine jj_zret dX9_in_15 rfl (by first | rfl | assumption) (Nat.zero_le _) (Nat.zero_le _) ?_
    exact ⟨by (first | rw [if_pos h2] | rw [if_neg h2] | skip); (first | rw [if_pos h7] | rw [if_neg h7] | skip), rfl⟩
  · refine jj_iload_n (q := 6) dX9_in_5 rfl rfl rfl ?_
    refine jj_iload_n (q := 7) dX9_in_6 rfl rfl rfl ?_
    refine jj_icmp_gt (q := 10) (tgt := 14) dX9_in_7 rfl rfl (fun h7 => ?_) (fun h7 => ?_)
    · refine jj_iconst (v := 0) (q := 15) dX9_in_14 rfl rfl ?_
      refine jj_zret dX9_in_15 rfl (by first | rfl | assumption) (Nat.zero_le _) (Nat.zero_le _) ?_
      exact ⟨by (first | rw [if_pos h2] | rw [if_neg h2] | skip); (first | rw [if_pos h7] | rw [if_neg h7] | skip), rfl⟩
    · refine jj_iconst (v := 1) (q := 11) dX9_in_10 rfl rfl ?_
      refine jj_goto (tgt := 15) dX9_in_11 rfl ?_
      refine jj_zret dX9_in_15 rfl (by first | rfl | assumption) (Nat.zero_le _) (Nat.zero_le _) ?_
      exact ⟨by (first | rw [if_pos h2] | rw [if_neg h2] | skip); (first | rw [if_pos h7] | rw [if_neg h7] | skip), rfl⟩
theorem ex_flightIs (hm : hMo T S mo) (hu : 4 ≤ u ∧ u ≤ 6) {f : Nat} (hf : f < 8) : Ex Γ (d) Y_X9_flightIs [.ref (mo + u), .int (nI f)] (T, R, S, blk 18 I mo (st A u X), L, D, z) 0 0 (rI (mPh X f) (T, R, S, blk 18 I mo (st A u X), L, D, z)) := by
  refine Ex.of (by decide) (by simp [Value.category]) (Nat.le_of_ble_eq_true rfl) rfl ?_
  refine jj_aload_n (q := 1) dX9_flightIs_0 rfl rfl rfl ?_
  refine jj_iconst (v := 0) (q := 2) dX9_flightIs_1 rfl rfl ?_
  refine jj_ialdN (q := 3) (j := 0) dX9_flightIs_2 (hm.tu hu) (blk_st (show u < 18 by omega)) rfl (by omega) rfl ?_
  refine jj_aload_n (q := 4) dX9_flightIs_3 rfl rfl rfl ?_
  refine jj_iconst (v := 5) (q := 5) dX9_flightIs_4 rfl rfl ?_
  refine jj_iload_n (q := 6) dX9_flightIs_5 rfl rfl rfl ?_
  refine jj_iaddN (q := 7) (a := 5) (b := f) dX9_flightIs_6 rfl rfl rfl ?_
  refine jj_ialdN (q := 8) (j := 5 + f) dX9_flightIs_7 (hm.tu hu) (blk_st (show u < 18 by omega)) rfl (by omega) rfl ?_
  refine jj_icmp_ge (q := 11) (tgt := 15) dX9_flightIs_8 rfl rfl (fun h8 => ?_) (fun h8 => ?_)
  · refine jj_aload_n (q := 16) dX9_flightIs_15 rfl rfl rfl ?_
    refine jj_iconst (v := 0) (q := 17) dX9_flightIs_16 rfl rfl ?_
    refine jj_ialdN (q := 18) (j := 0) dX9_flightIs_17 (hm.tu hu) (blk_st (show u < 18 by omega)) rfl (by omega) rfl ?_
    refine jj_aload_n (q := 19) dX9_flightIs_18 rfl rfl rfl ?_
    refine jj_bipush (v := 13) (q := 21) dX9_flightIs_19 rfl rfl ?_
    refine jj_iload_n (q := 22) dX9_flightIs_21 rfl rfl rfl ?_
    refine jj_iaddN (q := 23) (a := 13) (b := f) dX9_flightIs_22 rfl rfl rfl ?_
    refine jj_ialdN (q := 24) (j := 13 + f) dX9_flightIs_23 (hm.tu hu) (blk_st (show u < 18 by omega)) rfl (by omega) rfl ?_
    refine jj_icmp_ge (q := 27) (tgt := 31) dX9_flightIs_24 rfl rfl (fun h24 => ?_) (fun h24 => ?_)
    · refine jj_iconst (v := 2) (q := 32) dX9_flightIs_31 rfl rfl ?_
      refine jj_iret dX9_flightIs_32 rfl (Nat.zero_le _) (Nat.zero_le _) ?_
      exact ⟨by unfold mPh; (first | rw [if_pos h8] | rw [if_neg h8] | skip); (first | rw [if_pos h24] | rw [if_neg h24] | skip), rfl⟩
    · refine jj_iconst (v := 1) (q := 28) dX9_flightIs_27 rfl rfl ?_
      refine jj_goto (tgt := 32) dX9_flightIs_28 rfl ?_
      refine jj_iret dX9_flightIs_32 rfl (Nat.zero_le _) (Nat.zero_le _) ?_
      exact ⟨by unfold mPh; (first | rw [if_pos h8] | rw [if_neg h8] | skip); (first | rw [if_pos h24] | rw [if_neg h24] | skip), rfl⟩
  · refine jj_iconst (v := 0) (q := 12) dX9_flightIs_11 rfl rfl ?_
    refine jj_goto (tgt := 32) dX9_flightIs_12 rfl ?_
    refine jj_iret dX9_flightIs_32 rfl (Nat.zero_le _) (Nat.zero_le _) ?_
    exact ⟨by unfold mPh; (first | rw [if_pos h8] | rw [if_neg h8] | skip); (first | rw [if_pos h24] | rw [if_neg h24] | skip), rfl⟩
theorem ex_isOf (hm : hMo T S mo) (hu : 4 ≤ u ∧ u ≤ 6) (hX : mI X) {b : Nat} (hb : b < 100) : Ex Γ (d + 1) Y_X9_isOf [.ref (mo + u), .int (nI b)] (T, R, S, blk 18 I mo (st A u X), L, D, z) 0 0 (rI (mOf X b) (T, R, S, blk 18 I mo (st A u X), L, D, z)) := by
  have hf := hX.f hb
  refine Ex.of (by decide) (by simp [Value.category]) (Nat.le_of_ble_eq_true rfl) rfl ?_
  refine jj_aload_n (q := 1) dX9_isOf_0 rfl rfl rfl ?_
  refine jj_aload_n (q := 2) dX9_isOf_1 rfl rfl rfl ?_
  refine jj_sipush (v := 173) (q := 5) dX9_isOf_2 rfl rfl ?_
  refine jj_iload_n (q := 6) dX9_isOf_5 rfl rfl rfl ?_
  refine jj_iaddN (q := 7) (a := 173) (b := b) dX9_isOf_6 rfl rfl rfl ?_
  refine jj_ialdW (q := 8) (j := 173 + b) (v := nI (mF X b)) dX9_isOf_7 (hm.tu hu) (blk_st (show u < 18 by omega)) rfl (by omega) hf.1 rfl ?_
  refine jj_cS2i (q := 11) dX9_isOf_8 yk_X9_flightIs ml_X9_257 (ex_flightIs hm hu hf.2) rfl rfl rfl ⟨Nat.zero_le _, Nat.zero_le _⟩ ?_
  refine jj_iret dX9_isOf_11 rfl (Nat.zero_le _) (Nat.zero_le _) ?_
  exact ⟨rfl, rfl⟩
theorem ex_hot (hm : hMo T S mo) (hu : 4 ≤ u ∧ u ≤ 6) (hX : mI X) {b : Nat} (hb : b < 100) : Ex Γ (d) Y_X9_hot [.ref (mo + u), .int (nI b)] (T, R, S, blk 18 I mo (st A u X), L, D, z) 0 0 (rI (mHot X b) (T, R, S, blk 18 I mo (st A u X), L, D, z)) := by
  have hf := hX.f hb
  refine Ex.of (by decide) (by simp [Value.category]) (Nat.le_of_ble_eq_true rfl) rfl ?_
  refine jj_aload_n (q := 1) dX9_hot_0 rfl rfl rfl ?_
  refine jj_bipush (v := 13) (q := 3) dX9_hot_1 rfl rfl ?_
  refine jj_aload_n (q := 4) dX9_hot_3 rfl rfl rfl ?_
  refine jj_sipush (v := 173) (q := 7) dX9_hot_4 rfl rfl ?_
  refine jj_iload_n (q := 8) dX9_hot_7 rfl rfl rfl ?_
  refine jj_iaddN (q := 9) (a := 173) (b := b) dX9_hot_8 rfl rfl rfl ?_
  refine jj_ialdW (q := 10) (j := 173 + b) (v := nI (mF X b)) dX9_hot_9 (hm.tu hu) (blk_st (show u < 18 by omega)) rfl (by omega) hf.1 rfl ?_
  refine jj_iaddN (q := 11) (a := 13) (b := mF X b) dX9_hot_10 rfl rfl rfl ?_
  refine jj_ialdN (q := 12) (j := 13 + (mF X b)) dX9_hot_11 (hm.tu hu) (blk_st (show u < 18 by omega)) rfl (by omega) rfl ?_
  refine jj_aload_n (q := 13) dX9_hot_12 rfl rfl rfl ?_
  refine jj_iconst (v := 0) (q := 14) dX9_hot_13 rfl rfl ?_
  refine jj_ialdN (q := 15) (j := 0) dX9_hot_14 (hm.tu hu) (blk_st (show u < 18 by omega)) rfl (by omega) rfl ?_
  refine jj_isub (q := 16) dX9_hot_15 rfl ?_
  refine jj_aload_n (q := 17) dX9_hot_16 rfl rfl rfl ?_
  refine jj_iconst (v := 4) (q := 18) dX9_hot_17 rfl rfl ?_
  refine jj_ialdN (q := 19) (j := 4) dX9_hot_18 (hm.tu hu) (blk_st (show u < 18 by omega)) rfl (by omega) rfl ?_
  refine jj_icmp_gt (q := 22) (tgt := 26) dX9_hot_19 rfl rfl (fun h19 => ?_) (fun h19 => ?_)
  · refine jj_iconst (v := 0) (q := 27) dX9_hot_26 rfl rfl ?_
    refine jj_zret dX9_hot_27 rfl (by first | rfl | assumption) (Nat.zero_le _) (Nat.zero_le _) ?_
    exact ⟨by unfold mHot; (first | rw [if_pos h19] | rw [if_neg h19] | skip), rfl⟩
  · refine jj_iconst (v := 1) (q := 23) dX9_hot_22 rfl rfl ?_
    refine jj_goto (tgt := 27) dX9_hot_23 rfl ?_
    refine jj_zret dX9_hot_27 rfl (by first | rfl | assumption) (Nat.zero_le _) (Nat.zero_le _) ?_
    exact ⟨by unfold mHot; (first | rw [if_pos h19] | rw [if_neg h19] | skip), rfl⟩
theorem ex_isAhead (hm : hMo T S mo) (hu : 4 ≤ u ∧ u ≤ 6) (hX : mI X) {a b : Nat} (ha : a < 100) (hb : b < 100) : Ex Γ (d + 1) Y_X9_isAhead [.ref (mo + u), .int (nI a), .int (nI b)] (T, R, S, blk 18 I mo (st A u X), L, D, z) 0 0 (rI (mAh X a b) (T, R, S, blk 18 I mo (st A u X), L, D, z)) := by
  have hfa := hX.f ha
  have hfb := hX.f hb
  refine Ex.of (by decide) (by simp [Value.category]) (Nat.le_of_ble_eq_true rfl) rfl ?_
  refine jj_aload_n (q := 1) dX9_isAhead_0 rfl rfl rfl ?_
  refine jj_iload_n (q := 2) dX9_isAhead_1 rfl rfl rfl ?_
  refine jj_cS2i (q := 5) dX9_isAhead_2 yk_X9_hot ml_X9_261 (ex_hot hm hu hX ha) rfl rfl rfl ⟨Nat.zero_le _, Nat.zero_le _⟩ ?_
  refine jj_aload_n (q := 6) dX9_isAhead_5 rfl rfl rfl ?_
  refine jj_iload_n (q := 7) dX9_isAhead_6 rfl rfl rfl ?_
  refine jj_cS2i (q := 10) dX9_isAhead_7 yk_X9_hot ml_X9_261 (ex_hot hm hu hX hb) rfl rfl rfl ⟨Nat.zero_le _, Nat.zero_le _⟩ ?_
  refine jj_icmp_eq (q := 13) (tgt := 19) dX9_isAhead_10 rfl rfl (fun h10 => ?_) (fun h10 => ?_)
  · refine jj_aload_n (q := 20) dX9_isAhead_19 rfl rfl rfl ?_
    refine jj_bipush (v := 13) (q := 22) dX9_isAhead_20 rfl rfl ?_
    refine jj_aload_n (q := 23) dX9_isAhead_22 rfl rfl rfl ?_
    refine jj_sipush (v := 173) (q := 26) dX9_isAhead_23 rfl rfl ?_
    refine jj_iload_n (q := 27) dX9_isAhead_26 rfl rfl rfl ?_
    refine jj_iaddN (q := 28) (a := 173) (b := a) dX9_isAhead_27 rfl rfl rfl ?_
    refine jj_ialdW (q := 29) (j := 173 + a) (v := nI (mF X a)) dX9_isAhead_28 (hm.tu hu) (blk_st (show u < 18 by omega)) rfl (by omega) hfa.1 rfl ?_
    refine jj_iaddN (q := 30) (a := 13) (b := mF X a) dX9_isAhead_29 rfl rfl rfl ?_
    refine jj_ialdN (q := 31) (j := 13 + (mF X a)) dX9_isAhead_30 (hm.tu hu) (blk_st (show u < 18 by omega)) rfl (by omega) rfl ?_
    refine jj_aload_n (q := 32) dX9_isAhead_31 rfl rfl rfl ?_
    refine jj_bipush (v := 13) (q := 34) dX9_isAhead_32 rfl rfl ?_
    refine jj_aload_n (q := 35) dX9_isAhead_34 rfl rfl rfl ?_
    refine jj_sipush (v := 173) (q := 38) dX9_isAhead_35 rfl rfl ?_
    refine jj_iload_n (q := 39) dX9_isAhead_38 rfl rfl rfl ?_
    refine jj_iaddN (q := 40) (a := 173) (b := b) dX9_isAhead_39 rfl rfl rfl ?_
    refine jj_ialdW (q := 41) (j := 173 + b) (v := nI (mF X b)) dX9_isAhead_40 (hm.tu hu) (blk_st (show u < 18 by omega)) rfl (by omega) hfb.1 rfl ?_
    refine jj_iaddN (q := 42) (a := 13) (b := mF X b) dX9_isAhead_41 rfl rfl rfl ?_
    refine jj_ialdN (q := 43) (j := 13 + (mF X b)) dX9_isAhead_42 (hm.tu hu) (blk_st (show u < 18 by omega)) rfl (by omega) rfl ?_
    refine jj_isub (q := 44) dX9_isAhead_43 rfl ?_
    refine jj_istore_n (q := 45) dX9_isAhead_44 rfl (by decide) rfl ?_
    refine jj_iload_n (q := 46) dX9_isAhead_45 rfl rfl rfl ?_
    refine jj_if_eq (q := 49) (tgt := 59) dX9_isAhead_46 rfl rfl (fun h46 => ?_) (fun h46 => ?_)
    · refine jj_aload_n (q := 60) dX9_isAhead_59 rfl rfl rfl ?_
      refine jj_sipush (v := 273) (q := 63) dX9_isAhead_60 rfl rfl ?_
      refine jj_iload_n (q := 64) dX9_isAhead_63 rfl rfl rfl ?_
      refine jj_iaddN (q := 65) (a := 273) (b := a) dX9_isAhead_64 rfl rfl rfl ?_
      refine jj_ialdN (q := 66) (j := 273 + a) dX9_isAhead_65 (hm.tu hu) (blk_st (show u < 18 by omega)) rfl (by omega) rfl ?_
      refine jj_aload_n (q := 67) dX9_isAhead_66 rfl rfl rfl ?_
      refine jj_sipush (v := 273) (q := 70) dX9_isAhead_67 rfl rfl ?_
      refine jj_iload_n (q := 71) dX9_isAhead_70 rfl rfl rfl ?_
      refine jj_iaddN (q := 72) (a := 273) (b := b) dX9_isAhead_71 rfl rfl rfl ?_
      refine jj_ialdN (q := 73) (j := 273 + b) dX9_isAhead_72 (hm.tu hu) (blk_st (show u < 18 by omega)) rfl (by omega) rfl ?_
      refine jj_icmp_eq (q := 76) (tgt := 101) dX9_isAhead_73 rfl rfl (fun h73 => ?_) (fun h73 => ?_)
      · refine jj_iload_n (q := 102) dX9_isAhead_101 rfl rfl rfl ?_
        refine jj_iload_n (q := 103) dX9_isAhead_102 rfl rfl rfl ?_
        refine jj_icmp_ge (q := 106) (tgt := 110) dX9_isAhead_103 rfl rfl (fun h103 => ?_) (fun h103 => ?_)
        · refine jj_iconst (v := 0) (q := 111) dX9_isAhead_110 rfl rfl ?_
          refine jj_zret dX9_isAhead_111 rfl (by first | rfl | assumption) (Nat.zero_le _) (Nat.zero_le _) ?_
          exact ⟨by unfold mAh mSo; (first | rw [if_pos h10] | rw [if_neg h10] | skip); (first | rw [if_pos h46] | rw [if_neg h46] | skip); (first | rw [if_pos h50] | rw [if_neg h50] | skip); (first | rw [if_pos h73] | rw [if_neg h73] | skip); (first | rw [if_pos h90] | rw [if_neg h90] | skip); (first | rw [if_pos h103] | rw [if_neg h103] | skip), rfl⟩
        · refine jj_iconst (v := 1) (q := 107) dX9_isAhead_106 rfl rfl ?_
          refine jj_goto (tgt := 111) dX9_isAhead_107 rfl ?_
          refine jj_zret dX9_isAhead_111 rfl (by first | rfl | assumption) (Nat.zero_le _) (Nat.zero_le _) ?_
          exact ⟨by unfold mAh mSo; (first | rw [if_pos h10] | rw [if_neg h10] | skip); (first | rw [if_pos h46] | rw [if_neg h46] | skip); (first | rw [if_pos h50] | rw [if_neg h50] | skip); (first | rw [if_pos h73] | rw [if_neg h73] | skip); (first | rw [if_pos h90] | rw [if_neg h90] | skip); (first | rw [if_pos h103] | rw [if_neg h103] | skip), rfl⟩
      · refine jj_aload_n (q := 77) dX9_isAhead_76 rfl rfl rfl ?_
        refine jj_sipush (v := 273) (q := 80) dX9_isAhead_77 rfl rfl ?_
        refine jj_iload_n (q := 81) dX9_isAhead_80 rfl rfl rfl ?_
        refine jj_iaddN (q := 82) (a := 273) (b := a) dX9_isAhead_81 rfl rfl rfl ?_
        refine jj_ialdN (q := 83) (j := 273 + a) dX9_isAhead_82 (hm.tu hu) (blk_st (show u < 18 by omega)) rfl (by omega) rfl ?_
        refine jj_aload_n (q := 84) dX9_isAhead_83 rfl rfl rfl ?_
        refine jj_sipush (v := 273) (q := 87) dX9_isAhead_84 rfl rfl ?_
        refine jj_iload_n (q := 88) dX9_isAhead_87 rfl rfl rfl ?_
        refine jj_iaddN (q := 89) (a := 273) (b := b) dX9_isAhead_88 rfl rfl rfl ?_
        refine jj_ialdN (q := 90) (j := 273 + b) dX9_isAhead_89 (hm.tu hu) (blk_st (show u < 18 by omega)) rfl (by omega) rfl ?_
        refine jj_icmp_ge (q := 93) (tgt := 97) dX9_isAhead_90 rfl rfl (fun h90 => ?_) (fun h90 => ?_)
        · refine jj_iconst (v := 0) (q := 98) dX9_isAhead_97 rfl rfl ?_
          refine jj_goto (tgt := 111) dX9_isAhead_98 rfl ?_
          refine jj_zret dX9_isAhead_111 rfl (by first | rfl | assumption) (Nat.zero_le _) (Nat.zero_le _) ?_
          exact ⟨by unfold mAh mSo; (first | rw [if_pos h10] | rw [if_neg h10] | skip); (first | rw [if_pos h46] | rw [if_neg h46] | skip); (first | rw [if_pos h50] | rw [if_neg h50] | skip); (first | rw [if_pos h73] | rw [if_neg h73] | skip); (first | rw [if_pos h90] | rw [if_neg h90] | skip); (first | rw [if_pos h103] | rw [if_neg h103] | skip), rfl⟩
        · refine jj_iconst (v := 1) (q := 94) dX9_isAhead_93 rfl rfl ?_
          refine jj_goto (tgt := 111) dX9_isAhead_94 rfl ?_
          refine jj_zret dX9_isAhead_111 rfl (by first | rfl | assumption) (Nat.zero_le _) (Nat.zero_le _) ?_
          exact ⟨by unfold mAh mSo; (first | rw [if_pos h10] | rw [if_neg h10] | skip); (first | rw [if_pos h46] | rw [if_neg h46] | skip); (first | rw [if_pos h50] | rw [if_neg h50] | skip); (first | rw [if_pos h73] | rw [if_neg h73] | skip); (first | rw [if_pos h90] | rw [if_neg h90] | skip); (first | rw [if_pos h103] | rw [if_neg h103] | skip), rfl⟩
    · refine jj_iload_n (q := 50) dX9_isAhead_49 rfl rfl rfl ?_
      refine jj_if_ge (q := 53) (tgt := 57) dX9_isAhead_50 rfl rfl (fun h50 => ?_) (fun h50 => ?_)
      · refine jj_iconst (v := 0) (q := 58) dX9_isAhead_57 rfl rfl ?_
        refine jj_zret dX9_isAhead_58 rfl (by first | rfl | assumption) (Nat.zero_le _) (Nat.zero_le _) ?_
        exact ⟨by unfold mAh mSo; (first | rw [if_pos h10] | rw [if_neg h10] | skip); (first | rw [if_pos h46] | rw [if_neg h46] | skip); (first | rw [if_pos h50] | rw [if_neg h50] | skip); (first | rw [if_pos h73] | rw [if_neg h73] | skip); (first | rw [if_pos h90] | rw [if_neg h90] | skip); (first | rw [if_pos h103] | rw [if_neg h103] | skip), rfl⟩
      · refine jj_iconst (v := 1) (q := 54) dX9_isAhead_53 rfl rfl ?_
        refine jj_goto (tgt := 58) dX9_isAhead_54 rfl ?_
        refine jj_zret dX9_isAhead_58 rfl (by first | rfl | assumption) (Nat.zero_le _) (Nat.zero_le _) ?_
        exact ⟨by unfold mAh mSo; (first | rw [if_pos h10] | rw [if_neg h10] | skip); (first | rw [if_pos h46] | rw [if_neg h46] | skip); (first | rw [if_pos h50] | rw [if_neg h50] | skip); (first | rw [if_pos h73] | rw [if_neg h73] | skip); (first | rw [if_pos h90] | rw [if_neg h90] | skip); (first | rw [if_pos h103] | rw [if_neg h103] | skip), rfl⟩
  · refine jj_aload_n (q := 14) dX9_isAhead_13 rfl rfl rfl ?_
    refine jj_iload_n (q := 15) dX9_isAhead_14 rfl rfl rfl ?_
    refine jj_cS2i (q := 18) dX9_isAhead_15 yk_X9_hot ml_X9_261 (ex_hot hm hu hX ha) rfl rfl rfl ⟨Nat.zero_le _, Nat.zero_le _⟩ ?_
    refine jj_zret dX9_isAhead_18 rfl (by unfold mHot; split <;> rfl) (Nat.zero_le _) (Nat.zero_le _) ?_
    exact ⟨by unfold mAh mSo; (first | rw [if_pos h10] | rw [if_neg h10] | skip); (first | rw [if_pos h46] | rw [if_neg h46] | skip); (first | rw [if_pos h50] | rw [if_neg h50] | skip); (first | rw [if_pos h73] | rw [if_neg h73] | skip); (first | rw [if_pos h90] | rw [if_neg h90] | skip); (first | rw [if_pos h103] | rw [if_neg h103] | skip), rfl⟩
end M27
