/-! THE MODEL'S KEEP LINES: trees of nodes, walked -/
def mAs (X : JV) (b : Nat) : Nat → Int32
  | 0 => if 0 < X (5 + mF X b) - X 0 then X (5 + mF X b) - X 0 else 0
  | 1 => X (573 + b)
  | 2 => X (673 + b)
  | 3 => nI (mIn X 8 (mC X))
  | _ => X 0
def bI (v : Bool) : Int32 := if v = true then 1 else 0
theorem bI_0 {v : Bool} : bI v = 0 ↔ v = false := by cases v <;> decide
theorem bI_n (v : Bool) : narrow .boolean (.int (bI v)) = .int (bI v) := by cases v <;> rfl
def mCmp (o : Nat) (x y : Int32) : Bool := if o = 0 then decide (x < y) else if o = 1 then decide (y < x) else decide (x = y)
/-- node n of depth d, all of whose nodes are from lo on, says v -/
def vN (A : JI) (X : JV) (b : Nat) : Nat → Nat → Nat → Bool → Prop
  | 0, _, _, _ => False
  | d + 1, lo, n, v => ∃ (m : Nat) (c : Nat → Nat) (e : Nat → Bool), c m = n ∧ e m = v ∧ (∀ i, i ≤ m → lo ≤ c i ∧ c i < 1400) ∧ (∀ i j, i < j → j ≤ m → c i < c j) ∧
      ((A 11 (c 0) = 2 ∧ ∃ s w, A 12 (c 0) = nI s ∧ s < c 0 ∧ vN A X b d lo s w ∧ e 0 = !w) ∨ (∃ o w : Nat, o < 3 ∧ A 11 (c 0) = nI (3 + o) ∧ A 12 (c 0) = nI w ∧ w < 5 ∧ e 0 = mCmp o (mAs X b w) (A 13 (c 0)))) ∧
      ∀ i, i < m → (A 11 (c (i + 1)) = 0 ∨ A 11 (c (i + 1)) = 1) ∧ A 12 (c (i + 1)) = nI (c i) ∧ A 14 (c i) = nI (c (i + 1)) ∧ ∃ s w, A 13 (c (i + 1)) = nI s ∧ s < c (i + 1) ∧ vN A X b d (c i + 1) s w ∧ e (i + 1) = if A 11 (c (i + 1)) = 0 then (e i && w) else (e i || w)
theorem vN_lt {A : JI} {X : JV} {b : Nat} : ∀ {d lo n : Nat} {v : Bool}, vN A X b d lo n v → lo ≤ n ∧ n < 1400
  | 0, _, _, _, h => h.elim
  | d + 1, lo, n, v, ⟨m, c, e, hc, _, hb, _⟩ => by have := hb m (Nat.le_refl m); rw [hc] at this; exact this
section M28
variable {Γ : Gam} {d : Nat} {T : JT} {R S : JR} {I A : JI} {L : JL} {D : JD} {z : Option Nat} {mo u : Nat} {X : JV}
theorem ex_asked0 (hm : hMo T S mo) (hu : 4 ≤ u ∧ u ≤ 6) (hX : mI X) {b : Nat} (hb : b < 100) (hab : A 0 28 = nI b) : Ex Γ (d + 1) Y_X9_asked [.ref mo, .ref (mo + u), .int (nI 0)] (T, R, S, blk 18 I mo (st A u X), L, D, z) 0 0 (rI (mAs X b 0) (T, R, S, blk 18 I mo (st A u X), L, D, z)) := by
  have hf := hX.f hb
  refine Ex.of (by decide) (by simp [Value.category]) (Nat.le_of_ble_eq_true rfl) rfl ?_
  refine jj_iload_n (q := 1) dX9_asked_0 rfl rfl rfl ?_
  refine jj_tableIn (tgt := 32) dX9_asked_1 (by decide) (by decide) rfl rfl ?_
  refine jj_iconst (v := 0) (q := 33) dX9_asked_32 rfl rfl ?_
  refine jj_aload_n (q := 34) dX9_asked_33 rfl rfl rfl ?_
  refine jj_iconst (v := 5) (q := 35) dX9_asked_34 rfl rfl ?_
  refine jj_aload_n (q := 36) dX9_asked_35 rfl rfl rfl ?_
  refine jj_sipush (v := 173) (q := 39) dX9_asked_36 rfl rfl ?_
  refine jj_aload_n (q := 40) dX9_asked_39 rfl rfl rfl ?_
  refine jj_getIw (v := nI b) (q := 43) dX9_asked_40 fl_X9_268 hm.t0 (by rw [blk_s0 (show 0 < 18 by omega) (show 0 ≠ u by omega)]; exact hab) rfl rfl ?_
  refine jj_iaddN (q := 44) (a := 173) (b := b) dX9_asked_43 rfl rfl rfl ?_
  refine jj_ialdW (q := 45) (j := 173 + b) (v := nI (mF X b)) dX9_asked_44 (hm.tu hu) (blk_st (show u < 18 by omega)) rfl (by omega) hf.1 rfl ?_
  refine jj_iaddN (q := 46) (a := 5) (b := mF X b) dX9_asked_45 rfl rfl rfl ?_
  refine jj_ialdN (q := 47) (j := 5 + (mF X b)) dX9_asked_46 (hm.tu hu) (blk_st (show u < 18 by omega)) rfl (by omega) rfl ?_
  refine jj_aload_n (q := 48) dX9_asked_47 rfl rfl rfl ?_
  refine jj_iconst (v := 0) (q := 49) dX9_asked_48 rfl rfl ?_
  refine jj_ialdN (q := 50) (j := 0) dX9_asked_49 (hm.tu hu) (blk_st (show u < 18 by omega)) rfl (by omega) rfl ?_
  refine jj_isub (q := 51) dX9_asked_50 rfl ?_
  refine jj_mmax (q := 54) dX9_asked_51 km_X9_271 rfl rfl ⟨Nat.zero_le _, Nat.zero_le _⟩ ?_
  refine jj_iret dX9_asked_54 rfl (Nat.zero_le _) (Nat.zero_le _) ?_
  exact ⟨rfl, rfl⟩
theorem ex_asked1 (hm : hMo T S mo) (hu : 4 ≤ u ∧ u ≤ 6) (hX : mI X) {b : Nat} (hb : b < 100) (hab : A 0 28 = nI b) : Ex Γ (d + 1) Y_X9_asked [.ref mo, .ref (mo + u), .int (nI 1)] (T, R, S, blk 18 I mo (st A u X), L, D, z) 0 0 (rI (mAs X b 1) (T, R, S, blk 18 I mo (st A u X), L, D, z)) := by
  have hf := hX.f hb
  refine Ex.of (by decide) (by simp [Value.category]) (Nat.le_of_ble_eq_true rfl) rfl ?_
  refine jj_iload_n (q := 1) dX9_asked_0 rfl rfl rfl ?_
  refine jj_tableIn (tgt := 55) dX9_asked_1 (by decide) (by decide) rfl rfl ?_
  refine jj_aload_n (q := 56) dX9_asked_55 rfl rfl rfl ?_
  refine jj_sipush (v := 573) (q := 59) dX9_asked_56 rfl rfl ?_
  refine jj_aload_n (q := 60) dX9_asked_59 rfl rfl rfl ?_
  refine jj_getIw (v := nI b) (q := 63) dX9_asked_60 fl_X9_268 hm.t0 (by rw [blk_s0 (show 0 < 18 by omega) (show 0 ≠ u by omega)]; exact hab) rfl rfl ?_
  refine jj_iaddN (q := 64) (a := 573) (b := b) dX9_asked_63 rfl rfl rfl ?_
  refine jj_ialdN (q := 65) (j := 573 + b) dX9_asked_64 (hm.tu hu) (blk_st (show u < 18 by omega)) rfl (by omega) rfl ?_
  refine jj_iret dX9_asked_65 rfl (Nat.zero_le _) (Nat.zero_le _) ?_
  exact ⟨rfl, rfl⟩
theorem ex_asked2 (hm : hMo T S mo) (hu : 4 ≤ u ∧ u ≤ 6) (hX : mI X) {b : Nat} (hb : b < 100) (hab : A 0 28 = nI b) : Ex Γ (d + 1) Y_X9_asked [.ref mo, .ref (mo + u), .int (nI 2)] (T, R, S, blk 18 I mo (st A u X), L, D, z) 0 0 (rI (mAs X b 2) (T, R, S, blk 18 I mo (st A u X), L, D, z)) := by
  have hf := hX.f hb
  refine Ex.of (by decide) (by simp [Value.category]) (Nat.le_of_ble_eq_true rfl) rfl ?_
  refine jj_iload_n (q := 1) dX9_asked_0 rfl rfl rfl ?_
  refine jj_tableIn (tgt := 66) dX9_asked_1 (by decide) (by decide) rfl rfl ?_
  refine jj_aload_n (q := 67) dX9_asked_66 rfl rfl rfl ?_
  refine jj_sipush (v := 673) (q := 70) dX9_asked_67 rfl rfl ?_
  refine jj_aload_n (q := 71) dX9_asked_70 rfl rfl rfl ?_
  refine jj_getIw (v := nI b) (q := 74) dX9_asked_71 fl_X9_268 hm.t0 (by rw [blk_s0 (show 0 < 18 by omega) (show 0 ≠ u by omega)]; exact hab) rfl rfl ?_
  refine jj_iaddN (q := 75) (a := 673) (b := b) dX9_asked_74 rfl rfl rfl ?_
  refine jj_ialdN (q := 76) (j := 673 + b) dX9_asked_75 (hm.tu hu) (blk_st (show u < 18 by omega)) rfl (by omega) rfl ?_
  refine jj_iret dX9_asked_76 rfl (Nat.zero_le _) (Nat.zero_le _) ?_
  exact ⟨rfl, rfl⟩
theorem ex_asked3 (hm : hMo T S mo) (hu : 4 ≤ u ∧ u ≤ 6) (hX : mI X) {b : Nat} (hb : b < 100) (hab : A 0 28 = nI b) : Ex Γ (d + 1) Y_X9_asked [.ref mo, .ref (mo + u), .int (nI 3)] (T, R, S, blk 18 I mo (st A u X), L, D, z) 0 0 (rI (mAs X b 3) (T, R, S, blk 18 I mo (st A u X), L, D, z)) := by
  have hf := hX.f hb
  refine Ex.of (by decide) (by simp [Value.category]) (Nat.le_of_ble_eq_true rfl) rfl ?_
  refine jj_iload_n (q := 1) dX9_asked_0 rfl rfl rfl ?_
  refine jj_tableIn (tgt := 77) dX9_asked_1 (by decide) (by decide) rfl rfl ?_
  refine jj_aload_n (q := 78) dX9_asked_77 rfl rfl rfl ?_
  refine jj_bipush (v := 8) (q := 80) dX9_asked_78 rfl rfl ?_
  refine jj_cS2i (q := 83) dX9_asked_80 yk_X9_inState ml_X9_276 (ex_inState hm hu hX rfl) rfl rfl rfl ⟨Nat.zero_le _, Nat.zero_le _⟩ ?_
  refine jj_iret dX9_asked_83 rfl (Nat.zero_le _) (Nat.zero_le _) ?_
  exact ⟨rfl, rfl⟩
theorem ex_asked4 (hm : hMo T S mo) (hu : 4 ≤ u ∧ u ≤ 6) (hX : mI X) {b : Nat} (hb : b < 100) (hab : A 0 28 = nI b) : Ex Γ (d + 1) Y_X9_asked [.ref mo, .ref (mo + u), .int (nI 4)] (T, R, S, blk 18 I mo (st A u X), L, D, z) 0 0 (rI (mAs X b 4) (T, R, S, blk 18 I mo (st A u X), L, D, z)) := by
  have hf := hX.f hb
  refine Ex.of (by decide) (by simp [Value.category]) (Nat.le_of_ble_eq_true rfl) rfl ?_
  refine jj_iload_n (q := 1) dX9_asked_0 rfl rfl rfl ?_
  refine jj_tableOut (tgt := 84) dX9_asked_1 (Or.inr (by decide)) rfl ?_
  refine jj_aload_n (q := 85) dX9_asked_84 rfl rfl rfl ?_
  refine jj_iconst (v := 0) (q := 86) dX9_asked_85 rfl rfl ?_
  refine jj_ialdN (q := 87) (j := 0) dX9_asked_86 (hm.tu hu) (blk_st (show u < 18 by omega)) rfl (by omega) rfl ?_
  refine jj_iret dX9_asked_87 rfl (Nat.zero_le _) (Nat.zero_le _) ?_
  exact ⟨rfl, rfl⟩
theorem ex_asked (hm : hMo T S mo) (hu : 4 ≤ u ∧ u ≤ 6) (hX : mI X) {b : Nat} (hb : b < 100) (hab : A 0 28 = nI b) {w : Nat} (hw : w < 5) : Ex Γ (d + 1) Y_X9_asked [.ref mo, .ref (mo + u), .int (nI w)] (T, R, S, blk 18 I mo (st A u X), L, D, z) 0 0 (rI (mAs X b w) (T, R, S, blk 18 I mo (st A u X), L, D, z)) := by
  have e : w = 0 ∨ w = 1 ∨ w = 2 ∨ w = 3 ∨ w = 4 := by omega
  rcases e with e | e | e | e | e <;> subst e
  · exact ex_asked0 hm hu hX hb hab
  · exact ex_asked1 hm hu hX hb hab
  · exact ex_asked2 hm hu hX hb hab
  · exact ex_asked3 hm hu hX hb hab
  · exact ex_asked4 hm hu hX hb hab
def cHo (Γ : Gam) (M : JM) (A : JI) (X : JV) (mo u b e : Nat) : Prop := ∀ (d lo n : Nat) (v : Bool), vN A X b e lo n v → Ex Γ (d + 2 * e + 2) Y_X9_holds [.ref mo, .ref (mo + u), .int (nI n)] M 0 0 (rI (bI v) M)
theorem ex_one0 (hm : hMo T S mo) (hu : 4 ≤ u ∧ u ≤ 6) {b e lo n s : Nat} {w : Bool} (hn : n < 1400) (ih : cHo Γ (T, R, S, blk 18 I mo (st A u X), L, D, z) A X mo u b e) (hk : A 11 n = 2) (hs : A 12 n = nI s) (hv : vN A X b e lo s w) : Ex Γ (d + 2 * e + 3) Y_X9_holdsOne [.ref mo, .ref (mo + u), .int (nI n)] (T, R, S, blk 18 I mo (st A u X), L, D, z) 0 0 (rI (bI (!w)) (T, R, S, blk 18 I mo (st A u X), L, D, z)) := by
  refine Ex.of (by decide) (by simp [Value.category]) (Nat.le_of_ble_eq_true rfl) rfl ?_
  refine jj_aload_n (q := 1) dX9_holdsOne_0 rfl rfl rfl ?_
  refine jj_getS (q := 4) dX9_holdsOne_1 fl_X9_58 hm.t0 hm.r0_21 rfl rfl rfl ?_
  refine jj_iload_n (q := 5) dX9_holdsOne_4 rfl rfl rfl ?_
  refine jj_ialdW (q := 6) (j := n) (v := 2) dX9_holdsOne_5 hm.t11 (blk_sn (show 11 < 18 by omega) (show 11 ≠ u by omega)) rfl (by omega) hk rfl ?_
  refine jj_tableIn (tgt := 32) dX9_holdsOne_6 (by decide) (by decide) rfl rfl ?_
  refine jj_aload_n (q := 33) dX9_holdsOne_32 rfl rfl rfl ?_
  refine jj_aload_n (q := 34) dX9_holdsOne_33 rfl rfl rfl ?_
  refine jj_aload_n (q := 35) dX9_holdsOne_34 rfl rfl rfl ?_
  refine jj_getS (q := 38) dX9_holdsOne_35 fl_X9_61 hm.t0 hm.r0_22 rfl rfl rfl ?_
  refine jj_iload_n (q := 39) dX9_holdsOne_38 rfl rfl rfl ?_
  refine jj_ialdW (q := 40) (j := n) (v := nI s) dX9_holdsOne_39 hm.t12 (blk_sn (show 12 < 18 by omega) (show 12 ≠ u by omega)) rfl (by omega) hs rfl ?_
  refine jj_cV2i (q := 43) dX9_holdsOne_40 yk_X9_holds ml_X9_282 hm.t0 (ih d _ _ _ hv) rfl rfl rfl ⟨Nat.zero_le _, Nat.zero_le _⟩ ?_
  refine jj_if_ne (q := 46) (tgt := 50) dX9_holdsOne_43 rfl rfl (fun h43 => ?_) (fun h43 => ?_)
  · refine jj_iconst (v := 0) (q := 51) dX9_holdsOne_50 rfl rfl ?_
    refine jj_zret dX9_holdsOne_51 rfl (by first | rfl | assumption) (Nat.zero_le _) (Nat.zero_le _) ?_
    exact ⟨by cases w <;> first | rfl | exact absurd h43 (by decide) | exact absurd (by decide) h43, rfl⟩
  · refine jj_iconst (v := 1) (q := 47) dX9_holdsOne_46 rfl rfl ?_
    refine jj_goto (tgt := 51) dX9_holdsOne_47 rfl ?_
    refine jj_zret dX9_holdsOne_51 rfl (by first | rfl | assumption) (Nat.zero_le _) (Nat.zero_le _) ?_
    exact ⟨by cases w <;> first | rfl | exact absurd h43 (by decide) | exact absurd (by decide) h43, rfl⟩
theorem ex_one1 (hm : hMo T S mo) (hu : 4 ≤ u ∧ u ≤ 6) (hX : mI X) {b : Nat} (hb : b < 100) (hab : A 0 28 = nI b) {n w : Nat} (hn : n < 1400) (hk : A 11 n = nI (3 + 0)) (hs : A 12 n = nI w) (hw : w < 5) : Ex Γ (d + 2) Y_X9_holdsOne [.ref mo, .ref (mo + u), .int (nI n)] (T, R, S, blk 18 I mo (st A u X), L, D, z) 0 0 (rI (bI (mCmp 0 (mAs X b w) (A 13 n))) (T, R, S, blk 18 I mo (st A u X), L, D, z)) := by
  refine Ex.of (by decide) (by simp [Value.category]) (Nat.le_of_ble_eq_true rfl) rfl ?_
  refine jj_aload_n (q := 1) dX9_holdsOne_0 rfl rfl rfl ?_
  refine jj_getS (q := 4) dX9_holdsOne_1 fl_X9_58 hm.t0 hm.r0_21 rfl rfl rfl ?_
  refine jj_iload_n (q := 5) dX9_holdsOne_4 rfl rfl rfl ?_
  refine jj_ialdW (q := 6) (j := n) (v := nI 3) dX9_holdsOne_5 hm.t11 (blk_sn (show 11 < 18 by omega) (show 11 ≠ u by omega)) rfl (by omega) hk rfl ?_
  refine jj_tableIn (tgt := 52) dX9_holdsOne_6 (by decide) (by decide) rfl rfl ?_
  refine jj_aload_n (q := 53) dX9_holdsOne_52 rfl rfl rfl ?_
  refine jj_aload_n (q := 54) dX9_holdsOne_53 rfl rfl rfl ?_
  refine jj_aload_n (q := 55) dX9_holdsOne_54 rfl rfl rfl ?_
  refine jj_getS (q := 58) dX9_holdsOne_55 fl_X9_61 hm.t0 hm.r0_22 rfl rfl rfl ?_
  refine jj_iload_n (q := 59) dX9_holdsOne_58 rfl rfl rfl ?_
  refine jj_ialdW (q := 60) (j := n) (v := nI w) dX9_holdsOne_59 hm.t12 (blk_sn (show 12 < 18 by omega) (show 12 ≠ u by omega)) rfl (by omega) hs rfl ?_
  refine jj_cV2i (q := 63) dX9_holdsOne_60 yk_X9_asked ml_X9_285 hm.t0 (ex_asked hm hu hX hb hab hw) rfl rfl rfl ⟨Nat.zero_le _, Nat.zero_le _⟩ ?_
  refine jj_aload_n (q := 64) dX9_holdsOne_63 rfl rfl rfl ?_
  refine jj_getS (q := 67) dX9_holdsOne_64 fl_X9_64 hm.t0 hm.r0_23 rfl rfl rfl ?_
  refine jj_iload_n (q := 68) dX9_holdsOne_67 rfl rfl rfl ?_
  refine jj_ialdN (q := 69) (j := n) dX9_holdsOne_68 hm.t13 (blk_sn (show 13 < 18 by omega) (show 13 ≠ u by omega)) rfl (by omega) rfl ?_
  refine jj_icmp_ge (q := 72) (tgt := 76) dX9_holdsOne_69 rfl rfl (fun h69 => ?_) (fun h69 => ?_)
  · refine jj_iconst (v := 0) (q := 77) dX9_holdsOne_76 rfl rfl ?_
    refine jj_zret dX9_holdsOne_77 rfl (by first | rfl | assumption) (Nat.zero_le _) (Nat.zero_le _) ?_
    exact ⟨by show _ = Sum.inl (some (Value.int (bI (decide _)))); (first | (rw [decide_eq_false (Int32.not_lt.mpr h69)]) | (rw [decide_eq_true (Int32.not_le.mp h69)])); rfl, rfl⟩
  · refine jj_iconst (v := 1) (q := 73) dX9_holdsOne_72 rfl rfl ?_
    refine jj_goto (tgt := 77) dX9_holdsOne_73 rfl ?_
    refine jj_zret dX9_holdsOne_77 rfl (by first | rfl | assumption) (Nat.zero_le _) (Nat.zero_le _) ?_
    exact ⟨by show _ = Sum.inl (some (Value.int (bI (decide _)))); (first | (rw [decide_eq_false (Int32.not_lt.mpr h69)]) | (rw [decide_eq_true (Int32.not_le.mp h69)])); rfl, rfl⟩
theorem ex_one2 (hm : hMo T S mo) (hu : 4 ≤ u ∧ u ≤ 6) (hX : mI X) {b : Nat} (hb : b < 100) (hab : A 0 28 = nI b) {n w : Nat} (hn : n < 1400) (hk : A 11 n = nI (3 + 1)) (hs : A 12 n = nI w) (hw : w < 5) : Ex Γ (d + 2) Y_X9_holdsOne [.ref mo, .ref (mo + u), .int (nI n)] (T, R, S, blk 18 I mo (st A u X), L, D, z) 0 0 (rI (bI (mCmp 1 (mAs X b w) (A 13 n))) (T, R, S, blk 18 I mo (st A u X), L, D, z)) := by
  refine Ex.of (by decide) (by simp [Value.category]) (Nat.le_of_ble_eq_true rfl) rfl ?_
  refine jj_aload_n (q := 1) dX9_holdsOne_0 rfl rfl rfl ?_
  refine jj_getS (q := 4) dX9_holdsOne_1 fl_X9_58 hm.t0 hm.r0_21 rfl rfl rfl ?_
  refine jj_iload_n (q := 5) dX9_holdsOne_4 rfl rfl rfl ?_
  refine jj_ialdW (q := 6) (j := n) (v := nI 4) dX9_holdsOne_5 hm.t11 (blk_sn (show 11 < 18 by omega) (show 11 ≠ u by omega)) rfl (by omega) hk rfl ?_
  refine jj_tableIn (tgt := 78) dX9_holdsOne_6 (by decide) (by decide) rfl rfl ?_
  refine jj_aload_n (q := 79) dX9_holdsOne_78 rfl rfl rfl ?_
  refine jj_aload_n (q := 80) dX9_holdsOne_79 rfl rfl rfl ?_
  refine jj_aload_n (q := 81) dX9_holdsOne_80 rfl rfl rfl ?_
  refine jj_getS (q := 84) dX9_holdsOne_81 fl_X9_61 hm.t0 hm.r0_22 rfl rfl rfl ?_
  refine jj_iload_n (q := 85) dX9_holdsOne_84 rfl rfl rfl ?_
  refine jj_ialdW (q := 86) (j := n) (v := nI w) dX9_holdsOne_85 hm.t12 (blk_sn (show 12 < 18 by omega) (show 12 ≠ u by omega)) rfl (by omega) hs rfl ?_
  refine jj_cV2i (q := 89) dX9_holdsOne_86 yk_X9_asked ml_X9_285 hm.t0 (ex_asked hm hu hX hb hab hw) rfl rfl rfl ⟨Nat.zero_le _, Nat.zero_le _⟩ ?_
  refine jj_aload_n (q := 90) dX9_holdsOne_89 rfl rfl rfl ?_
  refine jj_getS (q := 93) dX9_holdsOne_90 fl_X9_64 hm.t0 hm.r0_23 rfl rfl rfl ?_
  refine jj_iload_n (q := 94) dX9_holdsOne_93 rfl rfl rfl ?_
  refine jj_ialdN (q := 95) (j := n) dX9_holdsOne_94 hm.t13 (blk_sn (show 13 < 18 by omega) (show 13 ≠ u by omega)) rfl (by omega) rfl ?_
  refine jj_icmp_le (q := 98) (tgt := 102) dX9_holdsOne_95 rfl rfl (fun h95 => ?_) (fun h95 => ?_)
  · refine jj_iconst (v := 0) (q := 103) dX9_holdsOne_102 rfl rfl ?_
    refine jj_zret dX9_holdsOne_103 rfl (by first | rfl | assumption) (Nat.zero_le _) (Nat.zero_le _) ?_
    exact ⟨by show _ = Sum.inl (some (Value.int (bI (decide _)))); (first | (rw [decide_eq_false (Int32.not_lt.mpr h95)]) | (rw [decide_eq_true (Int32.not_le.mp h95)])); rfl, rfl⟩
  · refine jj_iconst (v := 1) (q := 99) dX9_holdsOne_98 rfl rfl ?_
    refine jj_goto (tgt := 103) dX9_holdsOne_99 rfl ?_
    refine jj_zret dX9_holdsOne_103 rfl (by first | rfl | assumption) (Nat.zero_le _) (Nat.zero_le _) ?_
    exact ⟨by show _ = Sum.inl (some (Value.int (bI (decide _)))); (first | (rw [decide_eq_false (Int32.not_lt.mpr h95)]) | (rw [decide_eq_true (Int32.not_le.mp h95)])); rfl, rfl⟩
theorem ex_one3 (hm : hMo T S mo) (hu : 4 ≤ u ∧ u ≤ 6) (hX : mI X) {b : Nat} (hb : b < 100) (hab : A 0 28 = nI b) {n w : Nat} (hn : n < 1400) (hk : A 11 n = nI (3 + 2)) (hs : A 12 n = nI w) (hw : w < 5) : Ex Γ (d + 2) Y_X9_holdsOne [.ref mo, .ref (mo + u), .int (nI n)] (T, R, S, blk 18 I mo (st A u X), L, D, z) 0 0 (rI (bI (mCmp 2 (mAs X b w) (A 13 n))) (T, R, S, blk 18 I mo (st A u X), L, D, z)) := by
  refine Ex.of (by decide) (by simp [Value.category]) (Nat.le_of_ble_eq_true rfl) rfl ?_
  refine jj_aload_n (q := 1) dX9_holdsOne_0 rfl rfl rfl ?_
  refine jj_getS (q := 4) dX9_holdsOne_1 fl_X9_58 hm.t0 hm.r0_21 rfl rfl rfl ?_
  refine jj_iload_n (q := 5) dX9_holdsOne_4 rfl rfl rfl ?_
  refine jj_ialdW (q := 6) (j := n) (v := nI 5) dX9_holdsOne_5 hm.t11 (blk_sn (show 11 < 18 by omega) (show 11 ≠ u by omega)) rfl (by omega) hk rfl ?_
  refine jj_tableOut (tgt := 104) dX9_holdsOne_6 (Or.inr (by decide)) rfl ?_
  refine jj_aload_n (q := 105) dX9_holdsOne_104 rfl rfl rfl ?_
  refine jj_aload_n (q := 106) dX9_holdsOne_105 rfl rfl rfl ?_
  refine jj_aload_n (q := 107) dX9_holdsOne_106 rfl rfl rfl ?_
  refine jj_getS (q := 110) dX9_holdsOne_107 fl_X9_61 hm.t0 hm.r0_22 rfl rfl rfl ?_
  refine jj_iload_n (q := 111) dX9_holdsOne_110 rfl rfl rfl ?_
  refine jj_ialdW (q := 112) (j := n) (v := nI w) dX9_holdsOne_111 hm.t12 (blk_sn (show 12 < 18 by omega) (show 12 ≠ u by omega)) rfl (by omega) hs rfl ?_
  refine jj_cV2i (q := 115) dX9_holdsOne_112 yk_X9_asked ml_X9_285 hm.t0 (ex_asked hm hu hX hb hab hw) rfl rfl rfl ⟨Nat.zero_le _, Nat.zero_le _⟩ ?_
  refine jj_aload_n (q := 116) dX9_holdsOne_115 rfl rfl rfl ?_
  refine jj_getS (q := 119) dX9_holdsOne_116 fl_X9_64 hm.t0 hm.r0_23 rfl rfl rfl ?_
  refine jj_iload_n (q := 120) dX9_holdsOne_119 rfl rfl rfl ?_
  refine jj_ialdN (q := 121) (j := n) dX9_holdsOne_120 hm.t13 (blk_sn (show 13 < 18 by omega) (show 13 ≠ u by omega)) rfl (by omega) rfl ?_
  refine jj_icmp_ne (q := 124) (tgt := 128) dX9_holdsOne_121 rfl rfl (fun h121 => ?_) (fun h121 => ?_)
  · refine jj_iconst (v := 0) (q := 129) dX9_holdsOne_128 rfl rfl ?_
    refine jj_zret dX9_holdsOne_129 rfl (by first | rfl | assumption) (Nat.zero_le _) (Nat.zero_le _) ?_
    exact ⟨by show _ = Sum.inl (some (Value.int (bI (decide _)))); (first | (rw [decide_eq_false h121]) | (rw [decide_eq_true h121])); rfl, rfl⟩
  · refine jj_iconst (v := 1) (q := 125) dX9_holdsOne_124 rfl rfl ?_
    refine jj_goto (tgt := 129) dX9_holdsOne_125 rfl ?_
    refine jj_zret dX9_holdsOne_129 rfl (by first | rfl | assumption) (Nat.zero_le _) (Nat.zero_le _) ?_
    exact ⟨by show _ = Sum.inl (some (Value.int (bI (decide _)))); (first | (rw [decide_eq_false h121]) | (rw [decide_eq_true h121])); rfl, rfl⟩
theorem nI_inj' {a b : Nat} (ha : a < 2 ^ 31) (hb : b < 2 ^ 31) (h : nI a = nI b) : a = b := by
  have e := congrArg nN h
  rw [nN_nI ha, nN_nI hb] at e
  exact e
theorem bI_a0 {x : Int32} {a w : Bool} (h : x = bI a) (q : x = 0) : 0 = bI (a && w) := by
  rw [h] at q
  rw [bI_0.mp q]; rfl
theorem bI_a1 {x : Int32} {a w : Bool} (h : x = bI a) (q : ¬ x = 0) (p : bI w = 0) : 0 = bI (a && w) := by
  rw [bI_0.mp p, Bool.and_false]; rfl
theorem bI_a2 {x : Int32} {a w : Bool} (h : x = bI a) (q : ¬ x = 0) (p : ¬ bI w = 0) : 1 = bI (a && w) := by
  rw [h] at q
  cases a
  · exact absurd rfl q
  · cases w
    · exact absurd rfl p
    · rfl
theorem bI_o0 {x : Int32} {a w : Bool} (h : x = bI a) (q : ¬ x = 0) : 1 = bI (a || w) := by
  rw [h] at q
  cases a
  · exact absurd rfl q
  · rfl
theorem bI_o1 {x : Int32} {a w : Bool} (h : x = bI a) (q : x = 0) (p : bI w = 0) : 0 = bI (a || w) := by
  rw [h] at q
  rw [bI_0.mp q, bI_0.mp p]; rfl
theorem bI_o2 {x : Int32} {a w : Bool} (h : x = bI a) (q : x = 0) (p : ¬ bI w = 0) : 1 = bI (a || w) := by
  cases w
  · exact absurd rfl p
  · rw [Bool.or_true]; rfl
def lk (A : JI) (X : JV) (b e : Nat) (c : Nat → Nat) (g : Nat → Bool) (i : Nat) : Prop := (A 11 (c (i + 1)) = 0 ∨ A 11 (c (i + 1)) = 1) ∧ A 12 (c (i + 1)) = nI (c i) ∧ A 14 (c i) = nI (c (i + 1)) ∧ ∃ s w, A 13 (c (i + 1)) = nI s ∧ s < c (i + 1) ∧ vN A X b e (c i + 1) s w ∧ g (i + 1) = if A 11 (c (i + 1)) = 0 then (g i && w) else (g i || w)
theorem lp_hoUp (hm : hMo T S mo) (hu : 4 ≤ u ∧ u ≤ 6) {b e m n : Nat} {c : Nat → Nat} {g : Nat → Bool} (hcm : c m = n) (hcb : ∀ i, i ≤ m → c i < 1400) (hcl : ∀ i j, i < j → j ≤ m → c i < c j) (hl : ∀ i, i < m → lk A X b e c g i) (ih0 : cHo Γ (T, R, S, blk 18 I mo (st A u X), L, D, z) A X mo u b e) : ∀ (k i : Nat) (x : Int32), (i + k = m ∧ x = bI (g i)) → JJ Γ (jj_E Y_X9_holds) (jj_Z Γ (rI (bI (g m)) (T, R, S, blk 18 I mo (st A u X), L, D, z)) 0 0) (jj_rm (d + 2 * (e + 1) + 2) 0 0) 0 0 39 [some (.ref mo), some (.ref (mo + u)), some (.int (nI n)), some (.int (nI (c i))), some (.int x)] [] (T, R, S, blk 18 I mo (st A u X), L, D, z) := by
  have hr : ∀ (lo n : Nat) (v : Bool), vN A X b e lo n v → Ex Γ (d + 2 * (e + 1) + 1) Y_X9_holds [.ref mo, .ref (mo + u), .int (nI n)] (T, R, S, blk 18 I mo (st A u X), L, D, z) 0 0 (rI (bI v) (T, R, S, blk 18 I mo (st A u X), L, D, z)) := by
    rw [show d + 2 * (e + 1) + 1 = (d + 1) + 2 * e + 2 by omega]
    exact ih0 (d + 1)
  intro k
  induction k with
  | zero =>
    intro i x hi
    refine jj_iload_n (q := 40) dX9_holds_39 rfl rfl rfl ?_
    refine jj_iload_n (q := 41) dX9_holds_40 rfl rfl rfl ?_
    refine jj_icmp_eq (q := 44) (tgt := 116) dX9_holds_41 rfl rfl (fun h41 => ?_) (fun h41 => absurd (by rw [← hcm, show i = m by omega]) h41)
    refine jj_iload (q := 118) dX9_holds_116 rfl rfl ?_
    refine jj_zret dX9_holds_118 rfl (by rw [hi.2]; exact bI_n _) (Nat.zero_le _) (Nat.zero_le _) ?_
    exact ⟨by rw [hi.2, show i = m by omega], rfl⟩
  | succ k ih =>
    intro i x hi
    have hne : ¬ nI (c i) = nI n := fun q => by
      have q1 := nI_inj' (by have := hcb i (by omega); omega) (by have := hcb m (by omega); omega) q
      have := hcl i m (by omega) (by omega)
      omega
    obtain ⟨hk, h12, h14, s, w, h13, hsl, hv, he⟩ := hl i (by omega)
    have hb0 := hcb i (by omega)
    have hb1 := hcb (i + 1) (by omega)
    refine jj_iload_n (q := 40) dX9_holds_39 rfl rfl rfl ?_
    refine jj_iload_n (q := 41) dX9_holds_40 rfl rfl rfl ?_
    refine jj_icmp_eq (q := 44) (tgt := 116) dX9_holds_41 rfl rfl (fun h41 => absurd h41 (hne)) (fun h41 => ?_)
    refine jj_aload_n (q := 45) dX9_holds_44 rfl rfl rfl ?_
    refine jj_getS (q := 48) dX9_holds_45 fl_X9_67 hm.t0 hm.r0_24 rfl rfl rfl ?_
    refine jj_iload_n (q := 49) dX9_holds_48 rfl rfl rfl ?_
    refine jj_ialdW (q := 50) (j := c i) (v := nI (c (i + 1))) dX9_holds_49 hm.t14 (blk_sn (show 14 < 18 by omega) (show 14 ≠ u by omega)) rfl (by omega) h14 rfl ?_
    refine jj_istore_n (q := 51) dX9_holds_50 rfl (by decide) rfl ?_
    refine jj_aload_n (q := 52) dX9_holds_51 rfl rfl rfl ?_
    refine jj_getS (q := 55) dX9_holds_52 fl_X9_58 hm.t0 hm.r0_21 rfl rfl rfl ?_
    refine jj_iload_n (q := 56) dX9_holds_55 rfl rfl rfl ?_
    refine jj_ialdN (q := 57) (j := c (i + 1)) dX9_holds_56 hm.t11 (blk_sn (show 11 < 18 by omega) (show 11 ≠ u by omega)) rfl (by omega) rfl ?_
    refine jj_if_ne (q := 60) (tgt := 87) dX9_holds_57 rfl rfl (fun h57 => ?_) (fun h57 => ?_)
    · refine jj_iload (q := 89) dX9_holds_87 rfl rfl ?_
      refine jj_if_ne (q := 92) (tgt := 106) dX9_holds_89 rfl rfl (fun h89 => ?_) (fun h89 => ?_)
      · refine jj_iconst (v := 1) (q := 107) dX9_holds_106 rfl rfl ?_
        refine jj_goto (tgt := 111) dX9_holds_107 rfl ?_
        refine jj_istore (q := 113) dX9_holds_111 (by decide) rfl ?_
        refine jj_goto (tgt := 39) dX9_holds_113 rfl ?_
        exact ih (i + 1) _ ⟨by omega, by rw [he]; (first | rw [if_pos h57] | rw [if_neg h57]); first | exact bI_a0 hi.2 h62 | exact bI_a1 hi.2 h62 h76 | exact bI_a2 hi.2 h62 h76 | exact bI_o0 hi.2 h89 | exact bI_o1 hi.2 h89 h103 | exact bI_o2 hi.2 h89 h103⟩
      · refine jj_aload_n (q := 93) dX9_holds_92 rfl rfl rfl ?_
        refine jj_aload_n (q := 94) dX9_holds_93 rfl rfl rfl ?_
        refine jj_aload_n (q := 95) dX9_holds_94 rfl rfl rfl ?_
        refine jj_getS (q := 98) dX9_holds_95 fl_X9_64 hm.t0 hm.r0_23 rfl rfl rfl ?_
        refine jj_iload_n (q := 99) dX9_holds_98 rfl rfl rfl ?_
        refine jj_ialdW (q := 100) (j := c (i + 1)) (v := nI s) dX9_holds_99 hm.t13 (blk_sn (show 13 < 18 by omega) (show 13 ≠ u by omega)) rfl (by omega) h13 rfl ?_
        refine jj_cV2i (q := 103) dX9_holds_100 yk_X9_holds ml_X9_282 hm.t0 (hr _ _ _ hv) rfl rfl rfl ⟨Nat.zero_le _, Nat.zero_le _⟩ ?_
        refine jj_if_eq (q := 106) (tgt := 110) dX9_holds_103 rfl rfl (fun h103 => ?_) (fun h103 => ?_)
        · refine jj_iconst (v := 0) (q := 111) dX9_holds_110 rfl rfl ?_
          refine jj_istore (q := 113) dX9_holds_111 (by decide) rfl ?_
          refine jj_goto (tgt := 39) dX9_holds_113 rfl ?_
          exact ih (i + 1) _ ⟨by omega, by rw [he]; (first | rw [if_pos h57] | rw [if_neg h57]); first | exact bI_a0 hi.2 h62 | exact bI_a1 hi.2 h62 h76 | exact bI_a2 hi.2 h62 h76 | exact bI_o0 hi.2 h89 | exact bI_o1 hi.2 h89 h103 | exact bI_o2 hi.2 h89 h103⟩
        · refine jj_iconst (v := 1) (q := 107) dX9_holds_106 rfl rfl ?_
          refine jj_goto (tgt := 111) dX9_holds_107 rfl ?_
          refine jj_istore (q := 113) dX9_holds_111 (by decide) rfl ?_
          refine jj_goto (tgt := 39) dX9_holds_113 rfl ?_
          exact ih (i + 1) _ ⟨by omega, by rw [he]; (first | rw [if_pos h57] | rw [if_neg h57]); first | exact bI_a0 hi.2 h62 | exact bI_a1 hi.2 h62 h76 | exact bI_a2 hi.2 h62 h76 | exact bI_o0 hi.2 h89 | exact bI_o1 hi.2 h89 h103 | exact bI_o2 hi.2 h89 h103⟩
    · refine jj_iload (q := 62) dX9_holds_60 rfl rfl ?_
      refine jj_if_eq (q := 65) (tgt := 83) dX9_holds_62 rfl rfl (fun h62 => ?_) (fun h62 => ?_)
      · refine jj_iconst (v := 0) (q := 84) dX9_holds_83 rfl rfl ?_
        refine jj_goto (tgt := 111) dX9_holds_84 rfl ?_
        refine jj_istore (q := 113) dX9_holds_111 (by decide) rfl ?_
        refine jj_goto (tgt := 39) dX9_holds_113 rfl ?_
        exact ih (i + 1) _ ⟨by omega, by rw [he]; (first | rw [if_pos h57] | rw [if_neg h57]); first | exact bI_a0 hi.2 h62 | exact bI_a1 hi.2 h62 h76 | exact bI_a2 hi.2 h62 h76 | exact bI_o0 hi.2 h89 | exact bI_o1 hi.2 h89 h103 | exact bI_o2 hi.2 h89 h103⟩
      · refine jj_aload_n (q := 66) dX9_holds_65 rfl rfl rfl ?_
        refine jj_aload_n (q := 67) dX9_holds_66 rfl rfl rfl ?_
        refine jj_aload_n (q := 68) dX9_holds_67 rfl rfl rfl ?_
        refine jj_getS (q := 71) dX9_holds_68 fl_X9_64 hm.t0 hm.r0_23 rfl rfl rfl ?_
        refine jj_iload_n (q := 72) dX9_holds_71 rfl rfl rfl ?_
        refine jj_ialdW (q := 73) (j := c (i + 1)) (v := nI s) dX9_holds_72 hm.t13 (blk_sn (show 13 < 18 by omega) (show 13 ≠ u by omega)) rfl (by omega) h13 rfl ?_
        refine jj_cV2i (q := 76) dX9_holds_73 yk_X9_holds ml_X9_282 hm.t0 (hr _ _ _ hv) rfl rfl rfl ⟨Nat.zero_le _, Nat.zero_le _⟩ ?_
        refine jj_if_eq (q := 79) (tgt := 83) dX9_holds_76 rfl rfl (fun h76 => ?_) (fun h76 => ?_)
        · refine jj_iconst (v := 0) (q := 84) dX9_holds_83 rfl rfl ?_
          refine jj_goto (tgt := 111) dX9_holds_84 rfl ?_
          refine jj_istore (q := 113) dX9_holds_111 (by decide) rfl ?_
          refine jj_goto (tgt := 39) dX9_holds_113 rfl ?_
          exact ih (i + 1) _ ⟨by omega, by rw [he]; (first | rw [if_pos h57] | rw [if_neg h57]); first | exact bI_a0 hi.2 h62 | exact bI_a1 hi.2 h62 h76 | exact bI_a2 hi.2 h62 h76 | exact bI_o0 hi.2 h89 | exact bI_o1 hi.2 h89 h103 | exact bI_o2 hi.2 h89 h103⟩
        · refine jj_iconst (v := 1) (q := 80) dX9_holds_79 rfl rfl ?_
          refine jj_goto (tgt := 111) dX9_holds_80 rfl ?_
          refine jj_istore (q := 113) dX9_holds_111 (by decide) rfl ?_
          refine jj_goto (tgt := 39) dX9_holds_113 rfl ?_
          exact ih (i + 1) _ ⟨by omega, by rw [he]; (first | rw [if_pos h57] | rw [if_neg h57]); first | exact bI_a0 hi.2 h62 | exact bI_a1 hi.2 h62 h76 | exact bI_a2 hi.2 h62 h76 | exact bI_o0 hi.2 h89 | exact bI_o1 hi.2 h89 h103 | exact bI_o2 hi.2 h89 h103⟩
theorem lp_hoDn (hm : hMo T S mo) (hu : 4 ≤ u ∧ u ≤ 6) {b e m n : Nat} {c : Nat → Nat} {g : Nat → Bool} (hcm : c m = n) (hcb : ∀ i, i ≤ m → c i < 1400) (hcl : ∀ i j, i < j → j ≤ m → c i < c j) (hl : ∀ i, i < m → lk A X b e c g i) (h0 : ¬ A 11 (c 0) = 0) (h1 : ¬ A 11 (c 0) = 1) {Zf : List Frame → Array Value → State → State → Prop} {Rm : Room} (hz : ∀ x4, JJ Γ (jj_E Y_X9_holds) Zf Rm 0 0 31 [some (.ref mo), some (.ref (mo + u)), some (.int (nI n)), some (.int (nI (c 0))), x4] [] (T, R, S, blk 18 I mo (st A u X), L, D, z)) : ∀ (k : Nat) (x4 : Option Value), k ≤ m → JJ Γ (jj_E Y_X9_holds) Zf Rm 0 0 2 [some (.ref mo), some (.ref (mo + u)), some (.int (nI n)), some (.int (nI (c k))), x4] [] (T, R, S, blk 18 I mo (st A u X), L, D, z) := by
  intro k
  induction k with
  | zero =>
    intro x4 hi
    have hb0 := hcb 0 (by omega)
    refine jj_aload_n (q := 3) dX9_holds_2 rfl rfl rfl ?_
    refine jj_getS (q := 6) dX9_holds_3 fl_X9_58 hm.t0 hm.r0_21 rfl rfl rfl ?_
    refine jj_iload_n (q := 7) dX9_holds_6 rfl rfl rfl ?_
    refine jj_ialdN (q := 8) (j := c 0) dX9_holds_7 hm.t11 (blk_sn (show 11 < 18 by omega) (show 11 ≠ u by omega)) rfl (by omega) rfl ?_
    refine jj_if_eq (q := 11) (tgt := 21) dX9_holds_8 rfl rfl (fun h8 => absurd h8 (h0)) (fun h8 => ?_)
    refine jj_aload_n (q := 12) dX9_holds_11 rfl rfl rfl ?_
    refine jj_getS (q := 15) dX9_holds_12 fl_X9_58 hm.t0 hm.r0_21 rfl rfl rfl ?_
    refine jj_iload_n (q := 16) dX9_holds_15 rfl rfl rfl ?_
    refine jj_ialdN (q := 17) (j := c 0) dX9_holds_16 hm.t11 (blk_sn (show 11 < 18 by omega) (show 11 ≠ u by omega)) rfl (by omega) rfl ?_
    refine jj_iconst (v := 1) (q := 18) dX9_holds_17 rfl rfl ?_
    refine jj_icmp_ne (q := 21) (tgt := 31) dX9_holds_18 rfl rfl (fun h18 => ?_) (fun h18 => by exfalso; exact h1 h18)
    exact hz x4
  | succ k ih =>
    intro x4 hi
    obtain ⟨hk, h12, h14, s, w, h13, hsl, hv, he⟩ := hl k (by omega)
    have hb1 := hcb (k + 1) (by omega)
    refine jj_aload_n (q := 3) dX9_holds_2 rfl rfl rfl ?_
    refine jj_getS (q := 6) dX9_holds_3 fl_X9_58 hm.t0 hm.r0_21 rfl rfl rfl ?_
    refine jj_iload_n (q := 7) dX9_holds_6 rfl rfl rfl ?_
    refine jj_ialdN (q := 8) (j := c (k + 1)) dX9_holds_7 hm.t11 (blk_sn (show 11 < 18 by omega) (show 11 ≠ u by omega)) rfl (by omega) rfl ?_
    refine jj_if_eq (q := 11) (tgt := 21) dX9_holds_8 rfl rfl (fun h8 => ?_) (fun h8 => ?_)
    · refine jj_aload_n (q := 22) dX9_holds_21 rfl rfl rfl ?_
      refine jj_getS (q := 25) dX9_holds_22 fl_X9_61 hm.t0 hm.r0_22 rfl rfl rfl ?_
      refine jj_iload_n (q := 26) dX9_holds_25 rfl rfl rfl ?_
      refine jj_ialdW (q := 27) (j := c (k + 1)) (v := nI (c k)) dX9_holds_26 hm.t12 (blk_sn (show 12 < 18 by omega) (show 12 ≠ u by omega)) rfl (by omega) h12 rfl ?_
      refine jj_istore_n (q := 28) dX9_holds_27 rfl (by decide) rfl ?_
      refine jj_goto (tgt := 2) dX9_holds_28 rfl ?_
      exact ih x4 (by omega)
    · refine jj_aload_n (q := 12) dX9_holds_11 rfl rfl rfl ?_
      refine jj_getS (q := 15) dX9_holds_12 fl_X9_58 hm.t0 hm.r0_21 rfl rfl rfl ?_
      refine jj_iload_n (q := 16) dX9_holds_15 rfl rfl rfl ?_
      refine jj_ialdN (q := 17) (j := c (k + 1)) dX9_holds_16 hm.t11 (blk_sn (show 11 < 18 by omega) (show 11 ≠ u by omega)) rfl (by omega) rfl ?_
      refine jj_iconst (v := 1) (q := 18) dX9_holds_17 rfl rfl ?_
      refine jj_icmp_ne (q := 21) (tgt := 31) dX9_holds_18 rfl rfl (fun h18 => by exfalso; exact hk.elim h8 h18) (fun h18 => ?_)
      refine jj_aload_n (q := 22) dX9_holds_21 rfl rfl rfl ?_
      refine jj_getS (q := 25) dX9_holds_22 fl_X9_61 hm.t0 hm.r0_22 rfl rfl rfl ?_
      refine jj_iload_n (q := 26) dX9_holds_25 rfl rfl rfl ?_
      refine jj_ialdW (q := 27) (j := c (k + 1)) (v := nI (c k)) dX9_holds_26 hm.t12 (blk_sn (show 12 < 18 by omega) (show 12 ≠ u by omega)) rfl (by omega) h12 rfl ?_
      refine jj_istore_n (q := 28) dX9_holds_27 rfl (by decide) rfl ?_
      refine jj_goto (tgt := 2) dX9_holds_28 rfl ?_
      exact ih x4 (by omega)
theorem ex_mholds (hm : hMo T S mo) (hu : 4 ≤ u ∧ u ≤ 6) (hX : mI X) {b : Nat} (hb : b < 100) (hab : A 0 28 = nI b) : ∀ e, cHo Γ (T, R, S, blk 18 I mo (st A u X), L, D, z) A X mo u b e := by
  intro e
  induction e with
  | zero => intro d lo n v hv; exact hv.elim
  | succ e ih0 =>
    intro d lo n v hv
    obtain ⟨m, c, g, hcm, hgm, hcb', hcl, hlf, hl⟩ := hv
    have hcb : ∀ i, i ≤ m → c i < 1400 := fun i hi => (hcb' i hi).2
    have h0 : ¬ A 11 (c 0) = 0 := by
      rcases hlf with q | ⟨o, w, q1, q2, _⟩
      · rw [q.1]; decide
      · rw [q2]; exact fun q => by have := nI_inj' (a := 3 + o) (b := 0) (by omega) (by omega) q; omega
    have h1 : ¬ A 11 (c 0) = 1 := by
      rcases hlf with q | ⟨o, w, q1, q2, _⟩
      · rw [q.1]; decide
      · rw [q2]; exact fun q => by have := nI_inj' (a := 3 + o) (b := 1) (by omega) (by omega) q; omega
    have hone : Ex Γ (d + 2 * (e + 1) + 1) Y_X9_holdsOne [.ref mo, .ref (mo + u), .int (nI (c 0))] (T, R, S, blk 18 I mo (st A u X), L, D, z) 0 0 (rI (bI (g 0)) (T, R, S, blk 18 I mo (st A u X), L, D, z)) := by
      rcases hlf with ⟨q, s, w, h12, _, hv, he⟩ | ⟨o, w, q1, q2, q3, q4, q5⟩
      · rw [he]
        exact ex_one0 (d := d) hm hu (hcb 0 (by omega)) ih0 q h12 hv
      · rw [q5]
        have eo : o = 0 ∨ o = 1 ∨ o = 2 := by omega
        rw [show d + 2 * (e + 1) + 1 = (d + 2 * e + 1) + 2 by omega]
        rcases eo with eo | eo | eo <;> subst eo
        · exact ex_one1 hm hu hX hb hab (hcb 0 (by omega)) q2 q3 q4
        · exact ex_one2 hm hu hX hb hab (hcb 0 (by omega)) q2 q3 q4
        · exact ex_one3 hm hu hX hb hab (hcb 0 (by omega)) q2 q3 q4
    subst hgm
    refine Ex.of (by decide) (by simp [Value.category]) (Nat.le_of_ble_eq_true rfl) rfl ?_
    refine jj_iload_n (q := 1) dX9_holds_0 rfl rfl rfl ?_
    refine jj_istore_n (q := 2) dX9_holds_1 rfl (by decide) rfl ?_
    rw [← hcm]
    refine lp_hoDn hm hu rfl hcb hcl hl h0 h1 (fun x4 => ?_) m none (Nat.le_refl m)
    refine jj_aload_n (q := 32) dX9_holds_31 rfl rfl rfl ?_
    refine jj_aload_n (q := 33) dX9_holds_32 rfl rfl rfl ?_
    refine jj_iload_n (q := 34) dX9_holds_33 rfl rfl rfl ?_
    refine jj_cV2i (q := 37) dX9_holds_34 yk_X9_holdsOne ml_X9_279 hm.t0 hone rfl rfl rfl ⟨Nat.zero_le _, Nat.zero_le _⟩ ?_
    refine jj_istore (q := 39) dX9_holds_37 (by decide) rfl ?_
    exact lp_hoUp hm hu rfl hcb hcl hl ih0 m 0 _ ⟨by omega, rfl⟩
end M28
