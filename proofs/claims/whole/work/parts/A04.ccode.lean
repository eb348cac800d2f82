/-! TESTS of the component: bits, code -/
theorem nI_bv (n : Nat) : (nI n).toBitVec = BitVec.ofNat 32 n := rfl
theorem i32_ext {x y : Int32} (h : x.toBitVec.toNat = y.toBitVec.toNat) : x = y := Int32.toBitVec.inj (BitVec.eq_of_toNat_eq h)
theorem nI_tn {n : Nat} (h : n < 2 ^ 31) : (nI n).toBitVec.toNat = n := by
  rw [nI_bv, BitVec.toNat_ofNat]
  exact Nat.mod_eq_of_lt (by omega)
theorem bt_shl {m : Nat} (h : m < 2 ^ 30) : nI m <<< ((1 : Int32) &&& 31) = nI (2 * m) := by
  apply i32_ext
  rw [nI_tn (by omega)]
  show ((nI m).toBitVec <<< (((1 : Int32) &&& 31).toBitVec.smod 32)).toNat = _
  rw [show ((1 : Int32) &&& 31).toBitVec.smod 32 = 1#32 by decide, BitVec.shiftLeft_eq', BitVec.toNat_shiftLeft, nI_tn (by omega), show (1#32 : BitVec 32).toNat = 1 from rfl, Nat.shiftLeft_eq, Nat.mod_eq_of_lt (by omega)]
  omega
theorem bt_or {m c : Nat} (h : m < 2 ^ 30) (hc : c < 2) : nI (2 * m) ||| nI c = nI (2 * m + c) := by
  apply i32_ext
  rw [nI_tn (by omega)]
  show ((nI (2 * m)).toBitVec ||| (nI c).toBitVec).toNat = _
  rw [BitVec.toNat_or, nI_tn (by omega), nI_tn (by omega)]
  exact (Nat.two_pow_add_eq_or_of_lt (i := 1) (b := c) hc m).symm
theorem bt_and1 {n : Nat} (h : n < 2 ^ 31) : nI n &&& 1 = nI (n % 2) := by
  apply i32_ext
  rw [nI_tn (by omega)]
  show ((nI n).toBitVec &&& 1#32).toNat = _
  rw [BitVec.toNat_and, nI_tn (by omega)]
  exact Nat.and_one_is_mod n
theorem bt_shr {n : Nat} (h : n < 2 ^ 31) : nI n >>> ((1 : Int32) &&& 31) = nI (n / 2) := by
  apply i32_ext
  rw [nI_tn (by omega)]
  show ((nI n).toBitVec.sshiftRight' (((1 : Int32) &&& 31).toBitVec.smod 32)).toNat = _
  rw [show ((1 : Int32) &&& 31).toBitVec.smod 32 = 1#32 by decide, BitVec.sshiftRight_eq', show (1#32 : BitVec 32).toNat = 1 from rfl, BitVec.toNat_sshiftRight_of_msb_false, nI_tn (by omega), Nat.shiftRight_eq_div_pow]
  rw [BitVec.msb_eq_false_iff_two_mul_lt, nI_tn (by omega)]
  omega
theorem bt_xor {m c : Nat} (h : m < 2 ^ 30) (hc : c < 2) : nI (2 * m + c) ^^^ 1 = nI (2 * m + (1 - c)) := by
  apply i32_ext
  rw [nI_tn (by omega)]
  show ((nI (2 * m + c)).toBitVec ^^^ 1#32).toNat = _
  rw [BitVec.toNat_xor, nI_tn (by omega)]
  apply Nat.eq_of_testBit_eq
  intro i
  rw [Nat.testBit_xor]
  cases i with
  | zero =>
    rw [Nat.testBit_zero, Nat.testBit_zero, Nat.testBit_zero]
    rcases (show c = 0 ∨ c = 1 by omega) with rfl | rfl
    · rw [show (2 * m + 0) % 2 = 0 by omega, show (2 * m + (1 - 0)) % 2 = 1 by omega]; decide
    · rw [show (2 * m + 1) % 2 = 1 by omega, show (2 * m + (1 - 1)) % 2 = 0 by omega]; decide
  | succ i =>
    rw [Nat.testBit_succ, Nat.testBit_succ, Nat.testBit_succ, show (2 * m + c) / 2 = m by omega, show (2 * m + (1 - c)) / 2 = m by omega]
    rw [show (1#32 : BitVec 32).toNat / 2 = 0 from rfl, Nat.zero_testBit, Bool.xor_false]
theorem bt_m2 {m c : Nat} (h : m < 2 ^ 30) (hc : c < 2) : nI (2 * m + c) &&& (-2) = nI (2 * m) := by
  apply i32_ext
  rw [nI_tn (by omega)]
  show ((nI (2 * m + c)).toBitVec &&& 4294967294#32).toNat = _
  rw [BitVec.toNat_and, nI_tn (by omega)]
  apply Nat.eq_of_testBit_eq
  intro i
  rw [Nat.testBit_and]
  cases i with
  | zero =>
    rw [Nat.testBit_zero, Nat.testBit_zero, Nat.testBit_zero, show (4294967294#32 : BitVec 32).toNat % 2 = 0 from rfl, show (2 * m) % 2 = 0 by omega]
    simp
  | succ i =>
    rw [Nat.testBit_succ, Nat.testBit_succ, Nat.testBit_succ, show (2 * m + c) / 2 = m by omega, show (2 * m) / 2 = m by omega, show (4294967294#32 : BitVec 32).toNat / 2 = 2 ^ 31 - 1 from rfl, Nat.testBit_two_pow_sub_one]
    by_cases hi : i < 31
    · rw [decide_eq_true hi, Bool.and_true]
    · rw [Nat.testBit_lt_two_pow (Nat.lt_of_lt_of_le h (Nat.pow_le_pow_right (by omega) (by omega))), Bool.false_and]
theorem bt_all (x : Int32) : x &&& (-1) = x := by
  apply Int32.toBitVec.inj
  show x.toBitVec &&& BitVec.allOnes 32 = _
  exact BitVec.and_allOnes
def bN (t : Bool) : Nat := if t = true then 1 else 0
theorem bN_lt (t : Bool) : bN t < 2 := by unfold bN; split <;> omega
/-- the code fr .. to says t, with e answers more on the stack -/
def cdR (P : JI) (fr to e : Nat) (t : Tst) : Prop := fr ≤ to ∧ ∀ (V : Nat → Int32) (m : Nat), m < 2 ^ (30 - e) → hRun (pv P V) (to - fr) fr (nI m) = nI (2 * m + bN (t V))
theorem hRun_add {P : JI} : ∀ (n m i : Nat) (x : Int32), hRun P (n + m) i x = hRun P m (i + n) (hRun P n i x)
  | 0, m, i, x => by rw [Nat.zero_add]; rfl
  | n + 1, m, i, x => by
    rw [show n + 1 + m = (n + m) + 1 by omega]
    show hRun P (n + m) (i + 1) (hSp P i x) = hRun P m (i + (n + 1)) (hRun P n (i + 1) (hSp P i x))
    rw [hRun_add n m (i + 1), show i + 1 + n = i + (n + 1) by omega]
theorem hRun_cg {P P' : JI} : ∀ (n i : Nat) (x : Int32), (∀ j, i ≤ j → j < i + n → P 13 j = P' 13 j ∧ P 14 j = P' 14 j) → P 15 = P' 15 → hRun P n i x = hRun P' n i x
  | 0, _, _, _, _ => rfl
  | n + 1, i, x, h, h5 => by
    have h0 := h i (by omega) (by omega)
    show hRun P n (i + 1) (hSp P i x) = hRun P' n (i + 1) (hSp P' i x)
    rw [show hSp P i x = hSp P' i x by unfold hSp; rw [h0.1, h0.2, h5]]
    exact hRun_cg n (i + 1) _ (fun j h1 h2 => h j (by omega) (by omega)) h5
theorem cdR.cg {P P' : JI} {fr to e : Nat} {t : Tst} (h : cdR P fr to e t) (hc : ∀ j, fr ≤ j → j < to → P 13 j = P' 13 j ∧ P 14 j = P' 14 j) : cdR P' fr to e t := ⟨h.1, fun V m hm => by
  rw [← hRun_cg (P := pv P V) (P' := pv P' V) (to - fr) fr (nI m) (fun j h1 h2 => hc j h1 (by have := h.1; omega)) rfl]
  exact h.2 V m hm⟩
theorem cdR.up {P : JI} {fr to e e' : Nat} {t : Tst} (h : cdR P fr to e t) (he : e ≤ e') : cdR P fr to e' t := ⟨h.1, fun V m hm => h.2 V m (Nat.lt_of_lt_of_le hm (Nat.pow_le_pow_right (by omega) (by omega)))⟩
theorem kd_o {w o : Nat} (hw : w < 5) (ho : o < 3) : nI w * 3 + nI o = nI (w * 3 + o) ∧ nI (w * 3 + o) ≠ 15 ∧ nI (w * 3 + o) ≠ 16 ∧ nI (w * 3 + o) ≠ 17 ∧ nI (w * 3 + o) / 3 = nI w ∧ nI (w * 3 + o) - nI w * 3 = nI o := by
  have h : ∀ (w : Fin 5) (o : Fin 3), nI w.1 * 3 + nI o.1 = nI (w.1 * 3 + o.1) ∧ nI (w.1 * 3 + o.1) ≠ 15 ∧ nI (w.1 * 3 + o.1) ≠ 16 ∧ nI (w.1 * 3 + o.1) ≠ 17 ∧ nI (w.1 * 3 + o.1) / 3 = nI w.1 ∧ nI (w.1 * 3 + o.1) - nI w.1 * 3 = nI o.1 := by decide
  exact h ⟨w, hw⟩ ⟨o, ho⟩
theorem cmp_kd {V : Nat → Int32} {w o v : Nat} (hw : w < 5) (ho : o < 3) : cmpV V (nI (w * 3 + o)) (nI v) = nI (bN (cmpT o w v V)) := by
  obtain ⟨_, _, _, _, h5, h6⟩ := kd_o hw ho
  have hx : cmpX V (nI (w * 3 + o)) = V w := by
    unfold cmpX
    rw [h5, if_neg (nI_ltz (by omega)), if_neg (show ¬ Int32.ofNat 5 ≤ nI w from nI_ge (a := w) (b := 5) hw (by omega)), nI_clamp (by omega)]
  unfold cmpV
  rw [hx, h5, h6]
  unfold cmpT mCmp bN
  rcases (show o = 0 ∨ o = 1 ∨ o = 2 by omega) with rfl | rfl | rfl
  · rw [if_pos (show nI 0 = 0 from rfl), if_pos (show (0 : Nat) = 0 from rfl)]
    by_cases c : nI v ≤ V w
    · rw [if_pos c, decide_eq_false (Int32.not_lt.mpr c), if_neg (by decide)]; rfl
    · rw [if_neg c, decide_eq_true (Int32.not_le.mp c), if_pos rfl]; rfl
  · rw [if_neg (show ¬ nI 1 = 0 by decide), if_pos (show nI 1 = 1 from rfl), if_neg (show ¬ (1 : Nat) = 0 by decide), if_pos (show (1 : Nat) = 1 from rfl)]
    by_cases c : V w ≤ nI v
    · rw [if_pos c, decide_eq_false (Int32.not_lt.mpr c), if_neg (by decide)]; rfl
    · rw [if_neg c, decide_eq_true (Int32.not_le.mp c), if_pos rfl]; rfl
  · rw [if_neg (show ¬ nI 2 = 0 by decide), if_neg (show ¬ nI 2 = 1 by decide), if_neg (show ¬ (2 : Nat) = 0 by decide), if_neg (show ¬ (2 : Nat) = 1 by decide)]
    by_cases c : V w = nI v
    · rw [if_pos c, decide_eq_true c, if_pos rfl]; rfl
    · rw [if_neg c, decide_eq_false c, if_neg (by decide)]; rfl
theorem cdR.leaf {P : JI} {k w o v : Nat} (hw : w < 5) (ho : o < 3) (h1 : P 13 k = nI (w * 3 + o)) (h2 : P 14 k = nI v) : cdR P k (k + 1) 1 (cmpT o w v) := ⟨by omega, fun V m hm => by
  obtain ⟨_, n1, n2, n3, _⟩ := kd_o hw ho
  rw [show k + 1 - k = 1 by omega]
  show hSp (pv P V) k (nI m) = _
  unfold hSp
  rw [show pv P V 13 k = P 13 k from rfl, show pv P V 14 k = P 14 k from rfl, show pv P V 15 = V from rfl, h1, h2, if_neg n1, if_neg n2, if_neg n3, cmp_kd hw ho, bt_shl (Nat.lt_of_lt_of_le hm (Nat.pow_le_pow_right (by omega) (by omega))), bt_or (Nat.lt_of_lt_of_le hm (Nat.pow_le_pow_right (by omega) (by omega))) (bN_lt _)]⟩
theorem hRun_1 {P : JI} {i : Nat} {x : Int32} : hRun P 1 i x = hSp P i x := rfl
theorem cdR.not {P : JI} {fr k e : Nat} {t : Tst} (h : cdR P fr k e t) (h1 : P 13 k = 15) : cdR P fr (k + 1) e (notT t) := ⟨by have := h.1; omega, fun V m hm => by
  have hm9 : m < 2 ^ 30 := Nat.lt_of_lt_of_le hm (Nat.pow_le_pow_right (by omega) (by omega))
  rw [show k + 1 - fr = (k - fr) + 1 by have := h.1; omega, hRun_add, h.2 V m hm, show fr + (k - fr) = k by have := h.1; omega, hRun_1]
  unfold hSp
  rw [show pv P V 13 k = P 13 k from rfl, h1, if_pos rfl, bt_xor hm9 (bN_lt _)]
  unfold notT bN
  cases t V <;> rfl⟩
theorem cdR.op {P : JI} {fr k1 k2 e : Nat} {t u : Tst} {o : Bool} (h : cdR P fr k1 (e + 1) t) (hu : cdR P k1 k2 e u) (h1 : P 13 k2 = if o = true then 16 else 17) (he2 : e < 29) : cdR P fr (k2 + 1) (e + 1) (opT o t u) := ⟨by have := h.1; have := hu.1; omega, fun V m hm => by
  have a1 := h.1
  have a2 := hu.1
  have hm9 : m < 2 ^ 29 := Nat.lt_of_lt_of_le hm (Nat.pow_le_pow_right (by omega) (by omega))
  have ht := bN_lt (t V)
  have hu2 := bN_lt (u V)
  have hp : 2 ^ (30 - e) = 2 * 2 ^ (30 - (e + 1)) := by
    rw [show 30 - e = (30 - (e + 1)) + 1 by omega, Nat.pow_succ]
    omega
  rw [show k2 + 1 - fr = (k1 - fr) + ((k2 - k1) + 1) by omega, hRun_add, h.2 V m hm, show fr + (k1 - fr) = k1 by omega, hRun_add, hu.2 V (2 * m + bN (t V)) (by omega), show k1 + (k2 - k1) = k2 by omega, hRun_1]
  unfold hSp
  rw [show pv P V 13 k2 = P 13 k2 from rfl, h1, bt_shr (by omega), bt_and1 (by omega), show (2 * (2 * m + bN (t V)) + bN (u V)) / 2 = 2 * m + bN (t V) by omega, show (2 * (2 * m + bN (t V)) + bN (u V)) % 2 = bN (u V) by omega]
  unfold opT
  cases o with
  | true =>
    rw [if_pos rfl, if_neg (by decide), if_pos rfl]
    cases hu3 : u V with
    | true =>
      rw [show nI (bN true) ||| (-2) = (-1 : Int32) by decide, bt_all]
      cases t V <;> rfl
    | false =>
      rw [show nI (bN false) ||| (-2) = (-2 : Int32) by decide, bt_m2 (by omega) ht]
      cases t V <;> rfl
  | false =>
    rw [if_neg (show ¬ (if false = true then (16 : Int32) else 17) = 15 by decide), if_neg (show ¬ (if false = true then (16 : Int32) else 17) = 16 by decide), if_pos (show (if false = true then (16 : Int32) else 17) = 17 from rfl), if_neg (show ¬ false = true by decide)]
    cases ht3 : t V with
    | true =>
      cases hu3 : u V with
      | true =>
        apply i32_ext
        show ((nI (2 * m + 1)).toBitVec ||| 1#32).toNat = (nI (2 * m + 1)).toBitVec.toNat
        rw [BitVec.toNat_or, nI_tn (by omega)]
        have e1 : 2 * m + 1 = 2 * m ||| 1 := Nat.two_pow_add_eq_or_of_lt (i := 1) (b := 1) (by omega) m
        rw [e1]
        show (2 * m ||| 1) ||| 1 = _
        rw [Nat.or_assoc, Nat.or_self]
      | false =>
        show nI (2 * m + 1) ||| 0 = nI (2 * m + 1)
        simp
    | false =>
      exact bt_or (by omega) hu2⟩
theorem cdR.hold {P : JI} {fr to : Nat} {t : Tst} {V : Nat → Int32} (h : cdR P fr to 11 t) : hHo (pv P V) fr to = if t V = true then 1 else 0 := by
  unfold hHo
  have e := h.2 V 0 (by omega)
  rw [show (0 : Int32) = nI 0 from rfl, e]
  unfold bN
  cases t V <;> rfl

