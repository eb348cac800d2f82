/-! TEXTS: bytes one behind the other; numbers in decimal -/
def wB (B : JI) (b : Nat) : JI := u2 (u2 B 1 (nN (B 0 0)) (nI b)) 0 0 (nI (nN (B 0 0) + 1))
def wL (B : JI) (l : List Nat) : JI := l.foldl wB B
theorem wL_app (B : JI) (l m : List Nat) : wL B (l ++ m) = wL (wL B l) m := List.foldl_append ..
theorem wL_nil (B : JI) : wL B [] = B := rfl
theorem wL_one (B : JI) (b : Nat) : wL B [b] = wB B b := rfl
theorem wB_0 {B : JI} {b s : Nat} (h : B 0 0 = nI s) (hs : s < 2 ^ 30) : wB B b 0 0 = nI (s + 1) := by
  unfold wB
  rw [u2_at, h, nN_nI (by omega)]
theorem wL_0 : ∀ {l : List Nat} {B : JI} {s : Nat}, B 0 0 = nI s → s + l.length < 2 ^ 30 → wL B l 0 0 = nI (s + l.length)
  | [], _, _, h, _ => h
  | b :: l, B, s, h, hs => by
    have hs' : s + (l.length + 1) < 2 ^ 30 := hs
    have := wL_0 (l := l) (B := wB B b) (s := s + 1) (wB_0 h (by omega)) (by omega)
    show wL (wB B b) l 0 0 = nI (s + (l.length + 1))
    rw [this, show s + 1 + l.length = s + (l.length + 1) by omega]
/-- digits from the power j on; digits of the powers that a number reaches -/
def dk (v : Nat) : Nat → List Nat
  | 0 => [48 + v % 10]
  | j + 1 => (48 + v / 10 ^ (j + 1) % 10) :: dk v j
def dj (v : Nat) : Nat → List Nat
  | 0 => [48 + v % 10]
  | j + 1 => if 10 ^ (j + 1) ≤ v then (48 + v / 10 ^ (j + 1) % 10) :: dj v j else dj v j
def dg (v : Nat) : List Nat := dj v 9
theorem dj_dk {v k : Nat} (h : k = 0 ∨ 10 ^ k ≤ v) : dj v k = dk v k := by
  induction k with
  | zero => rfl
  | succ j ih =>
    have h1 : 10 ^ (j + 1) ≤ v := by
      rcases h with w | w
      · omega
      · exact w
    unfold dj dk
    rw [if_pos h1, ih (Or.inr (Nat.le_trans (Nat.pow_le_pow_right (by omega) (by omega)) h1))]
theorem dj_up {v k : Nat} (h : v < 10 ^ (k + 1)) : ∀ n, dj v (k + n) = dj v k
  | 0 => rfl
  | n + 1 => by
    have : ¬ 10 ^ (k + n + 1) ≤ v := by
      have := Nat.pow_le_pow_right (n := 10) (by omega) (show k + 1 ≤ k + n + 1 by omega)
      omega
    rw [show k + (n + 1) = (k + n) + 1 by omega, dj, if_neg this, dj_up h n]
theorem dg_dk {v k : Nat} (hk : k ≤ 9) (h : k = 0 ∨ 10 ^ k ≤ v) (h2 : v < 10 ^ (k + 1)) : dg v = dk v k := by
  unfold dg
  have := dj_up h2 (9 - k)
  rw [show k + (9 - k) = 9 by omega] at this
  rw [this, dj_dk h]
theorem dj_len (v : Nat) : ∀ k, (dj v k).length ≤ k + 1
  | 0 => by unfold dj; simp
  | k + 1 => by
    have := dj_len v k
    unfold dj
    split
    · simp only [List.length_cons]; omega
    · omega
theorem dj_small {v k : Nat} (h : v < 10 ^ (k + 1)) (hk : k ≤ 9) : (dg v).length ≤ k + 1 := by
  unfold dg
  have e := dj_up h (9 - k)
  rw [show k + (9 - k) = 9 by omega] at e
  rw [e]
  exact dj_len v k
theorem dg_len (v : Nat) : (dg v).length ≤ 10 := dj_len v 9
/-- a text's object and its bytes -/
def hTx (T : JT) (R : JR) (t n : Nat) : Prop := T t = some (.inl 6) ∧ R t 1 = some (t + 1) ∧ T (t + 1) = some (.inr (.byte, n))
theorem p10 {j : Nat} (h : j ≤ 9) : 10 ^ j < 2 ^ 31 := Nat.lt_of_le_of_lt (Nat.pow_le_pow_right (by omega) h) (by decide)
theorem p10_0 (j : Nat) : 0 < 10 ^ j := Nat.pow_pos (by omega)
theorem dig_b (v j : Nat) : 48 + v / 10 ^ j % 10 < 128 := by omega
theorem bst_w {w : Nat} {I K : JI} {a k c b : Nat} (hb : b < 128) (h : k < w) (hc : c < 2 ^ 31) : u2 (blk w I a K) (a + k) (nI c).toNatClampNeg (nI b).toInt8.toInt32 = blk w I a (u2 K k c (nI b)) := by
  rw [fa_byte_small hb]
  exact u2_blkn h hc
section M53
variable {Γ : Gam} {d : Nat} {T : JT} {R S : JR} {I B : JI} {L : JL} {D : JD} {z : Option Nat} {t n s : Nat}
theorem ex_putByte (hx : hTx T R t n) (hn : n < 2 ^ 30) (hs : B 0 0 = nI s) (hsn : s < n) {b : Nat} (hb : b < 128) : Ex Γ (d) Y_X6_putByte [.ref t, .int (nI b)] (T, R, S, blk 2 I t B, L, D, z) 0 0 (rV (T, R, S, blk 2 I t (wB B b), L, D, z)) := by
  refine Ex.of (by decide) (by simp [Value.category]) (Nat.le_of_ble_eq_true rfl) rfl ?_
  refine jj_aload_n (q := 1) dX6_putByte_0 rfl rfl rfl ?_
  refine jj_getIw (v := nI s) (q := 4) dX6_putByte_1 fl_X6_9 hx.1 (by rw [blk_0 (by decide)]; exact hs) rfl rfl ?_
  refine jj_if_lt (q := 7) (tgt := 40) dX6_putByte_4 rfl rfl (fun h4 => absurd h4 (nI_ltz (show s < 2 ^ 31 by omega))) (fun h4 => ?_)
  refine jj_aload_n (q := 8) dX6_putByte_7 rfl rfl rfl ?_
  refine jj_getIw (v := nI s) (q := 11) dX6_putByte_8 fl_X6_9 hx.1 (by rw [blk_0 (by decide)]; exact hs) rfl rfl ?_
  refine jj_aload_n (q := 12) dX6_putByte_11 rfl rfl rfl ?_
  refine jj_getR (q := 15) dX6_putByte_12 fl_X6_21 hx.1 hx.2.1 rfl rfl rfl ?_
  refine jj_alen (q := 16) dX6_putByte_15 hx.2.2 (by decide) rfl rfl ?_
  refine jj_icmp_ge (q := 19) (tgt := 40) dX6_putByte_16 rfl rfl (fun h16 => absurd h16 (nI_ge hsn (by omega))) (fun h16 => ?_)
  refine jj_aload_n (q := 20) dX6_putByte_19 rfl rfl rfl ?_
  refine jj_getR (q := 23) dX6_putByte_20 fl_X6_21 hx.1 hx.2.1 rfl rfl rfl ?_
  refine jj_aload_n (q := 24) dX6_putByte_23 rfl rfl rfl ?_
  refine jj_getIw (v := nI s) (q := 27) dX6_putByte_24 fl_X6_9 hx.1 (by rw [blk_0 (by decide)]; exact hs) rfl rfl ?_
  refine jj_iload_n (q := 28) dX6_putByte_27 rfl rfl rfl ?_
  refine jj_i2b (q := 29) dX6_putByte_28 rfl ?_
  rw [fa_byte_small hb]
  refine jj_bastv (q := 30) dX6_putByte_29 hx.2.2 (bst_w hb (by decide) (by omega)) (nI_in hsn (by omega)) rfl ?_
  refine jj_aload_n (q := 31) dX6_putByte_30 rfl rfl rfl ?_
  refine jj_dup (q := 32) dX6_putByte_31 rfl rfl ?_
  refine jj_getIw (v := nI s) (q := 35) dX6_putByte_32 fl_X6_9 hx.1 (by rw [blk_0 (by decide)]; exact hs) rfl rfl ?_
  refine jj_iconst (v := 1) (q := 36) dX6_putByte_35 rfl rfl ?_
  refine jj_iaddN (q := 37) (a := s) (b := 1) dX6_putByte_36 rfl rfl rfl ?_
  refine jj_putIv (q := 40) dX6_putByte_37 fl_X6_9 hx.1 (u2_blk0 (by decide)) rfl rfl rfl rfl rfl ?_
  refine jj_vret dX6_putByte_40 rfl (Nat.zero_le _) (Nat.zero_le _) ?_
  exact ⟨rfl, by unfold wB; rw [hs, nN_nI (by omega)]⟩
theorem ex_separate (hx : hTx T R t n) (hn : n < 2 ^ 30) (hs : B 0 0 = nI s) (hsn : s < n) {f : Nat} (hf : f < 2 ^ 30) : Ex Γ (d + 1) Y_X6_separate [.ref t, .int (nI f)] (T, R, S, blk 2 I t B, L, D, z) 0 0 (rV (T, R, S, blk 2 I t (wL B (if f = 0 then [] else [59])), L, D, z)) := by
  by_cases h : f = 0
  · subst h
    rw [if_pos rfl]
    refine Ex.of (by decide) (by simp [Value.category]) (Nat.le_of_ble_eq_true rfl) rfl ?_
    refine jj_iload_n (q := 1) dX6_separate_0 rfl rfl rfl ?_
    refine jj_if_le (q := 4) (tgt := 10) dX6_separate_1 rfl rfl (fun h1 => ?_) (fun h1 => absurd (by decide) h1)
    refine jj_vret dX6_separate_10 rfl (Nat.zero_le _) (Nat.zero_le _) ?_
    exact ⟨rfl, rfl⟩
  · rw [if_neg h, wL_one]
    refine Ex.of (by decide) (by simp [Value.category]) (Nat.le_of_ble_eq_true rfl) rfl ?_
    refine jj_iload_n (q := 1) dX6_separate_0 rfl rfl rfl ?_
    refine jj_if_le (q := 4) (tgt := 10) dX6_separate_1 rfl rfl (fun h1 => by exfalso; exact absurd h1 (nI_ge (a := 0) (by omega) (by omega))) (fun h1 => ?_)
    refine jj_aload_n (q := 5) dX6_separate_4 rfl rfl rfl ?_
    refine jj_bipush (v := 59) (q := 7) dX6_separate_5 rfl rfl ?_
    refine jj_cV1v (q := 10) dX6_separate_7 yk_X6_putByte ml_X6_25 hx.1 (ex_putByte (b := 59) hx hn hs (by omega) (by omega)) rfl rfl rfl ⟨Nat.zero_le _, Nat.zero_le _⟩ ?_
    refine jj_vret dX6_separate_10 rfl (Nat.zero_le _) (Nat.zero_le _) ?_
    exact ⟨rfl, rfl⟩
theorem lp_putNumber (hx : hTx T R t n) (hn : n < 2 ^ 30)  {v : Nat} (hv : v < 2 ^ 31) : ∀ (j s : Nat) (B B' : JI), j ≤ 9 → B 0 0 = nI s → s + (dj v j).length ≤ n → wL B (dj v j) = B' → JJ Γ (jj_E Y_X6_putNumber) (jj_Z Γ (rV (T, R, S, blk 2 I t B', L, D, z)) 0 0) (jj_rm (d + 1) 0 0) 0 0 3 [some (.ref t), some (.int (nI v)), some (.int (nI (10 ^ j)))] [] (T, R, S, blk 2 I t B, L, D, z) := by
  intro j
  induction j with
  | zero =>
    intro s B B' hj hs hl he
    subst he
    have hl : s + 1 ≤ n := hl
    refine jj_iload_n (q := 4) dX6_putNumber_3 rfl rfl rfl ?_
    refine jj_if_le (q := 7) (tgt := 38) dX6_putNumber_4 rfl rfl (fun h4 => absurd h4 (by decide)) (fun h4 => ?_)
    have key : JJ Γ (jj_E Y_X6_putNumber) (jj_Z Γ (rV (T, R, S, blk 2 I t (wL B (dj v 0)), L, D, z)) 0 0) (jj_rm (d + 1) 0 0) 0 0 17 [some (.ref t), some (.int (nI v)), some (.int (nI (10 ^ 0)))] [] (T, R, S, blk 2 I t B, L, D, z) := by
      refine jj_aload_n (q := 18) dX6_putNumber_17 rfl rfl rfl ?_
      refine jj_bipush (v := 48) (q := 20) dX6_putNumber_18 rfl rfl ?_
      refine jj_iload_n (q := 21) dX6_putNumber_20 rfl rfl rfl ?_
      refine jj_iload_n (q := 22) dX6_putNumber_21 rfl rfl rfl ?_
      refine jj_idiv (q := 23) dX6_putNumber_22 (by decide) rfl ?_
      refine jj_bipush (v := 10) (q := 25) dX6_putNumber_23 rfl rfl ?_
      refine jj_irem (q := 26) dX6_putNumber_25 (by decide) rfl ?_
      rw [show nI v / nI (10 ^ 0) = nI v by rw [pk_div hv (p10_0 0) (p10 (by omega)), Nat.pow_zero, Nat.div_one], show nI v - nI v / 10 * 10 = nI (v % 10) from pk_rem (d := 10) hv (by omega) (by omega)]
      refine jj_iadd (q := 27) dX6_putNumber_26 rfl ?_
      rw [show (48 : Int32) + nI (v % 10) = nI (48 + v % 10) from nI_add 48 _]
      refine jj_cV1v (q := 30) dX6_putNumber_27 yk_X6_putByte ml_X6_25 hx.1 (ex_putByte (b := 48 + v % 10) hx hn hs (by omega) (by omega)) rfl rfl rfl ⟨Nat.zero_le _, Nat.zero_le _⟩ ?_
      refine jj_iload_n (q := 31) dX6_putNumber_30 rfl rfl rfl ?_
      refine jj_bipush (v := 10) (q := 33) dX6_putNumber_31 rfl rfl ?_
      refine jj_idiv (q := 34) dX6_putNumber_33 (by decide) rfl ?_
      refine jj_istore_n (q := 35) dX6_putNumber_34 rfl (by decide) rfl ?_
      refine jj_goto (tgt := 3) dX6_putNumber_35 rfl ?_
      refine jj_iload_n (q := 4) dX6_putNumber_3 rfl rfl rfl ?_
      refine jj_if_le (q := 7) (tgt := 38) dX6_putNumber_4 rfl rfl (fun h4 => ?_) (fun h4 => absurd (by decide) h4)
      refine jj_vret dX6_putNumber_38 rfl (Nat.zero_le _) (Nat.zero_le _) ?_
      exact ⟨rfl, rfl⟩
    refine jj_iload_n (q := 8) dX6_putNumber_7 rfl rfl rfl ?_
    refine jj_iload_n (q := 9) dX6_putNumber_8 rfl rfl rfl ?_
    refine jj_icmp_ge (q := 12) (tgt := 17) dX6_putNumber_9 rfl rfl (fun h9 => key) (fun h9 => ?_)
    refine jj_iload_n (q := 13) dX6_putNumber_12 rfl rfl rfl ?_
    refine jj_iconst (v := 1) (q := 14) dX6_putNumber_13 rfl rfl ?_
    exact jj_icmp_ne (q := 17) (tgt := 30) dX6_putNumber_14 rfl rfl (fun h14 => absurd rfl h14) (fun h14 => key)
  | succ j ih =>
    intro s B B' hj hs hl he
    have h10 := p10 (j := j + 1) hj
    have hd : nI (10 ^ (j + 1)) / 10 = nI (10 ^ j) := by
      rw [show nI (10 ^ (j + 1)) / 10 = nI (10 ^ (j + 1) / 10) from pk_div (d := 10) h10 (by omega) (by omega), Nat.pow_succ, Nat.mul_div_cancel _ (by omega)]
    have hp := p10_0 (j + 1)
    refine jj_iload_n (q := 4) dX6_putNumber_3 rfl rfl rfl ?_
    refine jj_if_le (q := 7) (tgt := 38) dX6_putNumber_4 rfl rfl (fun h4 => absurd h4 (nI_ge (a := 0) hp h10)) (fun h4 => ?_)
    refine jj_iload_n (q := 8) dX6_putNumber_7 rfl rfl rfl ?_
    refine jj_iload_n (q := 9) dX6_putNumber_8 rfl rfl rfl ?_
    refine jj_icmp_ge (q := 12) (tgt := 17) dX6_putNumber_9 rfl rfl (fun h9 => ?_) (fun h9 => ?_)
    · have hge : 10 ^ (j + 1) ≤ v := (nI_le_iff h10 hv).mp h9
      rw [dj, if_pos hge] at he hl
      have hl : s + ((dj v j).length + 1) ≤ n := hl
      refine jj_aload_n (q := 18) dX6_putNumber_17 rfl rfl rfl ?_
      refine jj_bipush (v := 48) (q := 20) dX6_putNumber_18 rfl rfl ?_
      refine jj_iload_n (q := 21) dX6_putNumber_20 rfl rfl rfl ?_
      refine jj_iload_n (q := 22) dX6_putNumber_21 rfl rfl rfl ?_
      refine jj_idiv (q := 23) dX6_putNumber_22 (fun w => absurd w (nI_ne0 hp h10)) rfl ?_
      refine jj_bipush (v := 10) (q := 25) dX6_putNumber_23 rfl rfl ?_
      refine jj_irem (q := 26) dX6_putNumber_25 (by decide) rfl ?_
      rw [pk_div hv hp h10, show nI (v / 10 ^ (j + 1)) - nI (v / 10 ^ (j + 1)) / 10 * 10 = nI (v / 10 ^ (j + 1) % 10) from pk_rem (d := 10) (Nat.lt_of_le_of_lt (Nat.div_le_self _ _) hv) (by omega) (by omega)]
      refine jj_iadd (q := 27) dX6_putNumber_26 rfl ?_
      rw [show (48 : Int32) + nI (v / 10 ^ (j + 1) % 10) = nI (48 + v / 10 ^ (j + 1) % 10) from nI_add 48 _]
      refine jj_cV1v (q := 30) dX6_putNumber_27 yk_X6_putByte ml_X6_25 hx.1 (ex_putByte (b := 48 + v / 10 ^ (j + 1) % 10) hx hn hs (by omega) (dig_b _ _)) rfl rfl rfl ⟨Nat.zero_le _, Nat.zero_le _⟩ ?_
      refine jj_iload_n (q := 31) dX6_putNumber_30 rfl rfl rfl ?_
      refine jj_bipush (v := 10) (q := 33) dX6_putNumber_31 rfl rfl ?_
      refine jj_idiv (q := 34) dX6_putNumber_33 (by decide) rfl ?_
      rw [hd]
      refine jj_istore_n (q := 35) dX6_putNumber_34 rfl (by decide) rfl ?_
      refine jj_goto (tgt := 3) dX6_putNumber_35 rfl ?_
      exact ih (s + 1) _ B' (by omega) (wB_0 hs (by omega)) (by omega) he
    · have hlt : ¬ 10 ^ (j + 1) ≤ v := fun w => h9 ((nI_le_iff h10 hv).mpr w)
      rw [dj, if_neg hlt] at he hl
      refine jj_iload_n (q := 13) dX6_putNumber_12 rfl rfl rfl ?_
      refine jj_iconst (v := 1) (q := 14) dX6_putNumber_13 rfl rfl ?_
      refine jj_icmp_ne (q := 17) (tgt := 30) dX6_putNumber_14 rfl rfl (fun h14 => ?_) (fun h14 => absurd (nI_inj' h10 (show 1 < 2 ^ 31 by omega) h14) (by
        have := p10_0 j
        rw [Nat.pow_succ]
        omega))
      refine jj_iload_n (q := 31) dX6_putNumber_30 rfl rfl rfl ?_
      refine jj_bipush (v := 10) (q := 33) dX6_putNumber_31 rfl rfl ?_
      refine jj_idiv (q := 34) dX6_putNumber_33 (by decide) rfl ?_
      rw [hd]
      refine jj_istore_n (q := 35) dX6_putNumber_34 rfl (by decide) rfl ?_
      refine jj_goto (tgt := 3) dX6_putNumber_35 rfl ?_
      exact ih s B B' (by omega) hs (by omega) he
theorem ex_putNumber (hx : hTx T R t n) (hn : n < 2 ^ 30) (hs : B 0 0 = nI s) {v : Nat} (hv : v < 2 ^ 31) (hl : s + (dg v).length ≤ n) : Ex Γ (d + 1) Y_X6_putNumber [.ref t, .int (nI v)] (T, R, S, blk 2 I t B, L, D, z) 0 0 (rV (T, R, S, blk 2 I t (wL B (dg v)), L, D, z)) := by
  refine Ex.of (by decide) (by simp [Value.category]) (Nat.le_of_ble_eq_true rfl) rfl ?_
  refine jj_ldci (q := 2) dX6_putNumber_0 kc_X6_29 rfl ?_
  refine jj_istore_n (q := 3) dX6_putNumber_2 rfl (by decide) rfl ?_
  exact lp_putNumber hx hn hv 9 s B _ (by omega) hs hl rfl
theorem ex_byteAt (hx : hTx T R t n) (hn : n < 2 ^ 30) (hs : B 0 0 = nI s) (hsn : s ≤ n) {i : Nat} (hi : i < s) {b : Nat} (hb : b < 128) (hv : B 1 i = nI b) : Ex Γ (d) Y_X6_byteAt [.ref t, .int (nI i)] (T, R, S, blk 2 I t B, L, D, z) 0 0 (rI (nI b) (T, R, S, blk 2 I t B, L, D, z)) := by
  refine Ex.of (by decide) (by simp [Value.category]) (Nat.le_of_ble_eq_true rfl) rfl ?_
  refine jj_iload_n (q := 1) dX6_byteAt_0 rfl rfl rfl ?_
  refine jj_if_lt (q := 4) (tgt := 34) dX6_byteAt_1 rfl rfl (fun h1 => absurd h1 (nI_ltz (show i < 2 ^ 31 by omega))) (fun h1 => ?_)
  refine jj_iload_n (q := 5) dX6_byteAt_4 rfl rfl rfl ?_
  refine jj_aload_n (q := 6) dX6_byteAt_5 rfl rfl rfl ?_
  refine jj_getIw (v := nI s) (q := 9) dX6_byteAt_6 fl_X6_9 hx.1 (by rw [blk_0 (by decide)]; exact hs) rfl rfl ?_
  refine jj_icmp_ge (q := 12) (tgt := 34) dX6_byteAt_9 rfl rfl (fun h9 => absurd h9 (nI_ge hi (by omega))) (fun h9 => ?_)
  refine jj_iload_n (q := 13) dX6_byteAt_12 rfl rfl rfl ?_
  refine jj_aload_n (q := 14) dX6_byteAt_13 rfl rfl rfl ?_
  refine jj_getR (q := 17) dX6_byteAt_14 fl_X6_21 hx.1 hx.2.1 rfl rfl rfl ?_
  refine jj_alen (q := 18) dX6_byteAt_17 hx.2.2 (by decide) rfl rfl ?_
  refine jj_icmp_ge (q := 21) (tgt := 34) dX6_byteAt_18 rfl rfl (fun h18 => absurd h18 (nI_ge (show i < n by omega) (by omega))) (fun h18 => ?_)
  refine jj_aload_n (q := 22) dX6_byteAt_21 rfl rfl rfl ?_
  refine jj_getR (q := 25) dX6_byteAt_22 fl_X6_21 hx.1 hx.2.1 rfl rfl rfl ?_
  refine jj_iload_n (q := 26) dX6_byteAt_25 rfl rfl rfl ?_
  refine jj_baldv (q := 27) dX6_byteAt_26 hx.2.2 (blk_k (by decide)) (nI_in (show i < n by omega) (by omega)) rfl ?_
  rw [nI_clamp (show i < 2 ^ 31 by omega), hv]
  refine jj_sipush (v := 255) (q := 30) dX6_byteAt_27 rfl rfl ?_
  refine jj_iand (q := 31) dX6_byteAt_30 rfl ?_
  rw [show nI b &&& 255 = nI b by rw [show (255 : Int32) = nI (2 ^ 8 - 1) from rfl, fa_mask, Nat.mod_eq_of_lt (by omega)]]
  refine jj_goto (tgt := 35) dX6_byteAt_31 rfl ?_
  refine jj_iret dX6_byteAt_35 rfl (Nat.zero_le _) (Nat.zero_le _) ?_
  exact ⟨rfl, rfl⟩
end M53
