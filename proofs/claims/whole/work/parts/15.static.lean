/-! THE STATIC HELPERS: at, put, isFinished, waitState, machineIndex, copy -/
def atV (n : Nat) (f : Nat → Int32) (i : Int32) : Int32 := if i < 0 then -1 else if Int32.ofNat n ≤ i then -1 else f i.toNatClampNeg
def putI (I : JI) (a n : Nat) (i x : Int32) : JI := if i < 0 then I else if Int32.ofNat n ≤ i then I else u2 I a i.toNatClampNeg x
theorem at_in {n : Nat} {i : Int32} (hn : n < 2 ^ 31) (h0 : ¬ i < 0) (h1 : ¬ Int32.ofNat n ≤ i) : vp_in i n := by
  obtain ⟨j, hj, rfl⟩ := nI_of h0
  refine vp_in_nI ?_ hn
  rcases Nat.lt_or_ge j n with h | h
  · exact h
  · exact absurd (nI_le h hj) h1
theorem atV_nI {n j : Nat} {f : Nat → Int32} (hj : j < n) (hn : n < 2 ^ 31) : atV n f (nI j) = f j := by
  unfold atV
  rw [if_neg (nI_pos (by omega)), if_neg (show ¬ Int32.ofNat n ≤ nI j from nI_ge hj hn), nI_clamp (by omega)]
theorem putI_nI {I : JI} {a n j : Nat} {x : Int32} (hj : j < n) (hn : n < 2 ^ 31) : putI I a n (nI j) x = u2 I a j x := by
  unfold putI
  rw [if_neg (nI_pos (by omega)), if_neg (show ¬ Int32.ofNat n ≤ nI j from nI_ge hj hn), nI_clamp (by omega)]
theorem vpl {i : Int32} {n : Nat} (h0 : decide (i < 0) = false) (h1 : Nat.ble n i.toNatClampNeg = false) : vp_in i n := fun h => by
  rcases h with h | h
  · exact absurd h (of_decide_eq_false h0)
  · rw [Nat.ble_eq_true_of_le h] at h1
    cases h1
theorem fin_eq {x : Int32} : ((if x < 10 then 0 else 1 : Int32) = 0) ↔ x < 10 := by
  split <;> simp_all
theorem ble_i {c : Prop} [Decidable c] : ((if c then 1 else 0 : Int32) = 0) ↔ ¬ c := by
  split <;> simp_all
section M15
variable {Γ : Gam} {d : Nat} {T : JT} {R S : JR} {I : JI} {L : JL} {D : JD} {z : Option Nat} {a n : Nat}
theorem ex_at {i : Int32} (hT : T a = some (.inr (.int, n))) (hn : n < 2 ^ 31) : Ex Γ (d) Y_X8_at [.ref a, .int i] (T, R, S, I, L, D, z) 0 0 (rI (atV n (I a) i) (T, R, S, I, L, D, z)) := by
  refine Ex.of (by decide) (by simp [Value.category]) (Nat.le_of_ble_eq_true rfl) rfl ?_
  refine jj_iload_n (q := 1) dX8_at_0 rfl rfl rfl ?_
  refine jj_if_lt (q := 4) (tgt := 16) dX8_at_1 rfl rfl (fun h1 => ?_) (fun h1 => ?_)
  · refine jj_iconst (v := -1) (q := 17) dX8_at_16 rfl rfl ?_
    refine jj_iret dX8_at_17 rfl (Nat.zero_le _) (Nat.zero_le _) ?_
    exact ⟨by simp [atV, h1], rfl⟩
  · refine jj_iload_n (q := 5) dX8_at_4 rfl rfl rfl ?_
    refine jj_aload_n (q := 6) dX8_at_5 rfl rfl rfl ?_
    refine jj_alen (q := 7) dX8_at_6 hT (by decide) rfl rfl ?_
    refine jj_icmp_ge (q := 10) (tgt := 16) dX8_at_7 rfl rfl (fun h7 => ?_) (fun h7 => ?_)
    · refine jj_iconst (v := -1) (q := 17) dX8_at_16 rfl rfl ?_
      refine jj_iret dX8_at_17 rfl (Nat.zero_le _) (Nat.zero_le _) ?_
      exact ⟨by simp [atV, h1, h7], rfl⟩
    · refine jj_aload_n (q := 11) dX8_at_10 rfl rfl rfl ?_
      refine jj_iload_n (q := 12) dX8_at_11 rfl rfl rfl ?_
      refine jj_ialdv (q := 13) dX8_at_12 hT rfl (at_in hn h1 h7) rfl ?_
      refine jj_goto (tgt := 17) dX8_at_13 rfl ?_
      refine jj_iret dX8_at_17 rfl (Nat.zero_le _) (Nat.zero_le _) ?_
      exact ⟨by simp [atV, h1, h7], rfl⟩
theorem ex_put {i x : Int32} (hT : T a = some (.inr (.int, n))) (hn : n < 2 ^ 31) : Ex Γ (d) Y_X8_put [.ref a, .int i, .int x] (T, R, S, I, L, D, z) 0 0 (rV (T, R, S, putI I a n i x, L, D, z)) := by
  refine Ex.of (by decide) (by simp [Value.category]) (Nat.le_of_ble_eq_true rfl) rfl ?_
  refine jj_iload_n (q := 1) dX8_put_0 rfl rfl rfl ?_
  refine jj_if_lt (q := 4) (tgt := 14) dX8_put_1 rfl rfl (fun h1 => ?_) (fun h1 => ?_)
  · refine jj_vret dX8_put_14 rfl (Nat.zero_le _) (Nat.zero_le _) ?_
    exact ⟨rfl, by simp [putI, h1]⟩
  · refine jj_iload_n (q := 5) dX8_put_4 rfl rfl rfl ?_
    refine jj_aload_n (q := 6) dX8_put_5 rfl rfl rfl ?_
    refine jj_alen (q := 7) dX8_put_6 hT (by decide) rfl rfl ?_
    refine jj_icmp_ge (q := 10) (tgt := 14) dX8_put_7 rfl rfl (fun h7 => ?_) (fun h7 => ?_)
    · refine jj_vret dX8_put_14 rfl (Nat.zero_le _) (Nat.zero_le _) ?_
      exact ⟨rfl, by simp [putI, h1, h7]⟩
    · refine jj_aload_n (q := 11) dX8_put_10 rfl rfl rfl ?_
      refine jj_iload_n (q := 12) dX8_put_11 rfl rfl rfl ?_
      refine jj_iload_n (q := 13) dX8_put_12 rfl rfl rfl ?_
      refine jj_iastv (q := 14) dX8_put_13 hT rfl (at_in hn h1 h7) rfl ?_
      refine jj_vret dX8_put_14 rfl (Nat.zero_le _) (Nat.zero_le _) ?_
      exact ⟨rfl, by simp [putI, h1, h7]⟩
theorem ex_isFinished {x : Int32} {M : JM} : Ex Γ (d) Y_X8_isFinished [.int x] M 0 0 (rI (if x < 10 then 0 else 1) M) := by
  refine Ex.of (by decide) (by simp [Value.category]) (Nat.le_of_ble_eq_true rfl) rfl ?_
  refine jj_iload_n (q := 1) dX8_isFinished_0 rfl rfl rfl ?_
  refine jj_bipush (v := 10) (q := 3) dX8_isFinished_1 rfl rfl ?_
  refine jj_icmp_lt (q := 6) (tgt := 10) dX8_isFinished_3 rfl rfl (fun h3 => ?_) (fun h3 => ?_)
  · refine jj_iconst (v := 0) (q := 11) dX8_isFinished_10 rfl rfl ?_
    refine jj_zret dX8_isFinished_11 rfl (by first | rfl | assumption) (Nat.zero_le _) (Nat.zero_le _) ?_
    exact ⟨by rw [if_pos h3], rfl⟩
  · refine jj_iconst (v := 1) (q := 7) dX8_isFinished_6 rfl rfl ?_
    refine jj_goto (tgt := 11) dX8_isFinished_7 rfl ?_
    refine jj_zret dX8_isFinished_11 rfl (by first | rfl | assumption) (Nat.zero_le _) (Nat.zero_le _) ?_
    exact ⟨by rw [if_neg h3], rfl⟩
theorem ex_waitState {x : Int32} {M : JM} : Ex Γ (d) Y_X8_waitState [.int x] M 0 0 (rI (2 * x - 1) M) := by
  refine Ex.of (by decide) (by simp [Value.category]) (Nat.le_of_ble_eq_true rfl) rfl ?_
  refine jj_iconst (v := 2) (q := 1) dX8_waitState_0 rfl rfl ?_
  refine jj_iload_n (q := 2) dX8_waitState_1 rfl rfl rfl ?_
  refine jj_imul (q := 3) dX8_waitState_2 rfl ?_
  refine jj_iconst (v := 1) (q := 4) dX8_waitState_3 rfl rfl ?_
  refine jj_isub (q := 5) dX8_waitState_4 rfl ?_
  refine jj_iret dX8_waitState_5 rfl (Nat.zero_le _) (Nat.zero_le _) ?_
  exact ⟨rfl, rfl⟩
theorem ex_machineIndex {x y : Int32} {M : JM} : Ex Γ (d) Y_X8_machineIndex [.int x, .int y] M 0 0 (rI ((x - 1) * 4 + y) M) := by
  refine Ex.of (by decide) (by simp [Value.category]) (Nat.le_of_ble_eq_true rfl) rfl ?_
  refine jj_iload_n (q := 1) dX8_machineIndex_0 rfl rfl rfl ?_
  refine jj_iconst (v := 1) (q := 2) dX8_machineIndex_1 rfl rfl ?_
  refine jj_isub (q := 3) dX8_machineIndex_2 rfl ?_
  refine jj_iconst (v := 4) (q := 4) dX8_machineIndex_3 rfl rfl ?_
  refine jj_imul (q := 5) dX8_machineIndex_4 rfl ?_
  refine jj_iload_n (q := 6) dX8_machineIndex_5 rfl rfl rfl ?_
  refine jj_iadd (q := 7) dX8_machineIndex_6 rfl ?_
  refine jj_iret dX8_machineIndex_7 rfl (Nat.zero_le _) (Nat.zero_le _) ?_
  exact ⟨rfl, rfl⟩
theorem min_same (n : Nat) : (if Int32.ofNat n < Int32.ofNat n then Int32.ofNat n else Int32.ofNat n) = nI n := by split <;> rfl
theorem ex_copy {a0 : Nat} (hT0 : T a0 = some (.inr (.int, n))) (hT : T a = some (.inr (.int, n))) (hn : n < 2 ^ 31) : Ex Γ (d + 1) Y_X8_copy [.ref a0, .ref a] (T, R, S, I, L, D, z) 0 0 (rV (T, R, S, uC I a0 0 a 0 n, L, D, z)) := by
  refine Ex.of (by decide) (by simp [Value.category]) (Nat.le_of_ble_eq_true rfl) rfl ?_
  have hmin := min_same n
  refine jj_aload_n (q := 1) dX8_copy_0 rfl rfl rfl ?_
  refine jj_iconst (v := 0) (q := 2) dX8_copy_1 rfl rfl ?_
  refine jj_aload_n (q := 3) dX8_copy_2 rfl rfl rfl ?_
  refine jj_iconst (v := 0) (q := 4) dX8_copy_3 rfl rfl ?_
  refine jj_aload_n (q := 5) dX8_copy_4 rfl rfl rfl ?_
  refine jj_alen (q := 6) dX8_copy_5 hT0 (by decide) rfl rfl ?_
  refine jj_aload_n (q := 7) dX8_copy_6 rfl rfl rfl ?_
  refine jj_alen (q := 8) dX8_copy_7 hT (by decide) rfl rfl ?_
  refine jj_mmin (q := 11) dX8_copy_8 km_X8_357 rfl rfl ⟨Nat.zero_le _, Nat.zero_le _⟩ ?_
  refine jj_copy (q := 14) dX8_copy_11 km_X8_362 hT0 hT (by decide) (by decide) (by rw [hmin]; exact nI_pos hn) (by rw [hmin, nI_clamp hn]; exact Nat.le_of_eq (Nat.zero_add n)) (by rw [hmin, nI_clamp hn]; exact Nat.le_of_eq (Nat.zero_add n)) rfl rfl ?_
  refine jj_vret dX8_copy_14 rfl (Nat.zero_le _) (Nat.zero_le _) ?_
  exact ⟨rfl, by rw [hmin, nI_clamp hn]; rfl⟩
end M15
