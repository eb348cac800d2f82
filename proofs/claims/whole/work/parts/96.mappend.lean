/-! append of the model -/
def by8 (w v : Int32) : Int32 := (w >>> (v &&& 31)) &&& 255
def fourA (A : JI) (n : Nat) (w : Int32) : JI := u2 (u2 (u2 (u2 A 1 n (by8 w 24)) 1 (n + 1) (by8 w 16)) 1 (n + 2) (by8 w 8)) 1 (n + 3) (by8 w 0)
section M96
variable {Γ : Gam} {d : Nat} {T : JT} {R S : JR} {I A : JI} {L : JL} {D : JD} {z : Option Nat} {mo : Nat} {G : JV}
theorem four_it (hm : hMo T S mo) {n : Nat} (h2 : G 2 = nI n) (hn : n < 1200) {w v2 v3 : Int32} (hv : ¬ v2 < 0) (h3 : v2 + Int32.ofInt (-8) = v3) {Zf : List Frame → Array Value → State → State → Prop} (hz : JJ Γ (jj_E Y_X9_four) Zf (jj_rm d 0 0) 0 0 3 [some (.ref mo), some (.int w), some (.int v3)] [] (T, R, S, blk 18 I mo (st (u2 A 1 n (by8 w v2)) 0 (w1 G 2 (nI (n + 1)))), L, D, z)) : JJ Γ (jj_E Y_X9_four) Zf (jj_rm d 0 0) 0 0 3 [some (.ref mo), some (.int w), some (.int v2)] [] (T, R, S, blk 18 I mo (st A 0 G), L, D, z) := by
  refine jj_iload_n (q := 4) dX9_four_3 rfl rfl rfl ?_
  refine jj_if_lt (q := 7) (tgt := 39) dX9_four_4 rfl rfl (fun h4 => by exfalso; exact hv h4) (fun h4 => ?_)
  refine jj_aload_n (q := 8) dX9_four_7 rfl rfl rfl ?_
  refine jj_getS (q := 11) dX9_four_8 fl_X9_9 hm.t0 hm.r0_1 rfl rfl rfl ?_
  refine jj_aload_n (q := 12) dX9_four_11 rfl rfl rfl ?_
  refine jj_getIw (v := nI n) (q := 15) dX9_four_12 fl_X9_85 hm.t0 (by rw [g_rd]; exact h2) rfl rfl ?_
  refine jj_iload_n (q := 16) dX9_four_15 rfl rfl rfl ?_
  refine jj_iload_n (q := 17) dX9_four_16 rfl rfl rfl ?_
  refine jj_ishr (q := 18) dX9_four_17 rfl ?_
  refine jj_sipush (v := 255) (q := 21) dX9_four_18 rfl rfl ?_
  refine jj_iand (q := 22) dX9_four_21 rfl ?_
  refine jj_iastN (q := 23) (j := n) dX9_four_22 hm.t1 (u2_bsk (by decide) (by decide)) rfl (by omega) rfl ?_
  refine jj_aload_n (q := 24) dX9_four_23 rfl rfl rfl ?_
  refine jj_dup (q := 25) dX9_four_24 rfl rfl ?_
  refine jj_getIw (v := nI n) (q := 28) dX9_four_25 fl_X9_85 hm.t0 (by rw [g_rd]; exact h2) rfl rfl ?_
  refine jj_iconst (v := 1) (q := 29) dX9_four_28 rfl rfl ?_
  refine jj_iaddN (q := 30) (a := n) (b := 1) dX9_four_29 rfl rfl rfl ?_
  refine jj_putIv (q := 33) dX9_four_30 fl_X9_85 hm.t0 g_wr rfl rfl rfl rfl rfl ?_
  refine jj_iinc (v := v3) (q := 36) dX9_four_33 rfl h3 (by decide) rfl ?_
  refine jj_goto (tgt := 3) dX9_four_36 rfl ?_
  exact hz
theorem ex_four (hm : hMo T S mo) {n : Nat} (h2 : G 2 = nI n) (hn : n + 4 ≤ 1200) {w : Int32} : Ex Γ d Y_X9_four [.ref mo, .int w] (T, R, S, blk 18 I mo (st A 0 G), L, D, z) 0 0 (rV (T, R, S, blk 18 I mo (st (fourA A n w) 0 (w1 G 2 (nI (n + 4)))), L, D, z)) := by
  refine Ex.of (by decide) (by simp [Value.category]) (Nat.le_of_ble_eq_true rfl) rfl ?_
  refine jj_bipush (v := 24) (q := 2) dX9_four_0 rfl rfl ?_
  refine jj_istore_n (q := 3) dX9_four_2 rfl (by decide) rfl ?_
  refine four_it hm h2 (by omega) (by decide) (v3 := 16) (by decide) ?_
  refine four_it hm w1_eq (by omega) (by decide) (v3 := 8) (by decide) ?_
  refine four_it hm w1_eq (by omega) (by decide) (v3 := 0) (by decide) ?_
  refine four_it hm w1_eq (by omega) (by decide) (v3 := -8) (by decide) ?_
  rw [w1_w1, w1_w1, w1_w1]
  refine jj_iload_n (q := 4) dX9_four_3 rfl rfl rfl ?_
  refine jj_if_lt (q := 7) (tgt := 39) dX9_four_4 rfl rfl (fun h4 => ?_) (fun h4 => absurd (by decide) h4)
  refine jj_vret dX9_four_39 rfl (Nat.zero_le _) (Nat.zero_le _) ?_
  exact ⟨rfl, rfl⟩
end M96
