/-! append of the model, all of it -/
def appA (A : JI) (n : Nat) (a c e g i : Int32) : JI := fourA (fourA (fourA (fourA (fourA A n a) (n + 4) c) (n + 4 + 4) e) (n + 4 + 4 + 4) g) (n + 4 + 4 + 4 + 4) i
section M97
variable {Γ : Gam} {d : Nat} {T : JT} {R S : JR} {I A : JI} {L : JL} {D : JD} {z : Option Nat} {mo : Nat} {G : JV}
theorem ex_mappend_no (hm : hMo T S mo) {n : Nat} (h2 : G 2 = nI n) (hn : 1180 < n) (hn2 : n ≤ 1200) {a c e g i : Int32} : Ex Γ (d + 1) Y_X9_append [.ref mo, .int a, .int c, .int e, .int g, .int i] (T, R, S, blk 18 I mo (st A 0 G), L, D, z) 0 0 (rI (-1) (T, R, S, blk 18 I mo (st A 0 (w1 G 0 0)), L, D, z)) := by
  refine Ex.of (by decide) (by simp [Value.category]) (Nat.le_of_ble_eq_true rfl) rfl ?_
  refine jj_aload_n (q := 1) dX9_append_0 rfl rfl rfl ?_
  refine jj_iconst (v := 0) (q := 2) dX9_append_1 rfl rfl ?_
  refine jj_putIv (q := 5) dX9_append_2 fl_X9_82 hm.t0 g_wr rfl rfl rfl rfl rfl ?_
  refine jj_aload_n (q := 6) dX9_append_5 rfl rfl rfl ?_
  refine jj_getIw (v := nI n) (q := 9) dX9_append_6 fl_X9_85 hm.t0 (by rw [g_rd, w1_ne (by omega)]; exact h2) rfl rfl ?_
  refine jj_bipush (v := 20) (q := 11) dX9_append_9 rfl rfl ?_
  refine jj_iaddN (q := 12) (a := n) (b := 20) dX9_append_11 rfl rfl rfl ?_
  refine jj_sipush (v := 1200) (q := 15) dX9_append_12 rfl rfl ?_
  refine jj_icmp_le (q := 18) (tgt := 20) dX9_append_15 rfl rfl (fun h15 => absurd h15 (nI_ge (a := 1200) (b := n + 20) (by omega) (by omega))) (fun h15 => ?_)
  refine jj_iconst (v := -1) (q := 19) dX9_append_18 rfl rfl ?_
  refine jj_iret dX9_append_19 rfl (Nat.zero_le _) (Nat.zero_le _) ?_
  exact ⟨rfl, rfl⟩
theorem ex_mappend_ok (hm : hMo T S mo) {n : Nat} (h2 : G 2 = nI n) (hn : n ≤ 1180) {a c e g i : Int32} : Ex Γ (d + 1) Y_X9_append [.ref mo, .int a, .int c, .int e, .int g, .int i] (T, R, S, blk 18 I mo (st A 0 G), L, D, z) 0 0 (rI (nI (n + 4 + 4 + 4 + 4 + 4)) (T, R, S, blk 18 I mo (st (appA A n a c e g i) 0 (w1 (w1 G 0 0) 2 (nI (n + 4 + 4 + 4 + 4 + 4)))), L, D, z)) := by
  refine Ex.of (by decide) (by simp [Value.category]) (Nat.le_of_ble_eq_true rfl) rfl ?_
  refine jj_aload_n (q := 1) dX9_append_0 rfl rfl rfl ?_
  refine jj_iconst (v := 0) (q := 2) dX9_append_1 rfl rfl ?_
  refine jj_putIv (q := 5) dX9_append_2 fl_X9_82 hm.t0 g_wr rfl rfl rfl rfl rfl ?_
  refine jj_aload_n (q := 6) dX9_append_5 rfl rfl rfl ?_
  refine jj_getIw (v := nI n) (q := 9) dX9_append_6 fl_X9_85 hm.t0 (by rw [g_rd, w1_ne (by omega)]; exact h2) rfl rfl ?_
  refine jj_bipush (v := 20) (q := 11) dX9_append_9 rfl rfl ?_
  refine jj_iaddN (q := 12) (a := n) (b := 20) dX9_append_11 rfl rfl rfl ?_
  refine jj_sipush (v := 1200) (q := 15) dX9_append_12 rfl rfl ?_
  refine jj_icmp_le (q := 18) (tgt := 20) dX9_append_15 rfl rfl (fun h15 => ?_) (fun h15 => absurd (nI_le (a := n + 20) (b := 1200) (by omega) (by omega)) h15)
  refine jj_aload_n (q := 21) dX9_append_20 rfl rfl rfl ?_
  refine jj_iload_n (q := 22) dX9_append_21 rfl rfl rfl ?_
  refine jj_cV1v (q := 25) dX9_append_22 yk_X9_four ml_X9_88 hm.t0 (ex_four hm (n := n) ((w1_ne (by omega)).trans h2) (by omega)) rfl rfl rfl ⟨Nat.zero_le _, Nat.zero_le _⟩ ?_
  refine jj_aload_n (q := 26) dX9_append_25 rfl rfl rfl ?_
  refine jj_iload_n (q := 27) dX9_append_26 rfl rfl rfl ?_
  refine jj_cV1v (q := 30) dX9_append_27 yk_X9_four ml_X9_88 hm.t0 (ex_four hm (n := n + 4) w1_eq (by omega)) rfl rfl rfl ⟨Nat.zero_le _, Nat.zero_le _⟩ ?_
  refine jj_aload_n (q := 31) dX9_append_30 rfl rfl rfl ?_
  refine jj_iload_n (q := 32) dX9_append_31 rfl rfl rfl ?_
  refine jj_cV1v (q := 35) dX9_append_32 yk_X9_four ml_X9_88 hm.t0 (ex_four hm (n := n + 4 + 4) w1_eq (by omega)) rfl rfl rfl ⟨Nat.zero_le _, Nat.zero_le _⟩ ?_
  refine jj_aload_n (q := 36) dX9_append_35 rfl rfl rfl ?_
  refine jj_iload (q := 38) dX9_append_36 rfl rfl ?_
  refine jj_cV1v (q := 41) dX9_append_38 yk_X9_four ml_X9_88 hm.t0 (ex_four hm (n := n + 4 + 4 + 4) w1_eq (by omega)) rfl rfl rfl ⟨Nat.zero_le _, Nat.zero_le _⟩ ?_
  refine jj_aload_n (q := 42) dX9_append_41 rfl rfl rfl ?_
  refine jj_iload (q := 44) dX9_append_42 rfl rfl ?_
  refine jj_cV1v (q := 47) dX9_append_44 yk_X9_four ml_X9_88 hm.t0 (ex_four hm (n := n + 4 + 4 + 4 + 4) w1_eq (by omega)) rfl rfl rfl ⟨Nat.zero_le _, Nat.zero_le _⟩ ?_
  refine jj_aload_n (q := 48) dX9_append_47 rfl rfl rfl ?_
  refine jj_getIw (v := nI (n + 4 + 4 + 4 + 4 + 4)) (q := 51) dX9_append_48 fl_X9_85 hm.t0 (by rw [g_rd, w1_eq]) rfl rfl ?_
  refine jj_iret dX9_append_51 rfl (Nat.zero_le _) (Nat.zero_le _) ?_
  exact ⟨rfl, by rw [w1_w1, w1_w1, w1_w1, w1_w1]; rfl⟩
end M97
