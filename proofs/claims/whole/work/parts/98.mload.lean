/-! load of the model: a wrong number of bytes; a text with an error -/
section M98
variable {Γ : Gam} {d : Nat} {T : JT} {R S : JR} {I A : JI} {L : JL} {D : JD} {z : Option Nat} {mo E bq : Nat} {G N X : JV} {b : Nat → Nat} {H : Nat → Tst}
theorem ex_throwsG (hm : hMo T S mo) {w : Int32} : Ex Γ d Y_X9_throwsAt [.ref mo, .int w] (T, R, S, blk 18 I mo (st A 0 G), L, D, z) 0 0 (rI 0 (T, R, S, blk 18 I mo (st A 0 (w1 G 0 w)), L, D, z)) := by
  refine Ex.of (by decide) (by simp [Value.category]) (Nat.le_of_ble_eq_true rfl) rfl ?_
  refine jj_aload_n (q := 1) dX9_throwsAt_0 rfl rfl rfl ?_
  refine jj_iload_n (q := 2) dX9_throwsAt_1 rfl rfl rfl ?_
  refine jj_putIv (q := 5) dX9_throwsAt_2 fl_X9_82 hm.t0 g_wr rfl rfl rfl rfl rfl ?_
  refine jj_iconst (v := 0) (q := 6) dX9_throwsAt_5 rfl rfl ?_
  refine jj_iret dX9_throwsAt_6 rfl (Nat.zero_le _) (Nat.zero_le _) ?_
  exact ⟨rfl, rfl⟩
theorem ex_mload_bad (hm : hMo T S mo) {n : Int32} (hn : inI n 0 (G 2) = 0) : Ex Γ (d + 1) Y_X9_load [.ref mo, .int n] (T, R, S, blk 18 I mo (st A 0 G), L, D, z) 0 0 (rI 0 (T, R, S, blk 18 I mo (st A 0 (w1 G 0 1)), L, D, z)) := by
  refine Ex.of (by decide) (by simp [Value.category]) (Nat.le_of_ble_eq_true rfl) rfl ?_
  refine jj_aload_n (q := 1) dX9_load_0 rfl rfl rfl ?_
  refine jj_iconst (v := 0) (q := 2) dX9_load_1 rfl rfl ?_
  refine jj_putIv (q := 5) dX9_load_2 fl_X9_82 hm.t0 g_wr rfl rfl rfl rfl rfl ?_
  refine jj_iload_n (q := 6) dX9_load_5 rfl rfl rfl ?_
  refine jj_iconst (v := 0) (q := 7) dX9_load_6 rfl rfl ?_
  refine jj_aload_n (q := 8) dX9_load_7 rfl rfl rfl ?_
  refine jj_getIw (v := G 2) (q := 11) dX9_load_8 fl_X9_85 hm.t0 (by rw [g_rd, w1_ne (by omega)]) rfl rfl ?_
  refine jj_cS3i (q := 14) dX9_load_11 yk_X9_in ml_X9_111 ex_inI rfl rfl rfl ⟨Nat.zero_le _, Nat.zero_le _⟩ ?_
  refine jj_if_ne (q := 17) (tgt := 23) dX9_load_14 rfl rfl (fun h14 => by exfalso; exact h14 hn) (fun h14 => ?_)
  refine jj_aload_n (q := 18) dX9_load_17 rfl rfl rfl ?_
  refine jj_iconst (v := 1) (q := 19) dX9_load_18 rfl rfl ?_
  refine jj_cV1i (q := 22) dX9_load_19 yk_X9_throwsAt ml_X9_240 hm.t0 (ex_throwsG hm) rfl rfl rfl ⟨Nat.zero_le _, Nat.zero_le _⟩ ?_
  refine jj_iret dX9_load_22 rfl (Nat.zero_le _) (Nat.zero_le _) ?_
  exact ⟨rfl, by rw [w1_w1]⟩
end M98
