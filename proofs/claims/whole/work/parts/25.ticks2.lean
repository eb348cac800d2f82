/-! THE STEPS OF A TICK, walked: machines, moving, arrivals; the tick; many ticks -/
section JB5
variable {Γ : Gam} {E : JE} {Zf : List Frame → Array Value → State → State → Prop} {cells slots pc q : Nat} {vl : List (Option Value)} {st : List Value}
variable {T : JT} {R S : JR} {I I' : JI} {L : JL} {D : JD} {z : Option Nat} {a : Nat}
theorem jj_copyv {d mcR msR ix a0 n0 n1 : Nat} {sp dp n : Int32} (hd : decode E.2.1 pc = .ok (.invokestatic ix, 3)) (hm : Cond.methodLink E.1 ix arraycopyName ∈ lw_good) (hT0 : T a0 = some (.inr (.int, n0))) (hT : T a = some (.inr (.int, n1))) (he : uC I a0 sp.toNatClampNeg a dp.toNatClampNeg n.toNatClampNeg = I') (h1 : ¬ sp < 0) (h2 : ¬ dp < 0) (h3 : ¬ n < 0) (h4 : sp.toNatClampNeg + n.toNatClampNeg ≤ n0) (h5 : dp.toNatClampNeg + n.toNatClampNeg ≤ n1) (hrt : Nat.ble (st.map fun v => v.category).sum 8 = true) (hq : pc + 3 = q) (kk : JJ Γ E Zf (jj_rm (d + 1) mcR msR) cells slots q vl st (T, R, S, I', L, D, z)) : JJ Γ E Zf (jj_rm (d + 1) mcR msR) cells slots pc vl (.int n :: .int dp :: .ref a :: .int sp :: .ref a0 :: st) (T, R, S, I, L, D, z) := by
  subst he
  exact jj_copy hd hm hT0 hT h1 h2 h3 h4 h5 hrt hq kk
end JB5
theorem lv_pred {lv : Int32} {q : Nat} (h : lv = nI (q + 1)) : lv - 1 = nI q := by rw [h]; exact nI_pred q
theorem fmS_1 (P : JI) (c : Nat) (lv : Int32) (m : Nat) (K : JI) : fmS P c lv m K 1 = K 1 := by
  unfold fmS
  split
  · split
    · rfl
    · split
      · rfl
      · rw [kEn_1, putI_ne (by decide), putI_ne (by decide), putI_ne (by decide)]
  · rfl
theorem fmL_1 (P : JI) (c : Nat) (lv : Int32) : ∀ (k i : Nat) (K : JI), fmL P c lv k i K 1 = K 1
  | 0, _, _ => rfl
  | k + 1, i, K => by rw [fmL, fmL_1 P c lv k, fmS_1]
theorem fmA_1 (P : JI) (c : Nat) (lv : Int32) (n : Nat) (K : JI) : fmA P c lv n K 1 = K 1 := by
  unfold fmA
  split
  · rfl
  · exact fmL_1 P c lv n 0 K
theorem adS_1 (i : Nat) (K : JI) : adS i K 1 = K 1 := by
  unfold adS
  split
  · split
    · exact kEn_1 _ _ _
    · rfl
  · rfl
theorem adL_1 : ∀ (k i : Nat) (K : JI), adL k i K 1 = K 1
  | 0, _, _ => rfl
  | k + 1, i, K => by rw [adL, adL_1 k, adS_1]
theorem adA_1 (c : Nat) (K : JI) : adA c K 1 = K 1 := by
  unfold adA
  split
  · rfl
  · exact adL_1 c 0 K
section M25
variable {Γ : Gam} {d : Nat} {T : JT} {R S : JR} {I P K : JI} {L : JL} {D : JD} {z : Option Nat} {a p c : Nat} {r : Int64} {V : Nat → Int32}
theorem lp_workMachines (hs : hSt T R a) (hp : hPl T R p) (hdj : p + 16 ≤ a ∨ a + 19 ≤ p) (hI : ∀ k : Nat, k < 15 → I (p + k) = P k) (hW : wP P) {q : Nat} {lv : Int32} (hq : q < 3) (hlv : lv = nI (q + 1)) : ∀ (k i : Nat) (K : JI) (r : Int64) (x4 x5 x6 : Option Value), i + k = pnm P q → JJ Γ (jj_E Y_X7_workMachines) (jj_Z Γ (rV (T, R, S, blk 19 (vv I p V) a (wmL P lv k i (K, r)).1, u2 L a 1 (wmL P lv k i (K, r)).2, D, z)) 0 0) (jj_rm (d + 3) 0 0) 0 0 2 [some (.ref p), some (.ref a), some (.int lv), some (.int (nI i)), x4, x5, x6] [] (T, R, S, blk 19 (vv I p V) a K, u2 L a 1 r, D, z) := by
  have hro : ∀ k : Nat, k < 15 → ∀ {V : Nat → Int32} {K : JI}, blk 19 (vv I p V) a K (p + k) = P k := fun k hk => tro hdj hI k hk
  have hn3 := (hW.2.2.2.2.2.1 q hq).2
  intro k
  induction k with
  | zero =>
    intro i K r x4 x5 x6 hi
    refine jj_iload_n (q := 3) dX7_workMachines_2 rfl rfl rfl ?_
    refine jj_aload_n (q := 4) dX7_workMachines_3 rfl rfl rfl ?_
    refine jj_getR (q := 7) dX7_workMachines_4 fl_X7_179 hp.t0 hp.r0_3 rfl rfl rfl ?_
    refine jj_iload_n (q := 8) dX7_workMachines_7 rfl rfl rfl ?_
    refine jj_iconst (v := 1) (q := 9) dX7_workMachines_8 rfl rfl ?_
    refine jj_isub (q := 10) dX7_workMachines_9 rfl ?_
    refine jj_cN2i (q := 13) dX7_workMachines_10 yk_X8_at ml_X7_21 (ex_atv hp.t1 (hro 1 (by decide)) rfl) rfl rfl rfl ⟨Nat.zero_le _, Nat.zero_le _⟩ ?_
    rw [lv_pred hlv, atV_nI hq (by omega), (hW.2.2.2.2.2.1 q hq).1]
    refine jj_icmp_ge (q := 16) (tgt := 127) dX7_workMachines_13 rfl rfl (fun h13 => ?_) (fun h13 => absurd ((nI_le (show pnm P q ≤ i by omega) (by omega))) h13)
    refine jj_vret dX7_workMachines_127 rfl (Nat.zero_le _) (Nat.zero_le _) ?_
    exact ⟨rfl, rfl⟩
  | succ k ih =>
    intro i K r x4 x5 x6 hi
    refine jj_iload_n (q := 3) dX7_workMachines_2 rfl rfl rfl ?_
    refine jj_aload_n (q := 4) dX7_workMachines_3 rfl rfl rfl ?_
    refine jj_getR (q := 7) dX7_workMachines_4 fl_X7_179 hp.t0 hp.r0_3 rfl rfl rfl ?_
    refine jj_iload_n (q := 8) dX7_workMachines_7 rfl rfl rfl ?_
    refine jj_iconst (v := 1) (q := 9) dX7_workMachines_8 rfl rfl ?_
    refine jj_isub (q := 10) dX7_workMachines_9 rfl ?_
    refine jj_cN2i (q := 13) dX7_workMachines_10 yk_X8_at ml_X7_21 (ex_atv hp.t1 (hro 1 (by decide)) rfl) rfl rfl rfl ⟨Nat.zero_le _, Nat.zero_le _⟩ ?_
    rw [lv_pred hlv, atV_nI hq (by omega), (hW.2.2.2.2.2.1 q hq).1]
    refine jj_icmp_ge (q := 16) (tgt := 127) dX7_workMachines_13 rfl rfl (fun h13 => absurd h13 ((nI_ge (show i < pnm P q by omega) (by omega)))) (fun h13 => ?_)
    refine jj_iload_n (q := 17) dX7_workMachines_16 rfl rfl rfl ?_
    refine jj_iload_n (q := 18) dX7_workMachines_17 rfl rfl rfl ?_
    refine jj_cN2i (q := 21) dX7_workMachines_18 yk_X8_machineIndex ml_X7_182 ex_machineIndex rfl rfl rfl ⟨Nat.zero_le _, Nat.zero_le _⟩ ?_
    refine jj_istore (q := 23) dX7_workMachines_21 (by decide) rfl ?_
    refine jj_aload_n (q := 24) dX7_workMachines_23 rfl rfl rfl ?_
    refine jj_getR (q := 27) dX7_workMachines_24 fl_X7_185 hs.t0 hs.r0_11 rfl rfl rfl ?_
    refine jj_iload (q := 29) dX7_workMachines_27 rfl rfl ?_
    refine jj_cN2i (q := 32) dX7_workMachines_29 yk_X8_at ml_X7_21 (ex_atv hs.t15 (blk_k (by decide)) rfl) rfl rfl rfl ⟨Nat.zero_le _, Nat.zero_le _⟩ ?_
    refine jj_istore (q := 34) dX7_workMachines_32 (by decide) rfl ?_
    refine jj_iload (q := 36) dX7_workMachines_34 rfl rfl ?_
    refine jj_iconst (v := -1) (q := 37) dX7_workMachines_36 rfl rfl ?_
    refine jj_icmp_eq (q := 40) (tgt := 121) dX7_workMachines_37 rfl rfl (fun h37 => ?_) (fun h37 => ?_)
    · refine jj_iinc (v := nI (i + 1)) (q := 124) dX7_workMachines_121 rfl (nI_inc i) (by decide) rfl ?_
      refine jj_goto (tgt := 2) dX7_workMachines_124 rfl ?_
      rw [wmL]; unfold wmS kMi; dsimp only; (first | rw [if_pos h37] | rw [if_neg h37] | skip); (first | rw [if_pos h47] | rw [if_neg h47] | skip); (first | rw [if_pos h76] | rw [if_neg h76] | skip); (first | rw [if_pos h106] | rw [if_neg h106] | skip); exact ih (i + 1) _ _ _ _ _ (by omega)
    · refine jj_aload_n (q := 41) dX7_workMachines_40 rfl rfl rfl ?_
      refine jj_aload_n (q := 42) dX7_workMachines_41 rfl rfl rfl ?_
      refine jj_iload_n (q := 43) dX7_workMachines_42 rfl rfl rfl ?_
      refine jj_iload_n (q := 44) dX7_workMachines_43 rfl rfl rfl ?_
      refine jj_cS4i (q := 47) dX7_workMachines_44 yk_X7_works ml_X7_188 (ex_works hs hp hdj hI hW) rfl rfl rfl ⟨Nat.zero_le _, Nat.zero_le _⟩ ?_
      refine jj_if_eq (q := 50) (tgt := 121) dX7_workMachines_47 rfl rfl (fun h47 => ?_) (fun h47 => ?_)
      · refine jj_iinc (v := nI (i + 1)) (q := 124) dX7_workMachines_121 rfl (nI_inc i) (by decide) rfl ?_
        refine jj_goto (tgt := 2) dX7_workMachines_124 rfl ?_
        rw [wmL]; unfold wmS kMi; dsimp only; (first | rw [if_pos h37] | rw [if_neg h37] | skip); (first | rw [if_pos h47] | rw [if_neg h47] | skip); (first | rw [if_pos h76] | rw [if_neg h76] | skip); (first | rw [if_pos h106] | rw [if_neg h106] | skip); exact ih (i + 1) _ _ _ _ _ (by omega)
      · refine jj_aload_n (q := 51) dX7_workMachines_50 rfl rfl rfl ?_
        refine jj_getR (q := 54) dX7_workMachines_51 fl_X7_191 hs.t0 hs.r0_12 rfl rfl rfl ?_
        refine jj_iload (q := 56) dX7_workMachines_54 rfl rfl ?_
        refine jj_cN2i (q := 59) dX7_workMachines_56 yk_X8_at ml_X7_21 (ex_atv hs.t16 (blk_k (by decide)) rfl) rfl rfl rfl ⟨Nat.zero_le _, Nat.zero_le _⟩ ?_
        refine jj_iconst (v := 1) (q := 60) dX7_workMachines_59 rfl rfl ?_
        refine jj_isub (q := 61) dX7_workMachines_60 rfl ?_
        refine jj_istore (q := 63) dX7_workMachines_61 (by decide) rfl ?_
        refine jj_aload_n (q := 64) dX7_workMachines_63 rfl rfl rfl ?_
        refine jj_getR (q := 67) dX7_workMachines_64 fl_X7_191 hs.t0 hs.r0_12 rfl rfl rfl ?_
        refine jj_iload (q := 69) dX7_workMachines_67 rfl rfl ?_
        refine jj_iload (q := 71) dX7_workMachines_69 rfl rfl ?_
        refine jj_cN3v (q := 74) dX7_workMachines_71 yk_X8_put ml_X7_96 (ex_putv hs.t16 (putI_blk (by decide)) rfl) rfl rfl rfl ⟨Nat.zero_le _, Nat.zero_le _⟩ ?_
        refine jj_iload (q := 76) dX7_workMachines_74 rfl rfl ?_
        refine jj_if_ne (q := 79) (tgt := 121) dX7_workMachines_76 rfl rfl (fun h76 => ?_) (fun h76 => ?_)
        · refine jj_iinc (v := nI (i + 1)) (q := 124) dX7_workMachines_121 rfl (nI_inc i) (by decide) rfl ?_
          refine jj_goto (tgt := 2) dX7_workMachines_124 rfl ?_
          rw [wmL]; unfold wmS kMi; dsimp only; (first | rw [if_pos h37] | rw [if_neg h37] | skip); (first | rw [if_pos h47] | rw [if_neg h47] | skip); (first | rw [if_pos h76] | rw [if_neg h76] | skip); (first | rw [if_pos h106] | rw [if_neg h106] | skip); exact ih (i + 1) _ _ _ _ _ (by omega)
        · refine jj_aload_n (q := 80) dX7_workMachines_79 rfl rfl rfl ?_
          refine jj_getR (q := 83) dX7_workMachines_80 fl_X7_185 hs.t0 hs.r0_11 rfl rfl rfl ?_
          refine jj_iload (q := 85) dX7_workMachines_83 rfl rfl ?_
          refine jj_iconst (v := -1) (q := 86) dX7_workMachines_85 rfl rfl ?_
          refine jj_cN3v (q := 89) dX7_workMachines_86 yk_X8_put ml_X7_96 (ex_putv hs.t15 (putI_blk (by decide)) rfl) rfl rfl rfl ⟨Nat.zero_le _, Nat.zero_le _⟩ ?_
          refine jj_aload_n (q := 90) dX7_workMachines_89 rfl rfl rfl ?_
          refine jj_iload (q := 92) dX7_workMachines_90 rfl rfl ?_
          refine jj_aload_n (q := 93) dX7_workMachines_92 rfl rfl rfl ?_
          refine jj_cV0i (q := 96) dX7_workMachines_93 yk_X4_draw ml_X7_194 hs.t0 (ex_draw hs) rfl rfl rfl ⟨Nat.zero_le _, Nat.zero_le _⟩ ?_
          refine jj_aload_n (q := 97) dX7_workMachines_96 rfl rfl rfl ?_
          refine jj_getR (q := 100) dX7_workMachines_97 fl_X7_198 hp.t0 hp.r0_5 rfl rfl rfl ?_
          refine jj_iload_n (q := 101) dX7_workMachines_100 rfl rfl rfl ?_
          refine jj_iconst (v := 1) (q := 102) dX7_workMachines_101 rfl rfl ?_
          refine jj_isub (q := 103) dX7_workMachines_102 rfl ?_
          refine jj_cN2i (q := 106) dX7_workMachines_103 yk_X8_at ml_X7_21 (ex_atv hp.t3 (hro 3 (by decide)) rfl) rfl rfl rfl ⟨Nat.zero_le _, Nat.zero_le _⟩ ?_
          refine jj_icmp_ge (q := 109) (tgt := 116) dX7_workMachines_106 rfl rfl (fun h106 => ?_) (fun h106 => ?_)
          · refine jj_bipush (v := 7) (q := 118) dX7_workMachines_116 rfl rfl ?_
            refine jj_cV2v (q := 121) dX7_workMachines_118 yk_X4_enter ml_X7_78 hs.t0 (ex_enter hs) rfl rfl rfl ⟨Nat.zero_le _, Nat.zero_le _⟩ ?_
            refine jj_iinc (v := nI (i + 1)) (q := 124) dX7_workMachines_121 rfl (nI_inc i) (by decide) rfl ?_
            refine jj_goto (tgt := 2) dX7_workMachines_124 rfl ?_
            rw [wmL]; unfold wmS kMi; dsimp only; (first | rw [if_pos h37] | rw [if_neg h37] | skip); (first | rw [if_pos h47] | rw [if_neg h47] | skip); (first | rw [if_pos h76] | rw [if_neg h76] | skip); (first | rw [if_pos h106] | rw [if_neg h106] | skip); exact ih (i + 1) _ _ _ _ _ (by omega)
          · refine jj_iload_n (q := 110) dX7_workMachines_109 rfl rfl rfl ?_
            refine jj_cS1i (q := 113) dX7_workMachines_110 yk_X7_afterAlarm ml_X7_201 ex_afterAlarm rfl rfl rfl ⟨Nat.zero_le _, Nat.zero_le _⟩ ?_
            refine jj_goto (tgt := 118) dX7_workMachines_113 rfl ?_
            refine jj_cV2v (q := 121) dX7_workMachines_118 yk_X4_enter ml_X7_78 hs.t0 (ex_enter hs) rfl rfl rfl ⟨Nat.zero_le _, Nat.zero_le _⟩ ?_
            refine jj_iinc (v := nI (i + 1)) (q := 124) dX7_workMachines_121 rfl (nI_inc i) (by decide) rfl ?_
            refine jj_goto (tgt := 2) dX7_workMachines_124 rfl ?_
            rw [wmL]; unfold wmS kMi; dsimp only; (first | rw [if_pos h37] | rw [if_neg h37] | skip); (first | rw [if_pos h47] | rw [if_neg h47] | skip); (first | rw [if_pos h76] | rw [if_neg h76] | skip); (first | rw [if_pos h106] | rw [if_neg h106] | skip); exact ih (i + 1) _ _ _ _ _ (by omega)
theorem ex_workMachines (hs : hSt T R a) (hp : hPl T R p) (hdj : p + 16 ≤ a ∨ a + 19 ≤ p) (hI : ∀ k : Nat, k < 15 → I (p + k) = P k) (hW : wP P) {q : Nat} {lv : Int32} (hq : q < 3) (hlv : lv = nI (q + 1)) : Ex Γ (d + 3) Y_X7_workMachines [.ref p, .ref a, .int lv] (T, R, S, blk 19 (vv I p V) a K, u2 L a 1 r, D, z) 0 0 (rV (T, R, S, blk 19 (vv I p V) a (wmL P lv (pnm P q) 0 (K, r)).1, u2 L a 1 (wmL P lv (pnm P q) 0 (K, r)).2, D, z)) := by
  refine Ex.of (by decide) (by simp [Value.category]) (Nat.le_of_ble_eq_true rfl) rfl ?_
  refine jj_iconst (v := 0) (q := 1) dX7_workMachines_0 rfl rfl ?_
  refine jj_istore_n (q := 2) dX7_workMachines_1 rfl (by decide) rfl ?_
  exact lp_workMachines hs hp hdj hI hW hq hlv (pnm P q) 0 K r none none none (by omega)
theorem lp_fillMachines (hs : hSt T R a) (hp : hPl T R p) (hdj : p + 16 ≤ a ∨ a + 19 ≤ p) (hI : ∀ k : Nat, k < 15 → I (p + k) = P k) (hW : wP P) {q : Nat} {lv : Int32} (hq : q < 3) (hlv : lv = nI (q + 1)) (hc1 : c ≤ 100) : ∀ (k i : Nat) (K : JI) (x4 x5 : Option Value), (i + k = pnm P q ∧ K 1 0 = nI c) → JJ Γ (jj_E Y_X7_fillMachines) (jj_Z Γ (rV (T, R, S, blk 19 (vv I p V) a (fmL P c lv k i K), L, D, z)) 0 0) (jj_rm (d + 3) 0 0) 0 0 20 [some (.ref p), some (.ref a), some (.int lv), some (.int (nI i)), x4, x5] [] (T, R, S, blk 19 (vv I p V) a K, L, D, z) := by
  have hro : ∀ k : Nat, k < 15 → ∀ {V : Nat → Int32} {K : JI}, blk 19 (vv I p V) a K (p + k) = P k := fun k hk => tro hdj hI k hk
  have hn3 := (hW.2.2.2.2.2.1 q hq).2
  intro k
  induction k with
  | zero =>
    intro i K x4 x5 hi
    refine jj_iload_n (q := 21) dX7_fillMachines_20 rfl rfl rfl ?_
    refine jj_aload_n (q := 22) dX7_fillMachines_21 rfl rfl rfl ?_
    refine jj_getR (q := 25) dX7_fillMachines_22 fl_X7_179 hp.t0 hp.r0_3 rfl rfl rfl ?_
    refine jj_iload_n (q := 26) dX7_fillMachines_25 rfl rfl rfl ?_
    refine jj_iconst (v := 1) (q := 27) dX7_fillMachines_26 rfl rfl ?_
    refine jj_isub (q := 28) dX7_fillMachines_27 rfl ?_
    refine jj_cN2i (q := 31) dX7_fillMachines_28 yk_X8_at ml_X7_21 (ex_atv hp.t1 (hro 1 (by decide)) rfl) rfl rfl rfl ⟨Nat.zero_le _, Nat.zero_le _⟩ ?_
    rw [lv_pred hlv, atV_nI hq (by omega), (hW.2.2.2.2.2.1 q hq).1]
    refine jj_icmp_ge (q := 34) (tgt := 141) dX7_fillMachines_31 rfl rfl (fun h31 => ?_) (fun h31 => absurd ((nI_le (show pnm P q ≤ i by omega) (by omega))) h31)
    refine jj_vret dX7_fillMachines_141 rfl (Nat.zero_le _) (Nat.zero_le _) ?_
    exact ⟨rfl, rfl⟩
  | succ k ih =>
    intro i K x4 x5 hi
    refine jj_iload_n (q := 21) dX7_fillMachines_20 rfl rfl rfl ?_
    refine jj_aload_n (q := 22) dX7_fillMachines_21 rfl rfl rfl ?_
    refine jj_getR (q := 25) dX7_fillMachines_22 fl_X7_179 hp.t0 hp.r0_3 rfl rfl rfl ?_
    refine jj_iload_n (q := 26) dX7_fillMachines_25 rfl rfl rfl ?_
    refine jj_iconst (v := 1) (q := 27) dX7_fillMachines_26 rfl rfl ?_
    refine jj_isub (q := 28) dX7_fillMachines_27 rfl ?_
    refine jj_cN2i (q := 31) dX7_fillMachines_28 yk_X8_at ml_X7_21 (ex_atv hp.t1 (hro 1 (by decide)) rfl) rfl rfl rfl ⟨Nat.zero_le _, Nat.zero_le _⟩ ?_
    rw [lv_pred hlv, atV_nI hq (by omega), (hW.2.2.2.2.2.1 q hq).1]
    refine jj_icmp_ge (q := 34) (tgt := 141) dX7_fillMachines_31 rfl rfl (fun h31 => absurd h31 ((nI_ge (show i < pnm P q by omega) (by omega)))) (fun h31 => ?_)
    refine jj_iload_n (q := 35) dX7_fillMachines_34 rfl rfl rfl ?_
    refine jj_iload_n (q := 36) dX7_fillMachines_35 rfl rfl rfl ?_
    refine jj_cN2i (q := 39) dX7_fillMachines_36 yk_X8_machineIndex ml_X7_182 ex_machineIndex rfl rfl rfl ⟨Nat.zero_le _, Nat.zero_le _⟩ ?_
    refine jj_istore (q := 41) dX7_fillMachines_39 (by decide) rfl ?_
    refine jj_aload_n (q := 42) dX7_fillMachines_41 rfl rfl rfl ?_
    refine jj_getR (q := 45) dX7_fillMachines_42 fl_X7_185 hs.t0 hs.r0_11 rfl rfl rfl ?_
    refine jj_iload (q := 47) dX7_fillMachines_45 rfl rfl ?_
    refine jj_cN2i (q := 50) dX7_fillMachines_47 yk_X8_at ml_X7_21 (ex_atv hs.t15 (blk_k (by decide)) rfl) rfl rfl rfl ⟨Nat.zero_le _, Nat.zero_le _⟩ ?_
    refine jj_iconst (v := -1) (q := 51) dX7_fillMachines_50 rfl rfl ?_
    refine jj_icmp_ne (q := 54) (tgt := 135) dX7_fillMachines_51 rfl rfl (fun h51 => ?_) (fun h51 => ?_)
    · refine jj_iinc (v := nI (i + 1)) (q := 138) dX7_fillMachines_135 rfl (nI_inc i) (by decide) rfl ?_
      refine jj_goto (tgt := 20) dX7_fillMachines_138 rfl ?_
      have hl' : fmS P c lv i K 1 0 = nI c := by rw [fmS_1]; exact hi.2
      rw [fmL]
      unfold fmS kMi at hl' ⊢
      (first | rw [if_pos h51] at hl' ⊢ | rw [if_neg h51] at hl' ⊢ | skip); (first | rw [if_pos h61] at hl' ⊢ | rw [if_neg h61] at hl' ⊢ | skip); (first | rw [if_pos h77] at hl' ⊢ | rw [if_neg h77] at hl' ⊢ | skip)
      exact ih (i + 1) _ _ _ ⟨by omega, hl'⟩
    · refine jj_aload_n (q := 55) dX7_fillMachines_54 rfl rfl rfl ?_
      refine jj_aload_n (q := 56) dX7_fillMachines_55 rfl rfl rfl ?_
      refine jj_iload_n (q := 57) dX7_fillMachines_56 rfl rfl rfl ?_
      refine jj_iload_n (q := 58) dX7_fillMachines_57 rfl rfl rfl ?_
      refine jj_cS4i (q := 61) dX7_fillMachines_58 yk_X7_works ml_X7_188 (ex_works hs hp hdj hI hW) rfl rfl rfl ⟨Nat.zero_le _, Nat.zero_le _⟩ ?_
      refine jj_if_eq (q := 64) (tgt := 135) dX7_fillMachines_61 rfl rfl (fun h61 => ?_) (fun h61 => ?_)
      · refine jj_iinc (v := nI (i + 1)) (q := 138) dX7_fillMachines_135 rfl (nI_inc i) (by decide) rfl ?_
        refine jj_goto (tgt := 20) dX7_fillMachines_138 rfl ?_
        have hl' : fmS P c lv i K 1 0 = nI c := by rw [fmS_1]; exact hi.2
        rw [fmL]
        unfold fmS kMi at hl' ⊢
        (first | rw [if_pos h51] at hl' ⊢ | rw [if_neg h51] at hl' ⊢ | skip); (first | rw [if_pos h61] at hl' ⊢ | rw [if_neg h61] at hl' ⊢ | skip); (first | rw [if_pos h77] at hl' ⊢ | rw [if_neg h77] at hl' ⊢ | skip)
        exact ih (i + 1) _ _ _ ⟨by omega, hl'⟩
      · refine jj_aload_n (q := 65) dX7_fillMachines_64 rfl rfl rfl ?_
        refine jj_iload_n (q := 66) dX7_fillMachines_65 rfl rfl rfl ?_
        refine jj_cN1i (q := 69) dX7_fillMachines_66 yk_X8_waitState ml_X7_74 ex_waitState rfl rfl rfl ⟨Nat.zero_le _, Nat.zero_le _⟩ ?_
        refine jj_cV1i (q := 72) dX7_fillMachines_69 yk_X4_firstOfQueue ml_X7_204 hs.t0 (ex_firstOfQueue hs hi.2 hc1) rfl rfl rfl ⟨Nat.zero_le _, Nat.zero_le _⟩ ?_
        refine jj_istore (q := 74) dX7_fillMachines_72 (by decide) rfl ?_
        refine jj_iload (q := 76) dX7_fillMachines_74 rfl rfl ?_
        refine jj_iconst (v := -1) (q := 77) dX7_fillMachines_76 rfl rfl ?_
        refine jj_icmp_eq (q := 80) (tgt := 135) dX7_fillMachines_77 rfl rfl (fun h77 => ?_) (fun h77 => ?_)
        · refine jj_iinc (v := nI (i + 1)) (q := 138) dX7_fillMachines_135 rfl (nI_inc i) (by decide) rfl ?_
          refine jj_goto (tgt := 20) dX7_fillMachines_138 rfl ?_
          have hl' : fmS P c lv i K 1 0 = nI c := by rw [fmS_1]; exact hi.2
          rw [fmL]
          unfold fmS kMi at hl' ⊢
          (first | rw [if_pos h51] at hl' ⊢ | rw [if_neg h51] at hl' ⊢ | skip); (first | rw [if_pos h61] at hl' ⊢ | rw [if_neg h61] at hl' ⊢ | skip); (first | rw [if_pos h77] at hl' ⊢ | rw [if_neg h77] at hl' ⊢ | skip)
          exact ih (i + 1) _ _ _ ⟨by omega, hl'⟩
        · refine jj_aload_n (q := 81) dX7_fillMachines_80 rfl rfl rfl ?_
          refine jj_getR (q := 84) dX7_fillMachines_81 fl_X7_185 hs.t0 hs.r0_11 rfl rfl rfl ?_
          refine jj_iload (q := 86) dX7_fillMachines_84 rfl rfl ?_
          refine jj_iload (q := 88) dX7_fillMachines_86 rfl rfl ?_
          refine jj_cN3v (q := 91) dX7_fillMachines_88 yk_X8_put ml_X7_96 (ex_putv hs.t15 (putI_blk (by decide)) rfl) rfl rfl rfl ⟨Nat.zero_le _, Nat.zero_le _⟩ ?_
          refine jj_aload_n (q := 92) dX7_fillMachines_91 rfl rfl rfl ?_
          refine jj_getR (q := 95) dX7_fillMachines_92 fl_X7_191 hs.t0 hs.r0_12 rfl rfl rfl ?_
          refine jj_iload (q := 97) dX7_fillMachines_95 rfl rfl ?_
          refine jj_aload_n (q := 98) dX7_fillMachines_97 rfl rfl rfl ?_
          refine jj_getR (q := 101) dX7_fillMachines_98 fl_X7_207 hp.t0 hp.r0_4 rfl rfl rfl ?_
          refine jj_iload_n (q := 102) dX7_fillMachines_101 rfl rfl rfl ?_
          refine jj_iconst (v := 1) (q := 103) dX7_fillMachines_102 rfl rfl ?_
          refine jj_isub (q := 104) dX7_fillMachines_103 rfl ?_
          refine jj_cN2i (q := 107) dX7_fillMachines_104 yk_X8_at ml_X7_21 (ex_atv hp.t2 (hro 2 (by decide)) rfl) rfl rfl rfl ⟨Nat.zero_le _, Nat.zero_le _⟩ ?_
          refine jj_cN3v (q := 110) dX7_fillMachines_107 yk_X8_put ml_X7_96 (ex_putv hs.t16 (putI_blk (by decide)) rfl) rfl rfl rfl ⟨Nat.zero_le _, Nat.zero_le _⟩ ?_
          refine jj_aload_n (q := 111) dX7_fillMachines_110 rfl rfl rfl ?_
          refine jj_getR (q := 114) dX7_fillMachines_111 fl_X7_9 hs.t0 hs.r0_4 rfl rfl rfl ?_
          refine jj_getR (q := 117) dX7_fillMachines_114 fl_X7_162 hs.t1 hs.r1_5 rfl rfl rfl ?_
          refine jj_iload (q := 119) dX7_fillMachines_117 rfl rfl ?_
          refine jj_iload_n (q := 120) dX7_fillMachines_119 rfl rfl rfl ?_
          refine jj_cN3v (q := 123) dX7_fillMachines_120 yk_X8_put ml_X7_96 (ex_putv hs.t6 (putI_blk (by decide)) rfl) rfl rfl rfl ⟨Nat.zero_le _, Nat.zero_le _⟩ ?_
          refine jj_aload_n (q := 124) dX7_fillMachines_123 rfl rfl rfl ?_
          refine jj_iload (q := 126) dX7_fillMachines_124 rfl rfl ?_
          refine jj_iload_n (q := 127) dX7_fillMachines_126 rfl rfl rfl ?_
          refine jj_cN1i (q := 130) dX7_fillMachines_127 yk_X8_waitState ml_X7_74 ex_waitState rfl rfl rfl ⟨Nat.zero_le _, Nat.zero_le _⟩ ?_
          refine jj_iconst (v := 1) (q := 131) dX7_fillMachines_130 rfl rfl ?_
          refine jj_iadd (q := 132) dX7_fillMachines_131 rfl ?_
          refine jj_cV2v (q := 135) dX7_fillMachines_132 yk_X4_enter ml_X7_78 hs.t0 (ex_enter hs) rfl rfl rfl ⟨Nat.zero_le _, Nat.zero_le _⟩ ?_
          refine jj_iinc (v := nI (i + 1)) (q := 138) dX7_fillMachines_135 rfl (nI_inc i) (by decide) rfl ?_
          refine jj_goto (tgt := 20) dX7_fillMachines_138 rfl ?_
          have hl' : fmS P c lv i K 1 0 = nI c := by rw [fmS_1]; exact hi.2
          rw [fmL]
          unfold fmS kMi at hl' ⊢
          (first | rw [if_pos h51] at hl' ⊢ | rw [if_neg h51] at hl' ⊢ | skip); (first | rw [if_pos h61] at hl' ⊢ | rw [if_neg h61] at hl' ⊢ | skip); (first | rw [if_pos h77] at hl' ⊢ | rw [if_neg h77] at hl' ⊢ | skip)
          exact ih (i + 1) _ _ _ ⟨by omega, hl'⟩
theorem ex_fillMachines (hs : hSt T R a) (hp : hPl T R p) (hdj : p + 16 ≤ a ∨ a + 19 ≤ p) (hI : ∀ k : Nat, k < 15 → I (p + k) = P k) (hW : wP P) {q : Nat} {lv : Int32} (hq : q < 3) (hlv : lv = nI (q + 1)) (hc : K 1 0 = nI c) (hc1 : c ≤ 100) : Ex Γ (d + 3) Y_X7_fillMachines [.ref p, .ref a, .int lv] (T, R, S, blk 19 (vv I p V) a K, L, D, z) 0 0 (rV (T, R, S, blk 19 (vv I p V) a (fmA P c lv (pnm P q) K), L, D, z)) := by
  have hro : ∀ k : Nat, k < 15 → ∀ {V : Nat → Int32} {K : JI}, blk 19 (vv I p V) a K (p + k) = P k := fun k hk => tro hdj hI k hk
  refine Ex.of (by decide) (by simp [Value.category]) (Nat.le_of_ble_eq_true rfl) rfl ?_
  refine jj_aload_n (q := 1) dX7_fillMachines_0 rfl rfl rfl ?_
  refine jj_getR (q := 4) dX7_fillMachines_1 fl_X7_9 hs.t0 hs.r0_4 rfl rfl rfl ?_
  refine jj_getR (q := 7) dX7_fillMachines_4 fl_X7_15 hs.t1 hs.r1_7 rfl rfl rfl ?_
  refine jj_iload_n (q := 8) dX7_fillMachines_7 rfl rfl rfl ?_
  refine jj_cN1i (q := 11) dX7_fillMachines_8 yk_X8_waitState ml_X7_74 ex_waitState rfl rfl rfl ⟨Nat.zero_le _, Nat.zero_le _⟩ ?_
  refine jj_cN2i (q := 14) dX7_fillMachines_11 yk_X8_at ml_X7_21 (ex_atv hs.t8 (blk_k (by decide)) rfl) rfl rfl rfl ⟨Nat.zero_le _, Nat.zero_le _⟩ ?_
  refine jj_if_ne (q := 17) (tgt := 18) dX7_fillMachines_14 rfl rfl (fun h14 => ?_) (fun h14 => ?_)
  · refine jj_iconst (v := 0) (q := 19) dX7_fillMachines_18 rfl rfl ?_
    refine jj_istore_n (q := 20) dX7_fillMachines_19 rfl (by decide) rfl ?_
    rw [fmA, if_neg h14]
    exact lp_fillMachines hs hp hdj hI hW hq hlv hc1 (pnm P q) 0 K none none ⟨by omega, hc⟩
  · refine jj_vret dX7_fillMachines_17 rfl (Nat.zero_le _) (Nat.zero_le _) ?_
    exact ⟨rfl, by rw [fmA, if_pos h14]⟩
/-- the loop's entries up to position k move up by one, the last of them first -/
def mvD : Nat → JI → JI
  | 0, K => K
  | k + 1, K => mvD k (u2 K 14 (k + 1) (K 14 k))
theorem mvD_eq : ∀ (k : Nat) (K : JI), mvD k K = uC K 14 0 14 1 k
  | 0, K => by
    funext b j
    unfold mvD uC va_cpy
    by_cases hb : b = 14
    · subst hb; rw [if_pos rfl, if_neg (by omega)]
    · rw [if_neg hb]
  | k + 1, K => by
    rw [mvD, mvD_eq k]
    funext b j
    by_cases hb : b = 14
    · subst hb
      unfold uC va_cpy
      rw [if_pos rfl, if_pos rfl]
      by_cases h1 : 1 ≤ j ∧ j < 1 + k
      · rw [if_pos h1, if_pos (by omega), u2_ap, if_pos rfl, if_neg (by omega)]
      · rw [if_neg h1, u2_ap, if_pos rfl]
        by_cases h2 : j = k + 1
        · subst h2
          rw [if_pos rfl, if_pos (by omega)]
          congr 1
          omega
        · rw [if_neg h2, if_neg (by omega)]
    · rw [uC_ne hb, uC_ne hb, u2_ne hb]
/-- what stands behind the move: the last bag at the start, its lap counted -/
def mvF (P : JI) (l : Int32) (K : JI) : JI := if atV 40 (u2 K 14 0 l 14) (P 0 1) = -1 then u2 K 14 0 l else putI (u2 K 14 0 l) 5 100 (atV 40 (u2 K 14 0 l 14) (P 0 1)) (atV 100 (u2 K 14 0 l 5) (atV 40 (u2 K 14 0 l 14) (P 0 1)) + 1)
theorem mvL_D (P K : JI) : mvL P K = if K 8 8 = 0 then K else mvF P (K 14 (plen P - 1)) (mvD (plen P - 1) K) := by
  rw [mvD_eq]
  rfl
theorem mv_dec (k : Nat) : nI (k + 1) + Int32.ofInt (-1) = nI k := by
  rw [show Int32.ofInt (-1) = -(1 : Int32) by decide, ← Int32.sub_eq_add_neg]
  exact nI_pred k
theorem lp_moveLoop (hs : hSt T R a) (hp : hPl T R p) (hdj : p + 16 ≤ a ∨ a + 19 ≤ p) (hI : ∀ k : Nat, k < 15 → I (p + k) = P k) (hW : wP P) {len l : Int32} : ∀ (k : Nat) (K : JI), k < 40 → JJ Γ (jj_E Y_X7_moveLoop) (jj_Z Γ (rV (T, R, S, blk 19 (vv I p V) a (mvF P l (mvD k K)), L, D, z)) 0 0) (jj_rm (d + 1) 0 0) 0 0 49 [some (.ref p), some (.ref a), some (.int len), some (.int l), some (.int (nI k))] [] (T, R, S, blk 19 (vv I p V) a K, L, D, z) := by
  have hro : ∀ k : Nat, k < 15 → ∀ {V : Nat → Int32} {K : JI}, blk 19 (vv I p V) a K (p + k) = P k := fun k hk => tro hdj hI k hk
  intro k
  induction k with
  | zero =>
    intro K hi
    refine jj_iload (q := 51) dX7_moveLoop_49 rfl rfl ?_
    refine jj_if_le (q := 54) (tgt := 76) dX7_moveLoop_51 rfl rfl (fun h51 => ?_) (fun h51 => absurd ((nI_le (show 0 ≤ 0 by omega) (by omega))) h51)
    refine jj_aload_n (q := 77) dX7_moveLoop_76 rfl rfl rfl ?_
    refine jj_getR (q := 80) dX7_moveLoop_77 fl_X7_87 hs.t0 hs.r0_10 rfl rfl rfl ?_
    refine jj_iconst (v := 0) (q := 81) dX7_moveLoop_80 rfl rfl ?_
    refine jj_iload_n (q := 82) dX7_moveLoop_81 rfl rfl rfl ?_
    refine jj_iastv (q := 83) dX7_moveLoop_82 hs.t14 (u2_blk (by decide)) (vpl rfl rfl) rfl ?_
    rw [show (0 : Int32).toNatClampNeg = 0 from rfl]
    refine jj_aload_n (q := 84) dX7_moveLoop_83 rfl rfl rfl ?_
    refine jj_getR (q := 87) dX7_moveLoop_84 fl_X7_87 hs.t0 hs.r0_10 rfl rfl rfl ?_
    refine jj_aload_n (q := 88) dX7_moveLoop_87 rfl rfl rfl ?_
    refine jj_getIv (q := 91) dX7_moveLoop_88 fl_X7_90 hp.t0 (hro 0 (by decide)) rfl rfl ?_
    refine jj_cN2i (q := 94) dX7_moveLoop_91 yk_X8_at ml_X7_21 (ex_atv hs.t14 (blk_k (by decide)) rfl) rfl rfl rfl ⟨Nat.zero_le _, Nat.zero_le _⟩ ?_
    refine jj_istore (q := 96) dX7_moveLoop_94 (by decide) rfl ?_
    refine jj_iload (q := 98) dX7_moveLoop_96 rfl rfl ?_
    refine jj_iconst (v := -1) (q := 99) dX7_moveLoop_98 rfl rfl ?_
    refine jj_icmp_eq (q := 102) (tgt := 128) dX7_moveLoop_99 rfl rfl (fun h99 => ?_) (fun h99 => ?_)
    · refine jj_vret dX7_moveLoop_128 rfl (Nat.zero_le _) (Nat.zero_le _) ?_
      exact ⟨rfl, by unfold mvD mvF; (first | rw [if_pos h99] | rw [if_neg h99] | skip); try rfl⟩
    · refine jj_aload_n (q := 103) dX7_moveLoop_102 rfl rfl rfl ?_
      refine jj_getR (q := 106) dX7_moveLoop_103 fl_X7_9 hs.t0 hs.r0_4 rfl rfl rfl ?_
      refine jj_getR (q := 109) dX7_moveLoop_106 fl_X7_93 hs.t1 hs.r1_4 rfl rfl rfl ?_
      refine jj_iload (q := 111) dX7_moveLoop_109 rfl rfl ?_
      refine jj_aload_n (q := 112) dX7_moveLoop_111 rfl rfl rfl ?_
      refine jj_getR (q := 115) dX7_moveLoop_112 fl_X7_9 hs.t0 hs.r0_4 rfl rfl rfl ?_
      refine jj_getR (q := 118) dX7_moveLoop_115 fl_X7_93 hs.t1 hs.r1_4 rfl rfl rfl ?_
      refine jj_iload (q := 120) dX7_moveLoop_118 rfl rfl ?_
      refine jj_cN2i (q := 123) dX7_moveLoop_120 yk_X8_at ml_X7_21 (ex_atv hs.t5 (blk_k (by decide)) rfl) rfl rfl rfl ⟨Nat.zero_le _, Nat.zero_le _⟩ ?_
      refine jj_iconst (v := 1) (q := 124) dX7_moveLoop_123 rfl rfl ?_
      refine jj_iadd (q := 125) dX7_moveLoop_124 rfl ?_
      refine jj_cN3v (q := 128) dX7_moveLoop_125 yk_X8_put ml_X7_96 (ex_putv hs.t5 (putI_blk (by decide)) rfl) rfl rfl rfl ⟨Nat.zero_le _, Nat.zero_le _⟩ ?_
      refine jj_vret dX7_moveLoop_128 rfl (Nat.zero_le _) (Nat.zero_le _) ?_
      exact ⟨rfl, by unfold mvD mvF; (first | rw [if_pos h99] | rw [if_neg h99] | skip); try rfl⟩
  | succ k ih =>
    intro K hi
    refine jj_iload (q := 51) dX7_moveLoop_49 rfl rfl ?_
    refine jj_if_le (q := 54) (tgt := 76) dX7_moveLoop_51 rfl rfl (fun h51 => absurd h51 ((nI_ge (show 0 < k + 1 by omega) (by omega)))) (fun h51 => ?_)
    refine jj_aload_n (q := 55) dX7_moveLoop_54 rfl rfl rfl ?_
    refine jj_getR (q := 58) dX7_moveLoop_55 fl_X7_87 hs.t0 hs.r0_10 rfl rfl rfl ?_
    refine jj_iload (q := 60) dX7_moveLoop_58 rfl rfl ?_
    refine jj_aload_n (q := 61) dX7_moveLoop_60 rfl rfl rfl ?_
    refine jj_getR (q := 64) dX7_moveLoop_61 fl_X7_87 hs.t0 hs.r0_10 rfl rfl rfl ?_
    refine jj_iload (q := 66) dX7_moveLoop_64 rfl rfl ?_
    refine jj_iconst (v := 1) (q := 67) dX7_moveLoop_66 rfl rfl ?_
    refine jj_isub (q := 68) dX7_moveLoop_67 rfl ?_
    rw [nI_pred k]
    refine jj_ialdv (q := 69) dX7_moveLoop_68 hs.t14 (blk_k (by decide)) (vp_in_nI (show k < 40 by omega) (by omega)) rfl ?_
    rw [nI_clamp (show k < 2 ^ 31 by omega)]
    refine jj_iastv (q := 70) dX7_moveLoop_69 hs.t14 (u2_blk (by decide)) (vp_in_nI (show k + 1 < 40 by omega) (by omega)) rfl ?_
    rw [nI_clamp (show k + 1 < 2 ^ 31 by omega)]
    refine jj_iinc (v := nI k) (q := 73) dX7_moveLoop_70 rfl (mv_dec k) (by decide) rfl ?_
    refine jj_goto (tgt := 49) dX7_moveLoop_73 rfl ?_
    exact ih (u2 K 14 (k + 1) (K 14 k)) (by omega)
theorem ex_moveLoop (hs : hSt T R a) (hp : hPl T R p) (hdj : p + 16 ≤ a ∨ a + 19 ≤ p) (hI : ∀ k : Nat, k < 15 → I (p + k) = P k) (hW : wP P) : Ex Γ (d + 1) Y_X7_moveLoop [.ref p, .ref a] (T, R, S, blk 19 (vv I p V) a K, L, D, z) 0 0 (rV (T, R, S, blk 19 (vv I p V) a (mvL P K), L, D, z)) := by
  have hro : ∀ k : Nat, k < 15 → ∀ {V : Nat → Int32} {K : JI}, blk 19 (vv I p V) a K (p + k) = P k := fun k hk => tro hdj hI k hk
  have hpl := hW.2.2.2.2.1.1
  have hpl4 := hW.2.2.2.2.1.2.1
  have hpl40 := hW.2.2.2.2.1.2.2
  refine Ex.of (by decide) (by simp [Value.category]) (Nat.le_of_ble_eq_true rfl) rfl ?_
  refine jj_aload_n (q := 1) dX7_moveLoop_0 rfl rfl rfl ?_
  refine jj_getIv (q := 4) dX7_moveLoop_1 fl_X7_82 hp.t0 (hro 0 (by decide)) rfl rfl ?_
  rw [hpl]
  refine jj_istore_n (q := 5) dX7_moveLoop_4 rfl (by decide) rfl ?_
  refine jj_aload_n (q := 6) dX7_moveLoop_5 rfl rfl rfl ?_
  refine jj_getR (q := 9) dX7_moveLoop_6 fl_X7_9 hs.t0 hs.r0_4 rfl rfl rfl ?_
  refine jj_getR (q := 12) dX7_moveLoop_9 fl_X7_15 hs.t1 hs.r1_7 rfl rfl rfl ?_
  refine jj_bipush (v := 8) (q := 14) dX7_moveLoop_12 rfl rfl ?_
  refine jj_cN2i (q := 17) dX7_moveLoop_14 yk_X8_at ml_X7_21 (ex_atv hs.t8 (blk_k (by decide)) rfl) rfl rfl rfl ⟨Nat.zero_le _, Nat.zero_le _⟩ ?_
  rw [show (8 : Int32) = nI 8 from rfl, atV_nI (show 8 < 14 by omega) (by omega)]
  refine jj_if_eq (q := 20) (tgt := 34) dX7_moveLoop_17 rfl rfl (fun h17 => ?_) (fun h17 => ?_)
  · refine jj_vret dX7_moveLoop_34 rfl (Nat.zero_le _) (Nat.zero_le _) ?_
    exact ⟨rfl, by rw [mvL_D, if_pos h17]⟩
  · refine jj_iload_n (q := 21) dX7_moveLoop_20 rfl rfl rfl ?_
    refine jj_iconst (v := 1) (q := 22) dX7_moveLoop_21 rfl rfl ?_
    refine jj_icmp_lt (q := 25) (tgt := 34) dX7_moveLoop_22 rfl rfl (fun h22 => by exfalso; exact absurd h22 (Int32.not_lt.mpr (nI_le (show 1 ≤ plen P by omega) (by omega)))) (fun h22 => ?_)
    refine jj_iload_n (q := 26) dX7_moveLoop_25 rfl rfl rfl ?_
    refine jj_aload_n (q := 27) dX7_moveLoop_26 rfl rfl rfl ?_
    refine jj_getR (q := 30) dX7_moveLoop_27 fl_X7_87 hs.t0 hs.r0_10 rfl rfl rfl ?_
    refine jj_alen (q := 31) dX7_moveLoop_30 hs.t14 (by decide) rfl rfl ?_
    refine jj_icmp_le (q := 34) (tgt := 35) dX7_moveLoop_31 rfl rfl (fun h31 => ?_) (fun h31 => absurd ((nI_le (show plen P ≤ 40 by omega) (by omega) : nI (plen P) ≤ Int32.ofNat 40)) h31)
    refine jj_aload_n (q := 36) dX7_moveLoop_35 rfl rfl rfl ?_
    refine jj_getR (q := 39) dX7_moveLoop_36 fl_X7_87 hs.t0 hs.r0_10 rfl rfl rfl ?_
    refine jj_iload_n (q := 40) dX7_moveLoop_39 rfl rfl rfl ?_
    refine jj_iconst (v := 1) (q := 41) dX7_moveLoop_40 rfl rfl ?_
    refine jj_isub (q := 42) dX7_moveLoop_41 rfl ?_
    rw [show nI (plen P) - 1 = nI (plen P - 1) by rw [show (1 : Int32) = nI 1 from rfl, pk_sub (by omega)]]
    refine jj_ialdv (q := 43) dX7_moveLoop_42 hs.t14 (blk_k (by decide)) (vp_in_nI (show plen P - 1 < 40 by omega) (by omega)) rfl ?_
    rw [nI_clamp (by omega)]
    refine jj_istore_n (q := 44) dX7_moveLoop_43 rfl (by decide) rfl ?_
    refine jj_iload_n (q := 45) dX7_moveLoop_44 rfl rfl rfl ?_
    refine jj_iconst (v := 1) (q := 46) dX7_moveLoop_45 rfl rfl ?_
    refine jj_isub (q := 47) dX7_moveLoop_46 rfl ?_
    rw [show nI (plen P) - 1 = nI (plen P - 1) by rw [show (1 : Int32) = nI 1 from rfl, pk_sub (by omega)]]
    refine jj_istore (q := 49) dX7_moveLoop_47 (by decide) rfl ?_
    rw [mvL_D, if_neg h17]
    exact lp_moveLoop hs hp hdj hI hW (plen P - 1) K (by omega)
theorem lp_admitArrivals (hs : hSt T R a) (hc1 : c ≤ 100) : ∀ (k i : Nat) (K : JI), (i + k = c ∧ K 1 0 = nI c) → JJ Γ (jj_E Y_X7_admitArrivals) (jj_Z Γ (rV (T, R, S, blk 19 I a (adL k i K), L, D, z)) 0 0) (jj_rm (d + 3) 0 0) 0 0 17 [some (.ref a), some (.int (nI i))] [] (T, R, S, blk 19 I a K, L, D, z) := by
  intro k
  induction k with
  | zero =>
    intro i K hi
    refine jj_iload_n (q := 18) dX7_admitArrivals_17 rfl rfl rfl ?_
    refine jj_aload_n (q := 19) dX7_admitArrivals_18 rfl rfl rfl ?_
    refine jj_getR (q := 22) dX7_admitArrivals_19 fl_X7_9 hs.t0 hs.r0_4 rfl rfl rfl ?_
    refine jj_getIv (q := 25) dX7_admitArrivals_22 fl_X7_65 hs.t1 (blk_k (by decide)) rfl rfl ?_
    refine jj_icmp_ge (q := 28) (tgt := 75) dX7_admitArrivals_25 rfl rfl (fun h25 => ?_) (fun h25 => absurd ((by rw [hi.2]; exact nI_le (by omega) (by omega))) h25)
    refine jj_vret dX7_admitArrivals_75 rfl (Nat.zero_le _) (Nat.zero_le _) ?_
    exact ⟨rfl, rfl⟩
  | succ k ih =>
    intro i K hi
    refine jj_iload_n (q := 18) dX7_admitArrivals_17 rfl rfl rfl ?_
    refine jj_aload_n (q := 19) dX7_admitArrivals_18 rfl rfl rfl ?_
    refine jj_getR (q := 22) dX7_admitArrivals_19 fl_X7_9 hs.t0 hs.r0_4 rfl rfl rfl ?_
    refine jj_getIv (q := 25) dX7_admitArrivals_22 fl_X7_65 hs.t1 (blk_k (by decide)) rfl rfl ?_
    refine jj_icmp_ge (q := 28) (tgt := 75) dX7_admitArrivals_25 rfl rfl (fun h25 => absurd h25 ((by rw [hi.2]; exact nI_ge (by omega) (by omega)))) (fun h25 => ?_)
    refine jj_aload_n (q := 29) dX7_admitArrivals_28 rfl rfl rfl ?_
    refine jj_getR (q := 32) dX7_admitArrivals_29 fl_X7_9 hs.t0 hs.r0_4 rfl rfl rfl ?_
    refine jj_getR (q := 35) dX7_admitArrivals_32 fl_X7_68 hs.t1 hs.r1_1 rfl rfl rfl ?_
    refine jj_iload_n (q := 36) dX7_admitArrivals_35 rfl rfl rfl ?_
    refine jj_cN2i (q := 39) dX7_admitArrivals_36 yk_X8_at ml_X7_21 (ex_atv hs.t2 (blk_k (by decide)) rfl) rfl rfl rfl ⟨Nat.zero_le _, Nat.zero_le _⟩ ?_
    rw [atV_nI (show i < 100 by omega) (by omega)]
    refine jj_if_ne (q := 42) (tgt := 69) dX7_admitArrivals_39 rfl rfl (fun h39 => ?_) (fun h39 => ?_)
    · refine jj_iinc (v := nI (i + 1)) (q := 72) dX7_admitArrivals_69 rfl (nI_inc i) (by decide) rfl ?_
      refine jj_goto (tgt := 17) dX7_admitArrivals_72 rfl ?_
      have hl' : adS i K 1 0 = nI c := by rw [adS_1]; exact hi.2
      rw [adL]
      unfold adS at hl' ⊢
      (first | rw [if_pos h39] at hl' ⊢ | rw [if_neg h39] at hl' ⊢ | skip); (first | rw [if_pos h57] at hl' ⊢ | rw [if_neg h57] at hl' ⊢ | skip)
      exact ih (i + 1) _ ⟨by omega, hl'⟩
    · refine jj_aload_n (q := 43) dX7_admitArrivals_42 rfl rfl rfl ?_
      refine jj_getR (q := 46) dX7_admitArrivals_43 fl_X7_9 hs.t0 hs.r0_4 rfl rfl rfl ?_
      refine jj_getR (q := 49) dX7_admitArrivals_46 fl_X7_71 hs.t1 hs.r1_3 rfl rfl rfl ?_
      refine jj_iload_n (q := 50) dX7_admitArrivals_49 rfl rfl rfl ?_
      refine jj_cN2i (q := 53) dX7_admitArrivals_50 yk_X8_at ml_X7_21 (ex_atv hs.t4 (blk_k (by decide)) rfl) rfl rfl rfl ⟨Nat.zero_le _, Nat.zero_le _⟩ ?_
      rw [atV_nI (show i < 100 by omega) (by omega)]
      refine jj_aload_n (q := 54) dX7_admitArrivals_53 rfl rfl rfl ?_
      refine jj_getIv (q := 57) dX7_admitArrivals_54 fl_X7_31 hs.t0 (blk_0 (by decide)) rfl rfl ?_
      refine jj_icmp_ne (q := 60) (tgt := 69) dX7_admitArrivals_57 rfl rfl (fun h57 => ?_) (fun h57 => ?_)
      · refine jj_iinc (v := nI (i + 1)) (q := 72) dX7_admitArrivals_69 rfl (nI_inc i) (by decide) rfl ?_
        refine jj_goto (tgt := 17) dX7_admitArrivals_72 rfl ?_
        have hl' : adS i K 1 0 = nI c := by rw [adS_1]; exact hi.2
        rw [adL]
        unfold adS at hl' ⊢
        (first | rw [if_pos h39] at hl' ⊢ | rw [if_neg h39] at hl' ⊢ | skip); (first | rw [if_pos h57] at hl' ⊢ | rw [if_neg h57] at hl' ⊢ | skip)
        exact ih (i + 1) _ ⟨by omega, hl'⟩
      · refine jj_aload_n (q := 61) dX7_admitArrivals_60 rfl rfl rfl ?_
        refine jj_iload_n (q := 62) dX7_admitArrivals_61 rfl rfl rfl ?_
        refine jj_iconst (v := 1) (q := 63) dX7_admitArrivals_62 rfl rfl ?_
        refine jj_cN1i (q := 66) dX7_admitArrivals_63 yk_X8_waitState ml_X7_74 ex_waitState rfl rfl rfl ⟨Nat.zero_le _, Nat.zero_le _⟩ ?_
        rw [show (2 * 1 - 1 : Int32) = 1 from rfl]
        refine jj_cV2v (q := 69) dX7_admitArrivals_66 yk_X4_enter ml_X7_78 hs.t0 (ex_enter hs) rfl rfl rfl ⟨Nat.zero_le _, Nat.zero_le _⟩ ?_
        refine jj_iinc (v := nI (i + 1)) (q := 72) dX7_admitArrivals_69 rfl (nI_inc i) (by decide) rfl ?_
        refine jj_goto (tgt := 17) dX7_admitArrivals_72 rfl ?_
        have hl' : adS i K 1 0 = nI c := by rw [adS_1]; exact hi.2
        rw [adL]
        unfold adS at hl' ⊢
        (first | rw [if_pos h39] at hl' ⊢ | rw [if_neg h39] at hl' ⊢ | skip); (first | rw [if_pos h57] at hl' ⊢ | rw [if_neg h57] at hl' ⊢ | skip)
        exact ih (i + 1) _ ⟨by omega, hl'⟩
theorem ex_admitArrivals (hs : hSt T R a) (hc : K 1 0 = nI c) (hc1 : c ≤ 100) : Ex Γ (d + 3) Y_X7_admitArrivals [.ref a] (T, R, S, blk 19 I a K, L, D, z) 0 0 (rV (T, R, S, blk 19 I a (adA c K), L, D, z)) := by
  refine Ex.of (by decide) (by simp [Value.category]) (Nat.le_of_ble_eq_true rfl) rfl ?_
  refine jj_aload_n (q := 1) dX7_admitArrivals_0 rfl rfl rfl ?_
  refine jj_getR (q := 4) dX7_admitArrivals_1 fl_X7_9 hs.t0 hs.r0_4 rfl rfl rfl ?_
  refine jj_getR (q := 7) dX7_admitArrivals_4 fl_X7_15 hs.t1 hs.r1_7 rfl rfl rfl ?_
  refine jj_iconst (v := 0) (q := 8) dX7_admitArrivals_7 rfl rfl ?_
  refine jj_cN2i (q := 11) dX7_admitArrivals_8 yk_X8_at ml_X7_21 (ex_atv hs.t8 (blk_k (by decide)) rfl) rfl rfl rfl ⟨Nat.zero_le _, Nat.zero_le _⟩ ?_
  rw [show (0 : Int32) = nI 0 from rfl, atV_nI (show 0 < 14 by omega) (by omega)]
  refine jj_if_ne (q := 14) (tgt := 15) dX7_admitArrivals_11 rfl rfl (fun h11 => ?_) (fun h11 => ?_)
  · refine jj_iconst (v := 0) (q := 16) dX7_admitArrivals_15 rfl rfl ?_
    refine jj_istore_n (q := 17) dX7_admitArrivals_16 rfl (by decide) rfl ?_
    rw [adA, if_neg h11]
    exact lp_admitArrivals hs hc1 c 0 K ⟨by omega, hc⟩
  · refine jj_vret dX7_admitArrivals_14 rfl (Nat.zero_le _) (Nat.zero_le _) ?_
    exact ⟨rfl, by rw [adA, if_pos h11]⟩
theorem mv1_ne {P K : JI} {k : Nat} (h : k ≠ 14) : mv1 P K k = K k := by
  unfold mv1
  rw [u2_ne h, uC_ne h]
theorem mvL_ne {P K : JI} {k : Nat} (h : k ≠ 14) (h5 : k ≠ 5) : mvL P K k = K k := by
  unfold mvL
  split
  · rfl
  · split
    · exact mv1_ne h
    · rw [putI_ne h5, mv1_ne h]
theorem kAL_ne {K : JI} {l b : Int32} {k : Nat} (h : k ≠ 12) (h3 : k ≠ 13) : kAL K l b k = K k := by
  unfold kAL
  rw [putI_ne h, putI_ne h3]
theorem tkS_1 (P : JI) (i : Nat) (K : JI) : tkS P i K 1 = K 1 := by
  unfold tkS
  split
  · rfl
  · split
    · rfl
    · split
      · rw [kAL_ne (by decide) (by decide), kEn_1, u2_ne (by decide)]
      · rw [kEn_1, u2_ne (by decide)]
theorem tkL_1 (P : JI) : ∀ (k i : Nat) (K : JI), tkL P k i K 1 = K 1
  | 0, _, _ => rfl
  | k + 1, i, K => by
    rw [tkL]
    split
    · rfl
    · rw [tkL_1 P k, tkS_1]
theorem kRF_ne {K : JI} {l n k : Nat} (h : k ≠ 12) (h3 : k ≠ 13) : kRF K l n k = K k := by
  unfold kRF
  rw [u2_ne h, rfL_ne h3]
theorem emS_1 (P : JI) (l : Nat) (K : JI) : emS P l K 1 = K 1 := by
  unfold emS
  split
  · rfl
  · split
    · split
      · rfl
      · rw [kEn_1, putI_ne (by decide), kRF_ne (by decide) (by decide)]
    · rfl
theorem emL_1 (P : JI) : ∀ (k i : Nat) (K : JI), emL P k i K 1 = K 1
  | 0, _, _ => rfl
  | k + 1, i, K => by rw [emL, emL_1 P k, emS_1]
theorem wmS_1 (P : JI) (lv : Int32) (m : Nat) (x : JI × Int64) : (wmS P lv m x).1 1 = x.1 1 := by
  unfold wmS
  split
  · rfl
  · split
    · rfl
    · split
      · dsimp only; rw [kEn_1, putI_ne (by decide), putI_ne (by decide)]
      · dsimp only; rw [putI_ne (by decide)]
theorem wmL_1 (P : JI) (lv : Int32) : ∀ (k i : Nat) (x : JI × Int64), (wmL P lv k i x).1 1 = x.1 1
  | 0, _, _ => rfl
  | k + 1, i, x => by rw [wmL, wmL_1 P lv k, wmS_1]
theorem tk1_1 (P : JI) (c : Nat) (K : JI) : tk1 P c K 1 = K 1 := by
  unfold tk1
  split
  · exact adA_1 c K
  · rw [mvL_ne (by decide) (by decide), adA_1]
theorem tk2_1 (P : JI) (c : Nat) (K : JI) : tk2 P c K 1 = K 1 := by
  unfold tk2
  rw [emL_1, tkL_1, tk1_1]
theorem tk3_1 (P : JI) (x : JI × Int64) : (tk3 P x).1 1 = x.1 1 := by
  unfold tk3
  rw [wmL_1, wmL_1, wmL_1]
theorem tk4_1 (P : JI) (c : Nat) (K : JI) : tk4 P c K 1 = K 1 := by
  unfold tk4
  rw [fmA_1, fmA_1, fmA_1]
theorem fEn_1 (P : JI) (c : Nat) (K : JI) : fEn P c K 1 = K 1 := by
  unfold fEn
  split
  · split
    · rfl
    · rw [kEn_1, putI_ne (by decide), putI_ne (by decide)]
  · rfl
theorem kTick_1 (P : JI) (c : Nat) (x : JI × Int64) : (kTick P c x).1 1 = x.1 1 := by
  unfold kTick
  split
  · dsimp only
    rw [fEn_1, tk4_1, tk3_1]
    dsimp only
    rw [tk2_1]
    exact u2_ne (a := 0) (b := 1) (by decide)
  · show u2 x.1 0 0 (x.1 0 0 + 1) 1 = x.1 1
    exact u2_ne (by decide)
/-! the lanes' sizes stay numbers up to 20 -/
theorem lW_of {K K' : JI} (h : lW K) (e : K' 12 = K 12) : lW K' := fun l hl => by
  rw [e]
  exact h l hl
theorem adL_12 : ∀ (k i : Nat) (K : JI), adL k i K 12 = K 12
  | 0, _, _ => rfl
  | k + 1, i, K => by
    rw [adL, adL_12 k]
    unfold adS
    split
    · split
      · exact kEn_12 _ _ _
      · rfl
    · rfl
theorem tk1_12 (P : JI) (c : Nat) (K : JI) : tk1 P c K 12 = K 12 := by
  have e : adA c K 12 = K 12 := by
    unfold adA
    split
    · rfl
    · exact adL_12 c 0 K
  unfold tk1
  split
  · exact e
  · rw [mvL_ne (by decide) (by decide), e]
theorem kOn_in {P : JI} (hW : wP P) {x : Int32} (h : ¬ kOn P x = -1) : ∃ l, l < pnl P ∧ kOn P x = nI l ∧ P 5 l = x := by
  unfold kOn srch at h ⊢
  by_cases hf : fa_first (pOn P x) (pnl P) < pnl P
  · rw [if_pos hf]
    refine ⟨_, hf, rfl, ?_⟩
    have := fa_first_yes _ _ hf
    simpa [pOn] using this
  · rw [if_neg hf] at h
    exact absurd rfl h
theorem kSA9 {P K : JI} {x b : Int32} (h : kSA P K x b = 9) : ¬ kOn P x = -1 ∧ ¬ kLT P K (kOn P x) b = 0 := by
  unfold kSA at h
  split at h
  · split at h <;> exact absurd h (by decide)
  · split at h
    · split at h <;> exact absurd h (by decide)
    · split at h
      · exact absurd h (by decide)
      · rename_i h1
        split at h
        · exact absurd h (by decide)
        · rename_i h2
          exact ⟨h1, h2⟩
theorem kLT_cap {P K : JI} {l b : Int32} (h : ¬ kLT P K l b = 0) : atV 4 (K 12) l < atV 4 (P 6) l := by
  unfold kLT at h
  split at h
  · exact absurd rfl h
  · split at h
    · assumption
    · exact absurd rfl h
theorem lW_tkS {P K : JI} (hW : wP P) (i : Nat) (h : lW K) : lW (tkS P i K) := by
  unfold tkS
  split
  · exact h
  · split
    · exact h
    · split
      · rename_i h9
        obtain ⟨h1, h2⟩ := kSA9 h9
        obtain ⟨l, hl, e, -⟩ := kOn_in hW h1
        have hl4 : l < 4 := Nat.lt_of_lt_of_le hl hW.1.2
        have hcap := kLT_cap h2
        rw [e] at hcap ⊢
        obtain ⟨cp, hcp, ecp⟩ := hW.2.2.2.2.2.2 l hl4
        obtain ⟨n, hn, en⟩ := h l hl4
        rw [atV_nI hl4 (by omega), atV_nI hl4 (by omega), ecp, en] at hcap
        have hlt : n < cp := (nI_ltI (by omega) (by omega)).mp hcap
        have e12 : (kEn (u2 K 14 i (-1)) (K 14 i) (kSA P K (nI i) (K 14 i))) 12 = K 12 := by rw [kEn_12, u2_ne (by decide)]
        intro j hj
        unfold kAL
        rw [putI_nI hl4 (by omega), u2_ap, if_pos rfl, putI_ne (by decide), e12, atV_nI hl4 (by omega), en]
        by_cases hjl : j = l
        · rw [if_pos hjl]
          exact ⟨n + 1, by omega, (nI_succ n).symm⟩
        · rw [if_neg hjl]
          exact h j hj
      · exact lW_of h (by rw [kEn_12, u2_ne (by decide)])
theorem lW_tkL {P : JI} (hW : wP P) : ∀ (k i : Nat) (K : JI), lW K → lW (tkL P k i K)
  | 0, _, _, h => h
  | k + 1, i, K, h => by
    rw [tkL]
    split
    · exact h
    · exact lW_tkL hW k (i + 1) _ (lW_tkS hW i h)
theorem lW_emL {P : JI} : ∀ (k i : Nat) (K : JI), i + k ≤ 4 → lW K → lW (emL P k i K)
  | 0, _, _, _, h => h
  | k + 1, i, K, hk, h => by
    rw [emL]
    exact lW_emL k (i + 1) _ (by omega) (lW_emS (by omega) h)
theorem lW_tk2 {P : JI} (hW : wP P) (c : Nat) {K : JI} (h : lW K) : lW (tk2 P c K) := by
  unfold tk2
  exact lW_emL _ _ _ (by have := hW.1.2; omega) (lW_tkL hW _ _ _ (lW_of h (tk1_12 P c K)))
theorem wmL_12 (P : JI) (lv : Int32) : ∀ (k i : Nat) (x : JI × Int64), (wmL P lv k i x).1 12 = x.1 12
  | 0, _, _ => rfl
  | k + 1, i, x => by
    rw [wmL, wmL_12 P lv k]
    unfold wmS
    split
    · rfl
    · split
      · rfl
      · split
        · dsimp only; rw [kEn_12, putI_ne (by decide), putI_ne (by decide)]
        · dsimp only; rw [putI_ne (by decide)]
theorem fmA_12 (P : JI) (c : Nat) (lv : Int32) (n : Nat) (K : JI) : fmA P c lv n K 12 = K 12 := by
  have e : ∀ (k i : Nat) (K : JI), fmL P c lv k i K 12 = K 12 := by
    intro k
    induction k with
    | zero => intro i K; rfl
    | succ k ih =>
      intro i K
      rw [fmL, ih]
      unfold fmS
      split
      · split
        · rfl
        · split
          · rfl
          · rw [kEn_12, putI_ne (by decide), putI_ne (by decide), putI_ne (by decide)]
      · rfl
  unfold fmA
  split
  · rfl
  · exact e n 0 K
theorem fEn_12 (P : JI) (c : Nat) (K : JI) : fEn P c K 12 = K 12 := by
  unfold fEn
  split
  · split
    · rfl
    · rw [kEn_12, putI_ne (by decide), putI_ne (by decide)]
  · rfl
theorem lW_kTick {P : JI} (hW : wP P) (c : Nat) {x : JI × Int64} (h : lW x.1) : lW (kTick P c x).1 := by
  have h0 : lW (tk0 x.1) := lW_of h (u2_ne (by decide))
  unfold kTick
  split
  · have h2 := lW_tk2 hW c h0
    refine lW_of h2 ?_
    show fEn P c (tk4 P c (tk3 P (tk2 P c (tk0 x.1), x.2)).1) 12 = _
    rw [fEn_12]
    unfold tk4 tk3
    rw [fmA_12, fmA_12, fmA_12, wmL_12, wmL_12, wmL_12]
  · exact h0
theorem tick_41 (hs : hSt T R a) (hp : hPl T R p) (hdj : p + 16 ≤ a ∨ a + 19 ≤ p) (hI : ∀ k : Nat, k < 15 → I (p + k) = P k) (hW : wP P) (hc : K 1 0 = nI c) (hc1 : c ≤ 100) (hlw : lW K) {x2 : Option Value} : JJ Γ (jj_E Y_X7_tick) (jj_Z Γ (rVV (fun V => (T, R, S, blk 19 (vv I p V) a (fEn P c (tk4 P c (tk3 P (emL P (pnl P) 0 (tkL P (plen P) 0 K), r)).1)), u2 L a 1 (tk3 P (emL P (pnl P) 0 (tkL P (plen P) 0 K), r)).2, D, z))) 0 0) (jj_rm (d + 5) 0 0) 0 0 41 [some (.ref p), some (.ref a), x2] [] (T, R, S, blk 19 (vv I p V) a K, u2 L a 1 r, D, z) := by
  have hcw : (tk3 P (emL P (pnl P) 0 (tkL P (plen P) 0 K), r)).1 1 0 = nI c := by
    rw [tk3_1]
    dsimp only
    rw [emL_1, tkL_1]
    exact hc
  refine jj_aload_n (q := 42) dX7_tick_41 rfl rfl rfl ?_
  refine jj_aload_n (q := 43) dX7_tick_42 rfl rfl rfl ?_
  refine jj_eS2v (q := 46) dX7_tick_43 yk_X7_takeOffLoop ml_X7_49 (ex_takeOffLoop hs hp hdj hI hW) rfl rfl rfl ⟨Nat.zero_le _, Nat.zero_le _⟩ (fun V => ?_)
  refine jj_aload_n (q := 47) dX7_tick_46 rfl rfl rfl ?_
  refine jj_aload_n (q := 48) dX7_tick_47 rfl rfl rfl ?_
  refine jj_cS2v (q := 51) dX7_tick_48 yk_X7_emptyLanes ml_X7_52 (ex_emptyLanes hs hp hdj hI hW (lW_tkL hW _ _ _ hlw)) rfl rfl rfl ⟨Nat.zero_le _, Nat.zero_le _⟩ ?_
  refine jj_iconst (v := 3) (q := 52) dX7_tick_51 rfl rfl ?_
  refine jj_istore_n (q := 53) dX7_tick_52 rfl (by decide) rfl ?_
  refine jj_iload_n (q := 54) dX7_tick_53 rfl rfl rfl ?_
  refine jj_iconst (v := 1) (q := 55) dX7_tick_54 rfl rfl ?_
  refine jj_icmp_lt (q := 58) (tgt := 70) dX7_tick_55 rfl rfl (fun h55 => by exfalso; exact absurd h55 (by decide)) (fun h55 => ?_)
  refine jj_aload_n (q := 59) dX7_tick_58 rfl rfl rfl ?_
  refine jj_aload_n (q := 60) dX7_tick_59 rfl rfl rfl ?_
  refine jj_iload_n (q := 61) dX7_tick_60 rfl rfl rfl ?_
  refine jj_cS3v (q := 64) dX7_tick_61 yk_X7_workMachines ml_X7_55 (ex_workMachines hs hp hdj hI hW (q := 2) (by decide) rfl) rfl rfl rfl ⟨Nat.zero_le _, Nat.zero_le _⟩ ?_
  refine jj_iinc (v := 2) (q := 67) dX7_tick_64 rfl (by decide) (by decide) rfl ?_
  refine jj_goto (tgt := 53) dX7_tick_67 rfl ?_
  refine jj_iload_n (q := 54) dX7_tick_53 rfl rfl rfl ?_
  refine jj_iconst (v := 1) (q := 55) dX7_tick_54 rfl rfl ?_
  refine jj_icmp_lt (q := 58) (tgt := 70) dX7_tick_55 rfl rfl (fun h55 => by exfalso; exact absurd h55 (by decide)) (fun h55 => ?_)
  refine jj_aload_n (q := 59) dX7_tick_58 rfl rfl rfl ?_
  refine jj_aload_n (q := 60) dX7_tick_59 rfl rfl rfl ?_
  refine jj_iload_n (q := 61) dX7_tick_60 rfl rfl rfl ?_
  refine jj_cS3v (q := 64) dX7_tick_61 yk_X7_workMachines ml_X7_55 (ex_workMachines hs hp hdj hI hW (q := 1) (by decide) rfl) rfl rfl rfl ⟨Nat.zero_le _, Nat.zero_le _⟩ ?_
  refine jj_iinc (v := 1) (q := 67) dX7_tick_64 rfl (by decide) (by decide) rfl ?_
  refine jj_goto (tgt := 53) dX7_tick_67 rfl ?_
  refine jj_iload_n (q := 54) dX7_tick_53 rfl rfl rfl ?_
  refine jj_iconst (v := 1) (q := 55) dX7_tick_54 rfl rfl ?_
  refine jj_icmp_lt (q := 58) (tgt := 70) dX7_tick_55 rfl rfl (fun h55 => by exfalso; exact absurd h55 (by decide)) (fun h55 => ?_)
  refine jj_aload_n (q := 59) dX7_tick_58 rfl rfl rfl ?_
  refine jj_aload_n (q := 60) dX7_tick_59 rfl rfl rfl ?_
  refine jj_iload_n (q := 61) dX7_tick_60 rfl rfl rfl ?_
  refine jj_cS3v (q := 64) dX7_tick_61 yk_X7_workMachines ml_X7_55 (ex_workMachines hs hp hdj hI hW (q := 0) (by decide) rfl) rfl rfl rfl ⟨Nat.zero_le _, Nat.zero_le _⟩ ?_
  refine jj_iinc (v := 0) (q := 67) dX7_tick_64 rfl (by decide) (by decide) rfl ?_
  refine jj_goto (tgt := 53) dX7_tick_67 rfl ?_
  refine jj_iload_n (q := 54) dX7_tick_53 rfl rfl rfl ?_
  refine jj_iconst (v := 1) (q := 55) dX7_tick_54 rfl rfl ?_
  refine jj_icmp_lt (q := 58) (tgt := 70) dX7_tick_55 rfl rfl (fun h55 => ?_) (fun h55 => absurd ((by decide)) h55)
  refine jj_iconst (v := 3) (q := 71) dX7_tick_70 rfl rfl ?_
  refine jj_istore_n (q := 72) dX7_tick_71 rfl (by decide) rfl ?_
  refine jj_iload_n (q := 73) dX7_tick_72 rfl rfl rfl ?_
  refine jj_iconst (v := 1) (q := 74) dX7_tick_73 rfl rfl ?_
  refine jj_icmp_lt (q := 77) (tgt := 89) dX7_tick_74 rfl rfl (fun h74 => by exfalso; exact absurd h74 (by decide)) (fun h74 => ?_)
  refine jj_aload_n (q := 78) dX7_tick_77 rfl rfl rfl ?_
  refine jj_aload_n (q := 79) dX7_tick_78 rfl rfl rfl ?_
  refine jj_iload_n (q := 80) dX7_tick_79 rfl rfl rfl ?_
  refine jj_cS3v (q := 83) dX7_tick_80 yk_X7_fillMachines ml_X7_59 (ex_fillMachines hs hp hdj hI hW (q := 2) (by decide) rfl (by first | exact hcw | (rw [fmA_1]; exact hcw) | (rw [fmA_1, fmA_1]; exact hcw)) hc1) rfl rfl rfl ⟨Nat.zero_le _, Nat.zero_le _⟩ ?_
  refine jj_iinc (v := 2) (q := 86) dX7_tick_83 rfl (by decide) (by decide) rfl ?_
  refine jj_goto (tgt := 72) dX7_tick_86 rfl ?_
  refine jj_iload_n (q := 73) dX7_tick_72 rfl rfl rfl ?_
  refine jj_iconst (v := 1) (q := 74) dX7_tick_73 rfl rfl ?_
  refine jj_icmp_lt (q := 77) (tgt := 89) dX7_tick_74 rfl rfl (fun h74 => by exfalso; exact absurd h74 (by decide)) (fun h74 => ?_)
  refine jj_aload_n (q := 78) dX7_tick_77 rfl rfl rfl ?_
  refine jj_aload_n (q := 79) dX7_tick_78 rfl rfl rfl ?_
  refine jj_iload_n (q := 80) dX7_tick_79 rfl rfl rfl ?_
  refine jj_cS3v (q := 83) dX7_tick_80 yk_X7_fillMachines ml_X7_59 (ex_fillMachines hs hp hdj hI hW (q := 1) (by decide) rfl (by first | exact hcw | (rw [fmA_1]; exact hcw) | (rw [fmA_1, fmA_1]; exact hcw)) hc1) rfl rfl rfl ⟨Nat.zero_le _, Nat.zero_le _⟩ ?_
  refine jj_iinc (v := 1) (q := 86) dX7_tick_83 rfl (by decide) (by decide) rfl ?_
  refine jj_goto (tgt := 72) dX7_tick_86 rfl ?_
  refine jj_iload_n (q := 73) dX7_tick_72 rfl rfl rfl ?_
  refine jj_iconst (v := 1) (q := 74) dX7_tick_73 rfl rfl ?_
  refine jj_icmp_lt (q := 77) (tgt := 89) dX7_tick_74 rfl rfl (fun h74 => by exfalso; exact absurd h74 (by decide)) (fun h74 => ?_)
  refine jj_aload_n (q := 78) dX7_tick_77 rfl rfl rfl ?_
  refine jj_aload_n (q := 79) dX7_tick_78 rfl rfl rfl ?_
  refine jj_iload_n (q := 80) dX7_tick_79 rfl rfl rfl ?_
  refine jj_cS3v (q := 83) dX7_tick_80 yk_X7_fillMachines ml_X7_59 (ex_fillMachines hs hp hdj hI hW (q := 0) (by decide) rfl (by first | exact hcw | (rw [fmA_1]; exact hcw) | (rw [fmA_1, fmA_1]; exact hcw)) hc1) rfl rfl rfl ⟨Nat.zero_le _, Nat.zero_le _⟩ ?_
  refine jj_iinc (v := 0) (q := 86) dX7_tick_83 rfl (by decide) (by decide) rfl ?_
  refine jj_goto (tgt := 72) dX7_tick_86 rfl ?_
  refine jj_iload_n (q := 73) dX7_tick_72 rfl rfl rfl ?_
  refine jj_iconst (v := 1) (q := 74) dX7_tick_73 rfl rfl ?_
  refine jj_icmp_lt (q := 77) (tgt := 89) dX7_tick_74 rfl rfl (fun h74 => ?_) (fun h74 => absurd ((by decide)) h74)
  refine jj_aload_n (q := 90) dX7_tick_89 rfl rfl rfl ?_
  refine jj_aload_n (q := 91) dX7_tick_90 rfl rfl rfl ?_
  refine jj_cS2v (q := 94) dX7_tick_91 yk_X7_fillEntry ml_X7_62 (ex_fillEntry hs hp hdj hI hW (by rw [fmA_1, fmA_1, fmA_1]; exact hcw) hc1) rfl rfl rfl ⟨Nat.zero_le _, Nat.zero_le _⟩ ?_
  refine jj_vret dX7_tick_94 rfl (Nat.zero_le _) (Nat.zero_le _) ?_
  exact ⟨V, rfl, rfl⟩
theorem ex_tick (hs : hSt T R a) (hp : hPl T R p) (hdj : p + 16 ≤ a ∨ a + 19 ≤ p) (hI : ∀ k : Nat, k < 15 → I (p + k) = P k) (hW : wP P) (hc : K 1 0 = nI c) (hc1 : c ≤ 100) (hlw : lW K) : Ex Γ (d + 5) Y_X7_tick [.ref p, .ref a] (T, R, S, blk 19 (vv I p V) a K, u2 L a 1 r, D, z) 0 0 (rVV (fun V => (T, R, S, blk 19 (vv I p V) a (kTick P c (K, r)).1, u2 L a 1 (kTick P c (K, r)).2, D, z))) := by
  refine Ex.of (by decide) (by simp [Value.category]) (Nat.le_of_ble_eq_true rfl) rfl ?_
  refine jj_aload_n (q := 1) dX7_tick_0 rfl rfl rfl ?_
  refine jj_dup (q := 2) dX7_tick_1 rfl rfl ?_
  refine jj_getIv (q := 5) dX7_tick_2 fl_X7_31 hs.t0 (blk_0 (by decide)) rfl rfl ?_
  refine jj_iconst (v := 1) (q := 6) dX7_tick_5 rfl rfl ?_
  refine jj_iadd (q := 7) dX7_tick_6 rfl ?_
  refine jj_putIv (q := 10) dX7_tick_7 fl_X7_31 hs.t0 (u2_blk0 (by decide)) rfl rfl rfl rfl rfl ?_
  rw [show u2 K 0 0 (K 0 0 + 1) = tk0 K from rfl]
  have hc0 : tk0 K 1 0 = nI c := by rw [show tk0 K 1 = K 1 from u2_ne (by decide)]; exact hc
  refine jj_aload_n (q := 11) dX7_tick_10 rfl rfl rfl ?_
  refine jj_getR (q := 14) dX7_tick_11 fl_X7_9 hs.t0 hs.r0_4 rfl rfl rfl ?_
  refine jj_cV0i (q := 17) dX7_tick_14 yk_X0_allFinished ml_X7_35 hs.t1 (ex_allFinished hs) rfl rfl rfl ⟨Nat.zero_le _, Nat.zero_le _⟩ ?_
  refine jj_if_eq (q := 20) (tgt := 21) dX7_tick_17 rfl rfl (fun h17 => ?_) (fun h17 => ?_)
  · refine jj_aload_n (q := 22) dX7_tick_21 rfl rfl rfl ?_
    refine jj_cS1v (q := 25) dX7_tick_22 yk_X7_admitArrivals ml_X7_39 (ex_admitArrivals hs hc0 hc1) rfl rfl rfl ⟨Nat.zero_le _, Nat.zero_le _⟩ ?_
    refine jj_aload_n (q := 26) dX7_tick_25 rfl rfl rfl ?_
    refine jj_getIv (q := 29) dX7_tick_26 fl_X7_31 hs.t0 (blk_0 (by decide)) rfl rfl ?_
    refine jj_aload_n (q := 30) dX7_tick_29 rfl rfl rfl ?_
    refine jj_getIv (q := 33) dX7_tick_30 fl_X7_43 hs.t0 (blk_0 (by decide)) rfl rfl ?_
    refine jj_icmp_le (q := 36) (tgt := 41) dX7_tick_33 rfl rfl (fun h33 => ?_) (fun h33 => ?_)
    · have h9 := tick_41 (Γ := Γ) (d := d) (S := S) (K := tk1 P c (tk0 K)) (L := L) (D := D) (z := z) (r := r) (V := V) hs hp hdj hI hW (c := c) (by rw [tk1_1]; exact hc0) hc1 (lW_of (lW_of hlw (u2_ne (by decide))) (tk1_12 P c (tk0 K))) (x2 := none)
      unfold kTick
      rw [if_pos h17]
      refine Eq.mp ?_ h9
      unfold tk2 tk1
      (first | rw [if_pos h33] | rw [if_neg h33] | skip)
      rfl
    · refine jj_aload_n (q := 37) dX7_tick_36 rfl rfl rfl ?_
      refine jj_aload_n (q := 38) dX7_tick_37 rfl rfl rfl ?_
      refine jj_cS2v (q := 41) dX7_tick_38 yk_X7_moveLoop ml_X7_46 (ex_moveLoop hs hp hdj hI hW) rfl rfl rfl ⟨Nat.zero_le _, Nat.zero_le _⟩ ?_
      have h9 := tick_41 (Γ := Γ) (d := d) (S := S) (K := tk1 P c (tk0 K)) (L := L) (D := D) (z := z) (r := r) (V := V) hs hp hdj hI hW (c := c) (by rw [tk1_1]; exact hc0) hc1 (lW_of (lW_of hlw (u2_ne (by decide))) (tk1_12 P c (tk0 K))) (x2 := none)
      unfold kTick
      rw [if_pos h17]
      refine Eq.mp ?_ h9
      unfold tk2 tk1
      (first | rw [if_pos h33] | rw [if_neg h33] | skip)
      rfl
  · refine jj_vret dX7_tick_20 rfl (Nat.zero_le _) (Nat.zero_le _) ?_
    exact ⟨V, rfl, by unfold kTick; rw [if_neg h17]⟩
theorem lp_run (hs : hSt T R a) (hp : hPl T R p) (hdj : p + 16 ≤ a ∨ a + 19 ≤ p) (hI : ∀ k : Nat, k < 15 → I (p + k) = P k) (hW : wP P) (hc1 : c ≤ 100) {n w b0 : Int32} {N : Nat} (hn : n = nI N) (hN : N < 2 ^ 31) : ∀ (k i : Nat) (K : JI) (r : Int64) (V : Nat → Int32), (i + k = N ∧ K 1 0 = nI c ∧ lW K) → JJ Γ (jj_E Y_X7_run) (jj_Z Γ (rIV (atV 14 ((kRun P c k (K, r)).1 8) w - b0) (fun V => (T, R, S, blk 19 (vv I p V) a (kRun P c k (K, r)).1, u2 L a 1 (kRun P c k (K, r)).2, D, z))) 0 0) (jj_rm (d + 6) 0 0) 0 0 16 [some (.ref p), some (.ref a), some (.int n), some (.int w), some (.int b0), some (.int (nI i))] [] (T, R, S, blk 19 (vv I p V) a K, u2 L a 1 r, D, z) := by
  intro k
  induction k with
  | zero =>
    intro i K r V hi
    refine jj_iload (q := 18) dX7_run_16 rfl rfl ?_
    refine jj_iload_n (q := 19) dX7_run_18 rfl rfl rfl ?_
    refine jj_icmp_ge (q := 22) (tgt := 33) dX7_run_19 rfl rfl (fun h19 => ?_) (fun h19 => absurd ((by rw [hn]; exact nI_le (show N ≤ i by omega) (by omega))) h19)
    refine jj_aload_n (q := 34) dX7_run_33 rfl rfl rfl ?_
    refine jj_getR (q := 37) dX7_run_34 fl_X7_9 hs.t0 hs.r0_4 rfl rfl rfl ?_
    refine jj_getR (q := 40) dX7_run_37 fl_X7_15 hs.t1 hs.r1_7 rfl rfl rfl ?_
    refine jj_iload_n (q := 41) dX7_run_40 rfl rfl rfl ?_
    refine jj_cN2i (q := 44) dX7_run_41 yk_X8_at ml_X7_21 (ex_atv hs.t8 (blk_k (by decide)) rfl) rfl rfl rfl ⟨Nat.zero_le _, Nat.zero_le _⟩ ?_
    refine jj_iload (q := 46) dX7_run_44 rfl rfl ?_
    refine jj_isub (q := 47) dX7_run_46 rfl ?_
    refine jj_iret dX7_run_47 rfl (Nat.zero_le _) (Nat.zero_le _) ?_
    exact ⟨V, rfl, rfl⟩
  | succ k ih =>
    intro i K r V hi
    refine jj_iload (q := 18) dX7_run_16 rfl rfl ?_
    refine jj_iload_n (q := 19) dX7_run_18 rfl rfl rfl ?_
    refine jj_icmp_ge (q := 22) (tgt := 33) dX7_run_19 rfl rfl (fun h19 => absurd h19 ((by rw [hn]; exact nI_ge (show i < N by omega) hN))) (fun h19 => ?_)
    refine jj_aload_n (q := 23) dX7_run_22 rfl rfl rfl ?_
    refine jj_aload_n (q := 24) dX7_run_23 rfl rfl rfl ?_
    refine jj_eS2v (q := 27) dX7_run_24 yk_X7_tick ml_X7_25 (ex_tick hs hp hdj hI hW hi.2.1 hc1 hi.2.2) rfl rfl rfl ⟨Nat.zero_le _, Nat.zero_le _⟩ (fun V => ?_)
    refine jj_iinc (v := nI (i + 1)) (q := 30) dX7_run_27 rfl (nI_inc i) (by decide) rfl ?_
    refine jj_goto (tgt := 16) dX7_run_30 rfl ?_
    exact ih (i + 1) (kTick P c (K, r)).1 (kTick P c (K, r)).2 V ⟨by omega, by rw [kTick_1]; exact hi.2.1, lW_kTick hW c hi.2.2⟩
theorem ex_run (hs : hSt T R a) (hp : hPl T R p) (hdj : p + 16 ≤ a ∨ a + 19 ≤ p) (hI : ∀ k : Nat, k < 15 → I (p + k) = P k) (hW : wP P) (hc : K 1 0 = nI c) (hc1 : c ≤ 100) (hlw : lW K) {w : Int32} {N : Nat} (hN : N < 2 ^ 31) : Ex Γ (d + 6) Y_X7_run [.ref p, .ref a, .int (nI N), .int w] (T, R, S, blk 19 (vv I p V) a K, u2 L a 1 r, D, z) 0 0 (rIV (atV 14 ((kRun P c N (K, r)).1 8) w - atV 14 (K 8) w) (fun V => (T, R, S, blk 19 (vv I p V) a (kRun P c N (K, r)).1, u2 L a 1 (kRun P c N (K, r)).2, D, z))) := by
  refine Ex.of (by decide) (by simp [Value.category]) (Nat.le_of_ble_eq_true rfl) rfl ?_
  refine jj_aload_n (q := 1) dX7_run_0 rfl rfl rfl ?_
  refine jj_getR (q := 4) dX7_run_1 fl_X7_9 hs.t0 hs.r0_4 rfl rfl rfl ?_
  refine jj_getR (q := 7) dX7_run_4 fl_X7_15 hs.t1 hs.r1_7 rfl rfl rfl ?_
  refine jj_iload_n (q := 8) dX7_run_7 rfl rfl rfl ?_
  refine jj_cN2i (q := 11) dX7_run_8 yk_X8_at ml_X7_21 (ex_atv hs.t8 (blk_k (by decide)) rfl) rfl rfl rfl ⟨Nat.zero_le _, Nat.zero_le _⟩ ?_
  refine jj_istore (q := 13) dX7_run_11 (by decide) rfl ?_
  refine jj_iconst (v := 0) (q := 14) dX7_run_13 rfl rfl ?_
  refine jj_istore (q := 16) dX7_run_14 (by decide) rfl ?_
  exact lp_run hs hp hdj hI hW hc1 rfl hN N 0 K r V ⟨by omega, hc, hlw⟩
end M25
