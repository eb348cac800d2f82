/-! rows for an end with some memory; NODES and the words of values of the model -/
def rPi (Prr : Nat → JI → JV → Prop) (Mm : JI → JV → JM) : JO → JM → Prop := fun o M' => ∃ n A' G', Prr n A' G' ∧ o = .inl (some (.int (nI n))) ∧ M' = Mm A' G'
def rPv (Prr : Nat → JI → JV → Prop) (Mm : JI → JV → JM) : JO → JM → Prop := fun o M' => ∃ n A' G', Prr n A' G' ∧ o = .inl none ∧ M' = Mm A' G'
section R81
variable {Γ : Gam} {Ej : JE} {Zf : List Frame → Array Value → State → State → Prop} {cells slots mcR msR pc q d ix : Nat} {vl : List (Option Value)} {rest : List Value} {M : JM} {y : JY} {Prr : Nat → JI → JV → Prop} {Mm : JI → JV → JM}
theorem jj_pV0i {bq ci : Nat} (hd : decode Ej.2.1 pc = .ok (.invokevirtual ix, 3)) (hy : YOK y 0) (hm : MLV Ej.1 ix y ci) (hT : M.1 bq = some (.inl ci)) (hx : Ex Γ d y (.ref bq :: []) M 0 0 (rPi Prr Mm)) (hk : Nat.ble y.2.2.1 21 = true) (hrt : Nat.ble (rest.map fun v => v.category).sum 8 = true) (hq : pc + 3 = q) (hcs : cells ≤ mcR ∧ slots ≤ msR) (kk : ∀ n A' G', Prr n A' G' → JJ Γ Ej Zf (jj_rm (d + 1) mcR msR) cells slots q vl (.int (nI n) :: rest) (Mm A' G')) : JJ Γ Ej Zf (jj_rm (d + 1) mcR msR) cells slots pc vl (.ref bq :: rest) M := by
  subst hq
  exact jj_callV (as := []) (rest := rest) hd hy hm hT hx rfl (Nat.le_of_ble_eq_true hrt) (jj_rok (Nat.le_of_ble_eq_true hk)) hcs (fun v M' h => by obtain ⟨n, A', G', h1, h2, h3⟩ := h; cases h2; subst h3; exact kk n A' G' h1) (fun X M' h => by obtain ⟨n, A', G', h1, h2, h3⟩ := h; cases h2)
theorem jj_pV1i {bq ci : Nat} {v1 : Value} (hd : decode Ej.2.1 pc = .ok (.invokevirtual ix, 3)) (hy : YOK y 1) (hm : MLV Ej.1 ix y ci) (hT : M.1 bq = some (.inl ci)) (hx : Ex Γ d y (.ref bq :: [v1]) M 0 0 (rPi Prr Mm)) (hk : Nat.ble y.2.2.1 21 = true) (hrt : Nat.ble (rest.map fun v => v.category).sum 8 = true) (hq : pc + 3 = q) (hcs : cells ≤ mcR ∧ slots ≤ msR) (kk : ∀ n A' G', Prr n A' G' → JJ Γ Ej Zf (jj_rm (d + 1) mcR msR) cells slots q vl (.int (nI n) :: rest) (Mm A' G')) : JJ Γ Ej Zf (jj_rm (d + 1) mcR msR) cells slots pc vl (v1 :: .ref bq :: rest) M := by
  subst hq
  exact jj_callV (as := [v1]) (rest := rest) hd hy hm hT hx rfl (Nat.le_of_ble_eq_true hrt) (jj_rok (Nat.le_of_ble_eq_true hk)) hcs (fun v M' h => by obtain ⟨n, A', G', h1, h2, h3⟩ := h; cases h2; subst h3; exact kk n A' G' h1) (fun X M' h => by obtain ⟨n, A', G', h1, h2, h3⟩ := h; cases h2)
theorem jj_pV0v {bq ci : Nat} (hd : decode Ej.2.1 pc = .ok (.invokevirtual ix, 3)) (hy : YOK y 0) (hm : MLV Ej.1 ix y ci) (hT : M.1 bq = some (.inl ci)) (hx : Ex Γ d y (.ref bq :: []) M 0 0 (rPv Prr Mm)) (hk : Nat.ble y.2.2.1 21 = true) (hrt : Nat.ble (rest.map fun v => v.category).sum 8 = true) (hq : pc + 3 = q) (hcs : cells ≤ mcR ∧ slots ≤ msR) (kk : ∀ n A' G', Prr n A' G' → JJ Γ Ej Zf (jj_rm (d + 1) mcR msR) cells slots q vl (rest) (Mm A' G')) : JJ Γ Ej Zf (jj_rm (d + 1) mcR msR) cells slots pc vl (.ref bq :: rest) M := by
  subst hq
  exact jj_callV (as := []) (rest := rest) hd hy hm hT hx rfl (Nat.le_of_ble_eq_true hrt) (jj_rok (Nat.le_of_ble_eq_true hk)) hcs (fun v M' h => by obtain ⟨n, A', G', h1, h2, h3⟩ := h; cases h2; subst h3; exact kk n A' G' h1) (fun X M' h => by obtain ⟨n, A', G', h1, h2, h3⟩ := h; cases h2)
end R81
/-- a new node -/
def nodA (A : JI) (i : Nat) (x y w : Int32) : JI := u2 (u2 (u2 A 11 i x) 12 i y) 13 i w
def nIx (bq kq : Nat) : Nat := (1 - bq) * 700 + kq
def vI (n : Nat) : Int32 := if n = 5 then -1 else nI n
def wR (b : Nat → Nat) (E : Nat) (r : Res Unit) : Nat := if rW b E r wd_wait = true then 0 else if rW b E r wd_laps = true then 1 else if rW b E r wd_level = true then 2 else if rW b E r wd_load = true then 3 else if rW b E r wd_time = true then 4 else 5
theorem wR_x {b : Nat → Nat} {E : Nat} {e : Nat × Nat} : wR b E (.inl e) = 5 := rfl
theorem wR_r {b : Nat → Nat} {E : Nat} {x : Unit × Nat} : wR b E (.inr x) = wV b E x.2 := rfl
theorem oz_f {c : Bool} (h : (if c = true then (1 : Int32) else 0) = 0) : c = false := by cases c <;> first | rfl | exact absurd h (by decide)
theorem oz_t {c : Bool} (h : ¬ (if c = true then (1 : Int32) else 0) = 0) : c = true := by cases c <;> first | rfl | exact absurd rfl h
def vIx : Nat → Nat
  | 0 => 44
  | 1 => 46
  | 2 => 48
  | 3 => 50
  | _ => 52
/-- the model's words of values -/
def hVs (Γ : Gam) (R : JR) (mo : Nat) : Prop := ∀ j, j < 5 → R (mo + 10) j = some (Γ.ss RX9 (vIx j))
section M81
variable {Γ : Gam} {d : Nat} {T : JT} {R S : JR} {I A : JI} {L : JL} {D : JD} {z : Option Nat} {mo E : Nat} {G N X : JV} {b : Nat → Nat} {r : Res Unit}
theorem exM_node (hm : hMo T S mo) {kq bq : Nat} (h25 : G 25 = nI bq) (hbq : bq ≤ 1) (h26 : G 26 = nI kq) (hk : kq < 700) {x y w : Int32} : Ex Γ d Y_X9_node [.ref mo, .int x, .int y, .int w] (T, R, S, blk 18 I mo (st A 0 G), L, D, z) 0 0 (rI (nI (nIx bq kq)) (T, R, S, blk 18 I mo (st (nodA A (nIx bq kq) x y w) 0 (w1 G 26 (nI (kq + 1)))), L, D, z)) := by
  have hix : (1 - bq) * 700 + kq < 1400 := by omega
  refine Ex.of (by decide) (by simp [Value.category]) (Nat.le_of_ble_eq_true rfl) rfl ?_
  refine jj_iconst (v := 1) (q := 1) dX9_node_0 rfl rfl ?_
  refine jj_aload_n (q := 2) dX9_node_1 rfl rfl rfl ?_
  refine jj_getIw (v := nI bq) (q := 5) dX9_node_2 fl_X9_172 hm.t0 (by rw [g_rd]; exact h25) rfl rfl ?_
  refine jj_isubN (q := 6) (e := 1 - bq) (a := 1) (b := bq) dX9_node_5 rfl rfl (by omega) rfl ?_
  refine jj_sipush (v := 700) (q := 9) dX9_node_6 rfl rfl ?_
  refine jj_imulN (q := 10) (a := 1 - bq) (b := 700) dX9_node_9 rfl rfl rfl ?_
  refine jj_aload_n (q := 11) dX9_node_10 rfl rfl rfl ?_
  refine jj_getIw (v := nI kq) (q := 14) dX9_node_11 fl_X9_175 hm.t0 (by rw [g_rd]; exact h26) rfl rfl ?_
  refine jj_iaddN (q := 15) (a := (1 - bq) * 700) (b := kq) dX9_node_14 rfl rfl rfl ?_
  refine jj_istore (q := 17) dX9_node_15 (by decide) rfl ?_
  refine jj_aload_n (q := 18) dX9_node_17 rfl rfl rfl ?_
  refine jj_getS (q := 21) dX9_node_18 fl_X9_58 hm.t0 hm.r0_21 rfl rfl rfl ?_
  refine jj_iload (q := 23) dX9_node_21 rfl rfl ?_
  refine jj_iload_n (q := 24) dX9_node_23 rfl rfl rfl ?_
  refine jj_iastN (q := 25) (j := ((1 - bq) * 700) + kq) dX9_node_24 hm.t11 (u2_bsk (by decide) (by decide)) rfl (by omega) rfl ?_
  refine jj_aload_n (q := 26) dX9_node_25 rfl rfl rfl ?_
  refine jj_getS (q := 29) dX9_node_26 fl_X9_61 hm.t0 hm.r0_22 rfl rfl rfl ?_
  refine jj_iload (q := 31) dX9_node_29 rfl rfl ?_
  refine jj_iload_n (q := 32) dX9_node_31 rfl rfl rfl ?_
  refine jj_iastN (q := 33) (j := ((1 - bq) * 700) + kq) dX9_node_32 hm.t12 (u2_bsk (by decide) (by decide)) rfl (by omega) rfl ?_
  refine jj_aload_n (q := 34) dX9_node_33 rfl rfl rfl ?_
  refine jj_getS (q := 37) dX9_node_34 fl_X9_64 hm.t0 hm.r0_23 rfl rfl rfl ?_
  refine jj_iload (q := 39) dX9_node_37 rfl rfl ?_
  refine jj_iload_n (q := 40) dX9_node_39 rfl rfl rfl ?_
  refine jj_iastN (q := 41) (j := ((1 - bq) * 700) + kq) dX9_node_40 hm.t13 (u2_bsk (by decide) (by decide)) rfl (by omega) rfl ?_
  refine jj_aload_n (q := 42) dX9_node_41 rfl rfl rfl ?_
  refine jj_dup (q := 43) dX9_node_42 rfl rfl ?_
  refine jj_getIw (v := nI kq) (q := 46) dX9_node_43 fl_X9_175 hm.t0 (by rw [g_rd]; exact h26) rfl rfl ?_
  refine jj_iconst (v := 1) (q := 47) dX9_node_46 rfl rfl ?_
  refine jj_iaddN (q := 48) (a := kq) (b := 1) dX9_node_47 rfl rfl rfl ?_
  refine jj_putIv (q := 51) dX9_node_48 fl_X9_175 hm.t0 g_wr rfl rfl rfl rfl rfl ?_
  refine jj_iload (q := 53) dX9_node_51 rfl rfl ?_
  refine jj_iret dX9_node_53 rfl (Nat.zero_le _) (Nat.zero_le _) ?_
  exact ⟨rfl, rfl⟩
theorem exM_value (hm : hMo T S mo) (hb : mB_ A b E) (hs : mSt b E r G) (hv : hVs Γ R mo) : Ex Γ (d + 5) Y_X9_valueHere [.ref mo] (T, R, S, blk 18 I mo (st A 0 G), L, D, z) 0 0 (rI (vI (wR b E r)) (T, R, S, blk 18 I mo (st A 0 G), L, D, z)) := by
  refine Ex.of (by decide) (by simp [Value.category]) (Nat.le_of_ble_eq_true rfl) rfl ?_
  refine jj_iconst (v := 0) (q := 1) dX9_valueHere_0 rfl rfl ?_
  refine jj_istore_n (q := 2) dX9_valueHere_1 rfl (by decide) rfl ?_
  refine jj_iload_n (q := 3) dX9_valueHere_2 rfl rfl rfl ?_
  refine jj_aload_n (q := 4) dX9_valueHere_3 rfl rfl rfl ?_
  refine jj_getS (q := 7) dX9_valueHere_4 fl_X9_54 hm.t0 hm.r0_20 rfl rfl rfl ?_
  refine jj_alen (q := 8) dX9_valueHere_7 hm.t10 (by decide) rfl rfl ?_
  refine jj_icmp_ge (q := 11) (tgt := 32) dX9_valueHere_8 rfl rfl (fun h8 => absurd h8 (by decide)) (fun h8 => ?_)
  refine jj_aload_n (q := 12) dX9_valueHere_11 rfl rfl rfl ?_
  refine jj_aload_n (q := 13) dX9_valueHere_12 rfl rfl rfl ?_
  refine jj_getS (q := 16) dX9_valueHere_13 fl_X9_54 hm.t0 hm.r0_20 rfl rfl rfl ?_
  refine jj_iload_n (q := 17) dX9_valueHere_16 rfl rfl rfl ?_
  refine jj_aald (q := 18) dX9_valueHere_17 hm.t10 (by decide) (by unfold vp_in; decide) (hv 0 (by omega)) rfl ?_
  refine jj_cV1i (q := 21) dX9_valueHere_18 yk_X9_isWord ml_X9_130 hm.t0 (exM_word hm hb hs ks_X9_44 wl_wait (by decide) (by decide)) rfl rfl rfl ⟨Nat.zero_le _, Nat.zero_le _⟩ ?_
  refine jj_if_eq (q := 24) (tgt := 26) dX9_valueHere_21 rfl rfl (fun h21 => ?_) (fun h21 => ?_)
  · have a0 := oz_f h21
    refine jj_iinc (v := nI (0 + 1)) (q := 29) dX9_valueHere_26 rfl (nI_incn 0 1 rfl) (by decide) rfl ?_
    refine jj_goto (tgt := 2) dX9_valueHere_29 rfl ?_
    refine jj_iload_n (q := 3) dX9_valueHere_2 rfl rfl rfl ?_
    refine jj_aload_n (q := 4) dX9_valueHere_3 rfl rfl rfl ?_
    refine jj_getS (q := 7) dX9_valueHere_4 fl_X9_54 hm.t0 hm.r0_20 rfl rfl rfl ?_
    refine jj_alen (q := 8) dX9_valueHere_7 hm.t10 (by decide) rfl rfl ?_
    refine jj_icmp_ge (q := 11) (tgt := 32) dX9_valueHere_8 rfl rfl (fun h8 => absurd h8 (by decide)) (fun h8 => ?_)
    refine jj_aload_n (q := 12) dX9_valueHere_11 rfl rfl rfl ?_
    refine jj_aload_n (q := 13) dX9_valueHere_12 rfl rfl rfl ?_
    refine jj_getS (q := 16) dX9_valueHere_13 fl_X9_54 hm.t0 hm.r0_20 rfl rfl rfl ?_
    refine jj_iload_n (q := 17) dX9_valueHere_16 rfl rfl rfl ?_
    refine jj_aald (q := 18) dX9_valueHere_17 hm.t10 (by decide) (by unfold vp_in; decide) (hv 1 (by omega)) rfl ?_
    refine jj_cV1i (q := 21) dX9_valueHere_18 yk_X9_isWord ml_X9_130 hm.t0 (exM_word hm hb hs ks_X9_46 wl_laps (by decide) (by decide)) rfl rfl rfl ⟨Nat.zero_le _, Nat.zero_le _⟩ ?_
    refine jj_if_eq (q := 24) (tgt := 26) dX9_valueHere_21 rfl rfl (fun h21 => ?_) (fun h21 => ?_)
    · have a1 := oz_f h21
      refine jj_iinc (v := nI ((0 + 1) + 1)) (q := 29) dX9_valueHere_26 rfl (nI_incn (0 + 1) 1 rfl) (by decide) rfl ?_
      refine jj_goto (tgt := 2) dX9_valueHere_29 rfl ?_
      refine jj_iload_n (q := 3) dX9_valueHere_2 rfl rfl rfl ?_
      refine jj_aload_n (q := 4) dX9_valueHere_3 rfl rfl rfl ?_
      refine jj_getS (q := 7) dX9_valueHere_4 fl_X9_54 hm.t0 hm.r0_20 rfl rfl rfl ?_
      refine jj_alen (q := 8) dX9_valueHere_7 hm.t10 (by decide) rfl rfl ?_
      refine jj_icmp_ge (q := 11) (tgt := 32) dX9_valueHere_8 rfl rfl (fun h8 => absurd h8 (by decide)) (fun h8 => ?_)
      refine jj_aload_n (q := 12) dX9_valueHere_11 rfl rfl rfl ?_
      refine jj_aload_n (q := 13) dX9_valueHere_12 rfl rfl rfl ?_
      refine jj_getS (q := 16) dX9_valueHere_13 fl_X9_54 hm.t0 hm.r0_20 rfl rfl rfl ?_
      refine jj_iload_n (q := 17) dX9_valueHere_16 rfl rfl rfl ?_
      refine jj_aald (q := 18) dX9_valueHere_17 hm.t10 (by decide) (by unfold vp_in; decide) (hv 2 (by omega)) rfl ?_
      refine jj_cV1i (q := 21) dX9_valueHere_18 yk_X9_isWord ml_X9_130 hm.t0 (exM_word hm hb hs ks_X9_48 wl_level (by decide) (by decide)) rfl rfl rfl ⟨Nat.zero_le _, Nat.zero_le _⟩ ?_
      refine jj_if_eq (q := 24) (tgt := 26) dX9_valueHere_21 rfl rfl (fun h21 => ?_) (fun h21 => ?_)
      · have a2 := oz_f h21
        refine jj_iinc (v := nI (((0 + 1) + 1) + 1)) (q := 29) dX9_valueHere_26 rfl (nI_incn ((0 + 1) + 1) 1 rfl) (by decide) rfl ?_
        refine jj_goto (tgt := 2) dX9_valueHere_29 rfl ?_
        refine jj_iload_n (q := 3) dX9_valueHere_2 rfl rfl rfl ?_
        refine jj_aload_n (q := 4) dX9_valueHere_3 rfl rfl rfl ?_
        refine jj_getS (q := 7) dX9_valueHere_4 fl_X9_54 hm.t0 hm.r0_20 rfl rfl rfl ?_
        refine jj_alen (q := 8) dX9_valueHere_7 hm.t10 (by decide) rfl rfl ?_
        refine jj_icmp_ge (q := 11) (tgt := 32) dX9_valueHere_8 rfl rfl (fun h8 => absurd h8 (by decide)) (fun h8 => ?_)
        refine jj_aload_n (q := 12) dX9_valueHere_11 rfl rfl rfl ?_
        refine jj_aload_n (q := 13) dX9_valueHere_12 rfl rfl rfl ?_
        refine jj_getS (q := 16) dX9_valueHere_13 fl_X9_54 hm.t0 hm.r0_20 rfl rfl rfl ?_
        refine jj_iload_n (q := 17) dX9_valueHere_16 rfl rfl rfl ?_
        refine jj_aald (q := 18) dX9_valueHere_17 hm.t10 (by decide) (by unfold vp_in; decide) (hv 3 (by omega)) rfl ?_
        refine jj_cV1i (q := 21) dX9_valueHere_18 yk_X9_isWord ml_X9_130 hm.t0 (exM_word hm hb hs ks_X9_50 wl_load (by decide) (by decide)) rfl rfl rfl ⟨Nat.zero_le _, Nat.zero_le _⟩ ?_
        refine jj_if_eq (q := 24) (tgt := 26) dX9_valueHere_21 rfl rfl (fun h21 => ?_) (fun h21 => ?_)
        · have a3 := oz_f h21
          refine jj_iinc (v := nI ((((0 + 1) + 1) + 1) + 1)) (q := 29) dX9_valueHere_26 rfl (nI_incn (((0 + 1) + 1) + 1) 1 rfl) (by decide) rfl ?_
          refine jj_goto (tgt := 2) dX9_valueHere_29 rfl ?_
          refine jj_iload_n (q := 3) dX9_valueHere_2 rfl rfl rfl ?_
          refine jj_aload_n (q := 4) dX9_valueHere_3 rfl rfl rfl ?_
          refine jj_getS (q := 7) dX9_valueHere_4 fl_X9_54 hm.t0 hm.r0_20 rfl rfl rfl ?_
          refine jj_alen (q := 8) dX9_valueHere_7 hm.t10 (by decide) rfl rfl ?_
          refine jj_icmp_ge (q := 11) (tgt := 32) dX9_valueHere_8 rfl rfl (fun h8 => absurd h8 (by decide)) (fun h8 => ?_)
          refine jj_aload_n (q := 12) dX9_valueHere_11 rfl rfl rfl ?_
          refine jj_aload_n (q := 13) dX9_valueHere_12 rfl rfl rfl ?_
          refine jj_getS (q := 16) dX9_valueHere_13 fl_X9_54 hm.t0 hm.r0_20 rfl rfl rfl ?_
          refine jj_iload_n (q := 17) dX9_valueHere_16 rfl rfl rfl ?_
          refine jj_aald (q := 18) dX9_valueHere_17 hm.t10 (by decide) (by unfold vp_in; decide) (hv 4 (by omega)) rfl ?_
          refine jj_cV1i (q := 21) dX9_valueHere_18 yk_X9_isWord ml_X9_130 hm.t0 (exM_word hm hb hs ks_X9_52 wl_time (by decide) (by decide)) rfl rfl rfl ⟨Nat.zero_le _, Nat.zero_le _⟩ ?_
          refine jj_if_eq (q := 24) (tgt := 26) dX9_valueHere_21 rfl rfl (fun h21 => ?_) (fun h21 => ?_)
          · have a4 := oz_f h21
            refine jj_iinc (v := nI (((((0 + 1) + 1) + 1) + 1) + 1)) (q := 29) dX9_valueHere_26 rfl (nI_incn ((((0 + 1) + 1) + 1) + 1) 1 rfl) (by decide) rfl ?_
            refine jj_goto (tgt := 2) dX9_valueHere_29 rfl ?_
            refine jj_iload_n (q := 3) dX9_valueHere_2 rfl rfl rfl ?_
            refine jj_aload_n (q := 4) dX9_valueHere_3 rfl rfl rfl ?_
            refine jj_getS (q := 7) dX9_valueHere_4 fl_X9_54 hm.t0 hm.r0_20 rfl rfl rfl ?_
            refine jj_alen (q := 8) dX9_valueHere_7 hm.t10 (by decide) rfl rfl ?_
            refine jj_icmp_ge (q := 11) (tgt := 32) dX9_valueHere_8 rfl rfl (fun h8 => ?_) (fun h8 => absurd (by decide) h8)
            refine jj_iconst (v := -1) (q := 33) dX9_valueHere_32 rfl rfl ?_
            refine jj_iret dX9_valueHere_33 rfl (Nat.zero_le _) (Nat.zero_le _) ?_
            exact ⟨by simp [wR, vI, a0, a1, a2, a3, a4], rfl⟩
          · have a4 := oz_t h21
            refine jj_iload_n (q := 25) dX9_valueHere_24 rfl rfl rfl ?_
            refine jj_iret dX9_valueHere_25 rfl (Nat.zero_le _) (Nat.zero_le _) ?_
            exact ⟨by simp [wR, vI, a0, a1, a2, a3, a4], rfl⟩
        · have a3 := oz_t h21
          refine jj_iload_n (q := 25) dX9_valueHere_24 rfl rfl rfl ?_
          refine jj_iret dX9_valueHere_25 rfl (Nat.zero_le _) (Nat.zero_le _) ?_
          exact ⟨by simp [wR, vI, a0, a1, a2, a3], rfl⟩
      · have a2 := oz_t h21
        refine jj_iload_n (q := 25) dX9_valueHere_24 rfl rfl rfl ?_
        refine jj_iret dX9_valueHere_25 rfl (Nat.zero_le _) (Nat.zero_le _) ?_
        exact ⟨by simp [wR, vI, a0, a1, a2], rfl⟩
    · have a1 := oz_t h21
      refine jj_iload_n (q := 25) dX9_valueHere_24 rfl rfl rfl ?_
      refine jj_iret dX9_valueHere_25 rfl (Nat.zero_le _) (Nat.zero_le _) ?_
      exact ⟨by simp [wR, vI, a0, a1], rfl⟩
  · have a0 := oz_t h21
    refine jj_iload_n (q := 25) dX9_valueHere_24 rfl rfl rfl ?_
    refine jj_iret dX9_valueHere_25 rfl (Nat.zero_le _) (Nat.zero_le _) ?_
    exact ⟨by simp [wR, vI, a0]; rfl, rfl⟩
end M81
