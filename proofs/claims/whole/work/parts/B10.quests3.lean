/-! SIMPLE QUESTIONS; QUEUES, MACHINES, LANES, EVENTS: BOTH SIDES -/
section C10
variable {Γ : Gam} {d xo p p2 a a2 : Nat} {T : JT} {R S : JR} {I : JI} {L : JL} {D : JD} {z : Option Nat}
theorem ex_buffered (hX : hXo T R S xo p p2 a a2) : Ex Γ d Y_X8_buffered [.ref xo] (T, R, S, I, L, D, z) 0 0 (rI (I (xo + 1) 2) (T, R, S, I, L, D, z)) := by
  refine Ex.of (by decide) (by simp [Value.category]) (Nat.le_of_ble_eq_true rfl) rfl ?_
  refine jj_aload_n (q := 1) dX8_buffered_0 rfl rfl rfl ?_
  refine jj_getS (q := 4) dX8_buffered_1 fl_X8_10 hX.1 hX.2.2.2.1.1 rfl rfl rfl ?_
  refine jj_getIv (q := 7) dX8_buffered_4 fl_X8_74 hX.2.2.2.2.1.t0 rfl rfl rfl ?_
  refine jj_iret dX8_buffered_7 rfl (Nat.zero_le _) (Nat.zero_le _) ?_
  exact ⟨rfl, rfl⟩
theorem ex_parseError (hX : hXo T R S xo p p2 a a2) : Ex Γ d Y_X8_parseError [.ref xo] (T, R, S, I, L, D, z) 0 0 (rI (I (xo + 1) 0) (T, R, S, I, L, D, z)) := by
  refine Ex.of (by decide) (by simp [Value.category]) (Nat.le_of_ble_eq_true rfl) rfl ?_
  refine jj_aload_n (q := 1) dX8_parseError_0 rfl rfl rfl ?_
  refine jj_getS (q := 4) dX8_parseError_1 fl_X8_10 hX.1 hX.2.2.2.1.1 rfl rfl rfl ?_
  refine jj_getIv (q := 7) dX8_parseError_4 fl_X8_104 hX.2.2.2.2.1.t0 rfl rfl rfl ?_
  refine jj_iret dX8_parseError_7 rfl (Nat.zero_le _) (Nat.zero_le _) ?_
  exact ⟨rfl, rfl⟩
theorem ex_errorPosition (hX : hXo T R S xo p p2 a a2) : Ex Γ d Y_X8_errorPosition [.ref xo] (T, R, S, I, L, D, z) 0 0 (rI (I (xo + 1) 1) (T, R, S, I, L, D, z)) := by
  refine Ex.of (by decide) (by simp [Value.category]) (Nat.le_of_ble_eq_true rfl) rfl ?_
  refine jj_aload_n (q := 1) dX8_errorPosition_0 rfl rfl rfl ?_
  refine jj_getS (q := 4) dX8_errorPosition_1 fl_X8_10 hX.1 hX.2.2.2.1.1 rfl rfl rfl ?_
  refine jj_getIv (q := 7) dX8_errorPosition_4 fl_X8_107 hX.2.2.2.2.1.t0 rfl rfl rfl ?_
  refine jj_iret dX8_errorPosition_7 rfl (Nat.zero_le _) (Nat.zero_le _) ?_
  exact ⟨rfl, rfl⟩
end C10
section Q10
variable {Γ : Gam} {k xo mo ol : Nat} {T : JT} {R S : JR} {I : JI} {L : JL}
theorem st_time (hw : Wd Γ k xo mo T R S I L) (hk : k ≤ 600) (hol : mo + 18 ≤ ol) : BSt Γ k xo mo ol 100 100 Y_X8_time Y_X9_time [] [(0, 0)] T R S I L := by
  have hw0 := hw
  obtain ⟨p, p2, a, a2, u, nx, hl, hb, ha⟩ := hw
  obtain ⟨c, nf, nl, ln, hc⟩ := Wc ha
  obtain ⟨hair, hX, ⟨c1, c2, c3, c4⟩, ⟨f1, f2, f3⟩, ⟨l1, l2, l3⟩, ⟨n1, n2, n3⟩, mm, lw⟩ := hc
  refine BSt.q0 hw0 hol (fun D => by
    have h := ex_time (Γ := Γ) (d := 98) (K := sK I a) (L := L) (D := D) (hl.1.cx I)
    rw [blk_sK] at h
    exact h) (fun L' D' => by
    have h := ex_mtime (Γ := Γ) (d := 99) (R := R) (I := I) (A := sK I mo) (X := sK I mo 4) (L := L') (D := D') (z := none) hl.2.1 
    rw [mB_self, mB_t] at h
    exact h) ?_
  rcases ha with ha | ha
  · rw [if_pos (show sK I mo 0 19 = 0 from ha.1.2.1)]
    exact (congrFun (ha.2.2.1 0 (by omega)) 0).symm
  · obtain ⟨H, hP, hS⟩ := ha.n f1 f3
    rw [if_neg (show ¬ sK I mo 0 19 = 0 by rw [show sK I mo 0 19 = 1 from ha.1.2]; decide)]
    exact hS.1.clk.symm
theorem st_bags (hw : Wd Γ k xo mo T R S I L) (hk : k ≤ 600) (hol : mo + 18 ≤ ol) : BSt Γ k xo mo ol 100 100 Y_X8_bags Y_X9_bags [] [(0, 0)] T R S I L := by
  have hw0 := hw
  obtain ⟨p, p2, a, a2, u, nx, hl, hb, ha⟩ := hw
  obtain ⟨c, nf, nl, ln, hc⟩ := Wc ha
  obtain ⟨hair, hX, ⟨c1, c2, c3, c4⟩, ⟨f1, f2, f3⟩, ⟨l1, l2, l3⟩, ⟨n1, n2, n3⟩, mm, lw⟩ := hc
  refine BSt.q0 hw0 hol (fun D => by
    have h := ex_bags (Γ := Γ) (d := 98) (K := sK I a) (L := L) (D := D) (hl.1.cx I)
    rw [blk_sK] at h
    exact h) (fun L' D' => by
    have h := ex_mbags (Γ := Γ) (d := 99) (R := R) (I := I) (A := sK I mo) (X := sK I mo 4) (L := L') (D := D') (z := none) hl.2.1 
    rw [mB_self, mB_t] at h
    exact h) ?_
  rcases ha with ha | ha
  · rw [if_pos (show sK I mo 0 19 = 0 from ha.1.2.1)]
    exact (congrFun (ha.2.2.1 1 (by omega)) 0).symm
  · obtain ⟨H, hP, hS⟩ := ha.n f1 f3
    rw [if_neg (show ¬ sK I mo 0 19 = 0 by rw [show sK I mo 0 19 = 1 from ha.1.2]; decide)]
    exact hS.1.cnt.symm
theorem st_stoppedUntil (hw : Wd Γ k xo mo T R S I L) (hk : k ≤ 600) (hol : mo + 18 ≤ ol) : BSt Γ k xo mo ol 100 100 Y_X8_stoppedUntil Y_X9_stoppedUntil [] [(0, 0)] T R S I L := by
  have hw0 := hw
  obtain ⟨p, p2, a, a2, u, nx, hl, hb, ha⟩ := hw
  obtain ⟨c, nf, nl, ln, hc⟩ := Wc ha
  obtain ⟨hair, hX, ⟨c1, c2, c3, c4⟩, ⟨f1, f2, f3⟩, ⟨l1, l2, l3⟩, ⟨n1, n2, n3⟩, mm, lw⟩ := hc
  refine BSt.q0 hw0 hol (fun D => by
    have h := ex_stoppedUntil (Γ := Γ) (d := 98) (K := sK I a) (L := L) (D := D) (hl.1.cx I)
    rw [blk_sK] at h
    exact h) (fun L' D' => by
    have h := ex_mstoppedUntil (Γ := Γ) (d := 99) (R := R) (I := I) (A := sK I mo) (X := sK I mo 4) (L := L') (D := D') (z := none) hl.2.1 
    rw [mB_self, mB_t] at h
    exact h) ?_
  rcases ha with ha | ha
  · rw [if_pos (show sK I mo 0 19 = 0 from ha.1.2.1)]
    exact (congrFun (ha.2.2.1 0 (by omega)) 3).symm
  · obtain ⟨H, hP, hS⟩ := ha.n f1 f3
    rw [if_neg (show ¬ sK I mo 0 19 = 0 by rw [show sK I mo 0 19 = 1 from ha.1.2]; decide)]
    exact (hS.1.get mt03 ⟨fun e => by omega, fun e => by omega, fun e => by omega⟩).symm
theorem st_events (hw : Wd Γ k xo mo T R S I L) (hk : k ≤ 600) (hol : mo + 18 ≤ ol) : BSt Γ k xo mo ol 100 100 Y_X8_events Y_X9_events [] [(0, 0)] T R S I L := by
  have hw0 := hw
  obtain ⟨p, p2, a, a2, u, nx, hl, hb, ha⟩ := hw
  obtain ⟨c, nf, nl, ln, hc⟩ := Wc ha
  obtain ⟨hair, hX, ⟨c1, c2, c3, c4⟩, ⟨f1, f2, f3⟩, ⟨l1, l2, l3⟩, ⟨n1, n2, n3⟩, mm, lw⟩ := hc
  refine BSt.q0 hw0 hol (fun D => by
    have h := ex_events (Γ := Γ) (d := 98) (K := sK I a) (L := L) (D := D) (hl.1.cx I)
    rw [blk_sK] at h
    exact h) (fun L' D' => by
    have h := ex_mevents (Γ := Γ) (d := 99) (R := R) (I := I) (A := sK I mo) (X := sK I mo 4) (L := L') (D := D') (z := none) hl.2.1 
    rw [mB_self, mB_t] at h
    exact h) ?_
  rcases ha with ha | ha
  · rw [if_pos (show sK I mo 0 19 = 0 from ha.1.2.1)]
    exact (congrFun (ha.2.2.1 0 (by omega)) 14).symm
  · obtain ⟨H, hP, hS⟩ := ha.n f1 f3
    rw [if_neg (show ¬ sK I mo 0 19 = 0 by rw [show sK I mo 0 19 = 1 from ha.1.2]; decide)]
    exact (hS.1.get mt014 ⟨fun e => by omega, fun e => by omega, fun e => by omega⟩).symm
theorem st_flights (hw : Wd Γ k xo mo T R S I L) (hk : k ≤ 600) (hol : mo + 18 ≤ ol) : BSt Γ k xo mo ol 100 100 Y_X8_flights Y_X9_flights [] [(0, 0)] T R S I L := by
  have hw0 := hw
  obtain ⟨p, p2, a, a2, u, nx, hl, hb, ha⟩ := hw
  obtain ⟨c, nf, nl, ln, hc⟩ := Wc ha
  obtain ⟨hair, hX, ⟨c1, c2, c3, c4⟩, ⟨f1, f2, f3⟩, ⟨l1, l2, l3⟩, ⟨n1, n2, n3⟩, mm, lw⟩ := hc
  refine BSt.q0 hw0 hol (fun D => by
    have h := ex_flights (Γ := Γ) (d := 98) (K := sK I a) (L := L) (D := D) (hl.1.cx I)
    rw [blk_sK] at h
    exact h) (fun L' D' => by
    have h := ex_mflights (Γ := Γ) (d := 99) (R := R) (I := I) (A := sK I mo) (X := sK I mo 4) (L := L') (D := D') (z := none) hl.2.1 
    rw [mB_self, mB_t] at h
    exact h) ?_
  rcases ha with ha | ha
  · rw [if_pos (show sK I mo 0 19 = 0 from ha.1.2.1)]
    exact (congrFun (ha.2.2.2.1 0 (by omega)) 6).symm
  · obtain ⟨H, hP, hS⟩ := ha.n f1 f3
    rw [if_neg (show ¬ sK I mo 0 19 = 0 by rw [show sK I mo 0 19 = 1 from ha.1.2]; decide)]
    exact hP.1.1.2.2.2.1.symm
theorem st_lanes (hw : Wd Γ k xo mo T R S I L) (hk : k ≤ 600) (hol : mo + 18 ≤ ol) : BSt Γ k xo mo ol 100 100 Y_X8_lanes Y_X9_lanes [] [(0, 0)] T R S I L := by
  have hw0 := hw
  obtain ⟨p, p2, a, a2, u, nx, hl, hb, ha⟩ := hw
  obtain ⟨c, nf, nl, ln, hc⟩ := Wc ha
  obtain ⟨hair, hX, ⟨c1, c2, c3, c4⟩, ⟨f1, f2, f3⟩, ⟨l1, l2, l3⟩, ⟨n1, n2, n3⟩, mm, lw⟩ := hc
  refine BSt.q0 hw0 hol (fun D => by
    have h := ex_lanes (Γ := Γ) (d := 98) (K := sK I a) (L := L) (D := D) (hl.1.cx I)
    rw [blk_sK] at h
    exact h) (fun L' D' => by
    have h := ex_mlanes (Γ := Γ) (d := 99) (R := R) (I := I) (A := sK I mo) (X := sK I mo 4) (L := L') (D := D') (z := none) hl.2.1 
    rw [mB_self, mB_t] at h
    exact h) ?_
  rcases ha with ha | ha
  · rw [if_pos (show sK I mo 0 19 = 0 from ha.1.2.1)]
    exact (congrFun (ha.2.2.2.1 0 (by omega)) 8).symm
  · obtain ⟨H, hP, hS⟩ := ha.n f1 f3
    rw [if_neg (show ¬ sK I mo 0 19 = 0 by rw [show sK I mo 0 19 = 1 from ha.1.2]; decide)]
    exact hP.1.1.2.2.2.2.1.symm
theorem st_keeps (hw : Wd Γ k xo mo T R S I L) (hk : k ≤ 600) (hol : mo + 18 ≤ ol) : BSt Γ k xo mo ol 100 100 Y_X8_keeps Y_X9_keeps [] [(0, 0)] T R S I L := by
  have hw0 := hw
  obtain ⟨p, p2, a, a2, u, nx, hl, hb, ha⟩ := hw
  obtain ⟨c, nf, nl, ln, hc⟩ := Wc ha
  obtain ⟨hair, hX, ⟨c1, c2, c3, c4⟩, ⟨f1, f2, f3⟩, ⟨l1, l2, l3⟩, ⟨n1, n2, n3⟩, mm, lw⟩ := hc
  refine BSt.q0 hw0 hol (fun D => by
    have h := ex_keeps (Γ := Γ) (d := 98) (K := sK I a) (L := L) (D := D) (hl.1.cx I)
    rw [blk_sK] at h
    exact h) (fun L' D' => by
    have h := ex_mkeeps (Γ := Γ) (d := 99) (R := R) (I := I) (A := sK I mo) (X := sK I mo 4) (L := L') (D := D') (z := none) hl.2.1 
    rw [mB_self, mB_t] at h
    exact h) ?_
  rcases ha with ha | ha
  · rw [if_pos (show sK I mo 0 19 = 0 from ha.1.2.1)]
    exact (congrFun (ha.2.2.2.1 11 (by omega)) 0).symm
  · obtain ⟨H, hP, hS⟩ := ha.n f1 f3
    rw [if_neg (show ¬ sK I mo 0 19 = 0 by rw [show sK I mo 0 19 = 1 from ha.1.2]; decide)]
    exact hP.2.2.2.2.2.2.1.symm
theorem st_loopLoad (hw : Wd Γ k xo mo T R S I L) (hk : k ≤ 600) (hol : mo + 18 ≤ ol) : BSt Γ k xo mo ol 100 100 Y_X8_loopLoad Y_X9_loopLoad [] [(0, 0)] T R S I L := by
  have hw0 := hw
  obtain ⟨p, p2, a, a2, u, nx, hl, hb, ha⟩ := hw
  obtain ⟨c, nf, nl, ln, hc⟩ := Wc ha
  obtain ⟨hair, hX, ⟨c1, c2, c3, c4⟩, ⟨f1, f2, f3⟩, ⟨l1, l2, l3⟩, ⟨n1, n2, n3⟩, mm, lw⟩ := hc
  refine BSt.q0 hw0 hol (fun D => by
    have h := ex_loopLoad (Γ := Γ) (d := 98) (K := sK I a) (L := L) (D := D) (hl.1.cx I)
    rw [blk_sK] at h
    exact h) (fun L' D' => by
    have h := ex_mloopLoad (Γ := Γ) (d := 99) (R := R) (I := I) (A := sK I mo) (X := sK I mo 4) (L := L') (D := D') (z := none) hl.2.1 hX
    rw [mB_self, mB_t] at h
    exact h) ?_
  rcases ha with ha | ha
  · rw [if_pos (show sK I mo 0 19 = 0 from ha.1.2.1)]
    rw [show sK I a 8 = fun _ => 0 from ha.2.2.1 8 (by omega)]
    rfl
  · obtain ⟨H, hP, hS⟩ := ha.n f1 f3
    rw [if_neg (show ¬ sK I mo 0 19 = 0 by rw [show sK I mo 0 19 = 1 from ha.1.2]; decide)]
    exact (vl_cnt hS (s := 8) (by omega)).symm
theorem st_buffered (hw : Wd Γ k xo mo T R S I L) (hk : k ≤ 600) (hol : mo + 18 ≤ ol) : BSt Γ k xo mo ol 100 100 Y_X8_buffered Y_X9_buffered [] [(0, 0)] T R S I L := by
  have hw0 := hw
  obtain ⟨p, p2, a, a2, u, nx, hl, hb, ha⟩ := hw
  obtain ⟨c, nf, nl, ln, hc⟩ := Wc ha
  obtain ⟨hair, hX, ⟨c1, c2, c3, c4⟩, ⟨f1, f2, f3⟩, ⟨l1, l2, l3⟩, ⟨n1, n2, n3⟩, mm, lw⟩ := hc
  refine BSt.q0 hw0 hol (fun D => by
    have h := ex_buffered (Γ := Γ) (d := 100) (T := T) (R := R) (S := S) (I := I) (L := L) (D := D) (z := none) hl.1
    skip
    exact h) (fun L' D' => by
    have h := ex_mbuffered (Γ := Γ) (d := 100) (R := R) (I := I) (A := sK I mo) (X := sK I mo 4) (L := L') (D := D') (z := none) hl.2.1 
    rw [mB_self, mB_t] at h
    exact h) ?_
  obtain ⟨⟨b, q, _, h2, h3, _⟩, _⟩ := hb
  exact h3.trans h2.symm
theorem st_parseError (hw : Wd Γ k xo mo T R S I L) (hk : k ≤ 600) (hol : mo + 18 ≤ ol) : BSt Γ k xo mo ol 100 100 Y_X8_parseError Y_X9_parseError [] [(0, 0)] T R S I L := by
  have hw0 := hw
  obtain ⟨p, p2, a, a2, u, nx, hl, hb, ha⟩ := hw
  obtain ⟨c, nf, nl, ln, hc⟩ := Wc ha
  obtain ⟨hair, hX, ⟨c1, c2, c3, c4⟩, ⟨f1, f2, f3⟩, ⟨l1, l2, l3⟩, ⟨n1, n2, n3⟩, mm, lw⟩ := hc
  refine BSt.q0 hw0 hol (fun D => by
    have h := ex_parseError (Γ := Γ) (d := 100) (T := T) (R := R) (S := S) (I := I) (L := L) (D := D) (z := none) hl.1
    skip
    exact h) (fun L' D' => by
    have h := ex_mparseError (Γ := Γ) (d := 100) (R := R) (I := I) (A := sK I mo) (X := sK I mo 4) (L := L') (D := D') (z := none) hl.2.1 
    rw [mB_self, mB_t] at h
    exact h) ?_
  exact hb.2.1.1.symm
theorem st_errorPosition (hw : Wd Γ k xo mo T R S I L) (hk : k ≤ 600) (hol : mo + 18 ≤ ol) : BSt Γ k xo mo ol 100 100 Y_X8_errorPosition Y_X9_errorPosition [] [(0, 0)] T R S I L := by
  have hw0 := hw
  obtain ⟨p, p2, a, a2, u, nx, hl, hb, ha⟩ := hw
  obtain ⟨c, nf, nl, ln, hc⟩ := Wc ha
  obtain ⟨hair, hX, ⟨c1, c2, c3, c4⟩, ⟨f1, f2, f3⟩, ⟨l1, l2, l3⟩, ⟨n1, n2, n3⟩, mm, lw⟩ := hc
  refine BSt.q0 hw0 hol (fun D => by
    have h := ex_errorPosition (Γ := Γ) (d := 100) (T := T) (R := R) (S := S) (I := I) (L := L) (D := D) (z := none) hl.1
    skip
    exact h) (fun L' D' => by
    have h := ex_merrorPosition (Γ := Γ) (d := 100) (R := R) (I := I) (A := sK I mo) (X := sK I mo 4) (L := L') (D := D') (z := none) hl.2.1 
    rw [mB_self, mB_t] at h
    exact h) ?_
  exact hb.2.1.2.symm
theorem st_undoable (hw : Wd Γ k xo mo T R S I L) (hk : k ≤ 600) (hol : mo + 18 ≤ ol) : BSt Γ k xo mo ol 100 100 Y_X8_undoable Y_X9_undoable [] [(0, 0)] T R S I L := by
  have hw0 := hw
  obtain ⟨p, p2, a, a2, u, nx, hl, hb, ha⟩ := hw
  obtain ⟨c, nf, nl, ln, hc⟩ := Wc ha
  obtain ⟨hair, hX, ⟨c1, c2, c3, c4⟩, ⟨f1, f2, f3⟩, ⟨l1, l2, l3⟩, ⟨n1, n2, n3⟩, mm, lw⟩ := hc
  refine BSt.q0 hw0 hol (fun D => by
    have h := ex_undoable (Γ := Γ) (d := 92) (K := sK I a) (I := I) (L := L) (D := D) hl.1
    rw [blk_sK] at h
    exact h) (fun L' D' => by
    have h := ex_mundoable (Γ := Γ) (d := 100) (R := R) (I := I) (A := sK I mo) (X := sK I mo 4) (L := L') (D := D') (z := none) hl.2.1 
    rw [mB_self, mB_t] at h
    exact h) ?_
  exact hb.2.2.2.2.2.2.2.2.2.trans hb.2.2.2.2.2.2.2.1.symm
theorem sQ_n {m : Nat} (h1 : 1 ≤ m) (h4 : m ≤ 4) : sQ (nI m) = nI (2 * m - 1) ∧ 2 * nI m - 1 = nI (2 * m - 1) := by
  have : m = 1 ∨ m = 2 ∨ m = 3 ∨ m = 4 := by omega
  rcases this with rfl | rfl | rfl | rfl <;> decide
theorem sQ_o {w : Int32} (h : inI w (nI 1) (nI 4) = 0) : sQ w = -1 := by
  unfold sQ
  have h3 : inI w 1 3 = 0 := by
    rcases in_lh (lo := 1) (hi := 3) (by omega) (by omega) w with ⟨m, m1, m2, rfl, m4, m5⟩ | ⟨m4, _⟩
    · have : m = 1 ∨ m = 2 ∨ m = 3 := by omega
      rcases this with rfl | rfl | rfl <;> exact absurd h (by decide)
    · exact m4
  rw [if_pos h3, if_neg (fun e => by rw [e] at h; exact absurd h (by decide))]
theorem idx_1 {w : Int32} {c : Nat} (hc : c + 1 < 2 ^ 31) (h1 : 1 ≤ c) : (∃ q, q < c ∧ w = nI (q + 1) ∧ w - 1 = nI q ∧ eIdx (w - 1) (nI c) = 0 ∧ inI w (nI 1) (nI c) = 1) ∨ (eIdx (w - 1) (nI c) = 2 ∧ inI w (nI 1) (nI c) = 0) := by
  have es : ∀ q, nI (q + 1) - 1 = nI q := fun q => (show nI (q + 1) = nI q + 1 from nI_succ q) ▸ Int32.add_sub_cancel _ _
  rcases in_lh (lo := 1) (hi := c) h1 hc w with ⟨m, m1, m2, rfl, m4, m5⟩ | ⟨m4, m5⟩
  · obtain ⟨q, rfl⟩ : ∃ q, m = q + 1 := ⟨m - 1, by omega⟩
    refine Or.inl ⟨q, by omega, rfl, es q, ?_, m4⟩
    rw [es]
    rcases in_n (c := c) (by omega) (nI q) with ⟨n, _, _, _, g⟩ | ⟨g, _⟩
    · exact g
    · exfalso
      have := inI_iff.mpr ⟨show (0 : Int32) ≤ nI q from nI_le (a := 0) (by omega) (by omega), show nI q ≤ nI c - 1 from ?_⟩
      · exact this g
      · obtain ⟨c', rfl⟩ : ∃ c', c = c' + 1 := ⟨c - 1, by omega⟩
        rw [es]
        exact nI_le (by omega) (by omega)
  · refine Or.inr ⟨?_, m4⟩
    rcases in_n (c := c) (by omega) (w - 1) with ⟨n, n1, n2, _, g⟩ | ⟨_, g⟩
    · exfalso
      have e : w = nI (n + 1) := by
        rw [show nI (n + 1) = nI n + 1 from nI_succ n, ← n2, Int32.sub_add_cancel]
      rw [e] at m4
      exact inI_iff.mpr ⟨nI_le (by omega) (by omega), nI_le (by omega) (by omega)⟩ m4
    · exact g
theorem st_waiting (hw : Wd Γ k xo mo T R S I L) (hk : k ≤ 600) (hol : mo + 18 ≤ ol) {b : Int32} : BSt Γ k xo mo ol 100 100 Y_X8_waiting Y_X9_waiting [.int b] [(0, 0), (1, 1), (3, 2)] T R S I L := by
  have hw0 := hw
  obtain ⟨p, p2, a, a2, u, nx, hl, hb, ha⟩ := hw
  obtain ⟨c, nf, nl, ln, hc⟩ := Wc ha
  obtain ⟨hair, hX, ⟨c1, c2, c3, c4⟩, ⟨f1, f2, f3⟩, ⟨l1, l2, l3⟩, ⟨n1, n2, n3⟩, mm, lw⟩ := hc
  have hg : (orE (eAir (I xo)) (orE (eRng b 1 4) 0) = 1 ∧ t2 (sK I mo) (inI b 1 4) = 1) ∨ (orE (eAir (I xo)) (orE (eRng b 1 4) 0) = 3 ∧ t2 (sK I mo) (inI b 1 4) = 2) ∨ ∃ m, 1 ≤ m ∧ m ≤ 4 ∧ b = nI m ∧ orE (eAir (I xo)) (orE (eRng b 1 4) 0) = 0 ∧ t2 (sK I mo) (inI b 1 4) = 0 ∧ mOk (sK I mo) 1 = 1 ∧ inI b 1 4 = 1 ∧ I xo 1 = 1 := by
    unfold t2
    rcases gd_a hair with ⟨g1, g2⟩ | ⟨g1, g5, g2⟩
    · exact Or.inl ⟨by rw [g1]; rfl, by rw [if_pos (g2 1).2, (g2 1).1]⟩
    · have e1 : mOk (sK I mo) 1 = 1 := (g2 1).2
      have e2 : tI (sK I mo) 1 = 0 := (g2 1).1
      rcases in_lh (lo := 1) (hi := 4) (by omega) (by omega) b with ⟨m, m1, m2, m3, m4, m5⟩ | ⟨m4, m5⟩
      · exact Or.inr (Or.inr ⟨m, m1, m2, m3, by rw [g1, show eRng b 1 4 = 0 from m5]; rfl, by rw [if_neg (by rw [e1]; decide), if_neg (by rw [show inI b 1 4 = 1 from m4]; decide), e2], e1, m4, g5⟩)
      · exact Or.inr (Or.inl ⟨by rw [g1, show eRng b 1 4 = 3 from m5]; rfl, by rw [if_neg (by rw [e1]; decide), if_pos (show inI b 1 4 = 0 from m4)]⟩)
  refine BSt.q hw0 hol (fun D => by
    have h := ex_waiting (Γ := Γ) (d := 92) (K := sK I a) (L := L) (D := D) (hl.1.cx I) (w := b)
    rw [blk_sK] at h
    exact h) (fun L' D' => by
    have h := ex_mwaiting (Γ := Γ) (d := 97) (R := R) (I := I) (A := sK I mo) (X := sK I mo 4) (L := L') (D := D') (z := none) hl.2.1 hX c4 (b := b)
    rw [mB_self, mB_t] at h
    exact h) ?_ ?_
  · rcases hg with ⟨g1, g2⟩ | ⟨g1, g2⟩ | ⟨m, _, _, _, g1, g2, _⟩ <;> (rw [g1, g2]; decide)
  · intro h0
    rcases hg with ⟨g1, g2⟩ | ⟨g1, g2⟩ | ⟨m, m1, m2, rfl, g1, g2, g3, g4, g5⟩
    · rw [g1] at h0; cases h0
    · rw [g1] at h0; cases h0
    · obtain ⟨H, hP, hS⟩ := (WA.of ha g5).n f1 f3
      rw [if_neg (by rw [g3]; decide), if_neg (by rw [g4]; decide), (sQ_n m1 m2).1, (sQ_n m1 m2).2]
      have e := vl_cnt hS (s := 2 * m - 1) (by omega)
      rw [c4] at e
      exact e.symm
theorem st_queueAt (hw : Wd Γ k xo mo T R S I L) (hk : k ≤ 600) (hol : mo + 18 ≤ ol) {w x : Int32} : BSt Γ k xo mo ol 100 100 Y_X8_queueAt Y_X9_queueAt [.int w, .int x] [(0, 0), (1, 1), (2, 2)] T R S I L := by
  have hw0 := hw
  obtain ⟨p, p2, a, a2, u, nx, hl, hb, ha⟩ := hw
  obtain ⟨c, nf, nl, ln, hc⟩ := Wc ha
  obtain ⟨hair, hX, ⟨c1, c2, c3, c4⟩, ⟨f1, f2, f3⟩, ⟨l1, l2, l3⟩, ⟨n1, n2, n3⟩, mm, lw⟩ := hc
  have hg : (orE (eAir (I xo)) (orE (eIdx (w - 1) 4) (orE (eIdx x (atV 14 (sK I a 8) (2 * w - 1))) 0)) = 1 ∧ tI (sK I mo) (aQ (sK I mo 4) c w x) = 1) ∨ (orE (eAir (I xo)) (orE (eIdx (w - 1) 4) (orE (eIdx x (atV 14 (sK I a 8) (2 * w - 1))) 0)) = 2 ∧ tI (sK I mo) (aQ (sK I mo 4) c w x) = 2) ∨ (orE (eAir (I xo)) (orE (eIdx (w - 1) 4) (orE (eIdx x (atV 14 (sK I a 8) (2 * w - 1))) 0)) = 0 ∧ tI (sK I mo) (aQ (sK I mo 4) c w x) = 0 ∧ mOk (sK I mo) (aQ (sK I mo 4) c w x) = 1 ∧ I xo 1 = 1 ∧ sQ w = 2 * w - 1) := by
    rcases gd_a hair with ⟨g1, g2⟩ | ⟨g1, g5, g2⟩
    · exact Or.inl ⟨by rw [g1]; rfl, (g2 _).1⟩
    · obtain ⟨H, hP, hS⟩ := (WA.of ha g5).n f1 f3
      unfold aQ
      rcases idx_1 (w := w) (c := 4) (by omega) (by omega) with ⟨q, q1, rfl, q2, q3, q4⟩ | ⟨q3, q4⟩
      · have e := vl_cnt hS (s := 2 * (q + 1) - 1) (by omega)
        rw [c4] at e
        rw [g1, show eIdx (nI (q + 1) - 1) 4 = 0 from q3, (sQ_n (show 1 ≤ q + 1 by omega) (by omega)).1, (sQ_n (show 1 ≤ q + 1 by omega) (by omega)).2, if_neg (nI_ne1 (show 2 * (q + 1) - 1 < 2 ^ 31 by omega)), show atV 14 (sK I a 8) (nI (2 * (q + 1) - 1)) = nI (mIn (sK I mo 4) (nI (2 * (q + 1) - 1)) c) from e]
        rcases in_n (c := mIn (sK I mo 4) (nI (2 * (q + 1) - 1)) c) (by
          have h9 : mIn (sK I mo 4) (nI (2 * (q + 1) - 1)) c ≤ c := by
            rw [mIn_ct]
            exact fb_ct_le _ _
          omega) x with ⟨n, n1, n2, n3, n4⟩ | ⟨n3, n4⟩
        · rw [n4, n3]
          exact Or.inr (Or.inr ⟨rfl, (g2 _).1, (g2 _).2, g5, rfl⟩)
        · rw [n4, n3]
          exact Or.inr (Or.inl ⟨rfl, (g2 _).1⟩)
      · rw [g1, show eIdx (w - 1) 4 = 2 from q3, if_pos (sQ_o q4)]
        exact Or.inr (Or.inl ⟨rfl, (g2 _).1⟩)
  refine BSt.q hw0 hol (fun D => by
    have h := ex_queueAt (Γ := Γ) (d := 92) (K := sK I a) (L := L) (D := D) (hl.1.cx I) (w := w) (x := x) c2 c1
    rw [blk_sK] at h
    exact h) (fun L' D' => by
    have h := ex_mqueueAt (Γ := Γ) (d := 98) (R := R) (I := I) (A := sK I mo) (X := sK I mo 4) (L := L') (D := D') (z := none) hl.2.1 hX c4 (w := w) (x := x)
    rw [mB_self, mB_t] at h
    exact h) ?_ ?_
  · rcases hg with ⟨g1, g2⟩ | ⟨g1, g2⟩ | ⟨g1, g2, _⟩ <;> (rw [g1, g2]; decide)
  · intro h0
    rcases hg with ⟨g1, g2⟩ | ⟨g1, g2⟩ | ⟨g1, g2, g3, g5, g6⟩
    · rw [g1] at h0; cases h0
    · rw [g1] at h0; cases h0
    · obtain ⟨H, hP, hS⟩ := (WA.of ha g5).n f1 f3
      rw [if_neg (by rw [g3]; decide), g6]
      have e := vl_q hS f3 f1 hk (2 * w - 1) x
      rw [c4] at e
      exact e.symm
end Q10
