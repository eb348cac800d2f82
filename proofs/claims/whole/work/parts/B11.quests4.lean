/-! NO AIRPORT: calls that look ahead or change; MACHINES, LANES, EVENTS: BOTH SIDES -/
section C11
variable {Γ : Gam} {d xo a p : Nat} {T : JT} {R S : JR} {I K P : JI} {L : JL} {D : JD} {O : Nat → Int32}
theorem ex_isKept_no (hx : cX T R S I xo a p O P) (h0 : O 1 = 0) {b : Int32} : Ex Γ (d + 8) Y_X8_isKept [.ref xo, .int b] (T, R, S, blk 19 I a K, L, D, none) (ec 1) (es 1) (cE 1 (T, R, S, blk 19 I a K, L, D, none) (fun _ _ => False)) := by
  have e0 : eAir O = 1 := if_pos h0
  have e1 : orE (eAir O) (orE (eIdx b (K 1 0)) 0) = 1 := by rw [e0]; rfl
  rw [show (1 : Nat) = orE (orE (eAir O) (orE (eIdx b (K 1 0)) 0)) 0 by rw [orE_0, e1]]
  refine Ex.of (by decide) (by simp [Value.category]) (Nat.le_of_ble_eq_true rfl) rfl ?_
  refine jj_aload_n (q := 1) dX8_isKept_0 rfl rfl rfl ?_
  refine jj_iload_n (q := 2) dX8_isKept_1 rfl rfl rfl ?_
  refine jj_nV1 (n2 := 0) (q := 5) dX8_isKept_2 yk_X8_needBag ml_X8_113 hx.t (ex_needBag (d := d) hx) rfl rfl rfl rfl (fun g => ?_)
  rw [e1] at g
  cases g
theorem ex_loadedIn_no (hx : cX T R S I xo a p O P) (h0 : O 1 = 0) {n : Int32} : Ex Γ (d + 8) Y_X8_loadedIn [.ref xo, .int n] (T, R, S, blk 19 I a K, L, D, none) (ec 1) (es 1) (cE 1 (T, R, S, blk 19 I a K, L, D, none) (fun _ _ => False)) := by
  have e0 : eAir O = 1 := if_pos h0
  have e1 : eAir O = 1 := by rw [e0]
  rw [show (1 : Nat) = orE (eAir O) 0 by rw [orE_0, e1]]
  refine Ex.of (by decide) (by simp [Value.category]) (Nat.le_of_ble_eq_true rfl) rfl ?_
  refine jj_aload_n (q := 1) dX8_loadedIn_0 rfl rfl rfl ?_
  refine jj_nV0 (n2 := 0) (q := 4) dX8_loadedIn_1 yk_X8_needAirport ml_X8_168 hx.t (ex_needAirport (d := d + 1) hx) rfl rfl rfl rfl (fun g => ?_)
  rw [e1] at g
  cases g
theorem ex_shortIn_no (hx : cX T R S I xo a p O P) (h0 : O 1 = 0) {n : Int32} : Ex Γ (d + 8) Y_X8_shortIn [.ref xo, .int n] (T, R, S, blk 19 I a K, L, D, none) (ec 1) (es 1) (cE 1 (T, R, S, blk 19 I a K, L, D, none) (fun _ _ => False)) := by
  have e0 : eAir O = 1 := if_pos h0
  have e1 : eAir O = 1 := by rw [e0]
  rw [show (1 : Nat) = orE (eAir O) 0 by rw [orE_0, e1]]
  refine Ex.of (by decide) (by simp [Value.category]) (Nat.le_of_ble_eq_true rfl) rfl ?_
  refine jj_aload_n (q := 1) dX8_shortIn_0 rfl rfl rfl ?_
  refine jj_nV0 (n2 := 0) (q := 4) dX8_shortIn_1 yk_X8_needAirport ml_X8_168 hx.t (ex_needAirport (d := d + 1) hx) rfl rfl rfl rfl (fun g => ?_)
  rw [e1] at g
  cases g
theorem ex_timeToClear_no (hx : cX T R S I xo a p O P) (h0 : O 1 = 0) {n : Int32} : Ex Γ (d + 8) Y_X8_timeToClear [.ref xo, .int n] (T, R, S, blk 19 I a K, L, D, none) (ec 1) (es 1) (cE 1 (T, R, S, blk 19 I a K, L, D, none) (fun _ _ => False)) := by
  have e0 : eAir O = 1 := if_pos h0
  have e1 : eAir O = 1 := by rw [e0]
  rw [show (1 : Nat) = orE (eAir O) 0 by rw [orE_0, e1]]
  refine Ex.of (by decide) (by simp [Value.category]) (Nat.le_of_ble_eq_true rfl) rfl ?_
  refine jj_aload_n (q := 1) dX8_timeToClear_0 rfl rfl rfl ?_
  refine jj_nV0 (n2 := 0) (q := 4) dX8_timeToClear_1 yk_X8_needAirport ml_X8_168 hx.t (ex_needAirport (d := d + 1) hx) rfl rfl rfl rfl (fun g => ?_)
  rw [e1] at g
  cases g
theorem ex_advance_no (hx : cX T R S I xo a p O P) (h0 : O 1 = 0) {n : Int32} : Ex Γ (d + 8) Y_X8_advance [.ref xo, .int n] (T, R, S, blk 19 I a K, L, D, none) (ec 1) (es 1) (cE 1 (T, R, S, blk 19 I a K, L, D, none) (fun _ _ => False)) := by
  have e0 : eAir O = 1 := if_pos h0
  have e1 : eAir O = 1 := by rw [e0]
  rw [show (1 : Nat) = orE (eAir O) 0 by rw [orE_0, e1]]
  refine Ex.of (by decide) (by simp [Value.category]) (Nat.le_of_ble_eq_true rfl) rfl ?_
  refine jj_aload_n (q := 1) dX8_advance_0 rfl rfl rfl ?_
  refine jj_nV0 (n2 := 0) (q := 4) dX8_advance_1 yk_X8_needAirport ml_X8_168 hx.t (ex_needAirport (d := d + 1) hx) rfl rfl rfl rfl (fun g => ?_)
  rw [e1] at g
  cases g
theorem ex_bestDelay_no (hx : cX T R S I xo a p O P) (h0 : O 1 = 0) {f n : Int32} : Ex Γ (d + 8) Y_X8_bestDelay [.ref xo, .int f, .int n] (T, R, S, blk 19 I a K, L, D, none) (ec 1) (es 1) (cE 1 (T, R, S, blk 19 I a K, L, D, none) (fun _ _ => False)) := by
  have e0 : eAir O = 1 := if_pos h0
  have e1 : orE (eAir O) (orE (eIdx f (P 0 6)) 0) = 1 := by rw [e0]; rfl
  rw [show (1 : Nat) = orE (orE (eAir O) (orE (eIdx f (P 0 6)) 0)) 0 by rw [orE_0, e1]]
  refine Ex.of (by decide) (by simp [Value.category]) (Nat.le_of_ble_eq_true rfl) rfl ?_
  refine jj_aload_n (q := 1) dX8_bestDelay_0 rfl rfl rfl ?_
  refine jj_iload_n (q := 2) dX8_bestDelay_1 rfl rfl rfl ?_
  refine jj_nV1 (n2 := 0) (q := 5) dX8_bestDelay_2 yk_X8_needFlight ml_X8_229 hx.t (ex_needFlight (d := d) hx) rfl rfl rfl rfl (fun g => ?_)
  rw [e1] at g
  cases g
theorem ex_withoutLane_no (hx : cX T R S I xo a p O P) (h0 : O 1 = 0) {l n : Int32} : Ex Γ (d + 8) Y_X8_withoutLane [.ref xo, .int l, .int n] (T, R, S, blk 19 I a K, L, D, none) (ec 1) (es 1) (cE 1 (T, R, S, blk 19 I a K, L, D, none) (fun _ _ => False)) := by
  have e0 : eAir O = 1 := if_pos h0
  have e1 : orE (eAir O) (orE (eIdx l (P 0 8)) 0) = 1 := by rw [e0]; rfl
  rw [show (1 : Nat) = orE (orE (eAir O) (orE (eIdx l (P 0 8)) 0)) 0 by rw [orE_0, e1]]
  refine Ex.of (by decide) (by simp [Value.category]) (Nat.le_of_ble_eq_true rfl) rfl ?_
  refine jj_aload_n (q := 1) dX8_withoutLane_0 rfl rfl rfl ?_
  refine jj_iload_n (q := 2) dX8_withoutLane_1 rfl rfl rfl ?_
  refine jj_nV1 (n2 := 0) (q := 5) dX8_withoutLane_2 yk_X8_needLane ml_X8_210 hx.t (ex_needLane (d := d) hx) rfl rfl rfl rfl (fun g => ?_)
  rw [e1] at g
  cases g
theorem ex_report_no (hx : cX T R S I xo a p O P) (h0 : O 1 = 0) : Ex Γ (d + 8) Y_X8_report [.ref xo] (T, R, S, blk 19 I a K, L, D, none) (ec 1) (es 1) (cE 1 (T, R, S, blk 19 I a K, L, D, none) (fun _ _ => False)) := by
  have e0 : eAir O = 1 := if_pos h0
  have e1 : eAir O = 1 := by rw [e0]
  rw [show (1 : Nat) = orE (eAir O) 0 by rw [orE_0, e1]]
  refine Ex.of (by decide) (by simp [Value.category]) (Nat.le_of_ble_eq_true rfl) rfl ?_
  refine jj_aload_n (q := 1) dX8_report_0 rfl rfl rfl ?_
  refine jj_nV0 (n2 := 0) (q := 4) dX8_report_1 yk_X8_needAirport ml_X8_168 hx.t (ex_needAirport (d := d + 1) hx) rfl rfl rfl rfl (fun g => ?_)
  rw [e1] at g
  cases g
theorem ex_map_no (hx : cX T R S I xo a p O P) (h0 : O 1 = 0) : Ex Γ (d + 8) Y_X8_map [.ref xo] (T, R, S, blk 19 I a K, L, D, none) (ec 1) (es 1) (cE 1 (T, R, S, blk 19 I a K, L, D, none) (fun _ _ => False)) := by
  have e0 : eAir O = 1 := if_pos h0
  have e1 : eAir O = 1 := by rw [e0]
  rw [show (1 : Nat) = orE (eAir O) 0 by rw [orE_0, e1]]
  refine Ex.of (by decide) (by simp [Value.category]) (Nat.le_of_ble_eq_true rfl) rfl ?_
  refine jj_aload_n (q := 1) dX8_map_0 rfl rfl rfl ?_
  refine jj_nV0 (n2 := 0) (q := 4) dX8_map_1 yk_X8_needAirport ml_X8_168 hx.t (ex_needAirport (d := d + 1) hx) rfl rfl rfl rfl (fun g => ?_)
  rw [e1] at g
  cases g
theorem ex_timetable_no (hx : cX T R S I xo a p O P) (h0 : O 1 = 0) : Ex Γ (d + 8) Y_X8_timetable [.ref xo] (T, R, S, blk 19 I a K, L, D, none) (ec 1) (es 1) (cE 1 (T, R, S, blk 19 I a K, L, D, none) (fun _ _ => False)) := by
  have e0 : eAir O = 1 := if_pos h0
  have e1 : eAir O = 1 := by rw [e0]
  rw [show (1 : Nat) = orE (eAir O) 0 by rw [orE_0, e1]]
  refine Ex.of (by decide) (by simp [Value.category]) (Nat.le_of_ble_eq_true rfl) rfl ?_
  refine jj_aload_n (q := 1) dX8_timetable_0 rfl rfl rfl ?_
  refine jj_nV0 (n2 := 0) (q := 4) dX8_timetable_1 yk_X8_needAirport ml_X8_168 hx.t (ex_needAirport (d := d + 1) hx) rfl rfl rfl rfl (fun g => ?_)
  rw [e1] at g
  cases g
end C11
section Q11
variable {Γ : Gam} {k xo mo ol : Nat} {T : JT} {R S : JR} {I : JI} {L : JL}
theorem gd_m {p : Nat} (h : hAir I xo mo) (mm : ∀ q, q < 3 → nB 5 (I (mo + 2) (3 + q)) ∧ I (p + 1) q = I (mo + 2) (3 + q)) (lv m : Int32) : (orE (eAir (I xo)) (orE (eIdx (lv - 1) 3) (orE (eIdx m (atV 3 (sK I p 1) (lv - 1))) 0)) = 1 ∧ tI (sK I mo) (mac (sK I mo) lv m) = 1 ∧ mOk (sK I mo) (mac (sK I mo) lv m) = 0) ∨ (orE (eAir (I xo)) (orE (eIdx (lv - 1) 3) (orE (eIdx m (atV 3 (sK I p 1) (lv - 1))) 0)) = 2 ∧ tI (sK I mo) (mac (sK I mo) lv m) = 2 ∧ mOk (sK I mo) (mac (sK I mo) lv m) = 0) ∨ ∃ q j, q < 3 ∧ j < 4 ∧ lv = nI (q + 1) ∧ m = nI j ∧ orE (eAir (I xo)) (orE (eIdx (lv - 1) 3) (orE (eIdx m (atV 3 (sK I p 1) (lv - 1))) 0)) = 0 ∧ tI (sK I mo) (mac (sK I mo) lv m) = 0 ∧ mOk (sK I mo) (mac (sK I mo) lv m) = 1 ∧ I xo 1 = 1 := by
  rcases gd_a h with ⟨g1, g2⟩ | ⟨g1, g5, g2⟩
  · exact Or.inl ⟨by rw [g1]; rfl, (g2 _).1, (g2 _).2⟩
  · unfold mac
    rcases idx_1 (w := lv) (c := 3) (by omega) (by omega) with ⟨q, q1, rfl, q2, q3, q4⟩ | ⟨q3, q4⟩
    · obtain ⟨⟨m1, m2⟩, m3⟩ := mm q q1
      rw [g1, show eIdx (nI (q + 1) - 1) 3 = 0 from q3, if_neg (by rw [show inI (nI (q + 1)) 1 3 = 1 from q4]; decide), q2, atV_nI q1 (by omega), nN_nI (by omega), show sK I p 1 q = nI (nN (I (mo + 2) (3 + q))) from m3.trans m1, show sK I mo 2 (2 + (q + 1)) = nI (nN (I (mo + 2) (3 + q))) by rw [show 2 + (q + 1) = 3 + q by omega]; exact m1]
      rcases in_n (c := nN (I (mo + 2) (3 + q))) (by omega) m with ⟨n, n1, n2, n3, n4⟩ | ⟨n3, n4⟩
      · rw [n4, n3]
        exact Or.inr (Or.inr ⟨q, n, q1, by omega, rfl, n2, rfl, (g2 _).1, (g2 _).2, g5⟩)
      · rw [n4, n3]
        exact Or.inr (Or.inl ⟨rfl, (g2 _).1, (g2 _).2⟩)
    · rw [g1, show eIdx (lv - 1) 3 = 2 from q3, if_pos (show inI lv 1 3 = 0 from q4)]
      exact Or.inr (Or.inl ⟨rfl, (g2 _).1, (g2 _).2⟩)
theorem st_machineAt (hw : Wd Γ k xo mo T R S I L) (hk : k ≤ 600) (hol : mo + 18 ≤ ol) {lv m : Int32} : BSt Γ k xo mo ol 100 100 Y_X8_machineAt Y_X9_machineAt [.int lv, .int m] [(0, 0), (1, 1), (2, 2)] T R S I L := by
  have hw0 := hw
  obtain ⟨p, p2, a, a2, u, nx, hl, hb, ha⟩ := hw
  obtain ⟨c, nf, nl, ln, hc⟩ := Wc ha
  obtain ⟨hair, hX, ⟨c1, c2, c3, c4⟩, ⟨f1, f2, f3⟩, ⟨l1, l2, l3⟩, ⟨n1, n2, n3⟩, mm, lw⟩ := hc
  refine BSt.q hw0 hol (fun D => by
    have h := ex_machineAt (Γ := Γ) (d := 92) (K := sK I a) (L := L) (D := D) (hl.1.cx I) (lv := lv) (m := m)
    rw [blk_sK, orE_0] at h
    exact h) (fun L' D' => by
    have h := ex_mmachineAt (Γ := Γ) (d := 98) (R := R) (I := I) (A := sK I mo) (X := sK I mo 4) (L := L') (D := D') (z := none) hl.2.1 (fun q hq => (mm q hq).1) (lv := lv) (m := m)
    rw [mB_self, mB_t] at h
    exact h) ?_ ?_
  · rcases gd_m (p := p) hair mm lv m with ⟨g1, g2, _⟩ | ⟨g1, g2, _⟩ | ⟨q, j, _, _, _, _, g1, g2, _⟩ <;> (rw [g1, g2]; decide)
  · intro h0
    rcases gd_m (p := p) hair mm lv m with ⟨g1, g2, _⟩ | ⟨g1, g2, _⟩ | ⟨q, j, hq, hj, rfl, rfl, g1, g2, g3, g5⟩
    · rw [g1] at h0; cases h0
    · rw [g1] at h0; cases h0
    · obtain ⟨H, hP, hS⟩ := (WA.of ha g5).n f1 f3
      rw [if_neg (by rw [g3]; decide), nN_nI (show q + 1 < 2 ^ 31 by omega), nN_nI (show j < 2 ^ 31 by omega), mi_n, atV_nI (by omega) (by omega), Nat.add_sub_cancel, show 109 + 4 * q + j = 109 + (4 * q + j) by omega]
      exact (hS.1.ow (by omega)).symm
theorem st_brokenUntil (hw : Wd Γ k xo mo T R S I L) (hk : k ≤ 600) (hol : mo + 18 ≤ ol) {lv m : Int32} : BSt Γ k xo mo ol 100 100 Y_X8_brokenUntil Y_X9_brokenUntil [.int lv, .int m] [(0, 0), (1, 1), (2, 2)] T R S I L := by
  have hw0 := hw
  obtain ⟨p, p2, a, a2, u, nx, hl, hb, ha⟩ := hw
  obtain ⟨c, nf, nl, ln, hc⟩ := Wc ha
  obtain ⟨hair, hX, ⟨c1, c2, c3, c4⟩, ⟨f1, f2, f3⟩, ⟨l1, l2, l3⟩, ⟨n1, n2, n3⟩, mm, lw⟩ := hc
  refine BSt.q hw0 hol (fun D => by
    have h := ex_brokenUntil (Γ := Γ) (d := 92) (K := sK I a) (L := L) (D := D) (hl.1.cx I) (lv := lv) (m := m)
    rw [blk_sK, orE_0] at h
    exact h) (fun L' D' => by
    have h := ex_mbrokenUntil (Γ := Γ) (d := 98) (R := R) (I := I) (A := sK I mo) (X := sK I mo 4) (L := L') (D := D') (z := none) hl.2.1 (fun q hq => (mm q hq).1) (lv := lv) (m := m)
    rw [mB_self, mB_t] at h
    exact h) ?_ ?_
  · rcases gd_m (p := p) hair mm lv m with ⟨g1, g2, _⟩ | ⟨g1, g2, _⟩ | ⟨q, j, _, _, _, _, g1, g2, _⟩ <;> (rw [g1, g2]; decide)
  · intro h0
    rcases gd_m (p := p) hair mm lv m with ⟨g1, g2, _⟩ | ⟨g1, g2, _⟩ | ⟨q, j, hq, hj, rfl, rfl, g1, g2, g3, g5⟩
    · rw [g1] at h0; cases h0
    · rw [g1] at h0; cases h0
    · obtain ⟨H, hP, hS⟩ := (WA.of ha g5).n f1 f3
      rw [if_neg (by rw [g3]; decide), nN_nI (show q + 1 < 2 ^ 31 by omega), nN_nI (show j < 2 ^ 31 by omega), mi_n, atV_nI (by omega) (by omega), Nat.add_sub_cancel, show 2073 + 4 * q + j = 2073 + (4 * q + j) by omega]
      exact (hS.1.br (by omega)).symm
theorem st_laneAt (hw : Wd Γ k xo mo T R S I L) (hk : k ≤ 600) (hol : mo + 18 ≤ ol) {l x : Int32} : BSt Γ k xo mo ol 100 100 Y_X8_laneAt Y_X9_laneAt [.int l, .int x] [(0, 0), (1, 1), (2, 2)] T R S I L := by
  have hw0 := hw
  obtain ⟨p, p2, a, a2, u, nx, hl, hb, ha⟩ := hw
  obtain ⟨c, nf, nl, ln, hc⟩ := Wc ha
  obtain ⟨hair, hX, ⟨c1, c2, c3, c4⟩, ⟨f1, f2, f3⟩, ⟨l1, l2, l3⟩, ⟨n1, n2, n3⟩, mm, lw⟩ := hc
  have hg : (orE (orE (eAir (I xo)) (orE (eIdx l (nI nl)) 0)) (orE (eIdx x (atV 4 (sK I a 12) l)) 0) = 1 ∧ tI (sK I mo) (aL (sK I mo) (sK I mo 4) l x) = 1) ∨ (orE (orE (eAir (I xo)) (orE (eIdx l (nI nl)) 0)) (orE (eIdx x (atV 4 (sK I a 12) l)) 0) = 2 ∧ tI (sK I mo) (aL (sK I mo) (sK I mo 4) l x) = 2) ∨ ∃ j i, j < nl ∧ i < mHe (I (mo + 4)) j ∧ l = nI j ∧ x = nI i ∧ orE (orE (eAir (I xo)) (orE (eIdx l (nI nl)) 0)) (orE (eIdx x (atV 4 (sK I a 12) l)) 0) = 0 ∧ tI (sK I mo) (aL (sK I mo) (sK I mo 4) l x) = 0 ∧ mOk (sK I mo) (aL (sK I mo) (sK I mo 4) l x) = 1 ∧ I xo 1 = 1 := by
    rcases gd_a hair with ⟨g1, g2⟩ | ⟨g1, g5, g2⟩
    · exact Or.inl ⟨by rw [g1]; rfl, (g2 _).1⟩
    · obtain ⟨H, hP, hS⟩ := (WA.of ha g5).n f1 f3
      unfold aL
      rw [show sK I mo 2 13 = nI nl from l3]
      rcases in_n (c := nl) (by omega) l with ⟨j, j1, rfl, j3, j4⟩ | ⟨j3, j4⟩
      · have hh := hS.i.he (l := j) (by omega)
        have e := (hS.1.bl (p := j) (by omega)).2
        have hh2 := hh.2
        rw [g1, j4, if_neg (by rw [j3]; decide), atV_nI (by omega) (by omega), nN_nI (by omega), show sK I a 12 j = nI (mHe (I (mo + 4)) j) from e.trans hh.1, show sK I mo 4 (21 + j) = nI (mHe (I (mo + 4)) j) from hh.1]
        rcases in_n (c := mHe (I (mo + 4)) j) (by omega) x with ⟨n, n1, n2, n3, n4⟩ | ⟨n3, n4⟩
        · rw [n4, n3]
          exact Or.inr (Or.inr ⟨j, n, j1, n1, rfl, n2, rfl, (g2 _).1, (g2 _).2, g5⟩)
        · rw [n4, n3]
          exact Or.inr (Or.inl ⟨rfl, (g2 _).1⟩)
      · rw [g1, j4, if_pos j3]
        exact Or.inr (Or.inl ⟨rfl, (g2 _).1⟩)
  refine BSt.q hw0 hol (fun D => by
    have h := ex_laneAt (Γ := Γ) (d := 92) (K := sK I a) (L := L) (D := D) (hl.1.cx I) (l := l) (x := x)
    rw [blk_sK, show sK I p 0 8 = nI nl from l2] at h
    exact h) (fun L' D' => by
    have h := ex_mlaneAt (Γ := Γ) (d := 98) (R := R) (I := I) (A := sK I mo) (X := sK I mo 4) (L := L') (D := D') (z := none) hl.2.1 hX l3 l1 (l := l) (x := x)
    rw [mB_self, mB_t] at h
    exact h) ?_ ?_
  · rcases hg with ⟨g1, g2⟩ | ⟨g1, g2⟩ | ⟨_, _, _, _, _, _, g1, g2, _⟩ <;> (rw [g1, g2]; decide)
  · intro h0
    rcases hg with ⟨g1, g2⟩ | ⟨g1, g2⟩ | ⟨j, i, hj, hi, rfl, rfl, g1, g2, g3, g5⟩
    · rw [g1] at h0; cases h0
    · rw [g1] at h0; cases h0
    · obtain ⟨H, hP, hS⟩ := (WA.of ha g5).n f1 f3
      have hh := (hS.i.he (l := j) (by omega)).2
      rw [if_neg (by rw [g3]; decide), nN_nI (show j < 2 ^ 31 by omega), nN_nI (show i < 2 ^ 31 by omega), show (20 : Int32) = nI 20 from rfl, pk_mul, nI_add, atV_nI (by omega) (by omega)]
      exact (hS.1.la hS.i (by omega) hi).symm
theorem st_event (hw : Wd Γ k xo mo T R S I L) (hk : k ≤ 600) (hol : mo + 18 ≤ ol) {n w : Int32} : BSt Γ k xo mo ol 100 100 Y_X8_event Y_X9_event [.int n, .int w] [(0, 0), (1, 1), (2, 2), (3, 3)] T R S I L := by
  have hw0 := hw
  obtain ⟨p, p2, a, a2, u, nx, hl, hb, ha⟩ := hw
  obtain ⟨c, nf, nl, ln, hc⟩ := Wc ha
  obtain ⟨hair, hX, ⟨c1, c2, c3, c4⟩, ⟨f1, f2, f3⟩, ⟨l1, l2, l3⟩, ⟨n1, n2, n3⟩, mm, lw⟩ := hc
  obtain ⟨ne, e1, e2, e3, e4⟩ : ∃ ne, ne ≤ 300 ∧ sK I a 0 14 = nI ne ∧ sK I mo 4 3 = nI ne ∧ (I xo 1 = 1 → ne = mE (I (mo + 4))) := by
    rcases ha with ha | ha
    · refine ⟨0, by omega, congrFun (ha.2.2.1 0 (by omega)) 14, congrFun ha.2.2.2.2.2 3, fun h => ?_⟩
      rw [ha.1.1] at h
      exact absurd h (by decide)
    · obtain ⟨H, hP, hS⟩ := ha.n f1 f3
      have h3 := (hS.i 3).2.1 rfl
      exact ⟨mE (I (mo + 4)), by have : mE (I (mo + 4)) < 301 := h3.2; omega, (hS.1.get mt014 ⟨fun e => by omega, fun e => by omega, fun e => by omega⟩).trans h3.1, h3.1, fun _ => rfl⟩
  refine BSt.q hw0 hol (fun D => by
    have h := ex_event (Γ := Γ) (d := 92) (K := sK I a) (L := L) (D := D) (hl.1.cx I) (n := n) (w := w)
    rw [blk_sK, e2] at h
    exact h) (fun L' D' => by
    have h := ex_mevent (Γ := Γ) (d := 98) (R := R) (I := I) (A := sK I mo) (X := sK I mo 4) (L := L') (D := D') (z := none) hl.2.1 hX (n := n) (w := w)
    rw [mB_self, mB_t, e3] at h
    exact h) ?_ ?_
  · have ee : orE (eAir (I xo)) (orE (eIdx n (nI ne)) (orE (eRng w 0 3) 0)) = orE (orE (eAir (I xo)) (orE (eIdx n (nI ne)) 0)) (orE (eRng w 0 3) 0) := by
      cases eAir (I xo) with
      | zero => cases eIdx n (nI ne) <;> rfl
      | succ q => rfl
    rw [ee]
    rcases gd_r (vl := 0) (vh := 3) (lo := 0) (hi := 3) rfl rfl hair (c := ne) (by omega) (by omega) (by omega) n w with ⟨q, t, g0, g1, g2⟩ | ⟨j, m, _, _, _, _, _, g1, g2, _⟩
    · rw [g1, g2]
      rcases g0 with ⟨rfl, rfl⟩ | ⟨rfl, rfl⟩ | ⟨rfl, rfl⟩ <;> decide
    · rw [g1, g2]
      decide
  · intro h0
    have ee : orE (eAir (I xo)) (orE (eIdx n (nI ne)) (orE (eRng w 0 3) 0)) = orE (orE (eAir (I xo)) (orE (eIdx n (nI ne)) 0)) (orE (eRng w 0 3) 0) := by
      cases eAir (I xo) with
      | zero => cases eIdx n (nI ne) <;> rfl
      | succ q => rfl
    rw [ee] at h0
    rcases gd_r (vl := 0) (vh := 3) (lo := 0) (hi := 3) rfl rfl hair (c := ne) (by omega) (by omega) (by omega) n w with ⟨q, t, g0, g1, g2⟩ | ⟨j, m, gj, rfl, gm1, gm2, rfl, g1, g2, g3, g4, g5⟩
    · rw [g1] at h0
      omega
    · obtain ⟨H, hP, hS⟩ := (WA.of ha g5).n f1 f3
      rw [if_neg (by rw [g3]; decide), if_neg (by rw [g4]; decide)]
      unfold vEm
      rw [nN_nI (show j < 2 ^ 31 by omega), nN_nI (show m < 2 ^ 31 by omega)]
      exact (vl_ev hS (by rw [← e4 g5]; exact gj) gm2).symm
end Q11
