/-! THE MODEL'S LOOKS AHEAD -/
theorem ag.j {Q X Y : JV} (h : ag X Y) (hJ : mJ Q X) : mJ Q Y := ⟨h.i hJ.1, fun l hl => by rw [h.he hl]; exact hJ.2 l hl⟩
theorem hN.cg {A B : JI} {H : Nat → JV → Nat → Bool} {Q : JV} (h : hN A H Q) (h1 : B 11 = A 11) (h2 : B 12 = A 12) (h3 : B 13 = A 13) (h4 : B 14 = A 14) : hN B H Q := fun X b t ht => by
  obtain ⟨lo, n, e1, e2⟩ := h X b t ht
  exact ⟨lo, n, e1, by rw [vN_cg h1 h2 h3 h4]; exact e2⟩
theorem av_st {A : JI} {u : Nat} {X V : JV} (h : u ≠ 0) : av (st A u X) V = st (av A V) u X := by
  unfold av
  rw [st_ne (fun e => h e.symm), st_comm h]
def s46 (A : JI) (X Y : JV) : JI := st (st A 4 X) 6 Y
def tCl (H : Nat → JV → Nat → Bool) (Q : JV) : Nat → Nat → JV → Int32
  | 0, _, _ => -1
  | k + 1, i, Y => if clX Y (mC Y) = 0 then tCl H Q k (i + 1) (mTick H Q Y) else nI i
def bdL (sv : Nat → Int32) : Nat → Nat → Int32 → Int32 → Int32
  | 0, _, b, _ => b
  | k + 1, i, b, f => if b = -1 then bdL sv k (i + 1) (nI (5 * i)) (sv i) else if sv i < f then bdL sv k (i + 1) (nI (5 * i)) (sv i) else bdL sv k (i + 1) b f
section M63
variable {Γ : Gam} {d : Nat} {T : JT} {R S : JR} {I A : JI} {L : JL} {D : JD} {z : Option Nat} {mo u : Nat} {X Y Q V : JV} {H : Nat → JV → Nat → Bool}
theorem ex_work (hm : hMo T S mo) {N : Nat} (hNb : N < 2 ^ 31) (hQ : mQ Q) (hA : A 2 = Q) (hn : hN A H Q) (hY : mJ Q Y) : Ex Γ (d + 28) Y_X9_ticks [.ref mo, .ref (mo + 6), .int (nI N)] (T, R, S, blk 18 I mo (s46 A X Y), L, D, z) 0 0 (rVV (fun V => (T, R, S, blk 18 I mo (s46 (av A V) X (mRun H Q N Y)), L, D, z))) := by
  have e := ex_mticks (Γ := Γ) (d := d) (T := T) (R := R) (S := S) (I := I) (A := st A 4 X) (L := L) (D := D) (z := z) (u := 6) (X := Y) (V := fun _ => (st A 4 X) 0 28) hm (by omega) hQ (show (st A 4 X) 2 = Q from hA) (hn.cg rfl rfl rfl rfl) hY hNb
  rw [av_self] at e
  refine e.mono (fun o M' h => ?_)
  obtain ⟨V, h1, h2⟩ := h
  exact ⟨V, h1, h2.trans (by simp only [av_st (show (4 : Nat) ≠ 0 by omega), s46])⟩
theorem ex_workT (hm : hMo T S mo) (hQ : mQ Q) (hA : A 2 = Q) (hn : hN A H Q) (hY : mJ Q Y) : Ex Γ (d + 27) Y_X9_tick [.ref mo, .ref (mo + 6)] (T, R, S, blk 18 I mo (s46 A X Y), L, D, z) 0 0 (rVV (fun V => (T, R, S, blk 18 I mo (s46 (av A V) X (mTick H Q Y)), L, D, z))) := by
  have e := ex_mtick (Γ := Γ) (d := d) (T := T) (R := R) (S := S) (I := I) (A := st A 4 X) (L := L) (D := D) (z := z) (u := 6) (X := Y) (V := fun _ => (st A 4 X) 0 28) hm (by omega) hQ (show (st A 4 X) 2 = Q from hA) (hn.cg rfl rfl rfl rfl) hY
  rw [av_self] at e
  refine e.mono (fun o M' h => ?_)
  obtain ⟨V, h1, h2⟩ := h
  exact ⟨V, h1, h2.trans (by simp only [av_st (show (4 : Nat) ≠ 0 by omega), s46])⟩
theorem ex_cpwork (hm : hMo T S mo) : Ex Γ (d) Y_X9_copy [.ref (mo + 4), .int (nI 0), .ref (mo + 6), .int (nI 0)] (T, R, S, blk 18 I mo (st A 4 X), L, D, z) 0 0 (rV (T, R, S, blk 18 I mo (s46 A X (cpw (A 6) 0 2086 X)), L, D, z)) := by
  have e := ex_mcopy (Γ := Γ) (d := d) (T := T) (R := R) (S := S) (I := I) (A := st A 4 X) (L := L) (D := D) (z := z) (cf := 4) (ct := 6) (ar := 0) (wh := 0) hm.t4 hm.t6 (by omega) (by omega) (by omega) (by omega) (by omega) (by omega)
  rw [show (st A 4 X) 6 = A 6 from rfl, show (fun k => st A 4 X 4 (0 + k)) = X by funext k; rw [Nat.zero_add]; rfl] at e
  exact e
theorem ex_tries (hm : hMo T S mo) {N : Nat} (hNb : N < 2 ^ 31) (hQ : mQ Q) (hA : A 2 = Q) (hn : hN A H Q) (hX : mJ Q X) : Ex Γ (d + 29) Y_X9_tries [.ref mo, .int (nI N)] (T, R, S, blk 18 I mo (st A 4 X), L, D, z) 0 0 (rVV (fun V => (T, R, S, blk 18 I mo (s46 (av A V) X (mRun H Q N (cpw (A 6) 0 2086 X))), L, D, z))) := by
  refine Ex.of (by decide) (by simp [Value.category]) (Nat.le_of_ble_eq_true rfl) rfl ?_
  refine jj_aload_n (q := 1) dX9_tries_0 rfl rfl rfl ?_
  refine jj_getS (q := 4) dX9_tries_1 fl_X9_23 hm.t0 hm.r0_12 rfl rfl rfl ?_
  refine jj_iconst (v := 0) (q := 5) dX9_tries_4 rfl rfl ?_
  refine jj_aload_n (q := 6) dX9_tries_5 rfl rfl rfl ?_
  refine jj_getS (q := 9) dX9_tries_6 fl_X9_29 hm.t0 hm.r0_14 rfl rfl rfl ?_
  refine jj_iconst (v := 0) (q := 10) dX9_tries_9 rfl rfl ?_
  refine jj_cS4v (q := 13) dX9_tries_10 yk_X9_copy ml_X9_246 (ex_cpwork hm) rfl rfl rfl ⟨Nat.zero_le _, Nat.zero_le _⟩ ?_
  refine jj_aload_n (q := 14) dX9_tries_13 rfl rfl rfl ?_
  refine jj_aload_n (q := 15) dX9_tries_14 rfl rfl rfl ?_
  refine jj_getS (q := 18) dX9_tries_15 fl_X9_29 hm.t0 hm.r0_14 rfl rfl rfl ?_
  refine jj_iload_n (q := 19) dX9_tries_18 rfl rfl rfl ?_
  refine jj_eV2v (q := 22) dX9_tries_19 yk_X9_ticks ml_X9_418 hm.t0 (ex_work hm hNb hQ hA hn ((cpw_ag _ X).j hX)) rfl rfl rfl ⟨Nat.zero_le _, Nat.zero_le _⟩ (fun V => ?_)
  refine jj_vret dX9_tries_22 rfl (Nat.zero_le _) (Nat.zero_le _) ?_
  exact ⟨V, rfl, rfl⟩
theorem in6 (hm : hMo T S mo) {c : Nat} (hY : mI Y) (hc : mC Y = c) {s : Int32} : Ex Γ (d) Y_X9_inState [.ref (mo + 6), .int s] (T, R, S, blk 18 I mo (s46 A X Y), L, D, z) 0 0 (rI (nI (mIn Y s c)) (T, R, S, blk 18 I mo (s46 A X Y), L, D, z)) := ex_inState hm (by omega) hY hc
theorem in4 (hm : hMo T S mo) {c : Nat} (hX : mI X) (hc : mC X = c) {s : Int32} : Ex Γ (d) Y_X9_inState [.ref (mo + 4), .int s] (T, R, S, blk 18 I mo (s46 A X Y), L, D, z) 0 0 (rI (nI (mIn X s c)) (T, R, S, blk 18 I mo (s46 A X Y), L, D, z)) := by
  unfold s46
  rw [st_comm (show 4 ≠ 6 by omega)]
  exact ex_inState hm (by omega) hX hc
theorem ex_grows (hm : hMo T S mo) {c cy : Nat} (hX : mI X) (hc : mC X = c) (hY : mI Y) (hcy : mC Y = cy) {s : Int32} : Ex Γ (d + 1) Y_X9_grows [.ref mo, .int s] (T, R, S, blk 18 I mo (s46 A X Y), L, D, z) 0 0 (rI (nI (mIn Y s cy) - nI (mIn X s c)) (T, R, S, blk 18 I mo (s46 A X Y), L, D, z)) := by
  refine Ex.of (by decide) (by simp [Value.category]) (Nat.le_of_ble_eq_true rfl) rfl ?_
  refine jj_aload_n (q := 1) dX9_grows_0 rfl rfl rfl ?_
  refine jj_getS (q := 4) dX9_grows_1 fl_X9_29 hm.t0 hm.r0_14 rfl rfl rfl ?_
  refine jj_iload_n (q := 5) dX9_grows_4 rfl rfl rfl ?_
  refine jj_cS2i (q := 8) dX9_grows_5 yk_X9_inState ml_X9_276 (in6 hm hY hcy) rfl rfl rfl ⟨Nat.zero_le _, Nat.zero_le _⟩ ?_
  refine jj_aload_n (q := 9) dX9_grows_8 rfl rfl rfl ?_
  refine jj_getS (q := 12) dX9_grows_9 fl_X9_23 hm.t0 hm.r0_12 rfl rfl rfl ?_
  refine jj_iload_n (q := 13) dX9_grows_12 rfl rfl rfl ?_
  refine jj_cS2i (q := 16) dX9_grows_13 yk_X9_inState ml_X9_276 (in4 hm hX hc) rfl rfl rfl ⟨Nat.zero_le _, Nat.zero_le _⟩ ?_
  refine jj_isub (q := 17) dX9_grows_16 rfl ?_
  refine jj_iret dX9_grows_17 rfl (Nat.zero_le _) (Nat.zero_le _) ?_
  exact ⟨rfl, rfl⟩
theorem rd66 {mo : Nat} : blk 18 I mo (s46 A X Y) (mo + 6) = Y := by unfold s46; rw [blk_st (by decide)]
theorem wr66 {mo j : Nat} {v : Int32} : u2 (blk 18 I mo (s46 A X Y)) (mo + 6) j v = blk 18 I mo (s46 A X (w1 Y j v)) := by unfold s46; rw [u2_bst (by decide)]
theorem ex_mloadedIn_no (hm : hMo T S mo) {n : Int32} (hok : mOk A 1 = 0) : Ex Γ (d + 30) Y_X9_loadedIn [.ref mo, .int n] (T, R, S, blk 18 I mo (st A 4 X), L, D, z) 0 0 (rI 0 (T, R, S, blk 18 I mo (st (tA A (tI A 1)) 4 X), L, D, z)) := by
  refine Ex.of (by decide) (by simp [Value.category]) (Nat.le_of_ble_eq_true rfl) rfl ?_
  refine jj_aload_n (q := 1) dX9_loadedIn_0 rfl rfl rfl ?_
  refine jj_iload_n (q := 2) dX9_loadedIn_1 rfl rfl rfl ?_
  refine jj_cV1i (q := 5) dX9_loadedIn_2 yk_X9_areTicks ml_X9_421 hm.t0 (ex_areTicks_no hm hok) rfl rfl rfl ⟨Nat.zero_le _, Nat.zero_le _⟩ ?_
  refine jj_if_ne (q := 8) (tgt := 10) dX9_loadedIn_5 rfl rfl (fun h5 => by exfalso; exact h5 rfl) (fun h5 => ?_)
  refine jj_iconst (v := 0) (q := 9) dX9_loadedIn_8 rfl rfl ?_
  refine jj_iret dX9_loadedIn_9 rfl (Nat.zero_le _) (Nat.zero_le _) ?_
  exact ⟨rfl, rfl⟩
theorem ex_mloadedIn_bad (hm : hMo T S mo) {n : Int32} (hok : ¬ mOk A 1 = 0) (hg : cG X n 500 = 0) : Ex Γ (d + 30) Y_X9_loadedIn [.ref mo, .int n] (T, R, S, blk 18 I mo (st A 4 X), L, D, z) 0 0 (rI 0 (T, R, S, blk 18 I mo (st (tA A 2) 4 X), L, D, z)) := by
  refine Ex.of (by decide) (by simp [Value.category]) (Nat.le_of_ble_eq_true rfl) rfl ?_
  refine jj_aload_n (q := 1) dX9_loadedIn_0 rfl rfl rfl ?_
  refine jj_iload_n (q := 2) dX9_loadedIn_1 rfl rfl rfl ?_
  refine jj_cV1i (q := 5) dX9_loadedIn_2 yk_X9_areTicks ml_X9_421 hm.t0 (ex_areTicks hm hok) rfl rfl rfl ⟨Nat.zero_le _, Nat.zero_le _⟩ ?_
  refine jj_if_ne (q := 8) (tgt := 10) dX9_loadedIn_5 rfl rfl (fun h5 => by exfalso; exact h5 hg) (fun h5 => ?_)
  refine jj_iconst (v := 0) (q := 9) dX9_loadedIn_8 rfl rfl ?_
  refine jj_iret dX9_loadedIn_9 rfl (Nat.zero_le _) (Nat.zero_le _) ?_
  exact ⟨rfl, by rw [if_pos hg]⟩
theorem ex_mloadedIn_ok (hm : hMo T S mo) {N : Nat} (hNb : N < 2 ^ 31) (hQ : mQ Q) (hA : A 2 = Q) (hn : hN A H Q) (hX : mJ Q X) {c : Nat} (hc : mC X = c) (hRJ : ∀ G, mI (mRun H Q N (cpw G 0 2086 X)) ∧ mC (mRun H Q N (cpw G 0 2086 X)) = c) (hok : ¬ mOk A 1 = 0) (hg : ¬ cG X (nI N) 500 = 0) : Ex Γ (d + 30) Y_X9_loadedIn [.ref mo, .int (nI N)] (T, R, S, blk 18 I mo (st A 4 X), L, D, z) 0 0 (rIV (nI (mIn (mRun H Q N (cpw (A 6) 0 2086 X)) 10 c) - nI (mIn X 10 c)) (fun V => (T, R, S, blk 18 I mo (s46 (av (tA A 0) V) X (mRun H Q N (cpw (A 6) 0 2086 X))), L, D, z))) := by
  refine Ex.of (by decide) (by simp [Value.category]) (Nat.le_of_ble_eq_true rfl) rfl ?_
  refine jj_aload_n (q := 1) dX9_loadedIn_0 rfl rfl rfl ?_
  refine jj_iload_n (q := 2) dX9_loadedIn_1 rfl rfl rfl ?_
  refine jj_cV1i (q := 5) dX9_loadedIn_2 yk_X9_areTicks ml_X9_421 hm.t0 (ex_areTicks hm hok) rfl rfl rfl ⟨Nat.zero_le _, Nat.zero_le _⟩ ?_
  refine jj_if_ne (q := 8) (tgt := 10) dX9_loadedIn_5 rfl rfl (fun h5 => ?_) (fun h5 => by exfalso; exact hg h5)
  refine jj_aload_n (q := 11) dX9_loadedIn_10 rfl rfl rfl ?_
  refine jj_iload_n (q := 12) dX9_loadedIn_11 rfl rfl rfl ?_
  refine jj_eV1v (q := 15) dX9_loadedIn_12 yk_X9_tries ml_X9_424 hm.t0 (ex_tries hm hNb hQ (show (tA A _) 2 = Q from hA) (hn.cg rfl rfl rfl rfl) hX) rfl rfl rfl ⟨Nat.zero_le _, Nat.zero_le _⟩ (fun V => ?_)
  refine jj_aload_n (q := 16) dX9_loadedIn_15 rfl rfl rfl ?_
  refine jj_bipush (v := 10) (q := 18) dX9_loadedIn_16 rfl rfl ?_
  refine jj_cV1i (q := 21) dX9_loadedIn_18 yk_X9_grows ml_X9_427 hm.t0 (ex_grows hm hX.1 hc (hRJ _).1 (hRJ _).2) rfl rfl rfl ⟨Nat.zero_le _, Nat.zero_le _⟩ ?_
  refine jj_iret dX9_loadedIn_21 rfl (Nat.zero_le _) (Nat.zero_le _) ?_
  exact ⟨V, rfl, by rw [if_neg hg]; rfl⟩
theorem ex_mshortIn_no (hm : hMo T S mo) {n : Int32} (hok : mOk A 1 = 0) : Ex Γ (d + 30) Y_X9_shortIn [.ref mo, .int n] (T, R, S, blk 18 I mo (st A 4 X), L, D, z) 0 0 (rI 0 (T, R, S, blk 18 I mo (st (tA A (tI A 1)) 4 X), L, D, z)) := by
  refine Ex.of (by decide) (by simp [Value.category]) (Nat.le_of_ble_eq_true rfl) rfl ?_
  refine jj_aload_n (q := 1) dX9_shortIn_0 rfl rfl rfl ?_
  refine jj_iload_n (q := 2) dX9_shortIn_1 rfl rfl rfl ?_
  refine jj_cV1i (q := 5) dX9_shortIn_2 yk_X9_areTicks ml_X9_421 hm.t0 (ex_areTicks_no hm hok) rfl rfl rfl ⟨Nat.zero_le _, Nat.zero_le _⟩ ?_
  refine jj_if_ne (q := 8) (tgt := 10) dX9_shortIn_5 rfl rfl (fun h5 => by exfalso; exact h5 rfl) (fun h5 => ?_)
  refine jj_iconst (v := 0) (q := 9) dX9_shortIn_8 rfl rfl ?_
  refine jj_iret dX9_shortIn_9 rfl (Nat.zero_le _) (Nat.zero_le _) ?_
  exact ⟨rfl, rfl⟩
theorem ex_mshortIn_bad (hm : hMo T S mo) {n : Int32} (hok : ¬ mOk A 1 = 0) (hg : cG X n 500 = 0) : Ex Γ (d + 30) Y_X9_shortIn [.ref mo, .int n] (T, R, S, blk 18 I mo (st A 4 X), L, D, z) 0 0 (rI 0 (T, R, S, blk 18 I mo (st (tA A 2) 4 X), L, D, z)) := by
  refine Ex.of (by decide) (by simp [Value.category]) (Nat.le_of_ble_eq_true rfl) rfl ?_
  refine jj_aload_n (q := 1) dX9_shortIn_0 rfl rfl rfl ?_
  refine jj_iload_n (q := 2) dX9_shortIn_1 rfl rfl rfl ?_
  refine jj_cV1i (q := 5) dX9_shortIn_2 yk_X9_areTicks ml_X9_421 hm.t0 (ex_areTicks hm hok) rfl rfl rfl ⟨Nat.zero_le _, Nat.zero_le _⟩ ?_
  refine jj_if_ne (q := 8) (tgt := 10) dX9_shortIn_5 rfl rfl (fun h5 => by exfalso; exact h5 hg) (fun h5 => ?_)
  refine jj_iconst (v := 0) (q := 9) dX9_shortIn_8 rfl rfl ?_
  refine jj_iret dX9_shortIn_9 rfl (Nat.zero_le _) (Nat.zero_le _) ?_
  exact ⟨rfl, by rw [if_pos hg]⟩
theorem ex_mshortIn_ok (hm : hMo T S mo) {N : Nat} (hNb : N < 2 ^ 31) (hQ : mQ Q) (hA : A 2 = Q) (hn : hN A H Q) (hX : mJ Q X) {c : Nat} (hc : mC X = c) (hRJ : ∀ G, mI (mRun H Q N (cpw G 0 2086 X)) ∧ mC (mRun H Q N (cpw G 0 2086 X)) = c) (hok : ¬ mOk A 1 = 0) (hg : ¬ cG X (nI N) 500 = 0) : Ex Γ (d + 30) Y_X9_shortIn [.ref mo, .int (nI N)] (T, R, S, blk 18 I mo (st A 4 X), L, D, z) 0 0 (rIV (nI (mIn (mRun H Q N (cpw (A 6) 0 2086 X)) 11 c) - nI (mIn X 11 c)) (fun V => (T, R, S, blk 18 I mo (s46 (av (tA A 0) V) X (mRun H Q N (cpw (A 6) 0 2086 X))), L, D, z))) := by
  refine Ex.of (by decide) (by simp [Value.category]) (Nat.le_of_ble_eq_true rfl) rfl ?_
  refine jj_aload_n (q := 1) dX9_shortIn_0 rfl rfl rfl ?_
  refine jj_iload_n (q := 2) dX9_shortIn_1 rfl rfl rfl ?_
  refine jj_cV1i (q := 5) dX9_shortIn_2 yk_X9_areTicks ml_X9_421 hm.t0 (ex_areTicks hm hok) rfl rfl rfl ⟨Nat.zero_le _, Nat.zero_le _⟩ ?_
  refine jj_if_ne (q := 8) (tgt := 10) dX9_shortIn_5 rfl rfl (fun h5 => ?_) (fun h5 => by exfalso; exact hg h5)
  refine jj_aload_n (q := 11) dX9_shortIn_10 rfl rfl rfl ?_
  refine jj_iload_n (q := 12) dX9_shortIn_11 rfl rfl rfl ?_
  refine jj_eV1v (q := 15) dX9_shortIn_12 yk_X9_tries ml_X9_424 hm.t0 (ex_tries hm hNb hQ (show (tA A _) 2 = Q from hA) (hn.cg rfl rfl rfl rfl) hX) rfl rfl rfl ⟨Nat.zero_le _, Nat.zero_le _⟩ (fun V => ?_)
  refine jj_aload_n (q := 16) dX9_shortIn_15 rfl rfl rfl ?_
  refine jj_bipush (v := 11) (q := 18) dX9_shortIn_16 rfl rfl ?_
  refine jj_cV1i (q := 21) dX9_shortIn_18 yk_X9_grows ml_X9_427 hm.t0 (ex_grows hm hX.1 hc (hRJ _).1 (hRJ _).2) rfl rfl rfl ⟨Nat.zero_le _, Nat.zero_le _⟩ ?_
  refine jj_iret dX9_shortIn_21 rfl (Nat.zero_le _) (Nat.zero_le _) ?_
  exact ⟨V, rfl, by rw [if_neg hg]; rfl⟩
end M63
