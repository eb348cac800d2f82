/-! THE COMPONENT'S LOOKS AHEAD -/
theorem blk19 {I B K : JI} {t a : Nat} (h : t + 19 ≤ a ∨ a + 19 ≤ t) : blk 19 (blk 19 I t B) a K = blk 19 (blk 19 I a K) t B := by
  funext b j
  unfold blk
  by_cases h1 : a ≤ b ∧ b < a + 19
  · rw [if_pos h1, if_neg (by omega), if_pos h1]
  · rw [if_neg h1]
    by_cases h2 : t ≤ b ∧ b < t + 19
    · rw [if_pos h2, if_pos h2]
    · rw [if_neg h2, if_neg h2, if_neg h1]
theorem blk_cg {I B B' : JI} {a : Nat} (h : ∀ k, k < 19 → B k = B' k) : blk 19 I a B = blk 19 I a B' := by
  funext b j
  unfold blk
  split
  · rename_i w; rw [h _ (by omega)]
  · rfl
theorem u2_out {I K : JI} {a x j : Nat} {v : Int32} (h : x < a ∨ a + 19 ≤ x) : u2 (blk 19 I a K) x j v = blk 19 (u2 I x j v) a K := by
  funext b i
  by_cases e : b = x
  · subst e
    rw [u2_eq, blk_out h, blk_out h, u2_eq]
  · rw [u2_ne e]
    unfold blk
    split
    · rfl
    · rw [u2_ne e]
def eqv (K K' : JI) : Prop := ∀ k, k < 19 → K k = K' k
theorem eqv.cp {K K' : JI} {c n : Nat} {f f' : Nat → Int32} (h : eqv K K') (hf : f = f') (hc : c < 19) : eqv (cpK K c f n) (cpK K' c f' n) := fun k hk => by
  funext j
  unfold cpK
  rw [hf, h c hc, h k hk]
theorem eqv.u {K K' : JI} {c j : Nat} {v v' : Int32} (h : eqv K K') (hv : v = v') : eqv (u2 K c j v) (u2 K' c j v') := fun k hk => by
  funext i
  rw [u2_ap, u2_ap, h k hk, hv]
theorem kCp_cg {K K' K0 K0' : JI} (h : eqv K K') (h0 : eqv K0 K0') : eqv (kCp K K0) (kCp K' K0') := ((((((((((((((((((((((h).u (c := 0) (by rw [h0 0 (by omega)])).u (c := 0) (by rw [h0 0 (by omega)])).u (c := 0) (by rw [h0 0 (by omega)])).u (c := 1) (by rw [h0 1 (by omega)])).cp (h0 2 (by omega)) (by omega)).cp (h0 3 (by omega)) (by omega)).cp (h0 4 (by omega)) (by omega)).cp (h0 5 (by omega)) (by omega)).cp (h0 6 (by omega)) (by omega)).cp (h0 7 (by omega)) (by omega)).cp (h0 8 (by omega)) (by omega)).cp (h0 9 (by omega)) (by omega)).cp (h0 10 (by omega)) (by omega)).cp (h0 11 (by omega)) (by omega)).cp (h0 12 (by omega)) (by omega)).cp (h0 13 (by omega)) (by omega)).cp (h0 14 (by omega)) (by omega)).cp (h0 15 (by omega)) (by omega)).cp (h0 16 (by omega)) (by omega)).cp (h0 17 (by omega)) (by omega)).u (c := 0) (by rw [h0 0 (by omega)])).cp (h0 18 (by omega)) (by omega)
/-- a copy of the state K at a, in the block at b -/
theorem cpB_blk {I K : JI} {a b : Nat} (h : b + 19 ≤ a ∨ a + 19 ≤ b) : cpB (blk 19 I a K) b a = blk 19 (blk 19 I a K) b (kCp (sK I b) K) := by
  unfold cpB
  exact blk_cg (kCp_cg (fun k hk => blk_out (by omega)) (fun k hk => blk_k hk))
def remB (I K : JI) (h nx sz : Nat) : JI := u2 (u2 (blk 19 I (h + 2 + 19 * nx) (kCp (sK I (h + 2 + 19 * nx)) K)) h 1 (nI (nxN nx))) h 0 (nI (szN sz))
theorem remI_blk {I K : JI} {a h nx sz : Nat} (hd : a + 19 ≤ h ∨ h + 116 ≤ a) (hn : nx < 6) : remI (blk 19 I a K) h a nx sz = blk 19 (remB I K h nx sz) a K := by
  unfold remI remB
  rw [cpB_blk (by omega), blk19 (by omega), u2_out (by omega), u2_out (by omega)]
section M68
variable {Γ : Gam} {d : Nat} {T : JT} {R S : JR} {I K P : JI} {L : JL} {D : JD} {z : Option Nat} {xo p p2 a a2 c nx sz : Nat} {r : Int64}
theorem exB_remember (hX : hXo T R S xo p p2 a a2) (hx : I (xo + 73) 1 = nI nx) (hs : I (xo + 73) 0 = nI sz) (hn6 : nx < 6) (hs6 : sz ≤ 6) : Ex Γ (d + 4) Y_X1_remember [.ref (xo + 73), .ref a] (T, R, S, blk 19 I a K, L, D, z) 0 0 (rV (T, R, S, blk 19 (remB I K (xo + 73) nx sz) a K, u2 L (xo + 73 + 2 + 19 * nx) 1 (L a 1), D, z)) := by
  have hps := hX.ps
  have e := ex_remember (Γ := Γ) (d := d) (S := S) (I := blk 19 I a K) (L := L) (D := D) (z := z) hX.hi hX.ha (by omega) (by rw [blk_out (by omega)]; exact hx) (by rw [blk_out (by omega)]; exact hs) hn6 hs6
  rw [remI_blk (by omega) hn6] at e
  exact e
theorem exB_scratch (hX : hXo T R S xo p p2 a a2) : Ex Γ (d + 3) Y_X4_copyFrom [.ref a2, .ref a] (T, R, S, blk 19 I a K, L, D, z) 0 0 (rV (T, R, S, blk 19 (blk 19 I a K) a2 (kCp (sK I a2) K), u2 L a2 1 (L a 1), D, z)) := by
  have hps := hX.ps
  have e := ex_cpI (Γ := Γ) (d := d) (S := S) (I := blk 19 I a K) (L := L) (D := D) (z := z) hX.ha2 hX.ha (by omega)
  rw [cpB_blk (by omega)] at e
  exact e
/-- the plan is outside of the state -/
theorem exB_run (hX : hXo T R S xo p p2 a a2) {s : Nat} (hs : hSt T R s) (hd : p + 16 ≤ s ∨ s + 19 ≤ p) (hI : ∀ k : Nat, k < 15 → I (p + k) = P k) (hW : wP P) (hc : K 1 0 = nI c) (hc1 : c ≤ 100) (hlw : lW K) {w : Int32} {N : Nat} (hN : N < 2 ^ 31) : Ex Γ (d + 6) Y_X7_run [.ref p, .ref s, .int (nI N), .int w] (T, R, S, blk 19 I s K, u2 L s 1 r, D, z) 0 0 (rIV (atV 14 ((kRun P c N (K, r)).1 8) w - atV 14 (K 8) w) (fun V => (T, R, S, blk 19 (vv I p V) s (kRun P c N (K, r)).1, u2 L s 1 (kRun P c N (K, r)).2, D, z))) := by
  have e := ex_run (Γ := Γ) (d := d) (S := S) (I := I) (K := K) (L := L) (D := D) (z := z) (V := I (p + 15)) (w := w) (r := r) hs hX.hp hd hI hW hc hc1 hlw hN
  rw [vv_self] at e
  exact e
theorem exB_tick (hX : hXo T R S xo p p2 a a2) {s : Nat} (hs : hSt T R s) (hd : p + 16 ≤ s ∨ s + 19 ≤ p) (hI : ∀ k : Nat, k < 15 → I (p + k) = P k) (hW : wP P) (hc : K 1 0 = nI c) (hc1 : c ≤ 100) (hlw : lW K) {V : Nat → Int32} : Ex Γ (d + 5) Y_X7_tick [.ref p, .ref s] (T, R, S, blk 19 (vv I p V) s K, u2 L s 1 r, D, z) 0 0 (rVV (fun V => (T, R, S, blk 19 (vv I p V) s (kTick P c (K, r)).1, u2 L s 1 (kTick P c (K, r)).2, D, z))) := ex_tick hs hX.hp hd hI hW hc hc1 hlw
theorem u2_u2' {α : Type} {f : Nat → Nat → α} {a k : Nat} {v w : α} : u2 (u2 f a k v) a k w = u2 f a k w := by
  funext b j
  rw [u2_ap, u2_ap, u2_ap]
  repeat' split
  all_goals rfl
theorem eTik_n {K : JI} {n mo : Int32} {m : Nat} (hm : mo = nI m) (hm1 : 1 ≤ m ∧ m < 2 ^ 30) (h : eTik K n mo = 0) : ∃ N, 1 ≤ N ∧ N ≤ m ∧ n = nI N ∧ K 0 0 + n ≤ 9999 := by
  unfold eTik at h
  subst hm
  rcases in_lh (lo := 1) (hi := m) (by omega) (by omega) n with ⟨N, h1, h2, rfl, h3, h4⟩ | ⟨h3, h4⟩
  · rw [show eRng (nI N) 1 (nI m) = 0 from h4] at h
    refine ⟨N, h1, h2, rfl, ?_⟩
    by_cases e : K 0 0 + nI N ≤ 9999
    · exact e
    · have h : (if K 0 0 + nI N ≤ 9999 then 0 else 3) = 0 := h
      rw [if_neg e] at h
      cases h
  · rw [show eRng n 1 (nI m) = 3 from h4] at h
    cases h
theorem cpy_in {f g : Nat → Int32} {n j : Nat} (h : j < n) : va_cpy f g 0 0 n j = f j := by
  unfold va_cpy
  simp [h]
theorem lW_cp {K K0 : JI} (h : lW K0) : lW (kCp K K0) := fun l hl => by
  obtain ⟨n, h1, h2⟩ := h l hl
  exact ⟨n, h1, (show kCp K K0 12 l = K0 12 l from cpy_in hl).trans h2⟩
theorem cp_c {K K0 : JI} : kCp K K0 1 0 = K0 1 0 := rfl
theorem hXo.hI (hX : hXo T R S xo p p2 a a2) : ∀ k : Nat, k < 15 → blk 19 I a K (p + k) = sK I p k := fun k hk => blk_out (by have := hX.ps; omega)
theorem ex_loadedIn (hX : hXo T R S xo p p2 a a2) (hW : wP (sK I p)) (hc : K 1 0 = nI c) (hc1 : c ≤ 100) (hlw : lW K) {n : Int32} : Ex Γ (d + 8) Y_X8_loadedIn [.ref xo, .int n] (T, R, S, blk 19 I a K, L, D, none) (ec (orE (eAir (I xo)) (orE (eTik K n 500) 0))) (es (orE (eAir (I xo)) (orE (eTik K n 500) 0))) (cE (orE (eAir (I xo)) (orE (eTik K n 500) 0)) (T, R, S, blk 19 I a K, L, D, none) (fun w M' => ∃ V, w = some (.int (atV 14 ((kRun (sK I p) c (nN n) ((kCp (sK I a2) K), (L a 1))).1 8) 10 - atV 14 ((kCp (sK I a2) K) 8) 10)) ∧ M' = (T, R, S, blk 19 (vv (blk 19 I a K) p V) a2 (kRun (sK I p) c (nN n) ((kCp (sK I a2) K), (L a 1))).1, u2 L a2 1 (kRun (sK I p) c (nN n) ((kCp (sK I a2) K), (L a 1))).2, D, none))) := by
  refine Ex.of (by decide) (by simp [Value.category]) (Nat.le_of_ble_eq_true rfl) rfl ?_
  refine jj_aload_n (q := 1) dX8_loadedIn_0 rfl rfl rfl ?_
  refine jj_nV0 (q := 4) dX8_loadedIn_1 yk_X8_needAirport ml_X8_168 hX.1 (ex_needAirport (hX.cx I)) rfl rfl rfl rfl (fun g1 => ?_)
  refine jj_aload_n (q := 5) dX8_loadedIn_4 rfl rfl rfl ?_
  refine jj_iload_n (q := 6) dX8_loadedIn_5 rfl rfl rfl ?_
  refine jj_sipush (v := 500) (q := 9) dX8_loadedIn_6 rfl rfl ?_
  refine jj_nV2 (q := 12) dX8_loadedIn_9 yk_X8_needTicks ml_X8_282 hX.1 (ex_needTicks (hX.cx I)) rfl rfl rfl rfl (fun g9 => ?_)
  obtain ⟨N, hN1, hN2, rfl, hN3⟩ := eTik_n (m := 500) rfl (by omega) g9
  rw [nN_nI (show N < 2 ^ 31 by omega)]
  refine jj_aload_n (q := 13) dX8_loadedIn_12 rfl rfl rfl ?_
  refine jj_getS (q := 16) dX8_loadedIn_13 fl_X8_37 hX.1 hX.2.2.2.1.2.2.2.2.1 rfl rfl rfl ?_
  refine jj_aload_n (q := 17) dX8_loadedIn_16 rfl rfl rfl ?_
  refine jj_getS (q := 20) dX8_loadedIn_17 fl_X8_33 hX.1 hX.2.2.2.1.2.2.2.1 rfl rfl rfl ?_
  refine jj_cV1v (q := 23) dX8_loadedIn_20 yk_X4_copyFrom ml_X8_285 hX.ha2.t0 (exB_scratch hX) rfl rfl rfl ⟨Nat.zero_le _, Nat.zero_le _⟩ ?_
  refine jj_aload_n (q := 24) dX8_loadedIn_23 rfl rfl rfl ?_
  refine jj_getS (q := 27) dX8_loadedIn_24 fl_X8_23 hX.1 hX.2.2.2.1.2.1 rfl rfl rfl ?_
  refine jj_aload_n (q := 28) dX8_loadedIn_27 rfl rfl rfl ?_
  refine jj_getS (q := 31) dX8_loadedIn_28 fl_X8_37 hX.1 hX.2.2.2.1.2.2.2.2.1 rfl rfl rfl ?_
  refine jj_iload_n (q := 32) dX8_loadedIn_31 rfl rfl rfl ?_
  refine jj_bipush (v := 10) (q := 34) dX8_loadedIn_32 rfl rfl ?_
  refine jj_eS4i (q := 37) dX8_loadedIn_34 yk_X7_run ml_X8_289 (exB_run hX hX.ha2 (by have := hX.ps; omega) hX.hI hW (cp_c.trans hc) hc1 (lW_cp hlw) (by omega)) rfl rfl rfl ⟨Nat.zero_le _, Nat.zero_le _⟩ (fun V => ?_)
  refine jj_iret dX8_loadedIn_37 rfl (Nat.zero_le _) (Nat.zero_le _) ?_
  exact ⟨_, rfl, V, rfl, rfl⟩
theorem ex_shortIn (hX : hXo T R S xo p p2 a a2) (hW : wP (sK I p)) (hc : K 1 0 = nI c) (hc1 : c ≤ 100) (hlw : lW K) {n : Int32} : Ex Γ (d + 8) Y_X8_shortIn [.ref xo, .int n] (T, R, S, blk 19 I a K, L, D, none) (ec (orE (eAir (I xo)) (orE (eTik K n 500) 0))) (es (orE (eAir (I xo)) (orE (eTik K n 500) 0))) (cE (orE (eAir (I xo)) (orE (eTik K n 500) 0)) (T, R, S, blk 19 I a K, L, D, none) (fun w M' => ∃ V, w = some (.int (atV 14 ((kRun (sK I p) c (nN n) ((kCp (sK I a2) K), (L a 1))).1 8) 11 - atV 14 ((kCp (sK I a2) K) 8) 11)) ∧ M' = (T, R, S, blk 19 (vv (blk 19 I a K) p V) a2 (kRun (sK I p) c (nN n) ((kCp (sK I a2) K), (L a 1))).1, u2 L a2 1 (kRun (sK I p) c (nN n) ((kCp (sK I a2) K), (L a 1))).2, D, none))) := by
  refine Ex.of (by decide) (by simp [Value.category]) (Nat.le_of_ble_eq_true rfl) rfl ?_
  refine jj_aload_n (q := 1) dX8_shortIn_0 rfl rfl rfl ?_
  refine jj_nV0 (q := 4) dX8_shortIn_1 yk_X8_needAirport ml_X8_168 hX.1 (ex_needAirport (hX.cx I)) rfl rfl rfl rfl (fun g1 => ?_)
  refine jj_aload_n (q := 5) dX8_shortIn_4 rfl rfl rfl ?_
  refine jj_iload_n (q := 6) dX8_shortIn_5 rfl rfl rfl ?_
  refine jj_sipush (v := 500) (q := 9) dX8_shortIn_6 rfl rfl ?_
  refine jj_nV2 (q := 12) dX8_shortIn_9 yk_X8_needTicks ml_X8_282 hX.1 (ex_needTicks (hX.cx I)) rfl rfl rfl rfl (fun g9 => ?_)
  obtain ⟨N, hN1, hN2, rfl, hN3⟩ := eTik_n (m := 500) rfl (by omega) g9
  rw [nN_nI (show N < 2 ^ 31 by omega)]
  refine jj_aload_n (q := 13) dX8_shortIn_12 rfl rfl rfl ?_
  refine jj_getS (q := 16) dX8_shortIn_13 fl_X8_37 hX.1 hX.2.2.2.1.2.2.2.2.1 rfl rfl rfl ?_
  refine jj_aload_n (q := 17) dX8_shortIn_16 rfl rfl rfl ?_
  refine jj_getS (q := 20) dX8_shortIn_17 fl_X8_33 hX.1 hX.2.2.2.1.2.2.2.1 rfl rfl rfl ?_
  refine jj_cV1v (q := 23) dX8_shortIn_20 yk_X4_copyFrom ml_X8_285 hX.ha2.t0 (exB_scratch hX) rfl rfl rfl ⟨Nat.zero_le _, Nat.zero_le _⟩ ?_
  refine jj_aload_n (q := 24) dX8_shortIn_23 rfl rfl rfl ?_
  refine jj_getS (q := 27) dX8_shortIn_24 fl_X8_23 hX.1 hX.2.2.2.1.2.1 rfl rfl rfl ?_
  refine jj_aload_n (q := 28) dX8_shortIn_27 rfl rfl rfl ?_
  refine jj_getS (q := 31) dX8_shortIn_28 fl_X8_37 hX.1 hX.2.2.2.1.2.2.2.2.1 rfl rfl rfl ?_
  refine jj_iload_n (q := 32) dX8_shortIn_31 rfl rfl rfl ?_
  refine jj_bipush (v := 11) (q := 34) dX8_shortIn_32 rfl rfl ?_
  refine jj_eS4i (q := 37) dX8_shortIn_34 yk_X7_run ml_X8_289 (exB_run hX hX.ha2 (by have := hX.ps; omega) hX.hI hW (cp_c.trans hc) hc1 (lW_cp hlw) (by omega)) rfl rfl rfl ⟨Nat.zero_le _, Nat.zero_le _⟩ (fun V => ?_)
  refine jj_iret dX8_shortIn_37 rfl (Nat.zero_le _) (Nat.zero_le _) ?_
  exact ⟨_, rfl, V, rfl, rfl⟩
end M68
