/-! BAGS AND STATE: the loops -/
theorem nI_inc (i : Nat) : nI i + Int32.ofInt 1 = nI (i + 1) := (nI_succ i).symm
theorem ct_inc {p : Nat → Bool} {i : Nat} (h : p i = true) : nI (fb_ct p i) + Int32.ofInt 1 = nI (fb_ct p (i + 1)) := by
  rw [fb_ct_succ, if_pos h]
  exact (nI_succ _).symm
theorem ct_no {p : Nat → Bool} {i : Nat} (h : p i = false) : fb_ct p (i + 1) = fb_ct p i := by
  rw [fb_ct_succ, h]
  rfl
theorem fs_hit {p : Nat → Bool} {i : Nat} (h : ∀ j, j < i → p j = false) (hp : p i = true) : ∀ n, i < n → fa_first p n = i
  | 0, hi => absurd hi (Nat.not_lt_zero i)
  | n + 1, hi => by
    unfold fa_first
    rcases Nat.lt_or_ge i n with q | q
    · have e := fs_hit h hp n q
      rw [e, if_pos q]
    · have e : i = n := by omega
      subst e
      have hle := fa_first_le p i
      have hnl : ¬ fa_first p i < i := fun hlt => by
        have h1 := fa_first_yes p i hlt
        rw [h _ hlt] at h1
        cases h1
      rw [if_neg hnl, if_pos hp]
theorem fs_none {p : Nat → Bool} : ∀ {n : Nat}, (∀ j, j < n → p j = false) → ¬ fa_first p n < n := fun {n} h hlt => by
  have h1 := fa_first_yes p n hlt
  rw [h _ hlt] at h1
  cases h1
/-- the first place of n at which p holds, told by g; else dflt -/
def srch (p : Nat → Bool) (n : Nat) (g : Nat → Int32) (dflt : Int32) : Int32 := if fa_first p n < n then g (fa_first p n) else dflt
theorem srch_hit {p : Nat → Bool} {n i : Nat} {g : Nat → Int32} {dflt : Int32} (h : ∀ j, j < i → p j = false) (hp : p i = true) (hi : i < n) : srch p n g dflt = g i := by
  unfold srch
  rw [fs_hit h hp n hi, if_pos hi]
theorem srch_none {p : Nat → Bool} {n : Nat} {g : Nat → Int32} {dflt : Int32} (h : ∀ j, j < n → p j = false) : srch p n g dflt = dflt := by
  unfold srch
  rw [if_neg (fs_none h)]
def pOf (K : JI) (f lo hi : Int32) : Nat → Bool := fun b => decide (K 3 b = f ∧ lo ≤ K 2 b ∧ K 2 b ≤ hi)
def kLd (K : JI) (b f : Int32) : Int32 := if atV 100 (K 3) b = f ∧ atV 100 (K 2) b = 10 then 1 else 0
theorem kLd_nI {K : JI} {i : Nat} {f : Int32} (h : i < 100) : (kLd K (nI i) f = 0) ↔ ¬ (K 3 i = f ∧ K 2 i = 10) := by
  unfold kLd
  rw [atV_nI h (by omega), atV_nI h (by omega)]
  exact ble_i
def pWi (K : JI) (f t : Int32) : Nat → Bool := fun b => decide ((K 3 b = f ∧ K 2 b = 10) ∧ K 7 b - K 4 b ≤ t)
def pTi (K : JI) (f rank : Int32) (c : Nat) : Nat → Bool := fun b => decide ((K 3 b = f ∧ K 2 b = 10) ∧ nI (fb_ct (pWi K f (K 7 b - K 4 b - 1)) c) < rank ∧ rank ≤ nI (fb_ct (pWi K f (K 7 b - K 4 b)) c))
def kGB2 (K : JI) (b o : Int32) : Int32 := if atV 8 (K 10) (atV 100 (K 3) o) - atV 8 (K 10) (atV 100 (K 3) b) = 0 then atV 100 (K 4) o - atV 100 (K 4) b else atV 8 (K 10) (atV 100 (K 3) o) - atV 8 (K 10) (atV 100 (K 3) b)
def kGB (K : JI) (b o : Int32) : Int32 := if 0 < kGB2 K b o then 1 else if kGB2 K b o = 0 then (if o ≤ b then 0 else 1) else 0
def bst (K : JI) (w : Int32) : Nat → Int32
  | 0 => -1
  | i + 1 => if K 2 i = w ∧ (bst K w i = -1 ∨ ¬ kGB K (nI i) (bst K w i) = 0) then nI i else bst K w i
def kFQ (K : JI) (w : Int32) (c : Nat) : Int32 := if atV 14 (K 8) w ≤ 0 then -1 else bst K w c
def pQ (K : JI) (b : Int32) : Nat → Bool := fun o => decide (K 2 o = atV 100 (K 2) b ∧ ¬ kGB K (nI o) b = 0)
def pIn (K : JI) (w pl : Int32) (c : Nat) : Nat → Bool := fun i => decide (K 2 i = w ∧ nI (fb_ct (pQ K (nI i)) c) = pl)
def pSt (K : JI) (l : Nat) (f : Int32) : Nat → Bool := fun j => decide (atV 100 (K 3) (K 13 (l * 20 + j)) = f)
def pLn (K : JI) (l : Nat) (b : Int32) : Nat → Bool := fun j => decide (K 13 (l * 20 + j) = b)
def pLw (K : JI) (ls : Nat → Nat) (b : Int32) : Nat → Bool := fun l => decide (fa_first (pLn K l b) (ls l) < ls l)
def kAd (K : JI) (c : Nat) (t f : Int32) : JI := u2 (u2 (u2 (u2 (u2 (u2 (u2 (u2 K 2 c 0) 3 c f) 4 c t) 5 c 0) 6 c 0) 7 c (-1)) 1 0 (nI (c + 1))) 8 0 (K 8 0 + 1)
/-- k bags more, from number c on -/
def kAds (t f : Int32) : Nat → Nat → JI → JI
  | 0, _, K => K
  | k + 1, c, K => kAds t f k (c + 1) (kAd K c t f)
theorem l20 (l j : Nat) : nI l * 20 + nI j = nI (l * 20 + j) := by
  rw [show (20 : Int32) = nI 20 from rfl, pk_mul, nI_add]
section M20
variable {Γ : Gam} {d : Nat} {T : JT} {R S : JR} {I K : JI} {L : JL} {D : JD} {z : Option Nat} {a c : Nat} {r : Int64}
theorem lp_ofFlight (hs : hSt T R a) (hc : K 1 0 = nI c) (hc1 : c ≤ 100) {f lo hh : Int32} : ∀ (k i : Nat), i + k = c → JJ Γ (jj_E Y_X0_ofFlight) (jj_Z Γ (rI (nI (fb_ct (pOf K f lo hh) c)) (T, R, S, blk 19 I a K, L, D, z)) 0 0) (jj_rm (d + 1) 0 0) 0 0 6 [some (.ref (a + 1)), some (.int f), some (.int lo), some (.int hh), some (.int (nI (fb_ct (pOf K f lo hh) i))), some (.int (nI i))] [] (T, R, S, blk 19 I a K, L, D, z) := by
  intro k
  induction k with
  | zero =>
    intro i hi
    refine jj_iload (q := 8) dX0_ofFlight_6 rfl rfl ?_
    refine jj_aload_n (q := 9) dX0_ofFlight_8 rfl rfl rfl ?_
    refine jj_getIv (q := 12) dX0_ofFlight_9 fl_X0_9 hs.t1 (blk_k (by decide)) rfl rfl ?_
    refine jj_icmp_ge (q := 15) (tgt := 63) dX0_ofFlight_12 rfl rfl (fun h12 => ?_) (fun h12 => absurd ((by rw [hc]; exact nI_le (by omega) (by omega))) h12)
    refine jj_iload (q := 65) dX0_ofFlight_63 rfl rfl ?_
    refine jj_iret dX0_ofFlight_65 rfl (Nat.zero_le _) (Nat.zero_le _) ?_
    exact ⟨by rw [show c = i by omega], rfl⟩
  | succ k ih =>
    intro i hi
    refine jj_iload (q := 8) dX0_ofFlight_6 rfl rfl ?_
    refine jj_aload_n (q := 9) dX0_ofFlight_8 rfl rfl rfl ?_
    refine jj_getIv (q := 12) dX0_ofFlight_9 fl_X0_9 hs.t1 (blk_k (by decide)) rfl rfl ?_
    refine jj_icmp_ge (q := 15) (tgt := 63) dX0_ofFlight_12 rfl rfl (fun h12 => absurd h12 ((by rw [hc]; exact nI_ge (by omega) (by omega)))) (fun h12 => ?_)
    refine jj_aload_n (q := 16) dX0_ofFlight_15 rfl rfl rfl ?_
    refine jj_getR (q := 19) dX0_ofFlight_16 fl_X0_19 hs.t1 hs.r1_2 rfl rfl rfl ?_
    refine jj_iload (q := 21) dX0_ofFlight_19 rfl rfl ?_
    refine jj_cN2i (q := 24) dX0_ofFlight_21 yk_X8_at ml_X0_47 (ex_atv hs.t3 (blk_k (by decide)) rfl) rfl rfl rfl ⟨Nat.zero_le _, Nat.zero_le _⟩ ?_
    rw [atV_nI (show i < 100 by omega) (by omega)]
    refine jj_iload_n (q := 25) dX0_ofFlight_24 rfl rfl rfl ?_
    refine jj_icmp_ne (q := 28) (tgt := 57) dX0_ofFlight_25 rfl rfl (fun h25 => ?_) (fun h25 => ?_)
    · refine jj_iinc (v := nI (i + 1)) (q := 60) dX0_ofFlight_57 rfl (nI_inc i) (by decide) rfl ?_
      refine jj_goto (tgt := 6) dX0_ofFlight_60 rfl ?_
      have e : (pOf K f lo hh) i = false := by simp [pOf, h25]
      have h9 := ih (i + 1) (by omega)
      rw [ct_no e] at h9
      exact h9
    · refine jj_aload_n (q := 29) dX0_ofFlight_28 rfl rfl rfl ?_
      refine jj_getR (q := 32) dX0_ofFlight_29 fl_X0_15 hs.t1 hs.r1_1 rfl rfl rfl ?_
      refine jj_iload (q := 34) dX0_ofFlight_32 rfl rfl ?_
      refine jj_cN2i (q := 37) dX0_ofFlight_34 yk_X8_at ml_X0_47 (ex_atv hs.t2 (blk_k (by decide)) rfl) rfl rfl rfl ⟨Nat.zero_le _, Nat.zero_le _⟩ ?_
      rw [atV_nI (show i < 100 by omega) (by omega)]
      refine jj_iload_n (q := 38) dX0_ofFlight_37 rfl rfl rfl ?_
      refine jj_icmp_lt (q := 41) (tgt := 57) dX0_ofFlight_38 rfl rfl (fun h38 => ?_) (fun h38 => ?_)
      · refine jj_iinc (v := nI (i + 1)) (q := 60) dX0_ofFlight_57 rfl (nI_inc i) (by decide) rfl ?_
        refine jj_goto (tgt := 6) dX0_ofFlight_60 rfl ?_
        have e : (pOf K f lo hh) i = false := by simp [pOf, Int32.not_le.mpr h38]
        have h9 := ih (i + 1) (by omega)
        rw [ct_no e] at h9
        exact h9
      · refine jj_aload_n (q := 42) dX0_ofFlight_41 rfl rfl rfl ?_
        refine jj_getR (q := 45) dX0_ofFlight_42 fl_X0_15 hs.t1 hs.r1_1 rfl rfl rfl ?_
        refine jj_iload (q := 47) dX0_ofFlight_45 rfl rfl ?_
        refine jj_cN2i (q := 50) dX0_ofFlight_47 yk_X8_at ml_X0_47 (ex_atv hs.t2 (blk_k (by decide)) rfl) rfl rfl rfl ⟨Nat.zero_le _, Nat.zero_le _⟩ ?_
        rw [atV_nI (show i < 100 by omega) (by omega)]
        refine jj_iload_n (q := 51) dX0_ofFlight_50 rfl rfl rfl ?_
        refine jj_icmp_gt (q := 54) (tgt := 57) dX0_ofFlight_51 rfl rfl (fun h51 => ?_) (fun h51 => ?_)
        · refine jj_iinc (v := nI (i + 1)) (q := 60) dX0_ofFlight_57 rfl (nI_inc i) (by decide) rfl ?_
          refine jj_goto (tgt := 6) dX0_ofFlight_60 rfl ?_
          have e : (pOf K f lo hh) i = false := by simp [pOf, Int32.not_le.mpr h51]
          have h9 := ih (i + 1) (by omega)
          rw [ct_no e] at h9
          exact h9
        · refine jj_iinc (v := nI (fb_ct (pOf K f lo hh) (i + 1))) (q := 57) dX0_ofFlight_54 rfl (ct_inc (by simp [pOf]; exact ⟨h25, Int32.not_lt.mp h38, Int32.not_lt.mp h51⟩)) (by decide) rfl ?_
          refine jj_iinc (v := nI (i + 1)) (q := 60) dX0_ofFlight_57 rfl (nI_inc i) (by decide) rfl ?_
          refine jj_goto (tgt := 6) dX0_ofFlight_60 rfl ?_
          exact ih (i + 1) (by omega)
theorem ex_ofFlight (hs : hSt T R a) (hc : K 1 0 = nI c) (hc1 : c ≤ 100) {f lo hh : Int32} : Ex Γ (d + 1) Y_X0_ofFlight [.ref (a + 1), .int f, .int lo, .int hh] (T, R, S, blk 19 I a K, L, D, z) 0 0 (rI (nI (fb_ct (pOf K f lo hh) c)) (T, R, S, blk 19 I a K, L, D, z)) := by
  refine Ex.of (by decide) (by simp [Value.category]) (Nat.le_of_ble_eq_true rfl) rfl ?_
  refine jj_iconst (v := 0) (q := 1) dX0_ofFlight_0 rfl rfl ?_
  refine jj_istore (q := 3) dX0_ofFlight_1 (by decide) rfl ?_
  refine jj_iconst (v := 0) (q := 4) dX0_ofFlight_3 rfl rfl ?_
  refine jj_istore (q := 6) dX0_ofFlight_4 (by decide) rfl ?_
  exact lp_ofFlight hs hc hc1 c 0 (by omega)
theorem ex_isLoaded (hs : hSt T R a) {b f : Int32} : Ex Γ (d + 1) Y_X0_isLoaded [.ref (a + 1), .int b, .int f] (T, R, S, blk 19 I a K, L, D, z) 0 0 (rI (kLd K b f) (T, R, S, blk 19 I a K, L, D, z)) := by
  refine Ex.of (by decide) (by simp [Value.category]) (Nat.le_of_ble_eq_true rfl) rfl ?_
  refine jj_aload_n (q := 1) dX0_isLoaded_0 rfl rfl rfl ?_
  refine jj_getR (q := 4) dX0_isLoaded_1 fl_X0_19 hs.t1 hs.r1_2 rfl rfl rfl ?_
  refine jj_iload_n (q := 5) dX0_isLoaded_4 rfl rfl rfl ?_
  refine jj_cN2i (q := 8) dX0_isLoaded_5 yk_X8_at ml_X0_47 (ex_atv hs.t3 (blk_k (by decide)) rfl) rfl rfl rfl ⟨Nat.zero_le _, Nat.zero_le _⟩ ?_
  refine jj_iload_n (q := 9) dX0_isLoaded_8 rfl rfl rfl ?_
  refine jj_icmp_ne (q := 12) (tgt := 29) dX0_isLoaded_9 rfl rfl (fun h9 => ?_) (fun h9 => ?_)
  · refine jj_iconst (v := 0) (q := 30) dX0_isLoaded_29 rfl rfl ?_
    refine jj_zret dX0_isLoaded_30 rfl (by first | rfl | assumption) (Nat.zero_le _) (Nat.zero_le _) ?_
    exact ⟨by simp [kLd, *], rfl⟩
  · refine jj_aload_n (q := 13) dX0_isLoaded_12 rfl rfl rfl ?_
    refine jj_getR (q := 16) dX0_isLoaded_13 fl_X0_15 hs.t1 hs.r1_1 rfl rfl rfl ?_
    refine jj_iload_n (q := 17) dX0_isLoaded_16 rfl rfl rfl ?_
    refine jj_cN2i (q := 20) dX0_isLoaded_17 yk_X8_at ml_X0_47 (ex_atv hs.t2 (blk_k (by decide)) rfl) rfl rfl rfl ⟨Nat.zero_le _, Nat.zero_le _⟩ ?_
    refine jj_bipush (v := 10) (q := 22) dX0_isLoaded_20 rfl rfl ?_
    refine jj_icmp_ne (q := 25) (tgt := 29) dX0_isLoaded_22 rfl rfl (fun h22 => ?_) (fun h22 => ?_)
    · refine jj_iconst (v := 0) (q := 30) dX0_isLoaded_29 rfl rfl ?_
      refine jj_zret dX0_isLoaded_30 rfl (by first | rfl | assumption) (Nat.zero_le _) (Nat.zero_le _) ?_
      exact ⟨by simp [kLd, *], rfl⟩
    · refine jj_iconst (v := 1) (q := 26) dX0_isLoaded_25 rfl rfl ?_
      refine jj_goto (tgt := 30) dX0_isLoaded_26 rfl ?_
      refine jj_zret dX0_isLoaded_30 rfl (by first | rfl | assumption) (Nat.zero_le _) (Nat.zero_le _) ?_
      exact ⟨by simp [kLd, *], rfl⟩
theorem lp_loadedWithin (hs : hSt T R a) (hc : K 1 0 = nI c) (hc1 : c ≤ 100) {f t : Int32} : ∀ (k i : Nat), i + k = c → JJ Γ (jj_E Y_X0_loadedWithin) (jj_Z Γ (rI (nI (fb_ct (pWi K f t) c)) (T, R, S, blk 19 I a K, L, D, z)) 0 0) (jj_rm (d + 2) 0 0) 0 0 5 [some (.ref (a + 1)), some (.int f), some (.int t), some (.int (nI (fb_ct (pWi K f t) i))), some (.int (nI i))] [] (T, R, S, blk 19 I a K, L, D, z) := by
  intro k
  induction k with
  | zero =>
    intro i hi
    refine jj_iload (q := 7) dX0_loadedWithin_5 rfl rfl ?_
    refine jj_aload_n (q := 8) dX0_loadedWithin_7 rfl rfl rfl ?_
    refine jj_getIv (q := 11) dX0_loadedWithin_8 fl_X0_9 hs.t1 (blk_k (by decide)) rfl rfl ?_
    refine jj_icmp_ge (q := 14) (tgt := 56) dX0_loadedWithin_11 rfl rfl (fun h11 => ?_) (fun h11 => absurd ((by rw [hc]; exact nI_le (by omega) (by omega))) h11)
    refine jj_iload_n (q := 57) dX0_loadedWithin_56 rfl rfl rfl ?_
    refine jj_iret dX0_loadedWithin_57 rfl (Nat.zero_le _) (Nat.zero_le _) ?_
    exact ⟨by rw [show c = i by omega], rfl⟩
  | succ k ih =>
    intro i hi
    refine jj_iload (q := 7) dX0_loadedWithin_5 rfl rfl ?_
    refine jj_aload_n (q := 8) dX0_loadedWithin_7 rfl rfl rfl ?_
    refine jj_getIv (q := 11) dX0_loadedWithin_8 fl_X0_9 hs.t1 (blk_k (by decide)) rfl rfl ?_
    refine jj_icmp_ge (q := 14) (tgt := 56) dX0_loadedWithin_11 rfl rfl (fun h11 => absurd h11 ((by rw [hc]; exact nI_ge (by omega) (by omega)))) (fun h11 => ?_)
    refine jj_aload_n (q := 15) dX0_loadedWithin_14 rfl rfl rfl ?_
    refine jj_iload (q := 17) dX0_loadedWithin_15 rfl rfl ?_
    refine jj_iload_n (q := 18) dX0_loadedWithin_17 rfl rfl rfl ?_
    refine jj_cV2i (q := 21) dX0_loadedWithin_18 yk_X0_isLoaded ml_X0_55 hs.t1 (ex_isLoaded hs) rfl rfl rfl ⟨Nat.zero_le _, Nat.zero_le _⟩ ?_
    refine jj_if_eq (q := 24) (tgt := 50) dX0_loadedWithin_21 rfl rfl (fun h21 => ?_) (fun h21 => ?_)
    · try rw [kLd_nI (by omega)] at h21
      refine jj_iinc (v := nI (i + 1)) (q := 53) dX0_loadedWithin_50 rfl (nI_inc i) (by decide) rfl ?_
      refine jj_goto (tgt := 5) dX0_loadedWithin_53 rfl ?_
      have e : (pWi K f t) i = false := by simp only [pWi, decide_eq_false_iff_not]; exact fun h => h21 h.1
      have h9 := ih (i + 1) (by omega)
      rw [ct_no e] at h9
      exact h9
    · rw [kLd_nI (by omega), Decidable.not_not] at h21
      refine jj_aload_n (q := 25) dX0_loadedWithin_24 rfl rfl rfl ?_
      refine jj_getR (q := 28) dX0_loadedWithin_25 fl_X0_31 hs.t1 hs.r1_6 rfl rfl rfl ?_
      refine jj_iload (q := 30) dX0_loadedWithin_28 rfl rfl ?_
      refine jj_cN2i (q := 33) dX0_loadedWithin_30 yk_X8_at ml_X0_47 (ex_atv hs.t7 (blk_k (by decide)) rfl) rfl rfl rfl ⟨Nat.zero_le _, Nat.zero_le _⟩ ?_
      rw [atV_nI (show i < 100 by omega) (by omega)]
      refine jj_aload_n (q := 34) dX0_loadedWithin_33 rfl rfl rfl ?_
      refine jj_getR (q := 37) dX0_loadedWithin_34 fl_X0_22 hs.t1 hs.r1_3 rfl rfl rfl ?_
      refine jj_iload (q := 39) dX0_loadedWithin_37 rfl rfl ?_
      refine jj_cN2i (q := 42) dX0_loadedWithin_39 yk_X8_at ml_X0_47 (ex_atv hs.t4 (blk_k (by decide)) rfl) rfl rfl rfl ⟨Nat.zero_le _, Nat.zero_le _⟩ ?_
      rw [atV_nI (show i < 100 by omega) (by omega)]
      refine jj_isub (q := 43) dX0_loadedWithin_42 rfl ?_
      refine jj_iload_n (q := 44) dX0_loadedWithin_43 rfl rfl rfl ?_
      refine jj_icmp_gt (q := 47) (tgt := 50) dX0_loadedWithin_44 rfl rfl (fun h44 => ?_) (fun h44 => ?_)
      · try rw [kLd_nI (by omega)] at h21
        refine jj_iinc (v := nI (i + 1)) (q := 53) dX0_loadedWithin_50 rfl (nI_inc i) (by decide) rfl ?_
        refine jj_goto (tgt := 5) dX0_loadedWithin_53 rfl ?_
        have e : (pWi K f t) i = false := by simp only [pWi, decide_eq_false_iff_not]; exact fun h => Int32.not_le.mpr h44 h.2
        have h9 := ih (i + 1) (by omega)
        rw [ct_no e] at h9
        exact h9
      · refine jj_iinc (v := nI (fb_ct (pWi K f t) (i + 1))) (q := 50) dX0_loadedWithin_47 rfl (ct_inc (by simp only [pWi, decide_eq_true_eq]; exact ⟨h21, Int32.not_lt.mp h44⟩)) (by decide) rfl ?_
        try rw [kLd_nI (by omega)] at h21
        refine jj_iinc (v := nI (i + 1)) (q := 53) dX0_loadedWithin_50 rfl (nI_inc i) (by decide) rfl ?_
        refine jj_goto (tgt := 5) dX0_loadedWithin_53 rfl ?_
        exact ih (i + 1) (by omega)
theorem ex_loadedWithin (hs : hSt T R a) (hc : K 1 0 = nI c) (hc1 : c ≤ 100) {f t : Int32} : Ex Γ (d + 2) Y_X0_loadedWithin [.ref (a + 1), .int f, .int t] (T, R, S, blk 19 I a K, L, D, z) 0 0 (rI (nI (fb_ct (pWi K f t) c)) (T, R, S, blk 19 I a K, L, D, z)) := by
  refine Ex.of (by decide) (by simp [Value.category]) (Nat.le_of_ble_eq_true rfl) rfl ?_
  refine jj_iconst (v := 0) (q := 1) dX0_loadedWithin_0 rfl rfl ?_
  refine jj_istore_n (q := 2) dX0_loadedWithin_1 rfl (by decide) rfl ?_
  refine jj_iconst (v := 0) (q := 3) dX0_loadedWithin_2 rfl rfl ?_
  refine jj_istore (q := 5) dX0_loadedWithin_3 (by decide) rfl ?_
  exact lp_loadedWithin hs hc hc1 c 0 (by omega)
theorem lp_loadingTime (hs : hSt T R a) (hc : K 1 0 = nI c) (hc1 : c ≤ 100) {f rk : Int32} : ∀ (k i : Nat) (x4 : Option Value), (i + k = c ∧ ∀ j, j < i → (pTi K f rk c) j = false) → JJ Γ (jj_E Y_X0_loadingTime) (jj_Z Γ (rI (srch (pTi K f rk c) c (fun b => K 7 b - K 4 b) (-1)) (T, R, S, blk 19 I a K, L, D, z)) 0 0) (jj_rm (d + 3) 0 0) 0 0 2 [some (.ref (a + 1)), some (.int f), some (.int rk), some (.int (nI i)), x4] [] (T, R, S, blk 19 I a K, L, D, z) := by
  intro k
  induction k with
  | zero =>
    intro i x4 hi
    refine jj_iload_n (q := 3) dX0_loadingTime_2 rfl rfl rfl ?_
    refine jj_aload_n (q := 4) dX0_loadingTime_3 rfl rfl rfl ?_
    refine jj_getIv (q := 7) dX0_loadingTime_4 fl_X0_9 hs.t1 (blk_k (by decide)) rfl rfl ?_
    refine jj_icmp_ge (q := 10) (tgt := 71) dX0_loadingTime_7 rfl rfl (fun h7 => ?_) (fun h7 => absurd ((by rw [hc]; exact nI_le (by omega) (by omega))) h7)
    refine jj_iconst (v := -1) (q := 72) dX0_loadingTime_71 rfl rfl ?_
    refine jj_iret dX0_loadingTime_72 rfl (Nat.zero_le _) (Nat.zero_le _) ?_
    exact ⟨by rw [srch_none (fun j hj => hi.2 j (by omega))], rfl⟩
  | succ k ih =>
    intro i x4 hi
    refine jj_iload_n (q := 3) dX0_loadingTime_2 rfl rfl rfl ?_
    refine jj_aload_n (q := 4) dX0_loadingTime_3 rfl rfl rfl ?_
    refine jj_getIv (q := 7) dX0_loadingTime_4 fl_X0_9 hs.t1 (blk_k (by decide)) rfl rfl ?_
    refine jj_icmp_ge (q := 10) (tgt := 71) dX0_loadingTime_7 rfl rfl (fun h7 => absurd h7 ((by rw [hc]; exact nI_ge (by omega) (by omega)))) (fun h7 => ?_)
    refine jj_aload_n (q := 11) dX0_loadingTime_10 rfl rfl rfl ?_
    refine jj_iload_n (q := 12) dX0_loadingTime_11 rfl rfl rfl ?_
    refine jj_iload_n (q := 13) dX0_loadingTime_12 rfl rfl rfl ?_
    refine jj_cV2i (q := 16) dX0_loadingTime_13 yk_X0_isLoaded ml_X0_55 hs.t1 (ex_isLoaded hs) rfl rfl rfl ⟨Nat.zero_le _, Nat.zero_le _⟩ ?_
    refine jj_if_eq (q := 19) (tgt := 65) dX0_loadingTime_16 rfl rfl (fun h16 => ?_) (fun h16 => ?_)
    · try rw [kLd_nI (by omega)] at h16
      refine jj_iinc (v := nI (i + 1)) (q := 68) dX0_loadingTime_65 rfl (nI_inc i) (by decide) rfl ?_
      refine jj_goto (tgt := 2) dX0_loadingTime_68 rfl ?_
      have e : (pTi K f rk c) i = false := by simp only [pTi, decide_eq_false_iff_not]; exact fun h => h16 h.1
      exact ih (i + 1) _ ⟨by omega, lt_s hi.2 e⟩
    · rw [kLd_nI (by omega), Decidable.not_not] at h16
      refine jj_aload_n (q := 20) dX0_loadingTime_19 rfl rfl rfl ?_
      refine jj_getR (q := 23) dX0_loadingTime_20 fl_X0_31 hs.t1 hs.r1_6 rfl rfl rfl ?_
      refine jj_iload_n (q := 24) dX0_loadingTime_23 rfl rfl rfl ?_
      refine jj_cN2i (q := 27) dX0_loadingTime_24 yk_X8_at ml_X0_47 (ex_atv hs.t7 (blk_k (by decide)) rfl) rfl rfl rfl ⟨Nat.zero_le _, Nat.zero_le _⟩ ?_
      rw [atV_nI (show i < 100 by omega) (by omega)]
      refine jj_aload_n (q := 28) dX0_loadingTime_27 rfl rfl rfl ?_
      refine jj_getR (q := 31) dX0_loadingTime_28 fl_X0_22 hs.t1 hs.r1_3 rfl rfl rfl ?_
      refine jj_iload_n (q := 32) dX0_loadingTime_31 rfl rfl rfl ?_
      refine jj_cN2i (q := 35) dX0_loadingTime_32 yk_X8_at ml_X0_47 (ex_atv hs.t4 (blk_k (by decide)) rfl) rfl rfl rfl ⟨Nat.zero_le _, Nat.zero_le _⟩ ?_
      rw [atV_nI (show i < 100 by omega) (by omega)]
      refine jj_isub (q := 36) dX0_loadingTime_35 rfl ?_
      refine jj_istore (q := 38) dX0_loadingTime_36 (by decide) rfl ?_
      refine jj_aload_n (q := 39) dX0_loadingTime_38 rfl rfl rfl ?_
      refine jj_iload_n (q := 40) dX0_loadingTime_39 rfl rfl rfl ?_
      refine jj_iload (q := 42) dX0_loadingTime_40 rfl rfl ?_
      refine jj_iconst (v := 1) (q := 43) dX0_loadingTime_42 rfl rfl ?_
      refine jj_isub (q := 44) dX0_loadingTime_43 rfl ?_
      refine jj_cV2i (q := 47) dX0_loadingTime_44 yk_X0_loadedWithin ml_X0_59 hs.t1 (ex_loadedWithin hs hc hc1) rfl rfl rfl ⟨Nat.zero_le _, Nat.zero_le _⟩ ?_
      refine jj_iload_n (q := 48) dX0_loadingTime_47 rfl rfl rfl ?_
      refine jj_icmp_ge (q := 51) (tgt := 65) dX0_loadingTime_48 rfl rfl (fun h48 => ?_) (fun h48 => ?_)
      · try rw [kLd_nI (by omega)] at h16
        refine jj_iinc (v := nI (i + 1)) (q := 68) dX0_loadingTime_65 rfl (nI_inc i) (by decide) rfl ?_
        refine jj_goto (tgt := 2) dX0_loadingTime_68 rfl ?_
        have e : (pTi K f rk c) i = false := by simp only [pTi, decide_eq_false_iff_not]; exact fun h => absurd h.2.1 (Int32.not_lt.mpr h48)
        exact ih (i + 1) _ ⟨by omega, lt_s hi.2 e⟩
      · refine jj_iload_n (q := 52) dX0_loadingTime_51 rfl rfl rfl ?_
        refine jj_aload_n (q := 53) dX0_loadingTime_52 rfl rfl rfl ?_
        refine jj_iload_n (q := 54) dX0_loadingTime_53 rfl rfl rfl ?_
        refine jj_iload (q := 56) dX0_loadingTime_54 rfl rfl ?_
        refine jj_cV2i (q := 59) dX0_loadingTime_56 yk_X0_loadedWithin ml_X0_59 hs.t1 (ex_loadedWithin hs hc hc1) rfl rfl rfl ⟨Nat.zero_le _, Nat.zero_le _⟩ ?_
        refine jj_icmp_gt (q := 62) (tgt := 65) dX0_loadingTime_59 rfl rfl (fun h59 => ?_) (fun h59 => ?_)
        · try rw [kLd_nI (by omega)] at h16
          refine jj_iinc (v := nI (i + 1)) (q := 68) dX0_loadingTime_65 rfl (nI_inc i) (by decide) rfl ?_
          refine jj_goto (tgt := 2) dX0_loadingTime_68 rfl ?_
          have e : (pTi K f rk c) i = false := by simp only [pTi, decide_eq_false_iff_not]; exact fun h => absurd h.2.2 (Int32.not_le.mpr h59)
          exact ih (i + 1) _ ⟨by omega, lt_s hi.2 e⟩
        · refine jj_iload (q := 64) dX0_loadingTime_62 rfl rfl ?_
          refine jj_iret dX0_loadingTime_64 rfl (Nat.zero_le _) (Nat.zero_le _) ?_
          exact ⟨by rw [srch_hit hi.2 (by simp only [pTi, decide_eq_true_eq]; exact ⟨h16, Int32.not_le.mp h48, Int32.not_lt.mp h59⟩) (by omega)], rfl⟩
theorem ex_loadingTime (hs : hSt T R a) (hc : K 1 0 = nI c) (hc1 : c ≤ 100) {f rk : Int32} : Ex Γ (d + 3) Y_X0_loadingTime [.ref (a + 1), .int f, .int rk] (T, R, S, blk 19 I a K, L, D, z) 0 0 (rI (srch (pTi K f rk c) c (fun b => K 7 b - K 4 b) (-1)) (T, R, S, blk 19 I a K, L, D, z)) := by
  refine Ex.of (by decide) (by simp [Value.category]) (Nat.le_of_ble_eq_true rfl) rfl ?_
  refine jj_iconst (v := 0) (q := 1) dX0_loadingTime_0 rfl rfl ?_
  refine jj_istore_n (q := 2) dX0_loadingTime_1 rfl (by decide) rfl ?_
  exact lp_loadingTime hs hc hc1 c 0 none ⟨by omega, lt_0⟩
theorem ex_goesBefore (hs : hSt T R a) {b o : Int32} : Ex Γ (d + 1) Y_X4_goesBefore [.ref a, .int b, .int o] (T, R, S, blk 19 I a K, L, D, z) 0 0 (rI (kGB K b o) (T, R, S, blk 19 I a K, L, D, z)) := by
  refine Ex.of (by decide) (by simp [Value.category]) (Nat.le_of_ble_eq_true rfl) rfl ?_
  refine jj_aload_n (q := 1) dX4_goesBefore_0 rfl rfl rfl ?_
  refine jj_getR (q := 4) dX4_goesBefore_1 fl_X4_36 hs.t0 hs.r0_6 rfl rfl rfl ?_
  refine jj_aload_n (q := 5) dX4_goesBefore_4 rfl rfl rfl ?_
  refine jj_getR (q := 8) dX4_goesBefore_5 fl_X4_28 hs.t0 hs.r0_4 rfl rfl rfl ?_
  refine jj_getR (q := 11) dX4_goesBefore_8 fl_X4_97 hs.t1 hs.r1_2 rfl rfl rfl ?_
  refine jj_iload_n (q := 12) dX4_goesBefore_11 rfl rfl rfl ?_
  refine jj_cN2i (q := 15) dX4_goesBefore_12 yk_X8_at ml_X4_93 (ex_atv hs.t3 (blk_k (by decide)) rfl) rfl rfl rfl ⟨Nat.zero_le _, Nat.zero_le _⟩ ?_
  refine jj_cN2i (q := 18) dX4_goesBefore_15 yk_X8_at ml_X4_93 (ex_atv hs.t10 (blk_k (by decide)) rfl) rfl rfl rfl ⟨Nat.zero_le _, Nat.zero_le _⟩ ?_
  refine jj_aload_n (q := 19) dX4_goesBefore_18 rfl rfl rfl ?_
  refine jj_getR (q := 22) dX4_goesBefore_19 fl_X4_36 hs.t0 hs.r0_6 rfl rfl rfl ?_
  refine jj_aload_n (q := 23) dX4_goesBefore_22 rfl rfl rfl ?_
  refine jj_getR (q := 26) dX4_goesBefore_23 fl_X4_28 hs.t0 hs.r0_4 rfl rfl rfl ?_
  refine jj_getR (q := 29) dX4_goesBefore_26 fl_X4_97 hs.t1 hs.r1_2 rfl rfl rfl ?_
  refine jj_iload_n (q := 30) dX4_goesBefore_29 rfl rfl rfl ?_
  refine jj_cN2i (q := 33) dX4_goesBefore_30 yk_X8_at ml_X4_93 (ex_atv hs.t3 (blk_k (by decide)) rfl) rfl rfl rfl ⟨Nat.zero_le _, Nat.zero_le _⟩ ?_
  refine jj_cN2i (q := 36) dX4_goesBefore_33 yk_X8_at ml_X4_93 (ex_atv hs.t10 (blk_k (by decide)) rfl) rfl rfl rfl ⟨Nat.zero_le _, Nat.zero_le _⟩ ?_
  refine jj_isub (q := 37) dX4_goesBefore_36 rfl ?_
  refine jj_istore_n (q := 38) dX4_goesBefore_37 rfl (by decide) rfl ?_
  refine jj_iload_n (q := 39) dX4_goesBefore_38 rfl rfl rfl ?_
  refine jj_if_ne (q := 42) (tgt := 66) dX4_goesBefore_39 rfl rfl (fun h39 => ?_) (fun h39 => ?_)
  · refine jj_iload_n (q := 67) dX4_goesBefore_66 rfl rfl rfl ?_
    refine jj_if_gt (q := 70) (tgt := 79) dX4_goesBefore_67 rfl rfl (fun h67 => ?_) (fun h67 => ?_)
    · refine jj_iconst (v := 1) (q := 80) dX4_goesBefore_79 rfl rfl ?_
      refine jj_goto (tgt := 84) dX4_goesBefore_80 rfl ?_
      refine jj_zret dX4_goesBefore_84 rfl (by first | rfl | assumption) (Nat.zero_le _) (Nat.zero_le _) ?_
      exact ⟨by unfold kGB kGB2; (first | rw [if_pos h39] | rw [if_neg h39] | skip); (first | rw [if_pos h67] | rw [if_neg h67] | skip); (first | rw [if_pos h71] | rw [if_neg h71] | skip); (first | rw [if_pos h76] | rw [if_neg h76] | skip), rfl⟩
    · refine jj_iload_n (q := 71) dX4_goesBefore_70 rfl rfl rfl ?_
      refine jj_if_ne (q := 74) (tgt := 83) dX4_goesBefore_71 rfl rfl (fun h71 => ?_) (fun h71 => ?_)
      · refine jj_iconst (v := 0) (q := 84) dX4_goesBefore_83 rfl rfl ?_
        refine jj_zret dX4_goesBefore_84 rfl (by first | rfl | assumption) (Nat.zero_le _) (Nat.zero_le _) ?_
        exact ⟨by unfold kGB kGB2; (first | rw [if_pos h39] | rw [if_neg h39] | skip); (first | rw [if_pos h67] | rw [if_neg h67] | skip); (first | rw [if_pos h71] | rw [if_neg h71] | skip); (first | rw [if_pos h76] | rw [if_neg h76] | skip), rfl⟩
      · refine jj_iload_n (q := 75) dX4_goesBefore_74 rfl rfl rfl ?_
        refine jj_iload_n (q := 76) dX4_goesBefore_75 rfl rfl rfl ?_
        refine jj_icmp_ge (q := 79) (tgt := 83) dX4_goesBefore_76 rfl rfl (fun h76 => ?_) (fun h76 => ?_)
        · refine jj_iconst (v := 0) (q := 84) dX4_goesBefore_83 rfl rfl ?_
          refine jj_zret dX4_goesBefore_84 rfl (by first | rfl | assumption) (Nat.zero_le _) (Nat.zero_le _) ?_
          exact ⟨by unfold kGB kGB2; (first | rw [if_pos h39] | rw [if_neg h39] | skip); (first | rw [if_pos h67] | rw [if_neg h67] | skip); (first | rw [if_pos h71] | rw [if_neg h71] | skip); (first | rw [if_pos h76] | rw [if_neg h76] | skip), rfl⟩
        · refine jj_iconst (v := 1) (q := 80) dX4_goesBefore_79 rfl rfl ?_
          refine jj_goto (tgt := 84) dX4_goesBefore_80 rfl ?_
          refine jj_zret dX4_goesBefore_84 rfl (by first | rfl | assumption) (Nat.zero_le _) (Nat.zero_le _) ?_
          exact ⟨by unfold kGB kGB2; (first | rw [if_pos h39] | rw [if_neg h39] | skip); (first | rw [if_pos h67] | rw [if_neg h67] | skip); (first | rw [if_pos h71] | rw [if_neg h71] | skip); (first | rw [if_pos h76] | rw [if_neg h76] | skip), rfl⟩
  · refine jj_aload_n (q := 43) dX4_goesBefore_42 rfl rfl rfl ?_
    refine jj_getR (q := 46) dX4_goesBefore_43 fl_X4_28 hs.t0 hs.r0_4 rfl rfl rfl ?_
    refine jj_getR (q := 49) dX4_goesBefore_46 fl_X4_119 hs.t1 hs.r1_3 rfl rfl rfl ?_
    refine jj_iload_n (q := 50) dX4_goesBefore_49 rfl rfl rfl ?_
    refine jj_cN2i (q := 53) dX4_goesBefore_50 yk_X8_at ml_X4_93 (ex_atv hs.t4 (blk_k (by decide)) rfl) rfl rfl rfl ⟨Nat.zero_le _, Nat.zero_le _⟩ ?_
    refine jj_aload_n (q := 54) dX4_goesBefore_53 rfl rfl rfl ?_
    refine jj_getR (q := 57) dX4_goesBefore_54 fl_X4_28 hs.t0 hs.r0_4 rfl rfl rfl ?_
    refine jj_getR (q := 60) dX4_goesBefore_57 fl_X4_119 hs.t1 hs.r1_3 rfl rfl rfl ?_
    refine jj_iload_n (q := 61) dX4_goesBefore_60 rfl rfl rfl ?_
    refine jj_cN2i (q := 64) dX4_goesBefore_61 yk_X8_at ml_X4_93 (ex_atv hs.t4 (blk_k (by decide)) rfl) rfl rfl rfl ⟨Nat.zero_le _, Nat.zero_le _⟩ ?_
    refine jj_isub (q := 65) dX4_goesBefore_64 rfl ?_
    refine jj_istore_n (q := 66) dX4_goesBefore_65 rfl (by decide) rfl ?_
    refine jj_iload_n (q := 67) dX4_goesBefore_66 rfl rfl rfl ?_
    refine jj_if_gt (q := 70) (tgt := 79) dX4_goesBefore_67 rfl rfl (fun h67 => ?_) (fun h67 => ?_)
    · refine jj_iconst (v := 1) (q := 80) dX4_goesBefore_79 rfl rfl ?_
      refine jj_goto (tgt := 84) dX4_goesBefore_80 rfl ?_
      refine jj_zret dX4_goesBefore_84 rfl (by first | rfl | assumption) (Nat.zero_le _) (Nat.zero_le _) ?_
      exact ⟨by unfold kGB kGB2; (first | rw [if_pos h39] | rw [if_neg h39] | skip); (first | rw [if_pos h67] | rw [if_neg h67] | skip); (first | rw [if_pos h71] | rw [if_neg h71] | skip); (first | rw [if_pos h76] | rw [if_neg h76] | skip), rfl⟩
    · refine jj_iload_n (q := 71) dX4_goesBefore_70 rfl rfl rfl ?_
      refine jj_if_ne (q := 74) (tgt := 83) dX4_goesBefore_71 rfl rfl (fun h71 => ?_) (fun h71 => ?_)
      · refine jj_iconst (v := 0) (q := 84) dX4_goesBefore_83 rfl rfl ?_
        refine jj_zret dX4_goesBefore_84 rfl (by first | rfl | assumption) (Nat.zero_le _) (Nat.zero_le _) ?_
        exact ⟨by unfold kGB kGB2; (first | rw [if_pos h39] | rw [if_neg h39] | skip); (first | rw [if_pos h67] | rw [if_neg h67] | skip); (first | rw [if_pos h71] | rw [if_neg h71] | skip); (first | rw [if_pos h76] | rw [if_neg h76] | skip), rfl⟩
      · refine jj_iload_n (q := 75) dX4_goesBefore_74 rfl rfl rfl ?_
        refine jj_iload_n (q := 76) dX4_goesBefore_75 rfl rfl rfl ?_
        refine jj_icmp_ge (q := 79) (tgt := 83) dX4_goesBefore_76 rfl rfl (fun h76 => ?_) (fun h76 => ?_)
        · refine jj_iconst (v := 0) (q := 84) dX4_goesBefore_83 rfl rfl ?_
          refine jj_zret dX4_goesBefore_84 rfl (by first | rfl | assumption) (Nat.zero_le _) (Nat.zero_le _) ?_
          exact ⟨by unfold kGB kGB2; (first | rw [if_pos h39] | rw [if_neg h39] | skip); (first | rw [if_pos h67] | rw [if_neg h67] | skip); (first | rw [if_pos h71] | rw [if_neg h71] | skip); (first | rw [if_pos h76] | rw [if_neg h76] | skip), rfl⟩
        · refine jj_iconst (v := 1) (q := 80) dX4_goesBefore_79 rfl rfl ?_
          refine jj_goto (tgt := 84) dX4_goesBefore_80 rfl ?_
          refine jj_zret dX4_goesBefore_84 rfl (by first | rfl | assumption) (Nat.zero_le _) (Nat.zero_le _) ?_
          exact ⟨by unfold kGB kGB2; (first | rw [if_pos h39] | rw [if_neg h39] | skip); (first | rw [if_pos h67] | rw [if_neg h67] | skip); (first | rw [if_pos h71] | rw [if_neg h71] | skip); (first | rw [if_pos h76] | rw [if_neg h76] | skip), rfl⟩
theorem lp_firstOfQueue (hs : hSt T R a) (hc : K 1 0 = nI c) (hc1 : c ≤ 100) {w : Int32} : ∀ (k i : Nat), i + k = c → JJ Γ (jj_E Y_X4_firstOfQueue) (jj_Z Γ (rI (bst K w c) (T, R, S, blk 19 I a K, L, D, z)) 0 0) (jj_rm (d + 2) 0 0) 0 0 18 [some (.ref a), some (.int w), some (.int (bst K w i)), some (.int (nI i))] [] (T, R, S, blk 19 I a K, L, D, z) := by
  intro k
  induction k with
  | zero =>
    intro i hi
    refine jj_iload_n (q := 19) dX4_firstOfQueue_18 rfl rfl rfl ?_
    refine jj_aload_n (q := 20) dX4_firstOfQueue_19 rfl rfl rfl ?_
    refine jj_getR (q := 23) dX4_firstOfQueue_20 fl_X4_28 hs.t0 hs.r0_4 rfl rfl rfl ?_
    refine jj_getIv (q := 26) dX4_firstOfQueue_23 fl_X4_125 hs.t1 (blk_k (by decide)) rfl rfl ?_
    refine jj_icmp_ge (q := 29) (tgt := 66) dX4_firstOfQueue_26 rfl rfl (fun h26 => ?_) (fun h26 => absurd ((by rw [hc]; exact nI_le (by omega) (by omega))) h26)
    refine jj_iload_n (q := 67) dX4_firstOfQueue_66 rfl rfl rfl ?_
    refine jj_iret dX4_firstOfQueue_67 rfl (Nat.zero_le _) (Nat.zero_le _) ?_
    exact ⟨by rw [show c = i by omega], rfl⟩
  | succ k ih =>
    intro i hi
    refine jj_iload_n (q := 19) dX4_firstOfQueue_18 rfl rfl rfl ?_
    refine jj_aload_n (q := 20) dX4_firstOfQueue_19 rfl rfl rfl ?_
    refine jj_getR (q := 23) dX4_firstOfQueue_20 fl_X4_28 hs.t0 hs.r0_4 rfl rfl rfl ?_
    refine jj_getIv (q := 26) dX4_firstOfQueue_23 fl_X4_125 hs.t1 (blk_k (by decide)) rfl rfl ?_
    refine jj_icmp_ge (q := 29) (tgt := 66) dX4_firstOfQueue_26 rfl rfl (fun h26 => absurd h26 ((by rw [hc]; exact nI_ge (by omega) (by omega)))) (fun h26 => ?_)
    refine jj_aload_n (q := 30) dX4_firstOfQueue_29 rfl rfl rfl ?_
    refine jj_getR (q := 33) dX4_firstOfQueue_30 fl_X4_28 hs.t0 hs.r0_4 rfl rfl rfl ?_
    refine jj_getR (q := 36) dX4_firstOfQueue_33 fl_X4_128 hs.t1 hs.r1_1 rfl rfl rfl ?_
    refine jj_iload_n (q := 37) dX4_firstOfQueue_36 rfl rfl rfl ?_
    refine jj_cN2i (q := 40) dX4_firstOfQueue_37 yk_X8_at ml_X4_93 (ex_atv hs.t2 (blk_k (by decide)) rfl) rfl rfl rfl ⟨Nat.zero_le _, Nat.zero_le _⟩ ?_
    rw [atV_nI (show i < 100 by omega) (by omega)]
    refine jj_iload_n (q := 41) dX4_firstOfQueue_40 rfl rfl rfl ?_
    refine jj_icmp_ne (q := 44) (tgt := 60) dX4_firstOfQueue_41 rfl rfl (fun h41 => ?_) (fun h41 => ?_)
    · refine jj_iinc (v := nI (i + 1)) (q := 63) dX4_firstOfQueue_60 rfl (nI_inc i) (by decide) rfl ?_
      refine jj_goto (tgt := 18) dX4_firstOfQueue_63 rfl ?_
      have e : bst K w (i + 1) = bst K w i := (bst.eq_2 K w i).trans (if_neg (fun h => h41 h.1))
      have h9 := ih (i + 1) (by omega)
      rw [e] at h9
      exact h9
    · refine jj_iload_n (q := 45) dX4_firstOfQueue_44 rfl rfl rfl ?_
      refine jj_iconst (v := -1) (q := 46) dX4_firstOfQueue_45 rfl rfl ?_
      refine jj_icmp_eq (q := 49) (tgt := 58) dX4_firstOfQueue_46 rfl rfl (fun h46 => ?_) (fun h46 => ?_)
      · refine jj_iload_n (q := 59) dX4_firstOfQueue_58 rfl rfl rfl ?_
        refine jj_istore_n (q := 60) dX4_firstOfQueue_59 rfl (by decide) rfl ?_
        refine jj_iinc (v := nI (i + 1)) (q := 63) dX4_firstOfQueue_60 rfl (nI_inc i) (by decide) rfl ?_
        refine jj_goto (tgt := 18) dX4_firstOfQueue_63 rfl ?_
        have e : bst K w (i + 1) = nI i := (bst.eq_2 K w i).trans (if_pos (⟨h41, Or.inl h46⟩))
        have h9 := ih (i + 1) (by omega)
        rw [e] at h9
        exact h9
      · refine jj_aload_n (q := 50) dX4_firstOfQueue_49 rfl rfl rfl ?_
        refine jj_iload_n (q := 51) dX4_firstOfQueue_50 rfl rfl rfl ?_
        refine jj_iload_n (q := 52) dX4_firstOfQueue_51 rfl rfl rfl ?_
        refine jj_cV2i (q := 55) dX4_firstOfQueue_52 yk_X4_goesBefore ml_X4_131 hs.t0 (ex_goesBefore hs) rfl rfl rfl ⟨Nat.zero_le _, Nat.zero_le _⟩ ?_
        refine jj_if_eq (q := 58) (tgt := 60) dX4_firstOfQueue_55 rfl rfl (fun h55 => ?_) (fun h55 => ?_)
        · refine jj_iinc (v := nI (i + 1)) (q := 63) dX4_firstOfQueue_60 rfl (nI_inc i) (by decide) rfl ?_
          refine jj_goto (tgt := 18) dX4_firstOfQueue_63 rfl ?_
          have e : bst K w (i + 1) = bst K w i := (bst.eq_2 K w i).trans (if_neg (fun h => h.2.elim h46 (fun h1 => h1 h55)))
          have h9 := ih (i + 1) (by omega)
          rw [e] at h9
          exact h9
        · refine jj_iload_n (q := 59) dX4_firstOfQueue_58 rfl rfl rfl ?_
          refine jj_istore_n (q := 60) dX4_firstOfQueue_59 rfl (by decide) rfl ?_
          refine jj_iinc (v := nI (i + 1)) (q := 63) dX4_firstOfQueue_60 rfl (nI_inc i) (by decide) rfl ?_
          refine jj_goto (tgt := 18) dX4_firstOfQueue_63 rfl ?_
          have e : bst K w (i + 1) = nI i := (bst.eq_2 K w i).trans (if_pos (⟨h41, Or.inr h55⟩))
          have h9 := ih (i + 1) (by omega)
          rw [e] at h9
          exact h9
theorem ex_firstOfQueue (hs : hSt T R a) (hc : K 1 0 = nI c) (hc1 : c ≤ 100) {w : Int32} : Ex Γ (d + 2) Y_X4_firstOfQueue [.ref a, .int w] (T, R, S, blk 19 I a K, L, D, z) 0 0 (rI (kFQ K w c) (T, R, S, blk 19 I a K, L, D, z)) := by
  refine Ex.of (by decide) (by simp [Value.category]) (Nat.le_of_ble_eq_true rfl) rfl ?_
  refine jj_iconst (v := -1) (q := 1) dX4_firstOfQueue_0 rfl rfl ?_
  refine jj_istore_n (q := 2) dX4_firstOfQueue_1 rfl (by decide) rfl ?_
  refine jj_aload_n (q := 3) dX4_firstOfQueue_2 rfl rfl rfl ?_
  refine jj_getR (q := 6) dX4_firstOfQueue_3 fl_X4_28 hs.t0 hs.r0_4 rfl rfl rfl ?_
  refine jj_getR (q := 9) dX4_firstOfQueue_6 fl_X4_122 hs.t1 hs.r1_7 rfl rfl rfl ?_
  refine jj_iload_n (q := 10) dX4_firstOfQueue_9 rfl rfl rfl ?_
  refine jj_cN2i (q := 13) dX4_firstOfQueue_10 yk_X8_at ml_X4_93 (ex_atv hs.t8 (blk_k (by decide)) rfl) rfl rfl rfl ⟨Nat.zero_le _, Nat.zero_le _⟩ ?_
  refine jj_if_le (q := 16) (tgt := 66) dX4_firstOfQueue_13 rfl rfl (fun h13 => ?_) (fun h13 => ?_)
  · refine jj_iload_n (q := 67) dX4_firstOfQueue_66 rfl rfl rfl ?_
    refine jj_iret dX4_firstOfQueue_67 rfl (Nat.zero_le _) (Nat.zero_le _) ?_
    exact ⟨by rw [kFQ, if_pos h13], rfl⟩
  · refine jj_iconst (v := 0) (q := 17) dX4_firstOfQueue_16 rfl rfl ?_
    refine jj_istore_n (q := 18) dX4_firstOfQueue_17 rfl (by decide) rfl ?_
    rw [kFQ, if_neg h13]
    exact lp_firstOfQueue hs hc hc1 c 0 (by omega)
theorem lp_placeInQueue (hs : hSt T R a) (hc : K 1 0 = nI c) (hc1 : c ≤ 100) {b : Int32} : ∀ (k i : Nat), i + k = c → JJ Γ (jj_E Y_X4_placeInQueue) (jj_Z Γ (rI (nI (fb_ct (pQ K b) c)) (T, R, S, blk 19 I a K, L, D, z)) 0 0) (jj_rm (d + 2) 0 0) 0 0 4 [some (.ref a), some (.int b), some (.int (nI (fb_ct (pQ K b) i))), some (.int (nI i))] [] (T, R, S, blk 19 I a K, L, D, z) := by
  intro k
  induction k with
  | zero =>
    intro i hi
    refine jj_iload_n (q := 5) dX4_placeInQueue_4 rfl rfl rfl ?_
    refine jj_aload_n (q := 6) dX4_placeInQueue_5 rfl rfl rfl ?_
    refine jj_getR (q := 9) dX4_placeInQueue_6 fl_X4_28 hs.t0 hs.r0_4 rfl rfl rfl ?_
    refine jj_getIv (q := 12) dX4_placeInQueue_9 fl_X4_125 hs.t1 (blk_k (by decide)) rfl rfl ?_
    refine jj_icmp_ge (q := 15) (tgt := 58) dX4_placeInQueue_12 rfl rfl (fun h12 => ?_) (fun h12 => absurd ((by rw [hc]; exact nI_le (by omega) (by omega))) h12)
    refine jj_iload_n (q := 59) dX4_placeInQueue_58 rfl rfl rfl ?_
    refine jj_iret dX4_placeInQueue_59 rfl (Nat.zero_le _) (Nat.zero_le _) ?_
    exact ⟨by rw [show c = i by omega], rfl⟩
  | succ k ih =>
    intro i hi
    refine jj_iload_n (q := 5) dX4_placeInQueue_4 rfl rfl rfl ?_
    refine jj_aload_n (q := 6) dX4_placeInQueue_5 rfl rfl rfl ?_
    refine jj_getR (q := 9) dX4_placeInQueue_6 fl_X4_28 hs.t0 hs.r0_4 rfl rfl rfl ?_
    refine jj_getIv (q := 12) dX4_placeInQueue_9 fl_X4_125 hs.t1 (blk_k (by decide)) rfl rfl ?_
    refine jj_icmp_ge (q := 15) (tgt := 58) dX4_placeInQueue_12 rfl rfl (fun h12 => absurd h12 ((by rw [hc]; exact nI_ge (by omega) (by omega)))) (fun h12 => ?_)
    refine jj_aload_n (q := 16) dX4_placeInQueue_15 rfl rfl rfl ?_
    refine jj_getR (q := 19) dX4_placeInQueue_16 fl_X4_28 hs.t0 hs.r0_4 rfl rfl rfl ?_
    refine jj_getR (q := 22) dX4_placeInQueue_19 fl_X4_128 hs.t1 hs.r1_1 rfl rfl rfl ?_
    refine jj_iload_n (q := 23) dX4_placeInQueue_22 rfl rfl rfl ?_
    refine jj_cN2i (q := 26) dX4_placeInQueue_23 yk_X8_at ml_X4_93 (ex_atv hs.t2 (blk_k (by decide)) rfl) rfl rfl rfl ⟨Nat.zero_le _, Nat.zero_le _⟩ ?_
    rw [atV_nI (show i < 100 by omega) (by omega)]
    refine jj_aload_n (q := 27) dX4_placeInQueue_26 rfl rfl rfl ?_
    refine jj_getR (q := 30) dX4_placeInQueue_27 fl_X4_28 hs.t0 hs.r0_4 rfl rfl rfl ?_
    refine jj_getR (q := 33) dX4_placeInQueue_30 fl_X4_128 hs.t1 hs.r1_1 rfl rfl rfl ?_
    refine jj_iload_n (q := 34) dX4_placeInQueue_33 rfl rfl rfl ?_
    refine jj_cN2i (q := 37) dX4_placeInQueue_34 yk_X8_at ml_X4_93 (ex_atv hs.t2 (blk_k (by decide)) rfl) rfl rfl rfl ⟨Nat.zero_le _, Nat.zero_le _⟩ ?_
    refine jj_icmp_ne (q := 40) (tgt := 52) dX4_placeInQueue_37 rfl rfl (fun h37 => ?_) (fun h37 => ?_)
    · refine jj_iinc (v := nI (i + 1)) (q := 55) dX4_placeInQueue_52 rfl (nI_inc i) (by decide) rfl ?_
      refine jj_goto (tgt := 4) dX4_placeInQueue_55 rfl ?_
      have e : (pQ K b) i = false := by simp only [pQ, decide_eq_false_iff_not]; exact fun h => h37 h.1
      have h9 := ih (i + 1) (by omega)
      rw [ct_no e] at h9
      exact h9
    · refine jj_aload_n (q := 41) dX4_placeInQueue_40 rfl rfl rfl ?_
      refine jj_iload_n (q := 42) dX4_placeInQueue_41 rfl rfl rfl ?_
      refine jj_iload_n (q := 43) dX4_placeInQueue_42 rfl rfl rfl ?_
      refine jj_cV2i (q := 46) dX4_placeInQueue_43 yk_X4_goesBefore ml_X4_131 hs.t0 (ex_goesBefore hs) rfl rfl rfl ⟨Nat.zero_le _, Nat.zero_le _⟩ ?_
      refine jj_if_eq (q := 49) (tgt := 52) dX4_placeInQueue_46 rfl rfl (fun h46 => ?_) (fun h46 => ?_)
      · refine jj_iinc (v := nI (i + 1)) (q := 55) dX4_placeInQueue_52 rfl (nI_inc i) (by decide) rfl ?_
        refine jj_goto (tgt := 4) dX4_placeInQueue_55 rfl ?_
        have e : (pQ K b) i = false := by simp only [pQ, decide_eq_false_iff_not]; exact fun h => h.2 h46
        have h9 := ih (i + 1) (by omega)
        rw [ct_no e] at h9
        exact h9
      · refine jj_iinc (v := nI (fb_ct (pQ K b) (i + 1))) (q := 52) dX4_placeInQueue_49 rfl (ct_inc (by simp only [pQ, decide_eq_true_eq]; exact ⟨h37, h46⟩)) (by decide) rfl ?_
        refine jj_iinc (v := nI (i + 1)) (q := 55) dX4_placeInQueue_52 rfl (nI_inc i) (by decide) rfl ?_
        refine jj_goto (tgt := 4) dX4_placeInQueue_55 rfl ?_
        exact ih (i + 1) (by omega)
theorem ex_placeInQueue (hs : hSt T R a) (hc : K 1 0 = nI c) (hc1 : c ≤ 100) {b : Int32} : Ex Γ (d + 2) Y_X4_placeInQueue [.ref a, .int b] (T, R, S, blk 19 I a K, L, D, z) 0 0 (rI (nI (fb_ct (pQ K b) c)) (T, R, S, blk 19 I a K, L, D, z)) := by
  refine Ex.of (by decide) (by simp [Value.category]) (Nat.le_of_ble_eq_true rfl) rfl ?_
  refine jj_iconst (v := 0) (q := 1) dX4_placeInQueue_0 rfl rfl ?_
  refine jj_istore_n (q := 2) dX4_placeInQueue_1 rfl (by decide) rfl ?_
  refine jj_iconst (v := 0) (q := 3) dX4_placeInQueue_2 rfl rfl ?_
  refine jj_istore_n (q := 4) dX4_placeInQueue_3 rfl (by decide) rfl ?_
  exact lp_placeInQueue hs hc hc1 c 0 (by omega)
theorem lp_inQueue (hs : hSt T R a) (hc : K 1 0 = nI c) (hc1 : c ≤ 100) {w pl : Int32} : ∀ (k i : Nat), (i + k = c ∧ ∀ j, j < i → (pIn K w pl c) j = false) → JJ Γ (jj_E Y_X4_inQueue) (jj_Z Γ (rI (srch (pIn K w pl c) c nI (-1)) (T, R, S, blk 19 I a K, L, D, z)) 0 0) (jj_rm (d + 3) 0 0) 0 0 2 [some (.ref a), some (.int w), some (.int pl), some (.int (nI i))] [] (T, R, S, blk 19 I a K, L, D, z) := by
  intro k
  induction k with
  | zero =>
    intro i hi
    refine jj_iload_n (q := 3) dX4_inQueue_2 rfl rfl rfl ?_
    refine jj_aload_n (q := 4) dX4_inQueue_3 rfl rfl rfl ?_
    refine jj_getR (q := 7) dX4_inQueue_4 fl_X4_28 hs.t0 hs.r0_4 rfl rfl rfl ?_
    refine jj_getIv (q := 10) dX4_inQueue_7 fl_X4_125 hs.t1 (blk_k (by decide)) rfl rfl ?_
    refine jj_icmp_ge (q := 13) (tgt := 45) dX4_inQueue_10 rfl rfl (fun h10 => ?_) (fun h10 => absurd ((by rw [hc]; exact nI_le (by omega) (by omega))) h10)
    refine jj_iconst (v := -1) (q := 46) dX4_inQueue_45 rfl rfl ?_
    refine jj_iret dX4_inQueue_46 rfl (Nat.zero_le _) (Nat.zero_le _) ?_
    exact ⟨by rw [srch_none (fun j hj => hi.2 j (by omega))], rfl⟩
  | succ k ih =>
    intro i hi
    refine jj_iload_n (q := 3) dX4_inQueue_2 rfl rfl rfl ?_
    refine jj_aload_n (q := 4) dX4_inQueue_3 rfl rfl rfl ?_
    refine jj_getR (q := 7) dX4_inQueue_4 fl_X4_28 hs.t0 hs.r0_4 rfl rfl rfl ?_
    refine jj_getIv (q := 10) dX4_inQueue_7 fl_X4_125 hs.t1 (blk_k (by decide)) rfl rfl ?_
    refine jj_icmp_ge (q := 13) (tgt := 45) dX4_inQueue_10 rfl rfl (fun h10 => absurd h10 ((by rw [hc]; exact nI_ge (by omega) (by omega)))) (fun h10 => ?_)
    refine jj_aload_n (q := 14) dX4_inQueue_13 rfl rfl rfl ?_
    refine jj_getR (q := 17) dX4_inQueue_14 fl_X4_28 hs.t0 hs.r0_4 rfl rfl rfl ?_
    refine jj_getR (q := 20) dX4_inQueue_17 fl_X4_128 hs.t1 hs.r1_1 rfl rfl rfl ?_
    refine jj_iload_n (q := 21) dX4_inQueue_20 rfl rfl rfl ?_
    refine jj_cN2i (q := 24) dX4_inQueue_21 yk_X8_at ml_X4_93 (ex_atv hs.t2 (blk_k (by decide)) rfl) rfl rfl rfl ⟨Nat.zero_le _, Nat.zero_le _⟩ ?_
    rw [atV_nI (show i < 100 by omega) (by omega)]
    refine jj_iload_n (q := 25) dX4_inQueue_24 rfl rfl rfl ?_
    refine jj_icmp_ne (q := 28) (tgt := 39) dX4_inQueue_25 rfl rfl (fun h25 => ?_) (fun h25 => ?_)
    · refine jj_iinc (v := nI (i + 1)) (q := 42) dX4_inQueue_39 rfl (nI_inc i) (by decide) rfl ?_
      refine jj_goto (tgt := 2) dX4_inQueue_42 rfl ?_
      have e : (pIn K w pl c) i = false := by simp only [pIn, decide_eq_false_iff_not]; exact fun h => h25 h.1
      exact ih (i + 1) ⟨by omega, lt_s hi.2 e⟩
    · refine jj_aload_n (q := 29) dX4_inQueue_28 rfl rfl rfl ?_
      refine jj_iload_n (q := 30) dX4_inQueue_29 rfl rfl rfl ?_
      refine jj_cV1i (q := 33) dX4_inQueue_30 yk_X4_placeInQueue ml_X4_135 hs.t0 (ex_placeInQueue hs hc hc1) rfl rfl rfl ⟨Nat.zero_le _, Nat.zero_le _⟩ ?_
      refine jj_iload_n (q := 34) dX4_inQueue_33 rfl rfl rfl ?_
      refine jj_icmp_ne (q := 37) (tgt := 39) dX4_inQueue_34 rfl rfl (fun h34 => ?_) (fun h34 => ?_)
      · refine jj_iinc (v := nI (i + 1)) (q := 42) dX4_inQueue_39 rfl (nI_inc i) (by decide) rfl ?_
        refine jj_goto (tgt := 2) dX4_inQueue_42 rfl ?_
        have e : (pIn K w pl c) i = false := by simp only [pIn, decide_eq_false_iff_not]; exact fun h => h34 h.2
        exact ih (i + 1) ⟨by omega, lt_s hi.2 e⟩
      · refine jj_iload_n (q := 38) dX4_inQueue_37 rfl rfl rfl ?_
        refine jj_iret dX4_inQueue_38 rfl (Nat.zero_le _) (Nat.zero_le _) ?_
        exact ⟨by rw [srch_hit hi.2 (by simp only [pIn, decide_eq_true_eq]; exact ⟨h25, h34⟩) (by omega)], rfl⟩
theorem ex_inQueue (hs : hSt T R a) (hc : K 1 0 = nI c) (hc1 : c ≤ 100) {w pl : Int32} : Ex Γ (d + 3) Y_X4_inQueue [.ref a, .int w, .int pl] (T, R, S, blk 19 I a K, L, D, z) 0 0 (rI (srch (pIn K w pl c) c nI (-1)) (T, R, S, blk 19 I a K, L, D, z)) := by
  refine Ex.of (by decide) (by simp [Value.category]) (Nat.le_of_ble_eq_true rfl) rfl ?_
  refine jj_iconst (v := 0) (q := 1) dX4_inQueue_0 rfl rfl ?_
  refine jj_istore_n (q := 2) dX4_inQueue_1 rfl (by decide) rfl ?_
  exact lp_inQueue hs hc hc1 c 0 ⟨by omega, lt_0⟩
theorem lp_placeOnLoop (hs : hSt T R a) {b : Int32} : ∀ (k i : Nat), (i + k = 40 ∧ ∀ j, j < i → (fun j => decide (K 14 j = b)) j = false) → JJ Γ (jj_E Y_X4_placeOnLoop) (jj_Z Γ (rI (srch (fun j => decide (K 14 j = b)) 40 nI (-1)) (T, R, S, blk 19 I a K, L, D, z)) 0 0) (jj_rm (d) 0 0) 0 0 2 [some (.ref a), some (.int b), some (.int (nI i))] [] (T, R, S, blk 19 I a K, L, D, z) := by
  intro k
  induction k with
  | zero =>
    intro i hi
    refine jj_iload_n (q := 3) dX4_placeOnLoop_2 rfl rfl rfl ?_
    refine jj_aload_n (q := 4) dX4_placeOnLoop_3 rfl rfl rfl ?_
    refine jj_getR (q := 7) dX4_placeOnLoop_4 fl_X4_48 hs.t0 hs.r0_10 rfl rfl rfl ?_
    refine jj_alen (q := 8) dX4_placeOnLoop_7 hs.t14 (by decide) rfl rfl ?_
    refine jj_icmp_ge (q := 11) (tgt := 29) dX4_placeOnLoop_8 rfl rfl (fun h8 => ?_) (fun h8 => absurd ((nI_le (show 40 ≤ i by omega) (by omega) : Int32.ofNat 40 ≤ nI i)) h8)
    refine jj_iconst (v := -1) (q := 30) dX4_placeOnLoop_29 rfl rfl ?_
    refine jj_iret dX4_placeOnLoop_30 rfl (Nat.zero_le _) (Nat.zero_le _) ?_
    exact ⟨by rw [srch_none (fun j hj => hi.2 j (by omega))], rfl⟩
  | succ k ih =>
    intro i hi
    refine jj_iload_n (q := 3) dX4_placeOnLoop_2 rfl rfl rfl ?_
    refine jj_aload_n (q := 4) dX4_placeOnLoop_3 rfl rfl rfl ?_
    refine jj_getR (q := 7) dX4_placeOnLoop_4 fl_X4_48 hs.t0 hs.r0_10 rfl rfl rfl ?_
    refine jj_alen (q := 8) dX4_placeOnLoop_7 hs.t14 (by decide) rfl rfl ?_
    refine jj_icmp_ge (q := 11) (tgt := 29) dX4_placeOnLoop_8 rfl rfl (fun h8 => absurd h8 ((nI_ge (show i < 40 by omega) (by omega) : ¬ Int32.ofNat 40 ≤ nI i))) (fun h8 => ?_)
    refine jj_aload_n (q := 12) dX4_placeOnLoop_11 rfl rfl rfl ?_
    refine jj_getR (q := 15) dX4_placeOnLoop_12 fl_X4_48 hs.t0 hs.r0_10 rfl rfl rfl ?_
    refine jj_iload_n (q := 16) dX4_placeOnLoop_15 rfl rfl rfl ?_
    refine jj_ialdv (q := 17) dX4_placeOnLoop_16 hs.t14 (blk_k (by decide)) (vp_in_nI (show i < 40 by omega) (by omega)) rfl ?_
    rw [nI_clamp (by omega)]
    refine jj_iload_n (q := 18) dX4_placeOnLoop_17 rfl rfl rfl ?_
    refine jj_icmp_ne (q := 21) (tgt := 23) dX4_placeOnLoop_18 rfl rfl (fun h18 => ?_) (fun h18 => ?_)
    · refine jj_iinc (v := nI (i + 1)) (q := 26) dX4_placeOnLoop_23 rfl (nI_inc i) (by decide) rfl ?_
      refine jj_goto (tgt := 2) dX4_placeOnLoop_26 rfl ?_
      have e : (fun j => decide (K 14 j = b)) i = false := by simp only [decide_eq_false_iff_not]; exact fun h => h18 h
      exact ih (i + 1) ⟨by omega, lt_s hi.2 e⟩
    · refine jj_iload_n (q := 22) dX4_placeOnLoop_21 rfl rfl rfl ?_
      refine jj_iret dX4_placeOnLoop_22 rfl (Nat.zero_le _) (Nat.zero_le _) ?_
      exact ⟨by rw [srch_hit hi.2 (by simp only [decide_eq_true_eq]; exact h18) (by omega)], rfl⟩
theorem ex_placeOnLoop (hs : hSt T R a) {b : Int32} : Ex Γ (d) Y_X4_placeOnLoop [.ref a, .int b] (T, R, S, blk 19 I a K, L, D, z) 0 0 (rI (srch (fun j => decide (K 14 j = b)) 40 nI (-1)) (T, R, S, blk 19 I a K, L, D, z)) := by
  refine Ex.of (by decide) (by simp [Value.category]) (Nat.le_of_ble_eq_true rfl) rfl ?_
  refine jj_iconst (v := 0) (q := 1) dX4_placeOnLoop_0 rfl rfl ?_
  refine jj_istore_n (q := 2) dX4_placeOnLoop_1 rfl (by decide) rfl ?_
  exact lp_placeOnLoop hs 40 0 ⟨by omega, lt_0⟩
theorem lp_storedOf (hs : hSt T R a) {ls l : Nat} (hl : l < 4) (hls : K 12 l = nI ls) (hl2 : ls ≤ 20) {f : Int32} : ∀ (k i : Nat), i + k = ls → JJ Γ (jj_E Y_X4_storedOf) (jj_Z Γ (rI (nI (fb_ct (pSt K l f) ls)) (T, R, S, blk 19 I a K, L, D, z)) 0 0) (jj_rm (d + 1) 0 0) 0 0 5 [some (.ref a), some (.int (nI l)), some (.int f), some (.int (nI (fb_ct (pSt K l f) i))), some (.int (nI i))] [] (T, R, S, blk 19 I a K, L, D, z) := by
  intro k
  induction k with
  | zero =>
    intro i hi
    refine jj_iload (q := 7) dX4_storedOf_5 rfl rfl ?_
    refine jj_aload_n (q := 8) dX4_storedOf_7 rfl rfl rfl ?_
    refine jj_getR (q := 11) dX4_storedOf_8 fl_X4_42 hs.t0 hs.r0_8 rfl rfl rfl ?_
    refine jj_iload_n (q := 12) dX4_storedOf_11 rfl rfl rfl ?_
    refine jj_cN2i (q := 15) dX4_storedOf_12 yk_X8_at ml_X4_93 (ex_atv hs.t12 (blk_k (by decide)) rfl) rfl rfl rfl ⟨Nat.zero_le _, Nat.zero_le _⟩ ?_
    rw [atV_nI (show l < 4 by omega) (by omega)]
    refine jj_icmp_ge (q := 18) (tgt := 55) dX4_storedOf_15 rfl rfl (fun h15 => ?_) (fun h15 => absurd ((by rw [hls]; exact nI_le (by omega) (by omega))) h15)
    refine jj_iload_n (q := 56) dX4_storedOf_55 rfl rfl rfl ?_
    refine jj_iret dX4_storedOf_56 rfl (Nat.zero_le _) (Nat.zero_le _) ?_
    exact ⟨by rw [show ls = i by omega], rfl⟩
  | succ k ih =>
    intro i hi
    refine jj_iload (q := 7) dX4_storedOf_5 rfl rfl ?_
    refine jj_aload_n (q := 8) dX4_storedOf_7 rfl rfl rfl ?_
    refine jj_getR (q := 11) dX4_storedOf_8 fl_X4_42 hs.t0 hs.r0_8 rfl rfl rfl ?_
    refine jj_iload_n (q := 12) dX4_storedOf_11 rfl rfl rfl ?_
    refine jj_cN2i (q := 15) dX4_storedOf_12 yk_X8_at ml_X4_93 (ex_atv hs.t12 (blk_k (by decide)) rfl) rfl rfl rfl ⟨Nat.zero_le _, Nat.zero_le _⟩ ?_
    rw [atV_nI (show l < 4 by omega) (by omega)]
    refine jj_icmp_ge (q := 18) (tgt := 55) dX4_storedOf_15 rfl rfl (fun h15 => absurd h15 ((by rw [hls]; exact nI_ge (by omega) (by omega)))) (fun h15 => ?_)
    refine jj_aload_n (q := 19) dX4_storedOf_18 rfl rfl rfl ?_
    refine jj_getR (q := 22) dX4_storedOf_19 fl_X4_28 hs.t0 hs.r0_4 rfl rfl rfl ?_
    refine jj_getR (q := 25) dX4_storedOf_22 fl_X4_97 hs.t1 hs.r1_2 rfl rfl rfl ?_
    refine jj_aload_n (q := 26) dX4_storedOf_25 rfl rfl rfl ?_
    refine jj_getR (q := 29) dX4_storedOf_26 fl_X4_45 hs.t0 hs.r0_9 rfl rfl rfl ?_
    refine jj_iload_n (q := 30) dX4_storedOf_29 rfl rfl rfl ?_
    refine jj_bipush (v := 20) (q := 32) dX4_storedOf_30 rfl rfl ?_
    refine jj_imul (q := 33) dX4_storedOf_32 rfl ?_
    refine jj_iload (q := 35) dX4_storedOf_33 rfl rfl ?_
    refine jj_iadd (q := 36) dX4_storedOf_35 rfl ?_
    refine jj_cN2i (q := 39) dX4_storedOf_36 yk_X8_at ml_X4_93 (ex_atv hs.t13 (blk_k (by decide)) rfl) rfl rfl rfl ⟨Nat.zero_le _, Nat.zero_le _⟩ ?_
    rw [l20, atV_nI (show l * 20 + i < 80 by omega) (by omega)]
    refine jj_cN2i (q := 42) dX4_storedOf_39 yk_X8_at ml_X4_93 (ex_atv hs.t3 (blk_k (by decide)) rfl) rfl rfl rfl ⟨Nat.zero_le _, Nat.zero_le _⟩ ?_
    refine jj_iload_n (q := 43) dX4_storedOf_42 rfl rfl rfl ?_
    refine jj_icmp_ne (q := 46) (tgt := 49) dX4_storedOf_43 rfl rfl (fun h43 => ?_) (fun h43 => ?_)
    · refine jj_iinc (v := nI (i + 1)) (q := 52) dX4_storedOf_49 rfl (nI_inc i) (by decide) rfl ?_
      refine jj_goto (tgt := 5) dX4_storedOf_52 rfl ?_
      have e : (pSt K l f) i = false := by simp only [pSt, decide_eq_false_iff_not]; exact h43
      have h9 := ih (i + 1) (by omega)
      rw [ct_no e] at h9
      exact h9
    · refine jj_iinc (v := nI (fb_ct (pSt K l f) (i + 1))) (q := 49) dX4_storedOf_46 rfl (ct_inc (by simp only [pSt, decide_eq_true_eq]; exact h43)) (by decide) rfl ?_
      refine jj_iinc (v := nI (i + 1)) (q := 52) dX4_storedOf_49 rfl (nI_inc i) (by decide) rfl ?_
      refine jj_goto (tgt := 5) dX4_storedOf_52 rfl ?_
      exact ih (i + 1) (by omega)
theorem ex_storedOf (hs : hSt T R a) {ls l : Nat} (hl : l < 4) (hls : K 12 l = nI ls) (hl2 : ls ≤ 20) {f : Int32} : Ex Γ (d + 1) Y_X4_storedOf [.ref a, .int (nI l), .int f] (T, R, S, blk 19 I a K, L, D, z) 0 0 (rI (nI (fb_ct (pSt K l f) ls)) (T, R, S, blk 19 I a K, L, D, z)) := by
  refine Ex.of (by decide) (by simp [Value.category]) (Nat.le_of_ble_eq_true rfl) rfl ?_
  refine jj_iconst (v := 0) (q := 1) dX4_storedOf_0 rfl rfl ?_
  refine jj_istore_n (q := 2) dX4_storedOf_1 rfl (by decide) rfl ?_
  refine jj_iconst (v := 0) (q := 3) dX4_storedOf_2 rfl rfl ?_
  refine jj_istore (q := 5) dX4_storedOf_3 (by decide) rfl ?_
  exact lp_storedOf hs hl hls hl2 ls 0 (by omega)
theorem lq_laneWith (hs : hSt T R a) {ls : Nat → Nat} (hls : ∀ l, l < 4 → K 12 l = nI (ls l) ∧ ls l ≤ 20) {b : Int32} {l : Nat} (hl : l < 4) {Q : JO → JM → Prop} (hq : fa_first (pLn K l b) (ls l) < ls l → Q (.inl (some (.int (nI l)))) (T, R, S, blk 19 I a K, L, D, z)) (kx : ∀ i : Nat, ¬ fa_first (pLn K l b) (ls l) < ls l → JJ Γ (jj_E Y_X4_laneWith) (jj_Z Γ Q 0 0) (jj_rm (d + 1) 0 0) 0 0 46 [some (.ref a), some (.int b), some (.int (nI l)), some (.int (nI i))] [] (T, R, S, blk 19 I a K, L, D, z)) : ∀ k i : Nat, (i + k = ls l ∧ ∀ j, j < i → pLn K l b j = false) → JJ Γ (jj_E Y_X4_laneWith) (jj_Z Γ Q 0 0) (jj_rm (d + 1) 0 0) 0 0 9 [some (.ref a), some (.int b), some (.int (nI l)), some (.int (nI i))] [] (T, R, S, blk 19 I a K, L, D, z) := by
  have hl2 := (hls l hl).2
  have hls := (hls l hl).1
  intro k
  induction k with
  | zero =>
    intro i hi
    refine jj_iload_n (q := 10) dX4_laneWith_9 rfl rfl rfl ?_
    refine jj_aload_n (q := 11) dX4_laneWith_10 rfl rfl rfl ?_
    refine jj_getR (q := 14) dX4_laneWith_11 fl_X4_42 hs.t0 hs.r0_8 rfl rfl rfl ?_
    refine jj_iload_n (q := 15) dX4_laneWith_14 rfl rfl rfl ?_
    refine jj_cN2i (q := 18) dX4_laneWith_15 yk_X8_at ml_X4_93 (ex_atv hs.t12 (blk_k (by decide)) rfl) rfl rfl rfl ⟨Nat.zero_le _, Nat.zero_le _⟩ ?_
    rw [atV_nI (show l < 4 by omega) (by omega)]
    refine jj_icmp_ge (q := 21) (tgt := 46) dX4_laneWith_18 rfl rfl (fun h18 => ?_) (fun h18 => absurd ((by rw [hls]; exact nI_le (by omega) (by omega))) h18)
    exact kx i (fs_none (fun j hj => hi.2 j (by omega)))
  | succ k ih =>
    intro i hi
    refine jj_iload_n (q := 10) dX4_laneWith_9 rfl rfl rfl ?_
    refine jj_aload_n (q := 11) dX4_laneWith_10 rfl rfl rfl ?_
    refine jj_getR (q := 14) dX4_laneWith_11 fl_X4_42 hs.t0 hs.r0_8 rfl rfl rfl ?_
    refine jj_iload_n (q := 15) dX4_laneWith_14 rfl rfl rfl ?_
    refine jj_cN2i (q := 18) dX4_laneWith_15 yk_X8_at ml_X4_93 (ex_atv hs.t12 (blk_k (by decide)) rfl) rfl rfl rfl ⟨Nat.zero_le _, Nat.zero_le _⟩ ?_
    rw [atV_nI (show l < 4 by omega) (by omega)]
    refine jj_icmp_ge (q := 21) (tgt := 46) dX4_laneWith_18 rfl rfl (fun h18 => absurd h18 ((by rw [hls]; exact nI_ge (by omega) (by omega)))) (fun h18 => ?_)
    refine jj_aload_n (q := 22) dX4_laneWith_21 rfl rfl rfl ?_
    refine jj_getR (q := 25) dX4_laneWith_22 fl_X4_45 hs.t0 hs.r0_9 rfl rfl rfl ?_
    refine jj_iload_n (q := 26) dX4_laneWith_25 rfl rfl rfl ?_
    refine jj_bipush (v := 20) (q := 28) dX4_laneWith_26 rfl rfl ?_
    refine jj_imul (q := 29) dX4_laneWith_28 rfl ?_
    refine jj_iload_n (q := 30) dX4_laneWith_29 rfl rfl rfl ?_
    refine jj_iadd (q := 31) dX4_laneWith_30 rfl ?_
    refine jj_cN2i (q := 34) dX4_laneWith_31 yk_X8_at ml_X4_93 (ex_atv hs.t13 (blk_k (by decide)) rfl) rfl rfl rfl ⟨Nat.zero_le _, Nat.zero_le _⟩ ?_
    rw [l20, atV_nI (show l * 20 + i < 80 by omega) (by omega)]
    refine jj_iload_n (q := 35) dX4_laneWith_34 rfl rfl rfl ?_
    refine jj_icmp_ne (q := 38) (tgt := 40) dX4_laneWith_35 rfl rfl (fun h35 => ?_) (fun h35 => ?_)
    · refine jj_iinc (v := nI (i + 1)) (q := 43) dX4_laneWith_40 rfl (nI_inc i) (by decide) rfl ?_
      refine jj_goto (tgt := 9) dX4_laneWith_43 rfl ?_
      have e : pLn K l b i = false := by simp only [pLn, decide_eq_false_iff_not]; exact h35
      exact ih (i + 1) ⟨by omega, lt_s hi.2 e⟩
    · refine jj_iload_n (q := 39) dX4_laneWith_38 rfl rfl rfl ?_
      refine jj_iret dX4_laneWith_39 rfl (Nat.zero_le _) (Nat.zero_le _) ?_
      exact hq (by rw [fs_hit hi.2 (by simp only [pLn, decide_eq_true_eq]; exact h35) (ls l) (by omega)]; omega)
theorem lp_laneWith (hs : hSt T R a) {ls : Nat → Nat} (hls : ∀ l, l < 4 → K 12 l = nI (ls l) ∧ ls l ≤ 20) {b : Int32} : ∀ (k i : Nat) (x3 : Option Value), (i + k = 4 ∧ ∀ j, j < i → (pLw K ls b) j = false) → JJ Γ (jj_E Y_X4_laneWith) (jj_Z Γ (rI (srch (pLw K ls b) 4 nI (-1)) (T, R, S, blk 19 I a K, L, D, z)) 0 0) (jj_rm (d + 1) 0 0) 0 0 2 [some (.ref a), some (.int b), some (.int (nI i)), x3] [] (T, R, S, blk 19 I a K, L, D, z) := by
  intro k
  induction k with
  | zero =>
    intro i x3 hi
    refine jj_iload_n (q := 3) dX4_laneWith_2 rfl rfl rfl ?_
    refine jj_iconst (v := 4) (q := 4) dX4_laneWith_3 rfl rfl ?_
    refine jj_icmp_ge (q := 7) (tgt := 52) dX4_laneWith_4 rfl rfl (fun h4 => ?_) (fun h4 => absurd ((nI_le (show 4 ≤ i by omega) (by omega) : nI 4 ≤ nI i)) h4)
    refine jj_iconst (v := -1) (q := 53) dX4_laneWith_52 rfl rfl ?_
    refine jj_iret dX4_laneWith_53 rfl (Nat.zero_le _) (Nat.zero_le _) ?_
    exact ⟨by rw [srch_none (fun j hj => hi.2 j (by omega))], rfl⟩
  | succ k ih =>
    intro i x3 hi
    refine jj_iload_n (q := 3) dX4_laneWith_2 rfl rfl rfl ?_
    refine jj_iconst (v := 4) (q := 4) dX4_laneWith_3 rfl rfl ?_
    refine jj_icmp_ge (q := 7) (tgt := 52) dX4_laneWith_4 rfl rfl (fun h4 => absurd h4 ((nI_ge (show i < 4 by omega) (by omega) : ¬ nI 4 ≤ nI i))) (fun h4 => ?_)
    refine jj_iconst (v := 0) (q := 8) dX4_laneWith_7 rfl rfl ?_
    refine jj_istore_n (q := 9) dX4_laneWith_8 rfl (by decide) rfl ?_
    refine lq_laneWith hs hls (show i < 4 by omega) (fun h => ⟨by rw [srch_hit hi.2 (by simp only [pLw, decide_eq_true_eq]; exact h) (by omega)], rfl⟩) (fun i3 h46 => ?_) (ls i) 0 ⟨by omega, lt_0⟩
    refine jj_iinc (v := nI (i + 1)) (q := 49) dX4_laneWith_46 rfl (nI_inc i) (by decide) rfl ?_
    refine jj_goto (tgt := 2) dX4_laneWith_49 rfl ?_
    exact ih (i + 1) _ ⟨by omega, lt_s hi.2 (by simp only [pLw, decide_eq_false_iff_not]; exact h46)⟩
theorem ex_laneWith (hs : hSt T R a) {ls : Nat → Nat} (hls : ∀ l, l < 4 → K 12 l = nI (ls l) ∧ ls l ≤ 20) {b : Int32} : Ex Γ (d + 1) Y_X4_laneWith [.ref a, .int b] (T, R, S, blk 19 I a K, L, D, z) 0 0 (rI (srch (pLw K ls b) 4 nI (-1)) (T, R, S, blk 19 I a K, L, D, z)) := by
  refine Ex.of (by decide) (by simp [Value.category]) (Nat.le_of_ble_eq_true rfl) rfl ?_
  refine jj_iconst (v := 0) (q := 1) dX4_laneWith_0 rfl rfl ?_
  refine jj_istore_n (q := 2) dX4_laneWith_1 rfl (by decide) rfl ?_
  exact lp_laneWith hs hls 4 0 none ⟨by omega, lt_0⟩
theorem ex_eventPart0 (hs : hSt T R a) {n : Int32} : Ex Γ (d + 1) Y_X4_eventPart [.ref a, .int n, .int 0] (T, R, S, blk 19 I a K, L, D, z) 0 0 (rI (atV 300 (K 18) n >>> ((14 : Int32) &&& 31)) (T, R, S, blk 19 I a K, L, D, z)) := by
  refine Ex.of (by decide) (by simp [Value.category]) (Nat.le_of_ble_eq_true rfl) rfl ?_
  refine jj_aload_n (q := 1) dX4_eventPart_0 rfl rfl rfl ?_
  refine jj_getR (q := 4) dX4_eventPart_1 fl_X4_63 hs.t0 hs.r0_15 rfl rfl rfl ?_
  refine jj_iload_n (q := 5) dX4_eventPart_4 rfl rfl rfl ?_
  refine jj_cN2i (q := 8) dX4_eventPart_5 yk_X8_at ml_X4_93 (ex_atv hs.t18 (blk_k (by decide)) rfl) rfl rfl rfl ⟨Nat.zero_le _, Nat.zero_le _⟩ ?_
  refine jj_istore_n (q := 9) dX4_eventPart_8 rfl (by decide) rfl ?_
  refine jj_iload_n (q := 10) dX4_eventPart_9 rfl rfl rfl ?_
  refine jj_tableIn (tgt := 36) dX4_eventPart_10 (by decide) (by decide) rfl rfl ?_
  refine jj_iload_n (q := 37) dX4_eventPart_36 rfl rfl rfl ?_
  refine jj_bipush (v := 14) (q := 39) dX4_eventPart_37 rfl rfl ?_
  refine jj_ishr (q := 40) dX4_eventPart_39 rfl ?_
  refine jj_iret dX4_eventPart_40 rfl (Nat.zero_le _) (Nat.zero_le _) ?_
  exact ⟨rfl, rfl⟩
theorem ex_eventPart1 (hs : hSt T R a) {n : Int32} : Ex Γ (d + 1) Y_X4_eventPart [.ref a, .int n, .int 1] (T, R, S, blk 19 I a K, L, D, z) 0 0 (rI (atV 300 (K 18) n >>> ((10 : Int32) &&& 31) &&& 15) (T, R, S, blk 19 I a K, L, D, z)) := by
  refine Ex.of (by decide) (by simp [Value.category]) (Nat.le_of_ble_eq_true rfl) rfl ?_
  refine jj_aload_n (q := 1) dX4_eventPart_0 rfl rfl rfl ?_
  refine jj_getR (q := 4) dX4_eventPart_1 fl_X4_63 hs.t0 hs.r0_15 rfl rfl rfl ?_
  refine jj_iload_n (q := 5) dX4_eventPart_4 rfl rfl rfl ?_
  refine jj_cN2i (q := 8) dX4_eventPart_5 yk_X8_at ml_X4_93 (ex_atv hs.t18 (blk_k (by decide)) rfl) rfl rfl rfl ⟨Nat.zero_le _, Nat.zero_le _⟩ ?_
  refine jj_istore_n (q := 9) dX4_eventPart_8 rfl (by decide) rfl ?_
  refine jj_iload_n (q := 10) dX4_eventPart_9 rfl rfl rfl ?_
  refine jj_tableIn (tgt := 41) dX4_eventPart_10 (by decide) (by decide) rfl rfl ?_
  refine jj_iload_n (q := 42) dX4_eventPart_41 rfl rfl rfl ?_
  refine jj_bipush (v := 10) (q := 44) dX4_eventPart_42 rfl rfl ?_
  refine jj_ishr (q := 45) dX4_eventPart_44 rfl ?_
  refine jj_bipush (v := 15) (q := 47) dX4_eventPart_45 rfl rfl ?_
  refine jj_iand (q := 48) dX4_eventPart_47 rfl ?_
  refine jj_iret dX4_eventPart_48 rfl (Nat.zero_le _) (Nat.zero_le _) ?_
  exact ⟨rfl, rfl⟩
theorem ex_eventPart2 (hs : hSt T R a) {n : Int32} : Ex Γ (d + 1) Y_X4_eventPart [.ref a, .int n, .int 2] (T, R, S, blk 19 I a K, L, D, z) 0 0 (rI (atV 300 (K 18) n >>> ((3 : Int32) &&& 31) &&& 127) (T, R, S, blk 19 I a K, L, D, z)) := by
  refine Ex.of (by decide) (by simp [Value.category]) (Nat.le_of_ble_eq_true rfl) rfl ?_
  refine jj_aload_n (q := 1) dX4_eventPart_0 rfl rfl rfl ?_
  refine jj_getR (q := 4) dX4_eventPart_1 fl_X4_63 hs.t0 hs.r0_15 rfl rfl rfl ?_
  refine jj_iload_n (q := 5) dX4_eventPart_4 rfl rfl rfl ?_
  refine jj_cN2i (q := 8) dX4_eventPart_5 yk_X8_at ml_X4_93 (ex_atv hs.t18 (blk_k (by decide)) rfl) rfl rfl rfl ⟨Nat.zero_le _, Nat.zero_le _⟩ ?_
  refine jj_istore_n (q := 9) dX4_eventPart_8 rfl (by decide) rfl ?_
  refine jj_iload_n (q := 10) dX4_eventPart_9 rfl rfl rfl ?_
  refine jj_tableIn (tgt := 49) dX4_eventPart_10 (by decide) (by decide) rfl rfl ?_
  refine jj_iload_n (q := 50) dX4_eventPart_49 rfl rfl rfl ?_
  refine jj_iconst (v := 3) (q := 51) dX4_eventPart_50 rfl rfl ?_
  refine jj_ishr (q := 52) dX4_eventPart_51 rfl ?_
  refine jj_bipush (v := 127) (q := 54) dX4_eventPart_52 rfl rfl ?_
  refine jj_iand (q := 55) dX4_eventPart_54 rfl ?_
  refine jj_iret dX4_eventPart_55 rfl (Nat.zero_le _) (Nat.zero_le _) ?_
  exact ⟨rfl, rfl⟩
theorem ex_eventPart3 (hs : hSt T R a) {n : Int32} : Ex Γ (d + 1) Y_X4_eventPart [.ref a, .int n, .int 3] (T, R, S, blk 19 I a K, L, D, z) 0 0 (rI (atV 300 (K 18) n &&& 7) (T, R, S, blk 19 I a K, L, D, z)) := by
  refine Ex.of (by decide) (by simp [Value.category]) (Nat.le_of_ble_eq_true rfl) rfl ?_
  refine jj_aload_n (q := 1) dX4_eventPart_0 rfl rfl rfl ?_
  refine jj_getR (q := 4) dX4_eventPart_1 fl_X4_63 hs.t0 hs.r0_15 rfl rfl rfl ?_
  refine jj_iload_n (q := 5) dX4_eventPart_4 rfl rfl rfl ?_
  refine jj_cN2i (q := 8) dX4_eventPart_5 yk_X8_at ml_X4_93 (ex_atv hs.t18 (blk_k (by decide)) rfl) rfl rfl rfl ⟨Nat.zero_le _, Nat.zero_le _⟩ ?_
  refine jj_istore_n (q := 9) dX4_eventPart_8 rfl (by decide) rfl ?_
  refine jj_iload_n (q := 10) dX4_eventPart_9 rfl rfl rfl ?_
  refine jj_tableOut (tgt := 56) dX4_eventPart_10 (by decide) rfl ?_
  refine jj_iload_n (q := 57) dX4_eventPart_56 rfl rfl rfl ?_
  refine jj_bipush (v := 7) (q := 59) dX4_eventPart_57 rfl rfl ?_
  refine jj_iand (q := 60) dX4_eventPart_59 rfl ?_
  refine jj_iret dX4_eventPart_60 rfl (Nat.zero_le _) (Nat.zero_le _) ?_
  exact ⟨rfl, rfl⟩
end M20
