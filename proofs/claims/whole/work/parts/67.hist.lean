/-! THE COMPONENT'S OBJECT AS A WHOLE; copies; the history -/
def sK (I : JI) (a : Nat) : JI := fun k => I (a + k)
theorem blk_sK (I : JI) (a : Nat) : blk 19 I a (sK I a) = I := blk_self 19 I a
theorem sK_blk {I K : JI} {a k : Nat} (h : k < 19) : sK (blk 19 I a K) a k = K k := blk_k h
def cpB (I : JI) (a b : Nat) : JI := blk 19 I a (kCp (sK I a) (sK I b))
theorem cpB_out {I : JI} {a b x : Nat} (h : x < a ∨ a + 19 ≤ x) : cpB I a b x = I x := blk_out h
theorem u2_self {α : Type} (f : Nat → Nat → α) (a k : Nat) : u2 f a k (f a k) = f := by
  funext b j
  rw [u2_ap]
  split
  · rename_i h; subst h
    split
    · rename_i h2; rw [h2]
    · rfl
  · rfl
/-- the history: its object, its row, its six states -/
def hHi (T : JT) (R : JR) (h : Nat) : Prop := (T h = some (.inl 1) ∧ R h 2 = some (h + 1) ∧ T (h + 1) = some (.inr (.object RX4, 6))) ∧ ∀ i, i < 6 → R (h + 1) i = some (h + 2 + 19 * i) ∧ hSt T R (h + 2 + 19 * i)
/-- the object at xo: plan p, spare plan p2, now a, scratch a2; everything else at its place -/
def hXo (T : JT) (R S : JR) (xo p p2 a a2 : Nat) : Prop :=
  T xo = some (.inl 7) ∧ ((p = xo + 3 ∧ p2 = xo + 19) ∨ (p = xo + 19 ∧ p2 = xo + 3)) ∧ ((a = xo + 35 ∧ a2 = xo + 54) ∨ (a = xo + 54 ∧ a2 = xo + 35)) ∧
  (S xo 0 = some (xo + 1) ∧ S xo 2 = some p ∧ S xo 3 = some p2 ∧ S xo 4 = some a ∧ S xo 5 = some a2 ∧ S xo 6 = some (xo + 73) ∧ S xo 7 = some (xo + 189) ∧ S xo 8 = some (xo + 208) ∧ S xo 11 = some (xo + 227) ∧ S xo 12 = some (xo + 229) ∧ S xo 13 = some (xo + 231)) ∧
  (hPa T R (xo + 1) ∧ hPl T R (xo + 3) ∧ hPl T R (xo + 19) ∧ hSt T R (xo + 35) ∧ hSt T R (xo + 54) ∧ hHi T R (xo + 73) ∧ hSt T R (xo + 189) ∧ hSt T R (xo + 208) ∧ hTx T R (xo + 227) 200 ∧ hTx T R (xo + 229) 40 ∧ hTx T R (xo + 231) 400)
section H67
variable {T : JT} {R S : JR} {I : JI} {xo p p2 a a2 : Nat}
theorem hXo.ps (h : hXo T R S xo p p2 a a2) : ((p = xo + 3 ∧ p2 = xo + 19) ∨ (p = xo + 19 ∧ p2 = xo + 3)) ∧ ((a = xo + 35 ∧ a2 = xo + 54) ∨ (a = xo + 54 ∧ a2 = xo + 35)) := ⟨h.2.1, h.2.2.1⟩
theorem hXo.hp (h : hXo T R S xo p p2 a a2) : hPl T R p := by
  rcases h.2.1 with ⟨e, _⟩ | ⟨e, _⟩ <;> rw [e]
  · exact h.2.2.2.2.2.1
  · exact h.2.2.2.2.2.2.1
theorem hXo.hp2 (h : hXo T R S xo p p2 a a2) : hPl T R p2 := by
  rcases h.2.1 with ⟨_, e⟩ | ⟨_, e⟩ <;> rw [e]
  · exact h.2.2.2.2.2.2.1
  · exact h.2.2.2.2.2.1
theorem hXo.ha (h : hXo T R S xo p p2 a a2) : hSt T R a := by
  rcases h.2.2.1 with ⟨e, _⟩ | ⟨e, _⟩ <;> rw [e]
  · exact h.2.2.2.2.2.2.2.1
  · exact h.2.2.2.2.2.2.2.2.1
theorem hXo.ha2 (h : hXo T R S xo p p2 a a2) : hSt T R a2 := by
  rcases h.2.2.1 with ⟨_, e⟩ | ⟨_, e⟩ <;> rw [e]
  · exact h.2.2.2.2.2.2.2.2.1
  · exact h.2.2.2.2.2.2.2.1
theorem hXo.hi (h : hXo T R S xo p p2 a a2) : hHi T R (xo + 73) := h.2.2.2.2.2.2.2.2.2.1
theorem hXo.s0 (h : hXo T R S xo p p2 a a2) : hSt T R (xo + 189) := h.2.2.2.2.2.2.2.2.2.2.1
theorem hXo.s1 (h : hXo T R S xo p p2 a a2) : hSt T R (xo + 208) := h.2.2.2.2.2.2.2.2.2.2.2.1
theorem hXo.cx (h : hXo T R S xo p p2 a a2) (I : JI) : cX T R S I xo a p (I xo) (sK I p) := ⟨⟨h.1, h.2.2.2.1.2.1, h.2.2.2.1.2.2.2.1⟩, ⟨h.ha, h.hp⟩, ⟨by have := h.ps; omega, by have := h.ps; omega⟩, rfl, fun k hk => rfl⟩
end H67
def nxN (n : Nat) : Nat := if n < 5 then n + 1 else 0
def nxP (n : Nat) : Nat := if n = 0 then 5 else n - 1
def szN (n : Nat) : Nat := if n < 6 then n + 1 else 6
/-- what remember makes of the memory -/
def remI (I : JI) (h a nx sz : Nat) : JI := u2 (u2 (cpB I (h + 2 + 19 * nx) a) h 1 (nI (nxN nx))) h 0 (nI (szN sz))
def brI (I : JI) (h a nx sz : Nat) : JI := u2 (cpB (u2 I h 1 (nI (nxP nx))) a (h + 2 + 19 * nxP nx)) h 0 (nI (sz - 1))
theorem min6 {sz : Nat} (h : sz ≤ 6) : (if (6 : Int32) < nI (sz + 1) then (6 : Int32) else nI (sz + 1)) = nI (if sz < 6 then sz + 1 else 6) := by
  show (if nI 6 < nI (sz + 1) then nI 6 else nI (sz + 1)) = _
  by_cases g : sz < 6
  · rw [if_pos g, if_neg (nI_nltN (a := sz + 1) (b := 6) (by omega) (by omega))]
  · rw [if_neg g, if_pos (nI_ltN (a := 6) (b := sz + 1) (by omega) (by omega))]
theorem max0 {v : Nat} (h : v < 2 ^ 31) : (if nI v < (0 : Int32) then (0 : Int32) else nI v) = nI v := if_neg (nI_ltz h)
section M67
variable {Γ : Gam} {d : Nat} {T : JT} {R S : JR} {I : JI} {L : JL} {D : JD} {z : Option Nat} {a b h nx sz : Nat}
theorem ex_cpI (ha : hSt T R a) (hb : hSt T R b) (hd : b + 19 ≤ a ∨ a + 19 ≤ b) : Ex Γ (d + 3) Y_X4_copyFrom [.ref a, .ref b] (T, R, S, I, L, D, z) 0 0 (rV (T, R, S, cpB I a b, u2 L a 1 (L b 1), D, z)) := by
  have e := ex_copyFrom (Γ := Γ) (d := d) (S := S) (I := I) (K := sK I a) (L := L) (D := D) (z := z) (K0 := sK I b) ha hb (fun k hk K => blk_out (by omega)) rfl
  rw [blk_sK] at e
  exact e
theorem ex_remember (hh : hHi T R h) (ha : hSt T R a) (hd : a + 19 ≤ h ∨ h + 116 ≤ a) (hx : I h 1 = nI nx) (hs : I h 0 = nI sz) (hn6 : nx < 6) (hs6 : sz ≤ 6) : Ex Γ (d + 4) Y_X1_remember [.ref h, .ref a] (T, R, S, I, L, D, z) 0 0 (rV (T, R, S, (remI I h a nx sz), (u2 L (h + 2 + 19 * nx) 1 (L a 1)), D, z)) := by
  unfold remI nxN szN
  by_cases h5 : nx < 5
  · rw [if_pos h5]
    refine Ex.of (by decide) (by simp [Value.category]) (Nat.le_of_ble_eq_true rfl) rfl ?_
    refine jj_aload_n (q := 1) dX1_remember_0 rfl rfl rfl ?_
    refine jj_getIw (v := nI nx) (q := 4) dX1_remember_1 fl_X1_15 hh.1.1 hx rfl rfl ?_
    refine jj_if_lt (q := 7) (tgt := 44) dX1_remember_4 rfl rfl (fun h4 => absurd h4 (nI_ltz (show nx < 2 ^ 31 by omega))) (fun h4 => ?_)
    refine jj_aload_n (q := 8) dX1_remember_7 rfl rfl rfl ?_
    refine jj_getIw (v := nI nx) (q := 11) dX1_remember_8 fl_X1_15 hh.1.1 hx rfl rfl ?_
    refine jj_aload_n (q := 12) dX1_remember_11 rfl rfl rfl ?_
    refine jj_getR (q := 15) dX1_remember_12 fl_X1_20 hh.1.1 hh.1.2.1 rfl rfl rfl ?_
    refine jj_alen (q := 16) dX1_remember_15 hh.1.2.2 (by decide) rfl rfl ?_
    refine jj_icmp_ge (q := 19) (tgt := 44) dX1_remember_16 rfl rfl (fun h16 => absurd h16 (nI_ge (show nx < 6 by omega) (by omega))) (fun h16 => ?_)
    refine jj_aload_n (q := 20) dX1_remember_19 rfl rfl rfl ?_
    refine jj_getR (q := 23) dX1_remember_20 fl_X1_20 hh.1.1 hh.1.2.1 rfl rfl rfl ?_
    refine jj_aload_n (q := 24) dX1_remember_23 rfl rfl rfl ?_
    refine jj_getIw (v := nI nx) (q := 27) dX1_remember_24 fl_X1_15 hh.1.1 hx rfl rfl ?_
    refine jj_aald (q := 28) dX1_remember_27 hh.1.2.2 (by decide) (nI_in (show nx < 6 by omega) (by omega)) (by rw [nI_clamp (show nx < 2 ^ 31 by omega)]; exact (hh.2 nx (by omega)).1) rfl ?_
    refine jj_ifnull (q := 31) dX1_remember_28 rfl ?_
    refine jj_aload_n (q := 32) dX1_remember_31 rfl rfl rfl ?_
    refine jj_getR (q := 35) dX1_remember_32 fl_X1_20 hh.1.1 hh.1.2.1 rfl rfl rfl ?_
    refine jj_aload_n (q := 36) dX1_remember_35 rfl rfl rfl ?_
    refine jj_getIw (v := nI nx) (q := 39) dX1_remember_36 fl_X1_15 hh.1.1 hx rfl rfl ?_
    refine jj_aald (q := 40) dX1_remember_39 hh.1.2.2 (by decide) (nI_in (show nx < 6 by omega) (by omega)) (by rw [nI_clamp (show nx < 2 ^ 31 by omega)]; exact (hh.2 nx (by omega)).1) rfl ?_
    refine jj_aload_n (q := 41) dX1_remember_40 rfl rfl rfl ?_
    refine jj_cV1v (q := 44) dX1_remember_41 yk_X4_copyFrom ml_X1_25 (hh.2 nx (by omega)).2.t0 (ex_cpI (hh.2 nx hn6).2 ha (by omega)) rfl rfl rfl ⟨Nat.zero_le _, Nat.zero_le _⟩ ?_
    refine jj_aload_n (q := 45) dX1_remember_44 rfl rfl rfl ?_
    refine jj_aload_n (q := 46) dX1_remember_45 rfl rfl rfl ?_
    refine jj_getIw (v := nI nx) (q := 49) dX1_remember_46 fl_X1_15 hh.1.1 (by rw [cpB_out (by omega)]; exact hx) rfl rfl ?_
    refine jj_iconst (v := 1) (q := 50) dX1_remember_49 rfl rfl ?_
    refine jj_iaddN (q := 51) (a := nx) (b := 1) dX1_remember_50 rfl rfl rfl ?_
    refine jj_bipush (v := 6) (q := 53) dX1_remember_51 rfl rfl ?_
    refine jj_icmp_ge (q := 56) (tgt := 65) dX1_remember_53 rfl rfl (fun h53 => absurd h53 (nI_ge (a := nx + 1) (b := 6) (by omega) (by omega))) (fun h53 => ?_)
    refine jj_aload_n (q := 57) dX1_remember_56 rfl rfl rfl ?_
    refine jj_getIw (v := nI nx) (q := 60) dX1_remember_57 fl_X1_15 hh.1.1 (by rw [cpB_out (by omega)]; exact hx) rfl rfl ?_
    refine jj_iconst (v := 1) (q := 61) dX1_remember_60 rfl rfl ?_
    refine jj_iaddN (q := 62) (a := nx) (b := 1) dX1_remember_61 rfl rfl rfl ?_
    refine jj_goto (tgt := 66) dX1_remember_62 rfl ?_
    refine jj_putIv (q := 69) dX1_remember_66 fl_X1_15 hh.1.1 rfl rfl rfl rfl rfl rfl ?_
    refine jj_aload_n (q := 70) dX1_remember_69 rfl rfl rfl ?_
    refine jj_aload_n (q := 71) dX1_remember_70 rfl rfl rfl ?_
    refine jj_getIw (v := nI sz) (q := 74) dX1_remember_71 fl_X1_9 hh.1.1 (by rw [u2_ap, if_pos rfl, if_neg (by omega), cpB_out (by omega)]; exact hs) rfl rfl ?_
    refine jj_iconst (v := 1) (q := 75) dX1_remember_74 rfl rfl ?_
    refine jj_iaddN (q := 76) (a := sz) (b := 1) dX1_remember_75 rfl rfl rfl ?_
    refine jj_bipush (v := 6) (q := 78) dX1_remember_76 rfl rfl ?_
    refine jj_mmin (q := 81) dX1_remember_78 km_X1_29 rfl rfl ⟨Nat.zero_le _, Nat.zero_le _⟩ ?_
    rw [min6 hs6]
    refine jj_putIv (q := 84) dX1_remember_81 fl_X1_9 hh.1.1 rfl rfl rfl rfl rfl rfl ?_
    refine jj_vret dX1_remember_84 rfl (Nat.zero_le _) (Nat.zero_le _) ?_
    exact ⟨rfl, rfl⟩
  · rw [if_neg h5]
    refine Ex.of (by decide) (by simp [Value.category]) (Nat.le_of_ble_eq_true rfl) rfl ?_
    refine jj_aload_n (q := 1) dX1_remember_0 rfl rfl rfl ?_
    refine jj_getIw (v := nI nx) (q := 4) dX1_remember_1 fl_X1_15 hh.1.1 hx rfl rfl ?_
    refine jj_if_lt (q := 7) (tgt := 44) dX1_remember_4 rfl rfl (fun h4 => absurd h4 (nI_ltz (show nx < 2 ^ 31 by omega))) (fun h4 => ?_)
    refine jj_aload_n (q := 8) dX1_remember_7 rfl rfl rfl ?_
    refine jj_getIw (v := nI nx) (q := 11) dX1_remember_8 fl_X1_15 hh.1.1 hx rfl rfl ?_
    refine jj_aload_n (q := 12) dX1_remember_11 rfl rfl rfl ?_
    refine jj_getR (q := 15) dX1_remember_12 fl_X1_20 hh.1.1 hh.1.2.1 rfl rfl rfl ?_
    refine jj_alen (q := 16) dX1_remember_15 hh.1.2.2 (by decide) rfl rfl ?_
    refine jj_icmp_ge (q := 19) (tgt := 44) dX1_remember_16 rfl rfl (fun h16 => absurd h16 (nI_ge (show nx < 6 by omega) (by omega))) (fun h16 => ?_)
    refine jj_aload_n (q := 20) dX1_remember_19 rfl rfl rfl ?_
    refine jj_getR (q := 23) dX1_remember_20 fl_X1_20 hh.1.1 hh.1.2.1 rfl rfl rfl ?_
    refine jj_aload_n (q := 24) dX1_remember_23 rfl rfl rfl ?_
    refine jj_getIw (v := nI nx) (q := 27) dX1_remember_24 fl_X1_15 hh.1.1 hx rfl rfl ?_
    refine jj_aald (q := 28) dX1_remember_27 hh.1.2.2 (by decide) (nI_in (show nx < 6 by omega) (by omega)) (by rw [nI_clamp (show nx < 2 ^ 31 by omega)]; exact (hh.2 nx (by omega)).1) rfl ?_
    refine jj_ifnull (q := 31) dX1_remember_28 rfl ?_
    refine jj_aload_n (q := 32) dX1_remember_31 rfl rfl rfl ?_
    refine jj_getR (q := 35) dX1_remember_32 fl_X1_20 hh.1.1 hh.1.2.1 rfl rfl rfl ?_
    refine jj_aload_n (q := 36) dX1_remember_35 rfl rfl rfl ?_
    refine jj_getIw (v := nI nx) (q := 39) dX1_remember_36 fl_X1_15 hh.1.1 hx rfl rfl ?_
    refine jj_aald (q := 40) dX1_remember_39 hh.1.2.2 (by decide) (nI_in (show nx < 6 by omega) (by omega)) (by rw [nI_clamp (show nx < 2 ^ 31 by omega)]; exact (hh.2 nx (by omega)).1) rfl ?_
    refine jj_aload_n (q := 41) dX1_remember_40 rfl rfl rfl ?_
    refine jj_cV1v (q := 44) dX1_remember_41 yk_X4_copyFrom ml_X1_25 (hh.2 nx (by omega)).2.t0 (ex_cpI (hh.2 nx hn6).2 ha (by omega)) rfl rfl rfl ⟨Nat.zero_le _, Nat.zero_le _⟩ ?_
    refine jj_aload_n (q := 45) dX1_remember_44 rfl rfl rfl ?_
    refine jj_aload_n (q := 46) dX1_remember_45 rfl rfl rfl ?_
    refine jj_getIw (v := nI nx) (q := 49) dX1_remember_46 fl_X1_15 hh.1.1 (by rw [cpB_out (by omega)]; exact hx) rfl rfl ?_
    refine jj_iconst (v := 1) (q := 50) dX1_remember_49 rfl rfl ?_
    refine jj_iaddN (q := 51) (a := nx) (b := 1) dX1_remember_50 rfl rfl rfl ?_
    refine jj_bipush (v := 6) (q := 53) dX1_remember_51 rfl rfl ?_
    refine jj_icmp_ge (q := 56) (tgt := 65) dX1_remember_53 rfl rfl (fun h53 => ?_) (fun h53 => absurd (nI_le (show 6 ≤ nx + 1 by omega) (by omega)) h53)
    refine jj_iconst (v := 0) (q := 66) dX1_remember_65 rfl rfl ?_
    refine jj_putIv (q := 69) dX1_remember_66 fl_X1_15 hh.1.1 rfl rfl rfl rfl rfl rfl ?_
    refine jj_aload_n (q := 70) dX1_remember_69 rfl rfl rfl ?_
    refine jj_aload_n (q := 71) dX1_remember_70 rfl rfl rfl ?_
    refine jj_getIw (v := nI sz) (q := 74) dX1_remember_71 fl_X1_9 hh.1.1 (by rw [u2_ap, if_pos rfl, if_neg (by omega), cpB_out (by omega)]; exact hs) rfl rfl ?_
    refine jj_iconst (v := 1) (q := 75) dX1_remember_74 rfl rfl ?_
    refine jj_iaddN (q := 76) (a := sz) (b := 1) dX1_remember_75 rfl rfl rfl ?_
    refine jj_bipush (v := 6) (q := 78) dX1_remember_76 rfl rfl ?_
    refine jj_mmin (q := 81) dX1_remember_78 km_X1_29 rfl rfl ⟨Nat.zero_le _, Nat.zero_le _⟩ ?_
    rw [min6 hs6]
    refine jj_putIv (q := 84) dX1_remember_81 fl_X1_9 hh.1.1 rfl rfl rfl rfl rfl rfl ?_
    refine jj_vret dX1_remember_84 rfl (Nat.zero_le _) (Nat.zero_le _) ?_
    exact ⟨rfl, rfl⟩
theorem ex_bringBack (hh : hHi T R h) (ha : hSt T R a) (hd : a + 19 ≤ h ∨ h + 116 ≤ a) (hx : I h 1 = nI nx) (hs : I h 0 = nI (sz + 1)) (hn6 : nx < 6) (hs6 : sz + 1 ≤ 6) : Ex Γ (d + 4) Y_X1_bringBack [.ref h, .ref a] (T, R, S, I, L, D, z) 0 0 (rV (T, R, S, (brI I h a nx (sz + 1)), (u2 L a 1 (L (h + 2 + 19 * nxP nx) 1)), D, z)) := by
  unfold brI nxP
  rw [Nat.add_sub_cancel]
  by_cases g0 : nx = 0
  · rw [if_pos g0]
    refine Ex.of (by decide) (by simp [Value.category]) (Nat.le_of_ble_eq_true rfl) rfl ?_
    refine jj_aload_n (q := 1) dX1_bringBack_0 rfl rfl rfl ?_
    refine jj_aload_n (q := 2) dX1_bringBack_1 rfl rfl rfl ?_
    refine jj_getIw (v := nI nx) (q := 5) dX1_bringBack_2 fl_X1_15 hh.1.1 hx rfl rfl ?_
    refine jj_if_le (q := 8) (tgt := 17) dX1_bringBack_5 rfl rfl (fun h5 => ?_) (fun h5 => absurd (by rw [g0]; decide) h5)
    refine jj_iconst (v := 5) (q := 18) dX1_bringBack_17 rfl rfl ?_
    refine jj_putIv (q := 21) dX1_bringBack_18 fl_X1_15 hh.1.1 rfl rfl rfl rfl rfl rfl ?_
    refine jj_aload_n (q := 22) dX1_bringBack_21 rfl rfl rfl ?_
    refine jj_getIw (v := nI 5) (q := 25) dX1_bringBack_22 fl_X1_15 hh.1.1 u2_at rfl rfl ?_
    refine jj_aload_n (q := 26) dX1_bringBack_25 rfl rfl rfl ?_
    refine jj_getR (q := 29) dX1_bringBack_26 fl_X1_20 hh.1.1 hh.1.2.1 rfl rfl rfl ?_
    refine jj_alen (q := 30) dX1_bringBack_29 hh.1.2.2 (by decide) rfl rfl ?_
    refine jj_icmp_ge (q := 33) (tgt := 58) dX1_bringBack_30 rfl rfl (fun h30 => absurd h30 (nI_ge (a := 5) (b := 6) (by omega) (by omega))) (fun h30 => ?_)
    refine jj_aload_n (q := 34) dX1_bringBack_33 rfl rfl rfl ?_
    refine jj_getR (q := 37) dX1_bringBack_34 fl_X1_20 hh.1.1 hh.1.2.1 rfl rfl rfl ?_
    refine jj_aload_n (q := 38) dX1_bringBack_37 rfl rfl rfl ?_
    refine jj_getIw (v := nI 5) (q := 41) dX1_bringBack_38 fl_X1_15 hh.1.1 u2_at rfl rfl ?_
    refine jj_aald (q := 42) dX1_bringBack_41 hh.1.2.2 (by decide) (nI_in (show 5 < 6 by omega) (by omega)) (by rw [nI_clamp (show 5 < 2 ^ 31 by omega)]; exact (hh.2 5 (by omega)).1) rfl ?_
    refine jj_ifnull (q := 45) dX1_bringBack_42 rfl ?_
    refine jj_aload_n (q := 46) dX1_bringBack_45 rfl rfl rfl ?_
    refine jj_aload_n (q := 47) dX1_bringBack_46 rfl rfl rfl ?_
    refine jj_getR (q := 50) dX1_bringBack_47 fl_X1_20 hh.1.1 hh.1.2.1 rfl rfl rfl ?_
    refine jj_aload_n (q := 51) dX1_bringBack_50 rfl rfl rfl ?_
    refine jj_getIw (v := nI 5) (q := 54) dX1_bringBack_51 fl_X1_15 hh.1.1 u2_at rfl rfl ?_
    refine jj_aald (q := 55) dX1_bringBack_54 hh.1.2.2 (by decide) (nI_in (show 5 < 6 by omega) (by omega)) (by rw [nI_clamp (show 5 < 2 ^ 31 by omega)]; exact (hh.2 5 (by omega)).1) rfl ?_
    refine jj_cV1v (q := 58) dX1_bringBack_55 yk_X4_copyFrom ml_X1_25 ha.t0 (ex_cpI ha (hh.2 5 (by omega)).2 (by omega)) rfl rfl rfl ⟨Nat.zero_le _, Nat.zero_le _⟩ ?_
    refine jj_aload_n (q := 59) dX1_bringBack_58 rfl rfl rfl ?_
    refine jj_aload_n (q := 60) dX1_bringBack_59 rfl rfl rfl ?_
    refine jj_getIw (v := nI (sz + 1)) (q := 63) dX1_bringBack_60 fl_X1_9 hh.1.1 (by rw [cpB_out (by omega), u2_ap, if_pos rfl, if_neg (by omega)]; exact hs) rfl rfl ?_
    refine jj_iconst (v := 1) (q := 64) dX1_bringBack_63 rfl rfl ?_
    refine jj_isubN (q := 65) (e := sz) (a := sz + 1) (b := 1) dX1_bringBack_64 rfl rfl rfl rfl ?_
    refine jj_iconst (v := 0) (q := 66) dX1_bringBack_65 rfl rfl ?_
    refine jj_mmax (q := 69) dX1_bringBack_66 km_X1_35 rfl rfl ⟨Nat.zero_le _, Nat.zero_le _⟩ ?_
    rw [max0 (show sz < 2 ^ 31 by omega)]
    refine jj_putIv (q := 72) dX1_bringBack_69 fl_X1_9 hh.1.1 rfl rfl rfl rfl rfl rfl ?_
    refine jj_vret dX1_bringBack_72 rfl (Nat.zero_le _) (Nat.zero_le _) ?_
    exact ⟨rfl, rfl⟩
  · rw [if_neg g0]
    refine Ex.of (by decide) (by simp [Value.category]) (Nat.le_of_ble_eq_true rfl) rfl ?_
    refine jj_aload_n (q := 1) dX1_bringBack_0 rfl rfl rfl ?_
    refine jj_aload_n (q := 2) dX1_bringBack_1 rfl rfl rfl ?_
    refine jj_getIw (v := nI nx) (q := 5) dX1_bringBack_2 fl_X1_15 hh.1.1 hx rfl rfl ?_
    refine jj_if_le (q := 8) (tgt := 17) dX1_bringBack_5 rfl rfl (fun h5 => absurd h5 (nI_ge (a := 0) (b := nx) (by omega) (by omega))) (fun h5 => ?_)
    refine jj_aload_n (q := 9) dX1_bringBack_8 rfl rfl rfl ?_
    refine jj_getIw (v := nI nx) (q := 12) dX1_bringBack_9 fl_X1_15 hh.1.1 hx rfl rfl ?_
    refine jj_iconst (v := 1) (q := 13) dX1_bringBack_12 rfl rfl ?_
    refine jj_isubN (q := 14) (e := nx - 1) (a := nx) (b := 1) dX1_bringBack_13 rfl rfl (by omega) rfl ?_
    refine jj_goto (tgt := 18) dX1_bringBack_14 rfl ?_
    refine jj_putIv (q := 21) dX1_bringBack_18 fl_X1_15 hh.1.1 rfl rfl rfl rfl rfl rfl ?_
    refine jj_aload_n (q := 22) dX1_bringBack_21 rfl rfl rfl ?_
    refine jj_getIw (v := nI (nx - 1)) (q := 25) dX1_bringBack_22 fl_X1_15 hh.1.1 u2_at rfl rfl ?_
    refine jj_aload_n (q := 26) dX1_bringBack_25 rfl rfl rfl ?_
    refine jj_getR (q := 29) dX1_bringBack_26 fl_X1_20 hh.1.1 hh.1.2.1 rfl rfl rfl ?_
    refine jj_alen (q := 30) dX1_bringBack_29 hh.1.2.2 (by decide) rfl rfl ?_
    refine jj_icmp_ge (q := 33) (tgt := 58) dX1_bringBack_30 rfl rfl (fun h30 => absurd h30 (nI_ge (a := (nx - 1)) (b := 6) (by omega) (by omega))) (fun h30 => ?_)
    refine jj_aload_n (q := 34) dX1_bringBack_33 rfl rfl rfl ?_
    refine jj_getR (q := 37) dX1_bringBack_34 fl_X1_20 hh.1.1 hh.1.2.1 rfl rfl rfl ?_
    refine jj_aload_n (q := 38) dX1_bringBack_37 rfl rfl rfl ?_
    refine jj_getIw (v := nI (nx - 1)) (q := 41) dX1_bringBack_38 fl_X1_15 hh.1.1 u2_at rfl rfl ?_
    refine jj_aald (q := 42) dX1_bringBack_41 hh.1.2.2 (by decide) (nI_in (show (nx - 1) < 6 by omega) (by omega)) (by rw [nI_clamp (show (nx - 1) < 2 ^ 31 by omega)]; exact (hh.2 (nx - 1) (by omega)).1) rfl ?_
    refine jj_ifnull (q := 45) dX1_bringBack_42 rfl ?_
    refine jj_aload_n (q := 46) dX1_bringBack_45 rfl rfl rfl ?_
    refine jj_aload_n (q := 47) dX1_bringBack_46 rfl rfl rfl ?_
    refine jj_getR (q := 50) dX1_bringBack_47 fl_X1_20 hh.1.1 hh.1.2.1 rfl rfl rfl ?_
    refine jj_aload_n (q := 51) dX1_bringBack_50 rfl rfl rfl ?_
    refine jj_getIw (v := nI (nx - 1)) (q := 54) dX1_bringBack_51 fl_X1_15 hh.1.1 u2_at rfl rfl ?_
    refine jj_aald (q := 55) dX1_bringBack_54 hh.1.2.2 (by decide) (nI_in (show (nx - 1) < 6 by omega) (by omega)) (by rw [nI_clamp (show (nx - 1) < 2 ^ 31 by omega)]; exact (hh.2 (nx - 1) (by omega)).1) rfl ?_
    refine jj_cV1v (q := 58) dX1_bringBack_55 yk_X4_copyFrom ml_X1_25 ha.t0 (ex_cpI ha (hh.2 (nx - 1) (by omega)).2 (by omega)) rfl rfl rfl ⟨Nat.zero_le _, Nat.zero_le _⟩ ?_
    refine jj_aload_n (q := 59) dX1_bringBack_58 rfl rfl rfl ?_
    refine jj_aload_n (q := 60) dX1_bringBack_59 rfl rfl rfl ?_
    refine jj_getIw (v := nI (sz + 1)) (q := 63) dX1_bringBack_60 fl_X1_9 hh.1.1 (by rw [cpB_out (by omega), u2_ap, if_pos rfl, if_neg (by omega)]; exact hs) rfl rfl ?_
    refine jj_iconst (v := 1) (q := 64) dX1_bringBack_63 rfl rfl ?_
    refine jj_isubN (q := 65) (e := sz) (a := sz + 1) (b := 1) dX1_bringBack_64 rfl rfl rfl rfl ?_
    refine jj_iconst (v := 0) (q := 66) dX1_bringBack_65 rfl rfl ?_
    refine jj_mmax (q := 69) dX1_bringBack_66 km_X1_35 rfl rfl ⟨Nat.zero_le _, Nat.zero_le _⟩ ?_
    rw [max0 (show sz < 2 ^ 31 by omega)]
    refine jj_putIv (q := 72) dX1_bringBack_69 fl_X1_9 hh.1.1 rfl rfl rfl rfl rfl rfl ?_
    refine jj_vret dX1_bringBack_72 rfl (Nat.zero_le _) (Nat.zero_le _) ?_
    exact ⟨rfl, rfl⟩
end M67
