/-! THE LAW: ROWS -/
abbrev EL : JE := (RL, cL_law, 8, ret, [], "law")
abbrev Vl (so xo mo b : Nat) (i : Int32) (a6 a7 : Option Value) : List (Option Value) := [some (.ref so), some (.ref xo), some (.ref mo), some (.ref b), some (.ref (b + 1)), some (.int i), a6, a7]
theorem ec_le (n : Nat) : ec n ≤ 1 := by
  cases n with
  | zero => exact Nat.zero_le _
  | succ n => exact Nat.le_refl _
theorem es_le (n : Nat) : es n ≤ 6 := by
  cases n with
  | zero => exact Nat.zero_le _
  | succ n => exact Nat.le_refl _
theorem lcmp_self {x y : Int64} (h : x = y) : lg_cmp x y = 0 := by
  subst h
  unfold lg_cmp
  simp
theorem wLo_lt {n b c : Nat} {L : JL} {x : Int64} (h : c < b) : wLo n L b x c = L c := by
  cases n with
  | zero => exact u2_ne (Nat.ne_of_lt h)
  | succ n => rfl
theorem wLo_at {n b : Nat} {L : JL} {x : Int64} (h : n = 0) : wLo n L b x b 0 = x := by
  subst h
  show u2 L b 0 x b 0 = x
  rw [u2_ap, if_pos rfl, if_pos rfl]
section C08
variable {Γ : Gam} {E : JE} {Zf : List Frame → Array Value → State → State → Prop} {cells slots pc ix d mc ms q k xo mo b : Nat} {vl : List (Option Value)} {rest : List Value} {M : JM} {y : JY} {hh : JH} {Qc : JO → JM → Prop} {T : JT} {R S : JR} {I : JI} {L : JL} {D : JD}
theorem sc_E : ∀ U, KG Γ U → va_T .int Γ.sc.1 Γ.sc.2.1 (fun j => .int (Γ.sc.2.2 j)) Γ.A U Γ.H0 := fun _ h => h.2.2.2.2.2.2.2.2
theorem Wd.tx (h : Wd Γ k xo mo T R S I L) : T xo = some (.inl 7) := by
  obtain ⟨p, p2, a, a2, u, nx, hl, hb, ha⟩ := h
  exact hl.1.1
theorem Wd.hm (h : Wd Γ k xo mo T R S I L) : hMo T S mo := by
  obtain ⟨p, p2, a, a2, u, nx, hl, hb, ha⟩ := h
  exact hl.2.1
theorem ex_thr (h : hMo T S mo) : Ex Γ 100 Y_X9_thrown [.ref mo] (T, R, S, I, L, D, none) 0 0 (rI (I mo 0) (T, R, S, I, L, D, none)) := by
  have h1 := ex_mthrown (Γ := Γ) (d := 100) (R := R) (I := I) (A := sK I mo) (X := sK I mo 4) (L := L) (D := D) (z := none) h
  rw [mB_self] at h1
  exact h1
/-- where a case of the switch ends: at 3611, with the world one call on -/
def Kk (Γ : Gam) (Zf : List Frame → Array Value → State → State → Prop) (k xo mo b cells slots : Nat) (i : Int32) (T : JT) (R : JR) : Prop := ∀ S I L D a6 a7 c2 s2, c2 ≤ cells + 1 → s2 ≤ slots + 6 → Wd Γ (k + 1) xo mo T R S I L → JJ Γ EL Zf room_1 c2 s2 3611 (Vl Γ.sc.1 xo mo b i a6 a7) [] (T, R, S, I, L, D, none)

theorem lV0 {ci a : Nat} (hd : decode E.2.1 pc = .ok (.invokevirtual ix, 3)) (hy : YOK y 0) (hm : MLV E.1 ix y ci) (hT : M.1 a = some (.inl ci)) (hx : Ex Γ 100 y (.ref a :: []) M 0 0 Qc) (hi : ∀ o M', Qc o M' → ∃ r, o = .inl (some (.int r))) (hk : Nat.ble y.2.2.1 21 = true) (hrt : Nat.ble (rest.map fun v => v.category).sum 8 = true) (hq : pc + 3 = q) (hc : cells ≤ 601024) (hs : slots ≤ 7293034) (kk : ∀ r M', Qc (.inl (some (.int r))) M' → JJ Γ E Zf room_1 cells slots q vl (.int r :: rest) M') : JJ Γ E Zf room_1 cells slots pc vl (.ref a :: rest) M := by
  subst hq
  exact jj_callV (as := []) (rest := rest) hd hy hm hT hx rfl (Nat.le_of_ble_eq_true hrt) ⟨by decide, by have := Nat.le_of_ble_eq_true hk; show _ ≤ 84000; omega⟩ ⟨hc, hs⟩ (fun v M' h => by obtain ⟨r, h1⟩ := hi _ _ h; cases h1; exact kk r M' h) (fun X M' h => by obtain ⟨r, h1⟩ := hi _ _ h; cases h1)
theorem lV1 {ci a : Nat} {v1 : Value} (hd : decode E.2.1 pc = .ok (.invokevirtual ix, 3)) (hy : YOK y 1) (hm : MLV E.1 ix y ci) (hT : M.1 a = some (.inl ci)) (hx : Ex Γ 100 y (.ref a :: [v1]) M 0 0 Qc) (hi : ∀ o M', Qc o M' → ∃ r, o = .inl (some (.int r))) (hk : Nat.ble y.2.2.1 21 = true) (hrt : Nat.ble (rest.map fun v => v.category).sum 8 = true) (hq : pc + 3 = q) (hc : cells ≤ 601024) (hs : slots ≤ 7293034) (kk : ∀ r M', Qc (.inl (some (.int r))) M' → JJ Γ E Zf room_1 cells slots q vl (.int r :: rest) M') : JJ Γ E Zf room_1 cells slots pc vl (v1 :: .ref a :: rest) M := by
  subst hq
  exact jj_callV (as := [v1]) (rest := rest) hd hy hm hT hx rfl (Nat.le_of_ble_eq_true hrt) ⟨by decide, by have := Nat.le_of_ble_eq_true hk; show _ ≤ 84000; omega⟩ ⟨hc, hs⟩ (fun v M' h => by obtain ⟨r, h1⟩ := hi _ _ h; cases h1; exact kk r M' h) (fun X M' h => by obtain ⟨r, h1⟩ := hi _ _ h; cases h1)
theorem lV2 {ci a : Nat} {v1 v2 : Value} (hd : decode E.2.1 pc = .ok (.invokevirtual ix, 3)) (hy : YOK y 2) (hm : MLV E.1 ix y ci) (hT : M.1 a = some (.inl ci)) (hx : Ex Γ 100 y (.ref a :: [v1, v2]) M 0 0 Qc) (hi : ∀ o M', Qc o M' → ∃ r, o = .inl (some (.int r))) (hk : Nat.ble y.2.2.1 21 = true) (hrt : Nat.ble (rest.map fun v => v.category).sum 8 = true) (hq : pc + 3 = q) (hc : cells ≤ 601024) (hs : slots ≤ 7293034) (kk : ∀ r M', Qc (.inl (some (.int r))) M' → JJ Γ E Zf room_1 cells slots q vl (.int r :: rest) M') : JJ Γ E Zf room_1 cells slots pc vl (v2 :: v1 :: .ref a :: rest) M := by
  subst hq
  exact jj_callV (as := [v1, v2]) (rest := rest) hd hy hm hT hx rfl (Nat.le_of_ble_eq_true hrt) ⟨by decide, by have := Nat.le_of_ble_eq_true hk; show _ ≤ 84000; omega⟩ ⟨hc, hs⟩ (fun v M' h => by obtain ⟨r, h1⟩ := hi _ _ h; cases h1; exact kk r M' h) (fun X M' h => by obtain ⟨r, h1⟩ := hi _ _ h; cases h1)
theorem lV3 {ci a : Nat} {v1 v2 v3 : Value} (hd : decode E.2.1 pc = .ok (.invokevirtual ix, 3)) (hy : YOK y 3) (hm : MLV E.1 ix y ci) (hT : M.1 a = some (.inl ci)) (hx : Ex Γ 100 y (.ref a :: [v1, v2, v3]) M 0 0 Qc) (hi : ∀ o M', Qc o M' → ∃ r, o = .inl (some (.int r))) (hk : Nat.ble y.2.2.1 21 = true) (hrt : Nat.ble (rest.map fun v => v.category).sum 8 = true) (hq : pc + 3 = q) (hc : cells ≤ 601024) (hs : slots ≤ 7293034) (kk : ∀ r M', Qc (.inl (some (.int r))) M' → JJ Γ E Zf room_1 cells slots q vl (.int r :: rest) M') : JJ Γ E Zf room_1 cells slots pc vl (v3 :: v2 :: v1 :: .ref a :: rest) M := by
  subst hq
  exact jj_callV (as := [v1, v2, v3]) (rest := rest) hd hy hm hT hx rfl (Nat.le_of_ble_eq_true hrt) ⟨by decide, by have := Nat.le_of_ble_eq_true hk; show _ ≤ 84000; omega⟩ ⟨hc, hs⟩ (fun v M' h => by obtain ⟨r, h1⟩ := hi _ _ h; cases h1; exact kk r M' h) (fun X M' h => by obtain ⟨r, h1⟩ := hi _ _ h; cases h1)
theorem lV5 {ci a : Nat} {v1 v2 v3 v4 v5 : Value} (hd : decode E.2.1 pc = .ok (.invokevirtual ix, 3)) (hy : YOK y 5) (hm : MLV E.1 ix y ci) (hT : M.1 a = some (.inl ci)) (hx : Ex Γ 100 y (.ref a :: [v1, v2, v3, v4, v5]) M 0 0 Qc) (hi : ∀ o M', Qc o M' → ∃ r, o = .inl (some (.int r))) (hk : Nat.ble y.2.2.1 21 = true) (hrt : Nat.ble (rest.map fun v => v.category).sum 8 = true) (hq : pc + 3 = q) (hc : cells ≤ 601024) (hs : slots ≤ 7293034) (kk : ∀ r M', Qc (.inl (some (.int r))) M' → JJ Γ E Zf room_1 cells slots q vl (.int r :: rest) M') : JJ Γ E Zf room_1 cells slots pc vl (v5 :: v4 :: v3 :: v2 :: v1 :: .ref a :: rest) M := by
  subst hq
  exact jj_callV (as := [v1, v2, v3, v4, v5]) (rest := rest) hd hy hm hT hx rfl (Nat.le_of_ble_eq_true hrt) ⟨by decide, by have := Nat.le_of_ble_eq_true hk; show _ ≤ 84000; omega⟩ ⟨hc, hs⟩ (fun v M' h => by obtain ⟨r, h1⟩ := hi _ _ h; cases h1; exact kk r M' h) (fun X M' h => by obtain ⟨r, h1⟩ := hi _ _ h; cases h1)
theorem lVf {ci a : Nat} {v1 : Value} {w : UInt32} (hd : decode E.2.1 pc = .ok (.invokevirtual ix, 3)) (hy : YOK y 1) (hm : MLV E.1 ix y ci) (hT : M.1 a = some (.inl ci)) (hx : Ex Γ 100 y (.ref a :: [v1]) M 0 0 Qc) (hi : ∀ o M', Qc o M' → o = .inl (some (.float w))) (hk : Nat.ble y.2.2.1 21 = true) (hrt : Nat.ble (rest.map fun v => v.category).sum 8 = true) (hq : pc + 3 = q) (hc : cells ≤ 601024) (hs : slots ≤ 7293034) (kk : ∀ M', Qc (.inl (some (.float w))) M' → JJ Γ E Zf room_1 cells slots q vl (.float w :: rest) M') : JJ Γ E Zf room_1 cells slots pc vl (v1 :: .ref a :: rest) M := by
  subst hq
  exact jj_callV (as := [v1]) (rest := rest) hd hy hm hT hx rfl (Nat.le_of_ble_eq_true hrt) ⟨by decide, by have := Nat.le_of_ble_eq_true hk; show _ ≤ 84000; omega⟩ ⟨hc, hs⟩ (fun v M' h => by have h1 := hi _ _ h; cases h1; exact kk M' h) (fun X M' h => by have h1 := hi _ _ h; cases h1)
theorem lS2 {v1 v2 : Value} {t : Int32} (hd : decode E.2.1 pc = .ok (.invokestatic ix, 3)) (hy : YOKH y hh 2) (hm : MLS E.1 ix y) (hx : ExH Γ 101 y hh [v1, v2] M mc ms Qc) (hi : ∀ o M', Qc o M' → o = .inl (some (.int t))) (hk : Nat.ble y.2.2.1 21 = true) (hrt : Nat.ble (rest.map fun v => v.category).sum 8 = true) (hq : pc + 3 = q) (hc : cells + mc ≤ 601024) (hs : slots + ms ≤ 7293034) (kk : ∀ M', Qc (.inl (some (.int t))) M' → JJ Γ E Zf room_1 (cells + mc) (slots + ms) q vl (.int t :: rest) M') : JJ Γ E Zf room_1 cells slots pc vl (v2 :: v1 :: rest) M := by
  subst hq
  exact jj_callSH (as := [v1, v2]) (rest := rest) hd hy hm hx rfl (Nat.le_of_ble_eq_true hrt) ⟨by decide, by have := Nat.le_of_ble_eq_true hk; show _ ≤ 84000; omega⟩ ⟨hc, hs⟩ (fun v M' h => by have h1 := hi _ _ h; cases h1; exact kk M' h) (fun X M' h => by have h1 := hi _ _ h; cases h1)
theorem lS3 {v1 v2 v3 : Value} {t : Int32} (hd : decode E.2.1 pc = .ok (.invokestatic ix, 3)) (hy : YOKH y hh 3) (hm : MLS E.1 ix y) (hx : ExH Γ 101 y hh [v1, v2, v3] M mc ms Qc) (hi : ∀ o M', Qc o M' → o = .inl (some (.int t))) (hk : Nat.ble y.2.2.1 21 = true) (hrt : Nat.ble (rest.map fun v => v.category).sum 8 = true) (hq : pc + 3 = q) (hc : cells + mc ≤ 601024) (hs : slots + ms ≤ 7293034) (kk : ∀ M', Qc (.inl (some (.int t))) M' → JJ Γ E Zf room_1 (cells + mc) (slots + ms) q vl (.int t :: rest) M') : JJ Γ E Zf room_1 cells slots pc vl (v3 :: v2 :: v1 :: rest) M := by
  subst hq
  exact jj_callSH (as := [v1, v2, v3]) (rest := rest) hd hy hm hx rfl (Nat.le_of_ble_eq_true hrt) ⟨by decide, by have := Nat.le_of_ble_eq_true hk; show _ ≤ 84000; omega⟩ ⟨hc, hs⟩ (fun v M' h => by have h1 := hi _ _ h; cases h1; exact kk M' h) (fun X M' h => by have h1 := hi _ _ h; cases h1)
theorem lS4 {v1 v2 v3 v4 : Value} {t : Int32} (hd : decode E.2.1 pc = .ok (.invokestatic ix, 3)) (hy : YOKH y hh 4) (hm : MLS E.1 ix y) (hx : ExH Γ 101 y hh [v1, v2, v3, v4] M mc ms Qc) (hi : ∀ o M', Qc o M' → o = .inl (some (.int t))) (hk : Nat.ble y.2.2.1 21 = true) (hrt : Nat.ble (rest.map fun v => v.category).sum 8 = true) (hq : pc + 3 = q) (hc : cells + mc ≤ 601024) (hs : slots + ms ≤ 7293034) (kk : ∀ M', Qc (.inl (some (.int t))) M' → JJ Γ E Zf room_1 (cells + mc) (slots + ms) q vl (.int t :: rest) M') : JJ Γ E Zf room_1 cells slots pc vl (v4 :: v3 :: v2 :: v1 :: rest) M := by
  subst hq
  exact jj_callSH (as := [v1, v2, v3, v4]) (rest := rest) hd hy hm hx rfl (Nat.le_of_ble_eq_true hrt) ⟨by decide, by have := Nat.le_of_ble_eq_true hk; show _ ≤ 84000; omega⟩ ⟨hc, hs⟩ (fun v M' h => by have h1 := hi _ _ h; cases h1; exact kk M' h) (fun X M' h => by have h1 := hi _ _ h; cases h1)
theorem lS5 {v1 v2 v3 v4 v5 : Value} {t : Int32} (hd : decode E.2.1 pc = .ok (.invokestatic ix, 3)) (hy : YOKH y hh 5) (hm : MLS E.1 ix y) (hx : ExH Γ 101 y hh [v1, v2, v3, v4, v5] M mc ms Qc) (hi : ∀ o M', Qc o M' → o = .inl (some (.int t))) (hk : Nat.ble y.2.2.1 21 = true) (hrt : Nat.ble (rest.map fun v => v.category).sum 8 = true) (hq : pc + 3 = q) (hc : cells + mc ≤ 601024) (hs : slots + ms ≤ 7293034) (kk : ∀ M', Qc (.inl (some (.int t))) M' → JJ Γ E Zf room_1 (cells + mc) (slots + ms) q vl (.int t :: rest) M') : JJ Γ E Zf room_1 cells slots pc vl (v5 :: v4 :: v3 :: v2 :: v1 :: rest) M := by
  subst hq
  exact jj_callSH (as := [v1, v2, v3, v4, v5]) (rest := rest) hd hy hm hx rfl (Nat.le_of_ble_eq_true hrt) ⟨by decide, by have := Nat.le_of_ble_eq_true hk; show _ ≤ 84000; omega⟩ ⟨hc, hs⟩ (fun v M' h => by have h1 := hi _ _ h; cases h1; exact kk M' h) (fun X M' h => by have h1 := hi _ _ h; cases h1)
end C08
