/-! THE STEPS OF A TICK, walked -/
def rIV (r : Int32) (F : (Nat → Int32) → JM) : JO → JM → Prop := fun o M' => ∃ V, o = .inl (some (.int r)) ∧ M' = F V
def rVV (F : (Nat → Int32) → JM) : JO → JM → Prop := fun o M' => ∃ V, o = .inl none ∧ M' = F V
section JV
variable {Γ : Gam} {E : JE} {Zf : List Frame → Array Value → State → State → Prop} {cells slots mcR msR pc q d ix : Nat} {vl : List (Option Value)} {rest : List Value} {M : JM} {y : JY} {r : Int32} {F : (Nat → Int32) → JM}
theorem jj_eS1i {v1 : Value} (hd : decode E.2.1 pc = .ok (.invokestatic ix, 3)) (hy : YOK y 1) (hm : MLS E.1 ix y) (hx : Ex Γ d y ([v1]) M 0 0 (rIV r F)) (hk : Nat.ble y.2.2.1 21 = true) (hrt : Nat.ble (rest.map fun v => v.category).sum 8 = true) (hq : pc + 3 = q) (hcs : cells ≤ mcR ∧ slots ≤ msR) (kk : ∀ V, JJ Γ E Zf (jj_rm (d + 1) mcR msR) cells slots q vl (.int r :: rest) (F V)) : JJ Γ E Zf (jj_rm (d + 1) mcR msR) cells slots pc vl (v1 :: rest) M := by
  subst hq
  exact jj_callS (as := [v1]) (rest := rest) hd hy hm hx rfl (Nat.le_of_ble_eq_true hrt) (jj_rok (Nat.le_of_ble_eq_true hk)) hcs (fun v M' h => by obtain ⟨V, h1, h2⟩ := h; cases h1; subst h2; exact kk V) (fun X M' h => by obtain ⟨V, h1, h2⟩ := h; cases h1)
theorem jj_eS1v {v1 : Value} (hd : decode E.2.1 pc = .ok (.invokestatic ix, 3)) (hy : YOK y 1) (hm : MLS E.1 ix y) (hx : Ex Γ d y ([v1]) M 0 0 (rVV F)) (hk : Nat.ble y.2.2.1 21 = true) (hrt : Nat.ble (rest.map fun v => v.category).sum 8 = true) (hq : pc + 3 = q) (hcs : cells ≤ mcR ∧ slots ≤ msR) (kk : ∀ V, JJ Γ E Zf (jj_rm (d + 1) mcR msR) cells slots q vl (rest) (F V)) : JJ Γ E Zf (jj_rm (d + 1) mcR msR) cells slots pc vl (v1 :: rest) M := by
  subst hq
  exact jj_callS (as := [v1]) (rest := rest) hd hy hm hx rfl (Nat.le_of_ble_eq_true hrt) (jj_rok (Nat.le_of_ble_eq_true hk)) hcs (fun v M' h => by obtain ⟨V, h1, h2⟩ := h; cases h1; subst h2; exact kk V) (fun X M' h => by obtain ⟨V, h1, h2⟩ := h; cases h1)
theorem jj_eS2i {v1 v2 : Value} (hd : decode E.2.1 pc = .ok (.invokestatic ix, 3)) (hy : YOK y 2) (hm : MLS E.1 ix y) (hx : Ex Γ d y ([v1, v2]) M 0 0 (rIV r F)) (hk : Nat.ble y.2.2.1 21 = true) (hrt : Nat.ble (rest.map fun v => v.category).sum 8 = true) (hq : pc + 3 = q) (hcs : cells ≤ mcR ∧ slots ≤ msR) (kk : ∀ V, JJ Γ E Zf (jj_rm (d + 1) mcR msR) cells slots q vl (.int r :: rest) (F V)) : JJ Γ E Zf (jj_rm (d + 1) mcR msR) cells slots pc vl (v2 :: v1 :: rest) M := by
  subst hq
  exact jj_callS (as := [v1, v2]) (rest := rest) hd hy hm hx rfl (Nat.le_of_ble_eq_true hrt) (jj_rok (Nat.le_of_ble_eq_true hk)) hcs (fun v M' h => by obtain ⟨V, h1, h2⟩ := h; cases h1; subst h2; exact kk V) (fun X M' h => by obtain ⟨V, h1, h2⟩ := h; cases h1)
theorem jj_eS2v {v1 v2 : Value} (hd : decode E.2.1 pc = .ok (.invokestatic ix, 3)) (hy : YOK y 2) (hm : MLS E.1 ix y) (hx : Ex Γ d y ([v1, v2]) M 0 0 (rVV F)) (hk : Nat.ble y.2.2.1 21 = true) (hrt : Nat.ble (rest.map fun v => v.category).sum 8 = true) (hq : pc + 3 = q) (hcs : cells ≤ mcR ∧ slots ≤ msR) (kk : ∀ V, JJ Γ E Zf (jj_rm (d + 1) mcR msR) cells slots q vl (rest) (F V)) : JJ Γ E Zf (jj_rm (d + 1) mcR msR) cells slots pc vl (v2 :: v1 :: rest) M := by
  subst hq
  exact jj_callS (as := [v1, v2]) (rest := rest) hd hy hm hx rfl (Nat.le_of_ble_eq_true hrt) (jj_rok (Nat.le_of_ble_eq_true hk)) hcs (fun v M' h => by obtain ⟨V, h1, h2⟩ := h; cases h1; subst h2; exact kk V) (fun X M' h => by obtain ⟨V, h1, h2⟩ := h; cases h1)
theorem jj_eS3i {v1 v2 v3 : Value} (hd : decode E.2.1 pc = .ok (.invokestatic ix, 3)) (hy : YOK y 3) (hm : MLS E.1 ix y) (hx : Ex Γ d y ([v1, v2, v3]) M 0 0 (rIV r F)) (hk : Nat.ble y.2.2.1 21 = true) (hrt : Nat.ble (rest.map fun v => v.category).sum 8 = true) (hq : pc + 3 = q) (hcs : cells ≤ mcR ∧ slots ≤ msR) (kk : ∀ V, JJ Γ E Zf (jj_rm (d + 1) mcR msR) cells slots q vl (.int r :: rest) (F V)) : JJ Γ E Zf (jj_rm (d + 1) mcR msR) cells slots pc vl (v3 :: v2 :: v1 :: rest) M := by
  subst hq
  exact jj_callS (as := [v1, v2, v3]) (rest := rest) hd hy hm hx rfl (Nat.le_of_ble_eq_true hrt) (jj_rok (Nat.le_of_ble_eq_true hk)) hcs (fun v M' h => by obtain ⟨V, h1, h2⟩ := h; cases h1; subst h2; exact kk V) (fun X M' h => by obtain ⟨V, h1, h2⟩ := h; cases h1)
theorem jj_eS3v {v1 v2 v3 : Value} (hd : decode E.2.1 pc = .ok (.invokestatic ix, 3)) (hy : YOK y 3) (hm : MLS E.1 ix y) (hx : Ex Γ d y ([v1, v2, v3]) M 0 0 (rVV F)) (hk : Nat.ble y.2.2.1 21 = true) (hrt : Nat.ble (rest.map fun v => v.category).sum 8 = true) (hq : pc + 3 = q) (hcs : cells ≤ mcR ∧ slots ≤ msR) (kk : ∀ V, JJ Γ E Zf (jj_rm (d + 1) mcR msR) cells slots q vl (rest) (F V)) : JJ Γ E Zf (jj_rm (d + 1) mcR msR) cells slots pc vl (v3 :: v2 :: v1 :: rest) M := by
  subst hq
  exact jj_callS (as := [v1, v2, v3]) (rest := rest) hd hy hm hx rfl (Nat.le_of_ble_eq_true hrt) (jj_rok (Nat.le_of_ble_eq_true hk)) hcs (fun v M' h => by obtain ⟨V, h1, h2⟩ := h; cases h1; subst h2; exact kk V) (fun X M' h => by obtain ⟨V, h1, h2⟩ := h; cases h1)
theorem jj_eS4i {v1 v2 v3 v4 : Value} (hd : decode E.2.1 pc = .ok (.invokestatic ix, 3)) (hy : YOK y 4) (hm : MLS E.1 ix y) (hx : Ex Γ d y ([v1, v2, v3, v4]) M 0 0 (rIV r F)) (hk : Nat.ble y.2.2.1 21 = true) (hrt : Nat.ble (rest.map fun v => v.category).sum 8 = true) (hq : pc + 3 = q) (hcs : cells ≤ mcR ∧ slots ≤ msR) (kk : ∀ V, JJ Γ E Zf (jj_rm (d + 1) mcR msR) cells slots q vl (.int r :: rest) (F V)) : JJ Γ E Zf (jj_rm (d + 1) mcR msR) cells slots pc vl (v4 :: v3 :: v2 :: v1 :: rest) M := by
  subst hq
  exact jj_callS (as := [v1, v2, v3, v4]) (rest := rest) hd hy hm hx rfl (Nat.le_of_ble_eq_true hrt) (jj_rok (Nat.le_of_ble_eq_true hk)) hcs (fun v M' h => by obtain ⟨V, h1, h2⟩ := h; cases h1; subst h2; exact kk V) (fun X M' h => by obtain ⟨V, h1, h2⟩ := h; cases h1)
theorem jj_eS4v {v1 v2 v3 v4 : Value} (hd : decode E.2.1 pc = .ok (.invokestatic ix, 3)) (hy : YOK y 4) (hm : MLS E.1 ix y) (hx : Ex Γ d y ([v1, v2, v3, v4]) M 0 0 (rVV F)) (hk : Nat.ble y.2.2.1 21 = true) (hrt : Nat.ble (rest.map fun v => v.category).sum 8 = true) (hq : pc + 3 = q) (hcs : cells ≤ mcR ∧ slots ≤ msR) (kk : ∀ V, JJ Γ E Zf (jj_rm (d + 1) mcR msR) cells slots q vl (rest) (F V)) : JJ Γ E Zf (jj_rm (d + 1) mcR msR) cells slots pc vl (v4 :: v3 :: v2 :: v1 :: rest) M := by
  subst hq
  exact jj_callS (as := [v1, v2, v3, v4]) (rest := rest) hd hy hm hx rfl (Nat.le_of_ble_eq_true hrt) (jj_rok (Nat.le_of_ble_eq_true hk)) hcs (fun v M' h => by obtain ⟨V, h1, h2⟩ := h; cases h1; subst h2; exact kk V) (fun X M' h => by obtain ⟨V, h1, h2⟩ := h; cases h1)
theorem jj_eV1i {b ci : Nat} {v1 : Value} (hd : decode E.2.1 pc = .ok (.invokevirtual ix, 3)) (hy : YOK y 1) (hm : MLV E.1 ix y ci) (hT : M.1 b = some (.inl ci)) (hx : Ex Γ d y (.ref b :: [v1]) M 0 0 (rIV r F)) (hk : Nat.ble y.2.2.1 21 = true) (hrt : Nat.ble (rest.map fun v => v.category).sum 8 = true) (hq : pc + 3 = q) (hcs : cells ≤ mcR ∧ slots ≤ msR) (kk : ∀ V, JJ Γ E Zf (jj_rm (d + 1) mcR msR) cells slots q vl (.int r :: rest) (F V)) : JJ Γ E Zf (jj_rm (d + 1) mcR msR) cells slots pc vl (v1 :: .ref b :: rest) M := by
  subst hq
  exact jj_callV (as := [v1]) (rest := rest) hd hy hm hT hx rfl (Nat.le_of_ble_eq_true hrt) (jj_rok (Nat.le_of_ble_eq_true hk)) hcs (fun v M' h => by obtain ⟨V, h1, h2⟩ := h; cases h1; subst h2; exact kk V) (fun X M' h => by obtain ⟨V, h1, h2⟩ := h; cases h1)
theorem jj_eV1v {b ci : Nat} {v1 : Value} (hd : decode E.2.1 pc = .ok (.invokevirtual ix, 3)) (hy : YOK y 1) (hm : MLV E.1 ix y ci) (hT : M.1 b = some (.inl ci)) (hx : Ex Γ d y (.ref b :: [v1]) M 0 0 (rVV F)) (hk : Nat.ble y.2.2.1 21 = true) (hrt : Nat.ble (rest.map fun v => v.category).sum 8 = true) (hq : pc + 3 = q) (hcs : cells ≤ mcR ∧ slots ≤ msR) (kk : ∀ V, JJ Γ E Zf (jj_rm (d + 1) mcR msR) cells slots q vl (rest) (F V)) : JJ Γ E Zf (jj_rm (d + 1) mcR msR) cells slots pc vl (v1 :: .ref b :: rest) M := by
  subst hq
  exact jj_callV (as := [v1]) (rest := rest) hd hy hm hT hx rfl (Nat.le_of_ble_eq_true hrt) (jj_rok (Nat.le_of_ble_eq_true hk)) hcs (fun v M' h => by obtain ⟨V, h1, h2⟩ := h; cases h1; subst h2; exact kk V) (fun X M' h => by obtain ⟨V, h1, h2⟩ := h; cases h1)
theorem jj_eV2i {b ci : Nat} {v1 v2 : Value} (hd : decode E.2.1 pc = .ok (.invokevirtual ix, 3)) (hy : YOK y 2) (hm : MLV E.1 ix y ci) (hT : M.1 b = some (.inl ci)) (hx : Ex Γ d y (.ref b :: [v1, v2]) M 0 0 (rIV r F)) (hk : Nat.ble y.2.2.1 21 = true) (hrt : Nat.ble (rest.map fun v => v.category).sum 8 = true) (hq : pc + 3 = q) (hcs : cells ≤ mcR ∧ slots ≤ msR) (kk : ∀ V, JJ Γ E Zf (jj_rm (d + 1) mcR msR) cells slots q vl (.int r :: rest) (F V)) : JJ Γ E Zf (jj_rm (d + 1) mcR msR) cells slots pc vl (v2 :: v1 :: .ref b :: rest) M := by
  subst hq
  exact jj_callV (as := [v1, v2]) (rest := rest) hd hy hm hT hx rfl (Nat.le_of_ble_eq_true hrt) (jj_rok (Nat.le_of_ble_eq_true hk)) hcs (fun v M' h => by obtain ⟨V, h1, h2⟩ := h; cases h1; subst h2; exact kk V) (fun X M' h => by obtain ⟨V, h1, h2⟩ := h; cases h1)
theorem jj_eV2v {b ci : Nat} {v1 v2 : Value} (hd : decode E.2.1 pc = .ok (.invokevirtual ix, 3)) (hy : YOK y 2) (hm : MLV E.1 ix y ci) (hT : M.1 b = some (.inl ci)) (hx : Ex Γ d y (.ref b :: [v1, v2]) M 0 0 (rVV F)) (hk : Nat.ble y.2.2.1 21 = true) (hrt : Nat.ble (rest.map fun v => v.category).sum 8 = true) (hq : pc + 3 = q) (hcs : cells ≤ mcR ∧ slots ≤ msR) (kk : ∀ V, JJ Γ E Zf (jj_rm (d + 1) mcR msR) cells slots q vl (rest) (F V)) : JJ Γ E Zf (jj_rm (d + 1) mcR msR) cells slots pc vl (v2 :: v1 :: .ref b :: rest) M := by
  subst hq
  exact jj_callV (as := [v1, v2]) (rest := rest) hd hy hm hT hx rfl (Nat.le_of_ble_eq_true hrt) (jj_rok (Nat.le_of_ble_eq_true hk)) hcs (fun v M' h => by obtain ⟨V, h1, h2⟩ := h; cases h1; subst h2; exact kk V) (fun X M' h => by obtain ⟨V, h1, h2⟩ := h; cases h1)
theorem jj_eV3i {b ci : Nat} {v1 v2 v3 : Value} (hd : decode E.2.1 pc = .ok (.invokevirtual ix, 3)) (hy : YOK y 3) (hm : MLV E.1 ix y ci) (hT : M.1 b = some (.inl ci)) (hx : Ex Γ d y (.ref b :: [v1, v2, v3]) M 0 0 (rIV r F)) (hk : Nat.ble y.2.2.1 21 = true) (hrt : Nat.ble (rest.map fun v => v.category).sum 8 = true) (hq : pc + 3 = q) (hcs : cells ≤ mcR ∧ slots ≤ msR) (kk : ∀ V, JJ Γ E Zf (jj_rm (d + 1) mcR msR) cells slots q vl (.int r :: rest) (F V)) : JJ Γ E Zf (jj_rm (d + 1) mcR msR) cells slots pc vl (v3 :: v2 :: v1 :: .ref b :: rest) M := by
  subst hq
  exact jj_callV (as := [v1, v2, v3]) (rest := rest) hd hy hm hT hx rfl (Nat.le_of_ble_eq_true hrt) (jj_rok (Nat.le_of_ble_eq_true hk)) hcs (fun v M' h => by obtain ⟨V, h1, h2⟩ := h; cases h1; subst h2; exact kk V) (fun X M' h => by obtain ⟨V, h1, h2⟩ := h; cases h1)
theorem jj_eV3v {b ci : Nat} {v1 v2 v3 : Value} (hd : decode E.2.1 pc = .ok (.invokevirtual ix, 3)) (hy : YOK y 3) (hm : MLV E.1 ix y ci) (hT : M.1 b = some (.inl ci)) (hx : Ex Γ d y (.ref b :: [v1, v2, v3]) M 0 0 (rVV F)) (hk : Nat.ble y.2.2.1 21 = true) (hrt : Nat.ble (rest.map fun v => v.category).sum 8 = true) (hq : pc + 3 = q) (hcs : cells ≤ mcR ∧ slots ≤ msR) (kk : ∀ V, JJ Γ E Zf (jj_rm (d + 1) mcR msR) cells slots q vl (rest) (F V)) : JJ Γ E Zf (jj_rm (d + 1) mcR msR) cells slots pc vl (v3 :: v2 :: v1 :: .ref b :: rest) M := by
  subst hq
  exact jj_callV (as := [v1, v2, v3]) (rest := rest) hd hy hm hT hx rfl (Nat.le_of_ble_eq_true hrt) (jj_rok (Nat.le_of_ble_eq_true hk)) hcs (fun v M' h => by obtain ⟨V, h1, h2⟩ := h; cases h1; subst h2; exact kk V) (fun X M' h => by obtain ⟨V, h1, h2⟩ := h; cases h1)
theorem jj_eV4i {b ci : Nat} {v1 v2 v3 v4 : Value} (hd : decode E.2.1 pc = .ok (.invokevirtual ix, 3)) (hy : YOK y 4) (hm : MLV E.1 ix y ci) (hT : M.1 b = some (.inl ci)) (hx : Ex Γ d y (.ref b :: [v1, v2, v3, v4]) M 0 0 (rIV r F)) (hk : Nat.ble y.2.2.1 21 = true) (hrt : Nat.ble (rest.map fun v => v.category).sum 8 = true) (hq : pc + 3 = q) (hcs : cells ≤ mcR ∧ slots ≤ msR) (kk : ∀ V, JJ Γ E Zf (jj_rm (d + 1) mcR msR) cells slots q vl (.int r :: rest) (F V)) : JJ Γ E Zf (jj_rm (d + 1) mcR msR) cells slots pc vl (v4 :: v3 :: v2 :: v1 :: .ref b :: rest) M := by
  subst hq
  exact jj_callV (as := [v1, v2, v3, v4]) (rest := rest) hd hy hm hT hx rfl (Nat.le_of_ble_eq_true hrt) (jj_rok (Nat.le_of_ble_eq_true hk)) hcs (fun v M' h => by obtain ⟨V, h1, h2⟩ := h; cases h1; subst h2; exact kk V) (fun X M' h => by obtain ⟨V, h1, h2⟩ := h; cases h1)
theorem jj_eV4v {b ci : Nat} {v1 v2 v3 v4 : Value} (hd : decode E.2.1 pc = .ok (.invokevirtual ix, 3)) (hy : YOK y 4) (hm : MLV E.1 ix y ci) (hT : M.1 b = some (.inl ci)) (hx : Ex Γ d y (.ref b :: [v1, v2, v3, v4]) M 0 0 (rVV F)) (hk : Nat.ble y.2.2.1 21 = true) (hrt : Nat.ble (rest.map fun v => v.category).sum 8 = true) (hq : pc + 3 = q) (hcs : cells ≤ mcR ∧ slots ≤ msR) (kk : ∀ V, JJ Γ E Zf (jj_rm (d + 1) mcR msR) cells slots q vl (rest) (F V)) : JJ Γ E Zf (jj_rm (d + 1) mcR msR) cells slots pc vl (v4 :: v3 :: v2 :: v1 :: .ref b :: rest) M := by
  subst hq
  exact jj_callV (as := [v1, v2, v3, v4]) (rest := rest) hd hy hm hT hx rfl (Nat.le_of_ble_eq_true hrt) (jj_rok (Nat.le_of_ble_eq_true hk)) hcs (fun v M' h => by obtain ⟨V, h1, h2⟩ := h; cases h1; subst h2; exact kk V) (fun X M' h => by obtain ⟨V, h1, h2⟩ := h; cases h1)
end JV
def putV (V : Nat → Int32) (n : Nat) (i x : Int32) : Nat → Int32 := if i < 0 then V else if Int32.ofNat n ≤ i then V else fun j => if j = i.toNatClampNeg then x else V j
theorem tro {I P : JI} {p a : Nat} (hdj : p + 16 ≤ a ∨ a + 19 ≤ p) (hI : ∀ k : Nat, k < 15 → I (p + k) = P k) (k : Nat) (hk : k < 15) {V : Nat → Int32} {K : JI} : blk 19 (vv I p V) a K (p + k) = P k := by
  rw [blk_out (by omega), ← hI k hk]
  funext j
  unfold vv
  rw [if_neg (by omega)]
theorem tr15 {I : JI} {p a : Nat} (hdj : p + 16 ≤ a ∨ a + 19 ≤ p) {V : Nat → Int32} {K : JI} : blk 19 (vv I p V) a K (p + 15) = V := by
  rw [blk_out (by omega)]
  funext j
  unfold vv
  rw [if_pos rfl]
theorem tr16 {I P : JI} {p a : Nat} (hdj : p + 16 ≤ a ∨ a + 19 ≤ p) (hI : ∀ k : Nat, k < 15 → I (p + k) = P k) (k : Nat) (hk : k < 16) {V : Nat → Int32} {K : JI} : blk 19 (vv I p V) a K (p + k) = pv P V k := by
  by_cases h : k = 15
  · subst h
    rw [tr15 hdj]
    funext j
    unfold pv
    rw [if_pos rfl]
  · rw [tro hdj hI k (by omega)]
    funext j
    unfold pv
    rw [if_neg h]
theorem tw15 {I : JI} {p a n : Nat} (hdj : p + 16 ≤ a ∨ a + 19 ≤ p) {V : Nat → Int32} {K : JI} {i x : Int32} : putI (blk 19 (vv I p V) a K) (p + 15) n i x = blk 19 (vv I p (putV V n i x)) a K := by
  unfold putI putV
  split
  · rfl
  · split
    · rfl
    · funext b j
      by_cases hb : b = p + 15
      · subst hb
        rw [u2_eq, tr15 hdj, tr15 hdj]
      · rw [u2_ne hb]
        unfold blk
        split
        · rfl
        · unfold vv
          rw [if_neg hb, if_neg hb]
section M24
variable {Γ : Gam} {d : Nat} {T : JT} {R S : JR} {I P K : JI} {L : JL} {D : JD} {z : Option Nat} {a p c : Nat} {r : Int64} {V : Nat → Int32}
theorem ex_works (hs : hSt T R a) (hp : hPl T R p) (hdj : p + 16 ≤ a ∨ a + 19 ≤ p) (hI : ∀ k : Nat, k < 15 → I (p + k) = P k) (hW : wP P) {lv m : Int32} : Ex Γ (d + 2) Y_X7_works [.ref p, .ref a, .int lv, .int m] (T, R, S, blk 19 (vv I p V) a K, L, D, z) 0 0 (rI (kWk P K lv m) (T, R, S, blk 19 (vv I p V) a K, L, D, z)) := by
  have hro : ∀ k : Nat, k < 15 → ∀ {V : Nat → Int32} {K : JI}, blk 19 (vv I p V) a K (p + k) = P k := fun k hk => tro hdj hI k hk
  refine Ex.of (by decide) (by simp [Value.category]) (Nat.le_of_ble_eq_true rfl) rfl ?_
  refine jj_aload_n (q := 1) dX7_works_0 rfl rfl rfl ?_
  refine jj_getIv (q := 4) dX7_works_1 fl_X7_31 hs.t0 (blk_0 (by decide)) rfl rfl ?_
  refine jj_aload_n (q := 5) dX7_works_4 rfl rfl rfl ?_
  refine jj_getR (q := 8) dX7_works_5 fl_X7_210 hs.t0 hs.r0_13 rfl rfl rfl ?_
  refine jj_iload_n (q := 9) dX7_works_8 rfl rfl rfl ?_
  refine jj_iload_n (q := 10) dX7_works_9 rfl rfl rfl ?_
  refine jj_cN2i (q := 13) dX7_works_10 yk_X8_machineIndex ml_X7_182 ex_machineIndex rfl rfl rfl ⟨Nat.zero_le _, Nat.zero_le _⟩ ?_
  refine jj_cN2i (q := 16) dX7_works_13 yk_X8_at ml_X7_21 (ex_atv hs.t17 (blk_k (by decide)) rfl) rfl rfl rfl ⟨Nat.zero_le _, Nat.zero_le _⟩ ?_
  refine jj_icmp_le (q := 19) (tgt := 36) dX7_works_16 rfl rfl (fun h16 => ?_) (fun h16 => ?_)
  · refine jj_iconst (v := 0) (q := 37) dX7_works_36 rfl rfl ?_
    refine jj_zret dX7_works_37 rfl (by first | rfl | assumption) (Nat.zero_le _) (Nat.zero_le _) ?_
    exact ⟨by unfold kWk kMi; (first | rw [if_pos h16] | rw [if_neg h16] | skip); (first | rw [if_pos h29] | rw [if_neg h29] | skip), rfl⟩
  · refine jj_aload_n (q := 20) dX7_works_19 rfl rfl rfl ?_
    refine jj_iload_n (q := 21) dX7_works_20 rfl rfl rfl ?_
    refine jj_iload_n (q := 22) dX7_works_21 rfl rfl rfl ?_
    refine jj_aload_n (q := 23) dX7_works_22 rfl rfl rfl ?_
    refine jj_getIv (q := 26) dX7_works_23 fl_X7_31 hs.t0 (blk_0 (by decide)) rfl rfl ?_
    refine jj_cV3i (q := 29) dX7_works_26 yk_X3_isOffShift ml_X7_213 hp.t0 (ex_isOffShift hp (fun k hk => hro k hk) hW.2.1.1 hW.2.1.2) rfl rfl rfl ⟨Nat.zero_le _, Nat.zero_le _⟩ ?_
    refine jj_if_ne (q := 32) (tgt := 36) dX7_works_29 rfl rfl (fun h29 => ?_) (fun h29 => ?_)
    · refine jj_iconst (v := 0) (q := 37) dX7_works_36 rfl rfl ?_
      refine jj_zret dX7_works_37 rfl (by first | rfl | assumption) (Nat.zero_le _) (Nat.zero_le _) ?_
      exact ⟨by unfold kWk kMi; (first | rw [if_pos h16] | rw [if_neg h16] | skip); (first | rw [if_pos h29] | rw [if_neg h29] | skip), rfl⟩
    · refine jj_iconst (v := 1) (q := 33) dX7_works_32 rfl rfl ?_
      refine jj_goto (tgt := 37) dX7_works_33 rfl ?_
      refine jj_zret dX7_works_37 rfl (by first | rfl | assumption) (Nat.zero_le _) (Nat.zero_le _) ?_
      exact ⟨by unfold kWk kMi; (first | rw [if_pos h16] | rw [if_neg h16] | skip); (first | rw [if_pos h29] | rw [if_neg h29] | skip), rfl⟩
theorem ex_afterAlarm {lv : Int32} {M : JM} : Ex Γ (d + 1) Y_X7_afterAlarm [.int lv] M 0 0 (rI (kAA lv) M) := by
  refine Ex.of (by decide) (by simp [Value.category]) (Nat.le_of_ble_eq_true rfl) rfl ?_
  refine jj_iload_n (q := 1) dX7_afterAlarm_0 rfl rfl rfl ?_
  refine jj_iconst (v := 3) (q := 2) dX7_afterAlarm_1 rfl rfl ?_
  refine jj_icmp_ne (q := 5) (tgt := 10) dX7_afterAlarm_2 rfl rfl (fun h2 => ?_) (fun h2 => ?_)
  · refine jj_iload_n (q := 11) dX7_afterAlarm_10 rfl rfl rfl ?_
    refine jj_iconst (v := 1) (q := 12) dX7_afterAlarm_11 rfl rfl ?_
    refine jj_iadd (q := 13) dX7_afterAlarm_12 rfl ?_
    refine jj_cN1i (q := 16) dX7_afterAlarm_13 yk_X8_waitState ml_X7_74 ex_waitState rfl rfl rfl ⟨Nat.zero_le _, Nat.zero_le _⟩ ?_
    refine jj_iret dX7_afterAlarm_16 rfl (Nat.zero_le _) (Nat.zero_le _) ?_
    exact ⟨by unfold kAA; (first | rw [if_pos h2] | rw [if_neg h2] | skip), rfl⟩
  · refine jj_bipush (v := 12) (q := 7) dX7_afterAlarm_5 rfl rfl ?_
    refine jj_goto (tgt := 16) dX7_afterAlarm_7 rfl ?_
    refine jj_iret dX7_afterAlarm_16 rfl (Nat.zero_le _) (Nat.zero_le _) ?_
    exact ⟨by unfold kAA; (first | rw [if_pos h2] | rw [if_neg h2] | skip), rfl⟩
theorem ex_addLast (hs : hSt T R a) {l b : Int32} : Ex Γ (d + 1) Y_X7_addLast [.ref a, .int l, .int b] (T, R, S, blk 19 I a K, L, D, z) 0 0 (rV (T, R, S, blk 19 I a (kAL K l b), L, D, z)) := by
  refine Ex.of (by decide) (by simp [Value.category]) (Nat.le_of_ble_eq_true rfl) rfl ?_
  refine jj_aload_n (q := 1) dX7_addLast_0 rfl rfl rfl ?_
  refine jj_getR (q := 4) dX7_addLast_1 fl_X7_131 hs.t0 hs.r0_8 rfl rfl rfl ?_
  refine jj_iload_n (q := 5) dX7_addLast_4 rfl rfl rfl ?_
  refine jj_cN2i (q := 8) dX7_addLast_5 yk_X8_at ml_X7_21 (ex_atv hs.t12 (blk_k (by decide)) rfl) rfl rfl rfl ⟨Nat.zero_le _, Nat.zero_le _⟩ ?_
  refine jj_istore_n (q := 9) dX7_addLast_8 rfl (by decide) rfl ?_
  refine jj_aload_n (q := 10) dX7_addLast_9 rfl rfl rfl ?_
  refine jj_getR (q := 13) dX7_addLast_10 fl_X7_140 hs.t0 hs.r0_9 rfl rfl rfl ?_
  refine jj_iload_n (q := 14) dX7_addLast_13 rfl rfl rfl ?_
  refine jj_bipush (v := 20) (q := 16) dX7_addLast_14 rfl rfl ?_
  refine jj_imul (q := 17) dX7_addLast_16 rfl ?_
  refine jj_iload_n (q := 18) dX7_addLast_17 rfl rfl rfl ?_
  refine jj_iadd (q := 19) dX7_addLast_18 rfl ?_
  refine jj_iload_n (q := 20) dX7_addLast_19 rfl rfl rfl ?_
  refine jj_cN3v (q := 23) dX7_addLast_20 yk_X8_put ml_X7_96 (ex_putv hs.t13 (putI_blk (by decide)) rfl) rfl rfl rfl ⟨Nat.zero_le _, Nat.zero_le _⟩ ?_
  refine jj_aload_n (q := 24) dX7_addLast_23 rfl rfl rfl ?_
  refine jj_getR (q := 27) dX7_addLast_24 fl_X7_131 hs.t0 hs.r0_8 rfl rfl rfl ?_
  refine jj_iload_n (q := 28) dX7_addLast_27 rfl rfl rfl ?_
  refine jj_iload_n (q := 29) dX7_addLast_28 rfl rfl rfl ?_
  refine jj_iconst (v := 1) (q := 30) dX7_addLast_29 rfl rfl ?_
  refine jj_iadd (q := 31) dX7_addLast_30 rfl ?_
  refine jj_cN3v (q := 34) dX7_addLast_31 yk_X8_put ml_X7_96 (ex_putv hs.t12 (putI_blk (by decide)) rfl) rfl rfl rfl ⟨Nat.zero_le _, Nat.zero_le _⟩ ?_
  refine jj_vret dX7_addLast_34 rfl (Nat.zero_le _) (Nat.zero_le _) ?_
  exact ⟨rfl, rfl⟩
theorem rf_i (l i : Nat) : nI (l * 20) + nI i = nI (l * 20 + i) := nI_add _ _
theorem rf_j {l i : Nat} (h : 0 < i) : nI (l * 20 + i) - 1 = nI (l * 20 + i - 1) := by
  rw [show (1 : Int32) = nI 1 from rfl, pk_sub (by omega)]
theorem rf_s (l : Nat) : nI l * 20 = nI (l * 20) := by
  rw [show (20 : Int32) = nI 20 from rfl, pk_mul]
theorem rfL_ne {l k' : Nat} (h : k' ≠ 13) : ∀ (k i : Nat) (K : JI), rfL l k i K k' = K k'
  | 0, _, _ => rfl
  | k + 1, i, K => by rw [rfL, rfL_ne h k (i + 1), u2_ne h]
theorem lp_removeFirst (hs : hSt T R a) {l n : Nat} (hl : l < 4) (hn : n ≤ 20) : ∀ (k i : Nat) (K : JI), (i + k = max n i ∧ 0 < i ∧ i ≤ 21) → JJ Γ (jj_E Y_X7_removeFirst) (jj_Z Γ (rV (T, R, S, blk 19 I a (u2 (rfL l k i K) 12 l (nI n - 1)), L, D, z)) 0 0) (jj_rm (d + 1) 0 0) 0 0 17 [some (.ref a), some (.int (nI l)), some (.int (nI n)), some (.int (nI (l * 20))), some (.int (nI i))] [] (T, R, S, blk 19 I a K, L, D, z) := by
  intro k
  induction k with
  | zero =>
    intro i K hi
    refine jj_iload (q := 19) dX7_removeFirst_17 rfl rfl ?_
    refine jj_iload_n (q := 20) dX7_removeFirst_19 rfl rfl rfl ?_
    refine jj_icmp_ge (q := 23) (tgt := 53) dX7_removeFirst_20 rfl rfl (fun h20 => ?_) (fun h20 => absurd ((nI_le (show n ≤ i by omega) (by omega))) h20)
    refine jj_aload_n (q := 54) dX7_removeFirst_53 rfl rfl rfl ?_
    refine jj_getR (q := 57) dX7_removeFirst_54 fl_X7_131 hs.t0 hs.r0_8 rfl rfl rfl ?_
    refine jj_iload_n (q := 58) dX7_removeFirst_57 rfl rfl rfl ?_
    refine jj_iload_n (q := 59) dX7_removeFirst_58 rfl rfl rfl ?_
    refine jj_iconst (v := 1) (q := 60) dX7_removeFirst_59 rfl rfl ?_
    refine jj_isub (q := 61) dX7_removeFirst_60 rfl ?_
    refine jj_cN3v (q := 64) dX7_removeFirst_61 yk_X8_put ml_X7_96 (ex_putv hs.t12 (putI_blk (by decide)) rfl) rfl rfl rfl ⟨Nat.zero_le _, Nat.zero_le _⟩ ?_
    refine jj_vret dX7_removeFirst_64 rfl (Nat.zero_le _) (Nat.zero_le _) ?_
    exact ⟨rfl, by rw [putI_nI hl (by omega)]; rfl⟩
  | succ k ih =>
    intro i K hi
    refine jj_iload (q := 19) dX7_removeFirst_17 rfl rfl ?_
    refine jj_iload_n (q := 20) dX7_removeFirst_19 rfl rfl rfl ?_
    refine jj_icmp_ge (q := 23) (tgt := 53) dX7_removeFirst_20 rfl rfl (fun h20 => absurd h20 ((nI_ge (show i < n by omega) (by omega)))) (fun h20 => ?_)
    refine jj_aload_n (q := 24) dX7_removeFirst_23 rfl rfl rfl ?_
    refine jj_getR (q := 27) dX7_removeFirst_24 fl_X7_140 hs.t0 hs.r0_9 rfl rfl rfl ?_
    refine jj_iload_n (q := 28) dX7_removeFirst_27 rfl rfl rfl ?_
    refine jj_iload (q := 30) dX7_removeFirst_28 rfl rfl ?_
    refine jj_iadd (q := 31) dX7_removeFirst_30 rfl ?_
    rw [rf_i]
    refine jj_iconst (v := 1) (q := 32) dX7_removeFirst_31 rfl rfl ?_
    refine jj_isub (q := 33) dX7_removeFirst_32 rfl ?_
    rw [rf_j hi.2.1]
    refine jj_aload_n (q := 34) dX7_removeFirst_33 rfl rfl rfl ?_
    refine jj_getR (q := 37) dX7_removeFirst_34 fl_X7_140 hs.t0 hs.r0_9 rfl rfl rfl ?_
    refine jj_iload_n (q := 38) dX7_removeFirst_37 rfl rfl rfl ?_
    refine jj_iload (q := 40) dX7_removeFirst_38 rfl rfl ?_
    refine jj_iadd (q := 41) dX7_removeFirst_40 rfl ?_
    rw [rf_i]
    refine jj_cN2i (q := 44) dX7_removeFirst_41 yk_X8_at ml_X7_21 (ex_atv hs.t13 (blk_k (by decide)) rfl) rfl rfl rfl ⟨Nat.zero_le _, Nat.zero_le _⟩ ?_
    rw [atV_nI (show l * 20 + i < 80 by omega) (by omega)]
    refine jj_cN3v (q := 47) dX7_removeFirst_44 yk_X8_put ml_X7_96 (ex_putv hs.t13 (putI_blk (by decide)) rfl) rfl rfl rfl ⟨Nat.zero_le _, Nat.zero_le _⟩ ?_
    rw [putI_nI (show l * 20 + i - 1 < 80 by omega) (by omega)]
    refine jj_iinc (v := nI (i + 1)) (q := 50) dX7_removeFirst_47 rfl (nI_inc i) (by decide) rfl ?_
    refine jj_goto (tgt := 17) dX7_removeFirst_50 rfl ?_
    exact ih (i + 1) _ ⟨by omega, by omega, by omega⟩
theorem ex_removeFirst (hs : hSt T R a) {l n : Nat} (hl : l < 4) (hn : n ≤ 20) (hk : K 12 l = nI n) : Ex Γ (d + 1) Y_X7_removeFirst [.ref a, .int (nI l)] (T, R, S, blk 19 I a K, L, D, z) 0 0 (rV (T, R, S, blk 19 I a (kRF K l n), L, D, z)) := by
  refine Ex.of (by decide) (by simp [Value.category]) (Nat.le_of_ble_eq_true rfl) rfl ?_
  refine jj_aload_n (q := 1) dX7_removeFirst_0 rfl rfl rfl ?_
  refine jj_getR (q := 4) dX7_removeFirst_1 fl_X7_131 hs.t0 hs.r0_8 rfl rfl rfl ?_
  refine jj_iload_n (q := 5) dX7_removeFirst_4 rfl rfl rfl ?_
  refine jj_cN2i (q := 8) dX7_removeFirst_5 yk_X8_at ml_X7_21 (ex_atv hs.t12 (blk_k (by decide)) rfl) rfl rfl rfl ⟨Nat.zero_le _, Nat.zero_le _⟩ ?_
  rw [atV_nI hl (by omega), hk]
  refine jj_istore_n (q := 9) dX7_removeFirst_8 rfl (by decide) rfl ?_
  refine jj_iload_n (q := 10) dX7_removeFirst_9 rfl rfl rfl ?_
  refine jj_bipush (v := 20) (q := 12) dX7_removeFirst_10 rfl rfl ?_
  refine jj_imul (q := 13) dX7_removeFirst_12 rfl ?_
  rw [rf_s]
  refine jj_istore_n (q := 14) dX7_removeFirst_13 rfl (by decide) rfl ?_
  refine jj_iconst (v := 1) (q := 15) dX7_removeFirst_14 rfl rfl ?_
  refine jj_istore (q := 17) dX7_removeFirst_15 (by decide) rfl ?_
  exact lp_removeFirst hs hl hn (n - 1) 1 K ⟨by omega, by omega, by omega⟩
theorem ex_laneTakes (hs : hSt T R a) (hp : hPl T R p) (hdj : p + 16 ≤ a ∨ a + 19 ≤ p) (hI : ∀ k : Nat, k < 15 → I (p + k) = P k) (hW : wP P) {l b : Int32} : Ex Γ (d + 1) Y_X7_laneTakes [.ref p, .ref a, .int l, .int b] (T, R, S, blk 19 (vv I p V) a K, L, D, z) 0 0 (rI (kLT P K l b) (T, R, S, blk 19 (vv I p V) a K, L, D, z)) := by
  have hro : ∀ k : Nat, k < 15 → ∀ {V : Nat → Int32} {K : JI}, blk 19 (vv I p V) a K (p + k) = P k := fun k hk => tro hdj hI k hk
  refine Ex.of (by decide) (by simp [Value.category]) (Nat.le_of_ble_eq_true rfl) rfl ?_
  refine jj_aload_n (q := 1) dX7_laneTakes_0 rfl rfl rfl ?_
  refine jj_getR (q := 4) dX7_laneTakes_1 fl_X7_131 hs.t0 hs.r0_8 rfl rfl rfl ?_
  refine jj_iload_n (q := 5) dX7_laneTakes_4 rfl rfl rfl ?_
  refine jj_cN2i (q := 8) dX7_laneTakes_5 yk_X8_at ml_X7_21 (ex_atv hs.t12 (blk_k (by decide)) rfl) rfl rfl rfl ⟨Nat.zero_le _, Nat.zero_le _⟩ ?_
  refine jj_istore (q := 10) dX7_laneTakes_8 (by decide) rfl ?_
  refine jj_aload_n (q := 11) dX7_laneTakes_10 rfl rfl rfl ?_
  refine jj_getR (q := 14) dX7_laneTakes_11 fl_X7_134 hs.t0 hs.r0_7 rfl rfl rfl ?_
  refine jj_iload_n (q := 15) dX7_laneTakes_14 rfl rfl rfl ?_
  refine jj_cN2i (q := 18) dX7_laneTakes_15 yk_X8_at ml_X7_21 (ex_atv hs.t11 (blk_k (by decide)) rfl) rfl rfl rfl ⟨Nat.zero_le _, Nat.zero_le _⟩ ?_
  refine jj_iconst (v := 1) (q := 19) dX7_laneTakes_18 rfl rfl ?_
  refine jj_icmp_eq (q := 22) (tgt := 35) dX7_laneTakes_19 rfl rfl (fun h19 => ?_) (fun h19 => ?_)
  · refine jj_iconst (v := 0) (q := 36) dX7_laneTakes_35 rfl rfl ?_
    refine jj_zret dX7_laneTakes_36 rfl (by first | rfl | assumption) (Nat.zero_le _) (Nat.zero_le _) ?_
    exact ⟨by unfold kLT; (first | rw [if_pos h19] | rw [if_neg h19] | skip); (first | rw [if_pos h32] | rw [if_neg h32] | skip); (first | rw [if_pos h39] | rw [if_neg h39] | skip); (first | rw [if_pos h99] | rw [if_neg h99] | skip), rfl⟩
  · refine jj_iload (q := 24) dX7_laneTakes_22 rfl rfl ?_
    refine jj_aload_n (q := 25) dX7_laneTakes_24 rfl rfl rfl ?_
    refine jj_getR (q := 28) dX7_laneTakes_25 fl_X7_137 hp.t0 hp.r0_10 rfl rfl rfl ?_
    refine jj_iload_n (q := 29) dX7_laneTakes_28 rfl rfl rfl ?_
    refine jj_cN2i (q := 32) dX7_laneTakes_29 yk_X8_at ml_X7_21 (ex_atv hp.t6 (hro 6 (by decide)) rfl) rfl rfl rfl ⟨Nat.zero_le _, Nat.zero_le _⟩ ?_
    refine jj_icmp_lt (q := 35) (tgt := 37) dX7_laneTakes_32 rfl rfl (fun h32 => ?_) (fun h32 => ?_)
    · refine jj_iload (q := 39) dX7_laneTakes_37 rfl rfl ?_
      refine jj_if_ne (q := 42) (tgt := 44) dX7_laneTakes_39 rfl rfl (fun h39 => ?_) (fun h39 => ?_)
      · refine jj_aload_n (q := 45) dX7_laneTakes_44 rfl rfl rfl ?_
        refine jj_getR (q := 48) dX7_laneTakes_45 fl_X7_140 hs.t0 hs.r0_9 rfl rfl rfl ?_
        refine jj_iload_n (q := 49) dX7_laneTakes_48 rfl rfl rfl ?_
        refine jj_bipush (v := 20) (q := 51) dX7_laneTakes_49 rfl rfl ?_
        refine jj_imul (q := 52) dX7_laneTakes_51 rfl ?_
        refine jj_iload (q := 54) dX7_laneTakes_52 rfl rfl ?_
        refine jj_iadd (q := 55) dX7_laneTakes_54 rfl ?_
        refine jj_iconst (v := 1) (q := 56) dX7_laneTakes_55 rfl rfl ?_
        refine jj_isub (q := 57) dX7_laneTakes_56 rfl ?_
        refine jj_cN2i (q := 60) dX7_laneTakes_57 yk_X8_at ml_X7_21 (ex_atv hs.t13 (blk_k (by decide)) rfl) rfl rfl rfl ⟨Nat.zero_le _, Nat.zero_le _⟩ ?_
        refine jj_istore (q := 62) dX7_laneTakes_60 (by decide) rfl ?_
        refine jj_aload_n (q := 63) dX7_laneTakes_62 rfl rfl rfl ?_
        refine jj_getR (q := 66) dX7_laneTakes_63 fl_X7_143 hs.t0 hs.r0_5 rfl rfl rfl ?_
        refine jj_aload_n (q := 67) dX7_laneTakes_66 rfl rfl rfl ?_
        refine jj_getR (q := 70) dX7_laneTakes_67 fl_X7_9 hs.t0 hs.r0_4 rfl rfl rfl ?_
        refine jj_getR (q := 73) dX7_laneTakes_70 fl_X7_117 hs.t1 hs.r1_2 rfl rfl rfl ?_
        refine jj_iload (q := 75) dX7_laneTakes_73 rfl rfl ?_
        refine jj_cN2i (q := 78) dX7_laneTakes_75 yk_X8_at ml_X7_21 (ex_atv hs.t3 (blk_k (by decide)) rfl) rfl rfl rfl ⟨Nat.zero_le _, Nat.zero_le _⟩ ?_
        refine jj_cN2i (q := 81) dX7_laneTakes_78 yk_X8_at ml_X7_21 (ex_atv hs.t9 (blk_k (by decide)) rfl) rfl rfl rfl ⟨Nat.zero_le _, Nat.zero_le _⟩ ?_
        refine jj_aload_n (q := 82) dX7_laneTakes_81 rfl rfl rfl ?_
        refine jj_getR (q := 85) dX7_laneTakes_82 fl_X7_143 hs.t0 hs.r0_5 rfl rfl rfl ?_
        refine jj_aload_n (q := 86) dX7_laneTakes_85 rfl rfl rfl ?_
        refine jj_getR (q := 89) dX7_laneTakes_86 fl_X7_9 hs.t0 hs.r0_4 rfl rfl rfl ?_
        refine jj_getR (q := 92) dX7_laneTakes_89 fl_X7_117 hs.t1 hs.r1_2 rfl rfl rfl ?_
        refine jj_iload_n (q := 93) dX7_laneTakes_92 rfl rfl rfl ?_
        refine jj_cN2i (q := 96) dX7_laneTakes_93 yk_X8_at ml_X7_21 (ex_atv hs.t3 (blk_k (by decide)) rfl) rfl rfl rfl ⟨Nat.zero_le _, Nat.zero_le _⟩ ?_
        refine jj_cN2i (q := 99) dX7_laneTakes_96 yk_X8_at ml_X7_21 (ex_atv hs.t9 (blk_k (by decide)) rfl) rfl rfl rfl ⟨Nat.zero_le _, Nat.zero_le _⟩ ?_
        refine jj_icmp_gt (q := 102) (tgt := 106) dX7_laneTakes_99 rfl rfl (fun h99 => ?_) (fun h99 => ?_)
        · refine jj_iconst (v := 0) (q := 107) dX7_laneTakes_106 rfl rfl ?_
          refine jj_zret dX7_laneTakes_107 rfl (by first | rfl | assumption) (Nat.zero_le _) (Nat.zero_le _) ?_
          exact ⟨by unfold kLT; (first | rw [if_pos h19] | rw [if_neg h19] | skip); (first | rw [if_pos h32] | rw [if_neg h32] | skip); (first | rw [if_pos h39] | rw [if_neg h39] | skip); (first | rw [if_pos h99] | rw [if_neg h99] | skip), rfl⟩
        · refine jj_iconst (v := 1) (q := 103) dX7_laneTakes_102 rfl rfl ?_
          refine jj_goto (tgt := 107) dX7_laneTakes_103 rfl ?_
          refine jj_zret dX7_laneTakes_107 rfl (by first | rfl | assumption) (Nat.zero_le _) (Nat.zero_le _) ?_
          exact ⟨by unfold kLT; (first | rw [if_pos h19] | rw [if_neg h19] | skip); (first | rw [if_pos h32] | rw [if_neg h32] | skip); (first | rw [if_pos h39] | rw [if_neg h39] | skip); (first | rw [if_pos h99] | rw [if_neg h99] | skip), rfl⟩
      · refine jj_iconst (v := 1) (q := 43) dX7_laneTakes_42 rfl rfl ?_
        refine jj_zret dX7_laneTakes_43 rfl (by first | rfl | assumption) (Nat.zero_le _) (Nat.zero_le _) ?_
        exact ⟨by unfold kLT; (first | rw [if_pos h19] | rw [if_neg h19] | skip); (first | rw [if_pos h32] | rw [if_neg h32] | skip); (first | rw [if_pos h39] | rw [if_neg h39] | skip); (first | rw [if_pos h99] | rw [if_neg h99] | skip), rfl⟩
    · refine jj_iconst (v := 0) (q := 36) dX7_laneTakes_35 rfl rfl ?_
      refine jj_zret dX7_laneTakes_36 rfl (by first | rfl | assumption) (Nat.zero_le _) (Nat.zero_le _) ?_
      exact ⟨by unfold kLT; (first | rw [if_pos h19] | rw [if_neg h19] | skip); (first | rw [if_pos h32] | rw [if_neg h32] | skip); (first | rw [if_pos h39] | rw [if_neg h39] | skip); (first | rw [if_pos h99] | rw [if_neg h99] | skip), rfl⟩
theorem cmpX_congr {V V' : Nat → Int32} (h : ∀ j, j < 5 → V j = V' j) (kd : Int32) : cmpX V kd = cmpX V' kd := by
  unfold cmpX
  split
  · rfl
  · rename_i h0
    split
    · rfl
    · rename_i h1
      have hin := at_in (n := 5) (by omega) h0 h1
      exact h _ (Nat.not_le.mp fun q => hin (Or.inr q))
theorem hSp_congr {P : JI} {V V' : Nat → Int32} (h : ∀ j, j < 5 → V j = V' j) (i : Nat) (x : Int32) : hSp (pv P V) i x = hSp (pv P V') i x := by
  have e : cmpV (pv P V 15) (pv P V 13 i) (pv P V 14 i) = cmpV (pv P V' 15) (pv P V' 13 i) (pv P V' 14 i) := by
    show cmpV V (P 13 i) (P 14 i) = cmpV V' (P 13 i) (P 14 i)
    unfold cmpV
    rw [cmpX_congr h]
  unfold hSp
  rw [e]
  rfl
theorem hRun_congr {P : JI} {V V' : Nat → Int32} (h : ∀ j, j < 5 → V j = V' j) : ∀ (k i : Nat) (x : Int32), hRun (pv P V) k i x = hRun (pv P V') k i x
  | 0, _, _ => rfl
  | k + 1, i, x => by rw [hRun, hRun, hSp_congr h, hRun_congr h k]
theorem hHo_congr {P : JI} {V V' : Nat → Int32} (h : ∀ j, j < 5 → V j = V' j) (fr to : Nat) : hHo (pv P V) fr to = hHo (pv P V') fr to := by
  unfold hHo
  rw [hRun_congr h]
theorem ex_holds (hp : hPl T R p) (hP : ∀ k : Nat, k < 16 → I (p + k) = P k) (h3 : pnt P ≤ 3) (h4 : ∀ t, t < pnt P → P 12 t = nI (pto P t) ∧ pfr P t ≤ pto P t ∧ pto P t ≤ 600) {t : Nat} (ht : t < pnt P) : Ex Γ (d + 1) Y_X5_holds [.ref (p + 11), .int (nI t)] (T, R, S, I, L, D, z) 0 0 (rI (hHo P (pfr P t) (pto P t)) (T, R, S, I, L, D, z)) := by
  cases t with
  | zero => exact ex_holds0 hp hP (h4 0 ht).2.2 (h4 0 ht).1
  | succ t => exact ex_holdsS hp hP (by omega) (h4 (t + 1) ht).2.1 (h4 (t + 1) ht).2.2 (h4 t (by omega)).1 (h4 (t + 1) ht).1
theorem jj_boolv {x : Int32} (h : x = 0 ∨ x = 1) : narrow .boolean (.int x) = .int x := by
  rcases h with rfl | rfl <;> rfl
theorem lp_isHeldBack (hs : hSt T R a) (hp : hPl T R p) (hdj : p + 16 ≤ a ∨ a + 19 ≤ p) (hI : ∀ k : Nat, k < 15 → I (p + k) = P k) (hW : wP P) {b : Int32} {F : (Nat → Int32) → JM} (hF : F V = (T, R, S, blk 19 (vv I p V) a K, L, D, z)) : ∀ (k i : Nat), (i + k = pnt P ∧ ∀ j, j < i → (fun t => decide (¬ hHo (pv P V) (pfr P t) (pto P t) = 0)) j = false) → JJ Γ (jj_E Y_X7_isHeldBack) (jj_Z Γ (rIV (srch (fun t => decide (¬ hHo (pv P V) (pfr P t) (pto P t) = 0)) (pnt P) (fun _ => 1) 0) F) 0 0) (jj_rm (d + 2) 0 0) 0 0 122 [some (.ref p), some (.ref a), some (.int b), some (.ref (p + 11)), some (.int (nI i))] [] (T, R, S, blk 19 (vv I p V) a K, L, D, z) := by
  have hro : ∀ k : Nat, k < 15 → ∀ {V : Nat → Int32} {K : JI}, blk 19 (vv I p V) a K (p + k) = P k := fun k hk => tro hdj hI k hk
  have hn3 := hW.2.2.1.2
  intro k
  induction k with
  | zero =>
    intro i hi
    refine jj_iload (q := 124) dX7_isHeldBack_122 rfl rfl ?_
    refine jj_aload_n (q := 125) dX7_isHeldBack_124 rfl rfl rfl ?_
    refine jj_getIv (q := 128) dX7_isHeldBack_125 fl_X7_150 hp.t11 (hro 11 (by decide)) rfl rfl ?_
    refine jj_icmp_ge (q := 131) (tgt := 148) dX7_isHeldBack_128 rfl rfl (fun h128 => ?_) (fun h128 => absurd ((by rw [hW.2.2.1.1]; exact nI_le (show pnt P ≤ i by omega) (by omega))) h128)
    refine jj_iconst (v := 0) (q := 149) dX7_isHeldBack_148 rfl rfl ?_
    refine jj_zret dX7_isHeldBack_149 rfl (by first | rfl | assumption) (Nat.zero_le _) (Nat.zero_le _) ?_
    exact ⟨V, by rw [srch_none (fun j hj => hi.2 j (by omega))], hF.symm⟩
  | succ k ih =>
    intro i hi
    refine jj_iload (q := 124) dX7_isHeldBack_122 rfl rfl ?_
    refine jj_aload_n (q := 125) dX7_isHeldBack_124 rfl rfl rfl ?_
    refine jj_getIv (q := 128) dX7_isHeldBack_125 fl_X7_150 hp.t11 (hro 11 (by decide)) rfl rfl ?_
    refine jj_icmp_ge (q := 131) (tgt := 148) dX7_isHeldBack_128 rfl rfl (fun h128 => absurd h128 ((by rw [hW.2.2.1.1]; exact nI_ge (show i < pnt P by omega) (by omega)))) (fun h128 => ?_)
    refine jj_aload_n (q := 132) dX7_isHeldBack_131 rfl rfl rfl ?_
    refine jj_iload (q := 134) dX7_isHeldBack_132 rfl rfl ?_
    refine jj_cV1i (q := 137) dX7_isHeldBack_134 yk_X5_holds ml_X7_165 hp.t11 (ex_holds (P := pv P V) hp (fun k hk => tr16 hdj hI k hk) hW.2.2.1.2 hW.2.2.2.1 (show i < pnt P by omega)) rfl rfl rfl ⟨Nat.zero_le _, Nat.zero_le _⟩ ?_
    refine jj_if_eq (q := 140) (tgt := 142) dX7_isHeldBack_137 rfl rfl (fun h137 => ?_) (fun h137 => ?_)
    · refine jj_iinc (v := nI (i + 1)) (q := 145) dX7_isHeldBack_142 rfl (nI_inc i) (by decide) rfl ?_
      refine jj_goto (tgt := 122) dX7_isHeldBack_145 rfl ?_
      have e : (fun t => decide (¬ hHo (pv P V) (pfr P t) (pto P t) = 0)) i = false := by simp only [decide_eq_false_iff_not, Decidable.not_not]; exact h137
      exact ih (i + 1) ⟨by omega, lt_s hi.2 e⟩
    · refine jj_iconst (v := 1) (q := 141) dX7_isHeldBack_140 rfl rfl ?_
      refine jj_zret dX7_isHeldBack_141 rfl (by first | rfl | assumption) (Nat.zero_le _) (Nat.zero_le _) ?_
      exact ⟨V, by rw [srch_hit hi.2 (by simp only [decide_eq_true_eq]; exact h137) (by omega)], hF.symm⟩
theorem ex_isHeldBack (hs : hSt T R a) (hp : hPl T R p) (hdj : p + 16 ≤ a ∨ a + 19 ≤ p) (hI : ∀ k : Nat, k < 15 → I (p + k) = P k) (hW : wP P) {b : Int32} : Ex Γ (d + 2) Y_X7_isHeldBack [.ref p, .ref a, .int b] (T, R, S, blk 19 (vv I p V) a K, L, D, z) 0 0 (rIV (kHB P K b) (fun V => (T, R, S, blk 19 (vv I p V) a K, L, D, z))) := by
  have hro : ∀ k : Nat, k < 15 → ∀ {V : Nat → Int32} {K : JI}, blk 19 (vv I p V) a K (p + k) = P k := fun k hk => tro hdj hI k hk
  refine Ex.of (by decide) (by simp [Value.category]) (Nat.le_of_ble_eq_true rfl) rfl ?_
  refine jj_aload_n (q := 1) dX7_isHeldBack_0 rfl rfl rfl ?_
  refine jj_getR (q := 4) dX7_isHeldBack_1 fl_X7_146 hp.t0 hp.r0_16 rfl rfl rfl ?_
  refine jj_astore_n (q := 5) dX7_isHeldBack_4 rfl (by decide) rfl ?_
  refine jj_aload_n (q := 6) dX7_isHeldBack_5 rfl rfl rfl ?_
  refine jj_getIv (q := 9) dX7_isHeldBack_6 fl_X7_150 hp.t11 (hro 11 (by decide)) rfl rfl ?_
  refine jj_if_ne (q := 12) (tgt := 14) dX7_isHeldBack_9 rfl rfl (fun h9 => ?_) (fun h9 => ?_)
  · refine jj_aload_n (q := 15) dX7_isHeldBack_14 rfl rfl rfl ?_
    refine jj_getR (q := 18) dX7_isHeldBack_15 fl_X7_153 hp.t11 hp.r11_5 rfl rfl rfl ?_
    refine jj_iconst (v := 0) (q := 19) dX7_isHeldBack_18 rfl rfl ?_
    refine jj_iconst (v := 0) (q := 20) dX7_isHeldBack_19 rfl rfl ?_
    refine jj_aload_n (q := 21) dX7_isHeldBack_20 rfl rfl rfl ?_
    refine jj_getR (q := 24) dX7_isHeldBack_21 fl_X7_143 hs.t0 hs.r0_5 rfl rfl rfl ?_
    refine jj_aload_n (q := 25) dX7_isHeldBack_24 rfl rfl rfl ?_
    refine jj_getR (q := 28) dX7_isHeldBack_25 fl_X7_9 hs.t0 hs.r0_4 rfl rfl rfl ?_
    refine jj_getR (q := 31) dX7_isHeldBack_28 fl_X7_117 hs.t1 hs.r1_2 rfl rfl rfl ?_
    refine jj_iload_n (q := 32) dX7_isHeldBack_31 rfl rfl rfl ?_
    refine jj_cN2i (q := 35) dX7_isHeldBack_32 yk_X8_at ml_X7_21 (ex_atv hs.t3 (blk_k (by decide)) rfl) rfl rfl rfl ⟨Nat.zero_le _, Nat.zero_le _⟩ ?_
    refine jj_cN2i (q := 38) dX7_isHeldBack_35 yk_X8_at ml_X7_21 (ex_atv hs.t9 (blk_k (by decide)) rfl) rfl rfl rfl ⟨Nat.zero_le _, Nat.zero_le _⟩ ?_
    refine jj_aload_n (q := 39) dX7_isHeldBack_38 rfl rfl rfl ?_
    refine jj_getIv (q := 42) dX7_isHeldBack_39 fl_X7_31 hs.t0 (blk_0 (by decide)) rfl rfl ?_
    refine jj_isub (q := 43) dX7_isHeldBack_42 rfl ?_
    refine jj_mmax (q := 46) dX7_isHeldBack_43 km_X7_156 rfl rfl ⟨Nat.zero_le _, Nat.zero_le _⟩ ?_
    refine jj_cN3v (q := 49) dX7_isHeldBack_46 yk_X8_put ml_X7_96 (ex_putv hp.t15 (tw15 hdj) rfl) rfl rfl rfl ⟨Nat.zero_le _, Nat.zero_le _⟩ ?_
    refine jj_aload_n (q := 50) dX7_isHeldBack_49 rfl rfl rfl ?_
    refine jj_getR (q := 53) dX7_isHeldBack_50 fl_X7_153 hp.t11 hp.r11_5 rfl rfl rfl ?_
    refine jj_iconst (v := 1) (q := 54) dX7_isHeldBack_53 rfl rfl ?_
    refine jj_aload_n (q := 55) dX7_isHeldBack_54 rfl rfl rfl ?_
    refine jj_getR (q := 58) dX7_isHeldBack_55 fl_X7_9 hs.t0 hs.r0_4 rfl rfl rfl ?_
    refine jj_getR (q := 61) dX7_isHeldBack_58 fl_X7_93 hs.t1 hs.r1_4 rfl rfl rfl ?_
    refine jj_iload_n (q := 62) dX7_isHeldBack_61 rfl rfl rfl ?_
    refine jj_cN2i (q := 65) dX7_isHeldBack_62 yk_X8_at ml_X7_21 (ex_atv hs.t5 (blk_k (by decide)) rfl) rfl rfl rfl ⟨Nat.zero_le _, Nat.zero_le _⟩ ?_
    refine jj_cN3v (q := 68) dX7_isHeldBack_65 yk_X8_put ml_X7_96 (ex_putv hp.t15 (tw15 hdj) rfl) rfl rfl rfl ⟨Nat.zero_le _, Nat.zero_le _⟩ ?_
    refine jj_aload_n (q := 69) dX7_isHeldBack_68 rfl rfl rfl ?_
    refine jj_getR (q := 72) dX7_isHeldBack_69 fl_X7_153 hp.t11 hp.r11_5 rfl rfl rfl ?_
    refine jj_iconst (v := 2) (q := 73) dX7_isHeldBack_72 rfl rfl ?_
    refine jj_aload_n (q := 74) dX7_isHeldBack_73 rfl rfl rfl ?_
    refine jj_getR (q := 77) dX7_isHeldBack_74 fl_X7_9 hs.t0 hs.r0_4 rfl rfl rfl ?_
    refine jj_getR (q := 80) dX7_isHeldBack_77 fl_X7_162 hs.t1 hs.r1_5 rfl rfl rfl ?_
    refine jj_iload_n (q := 81) dX7_isHeldBack_80 rfl rfl rfl ?_
    refine jj_cN2i (q := 84) dX7_isHeldBack_81 yk_X8_at ml_X7_21 (ex_atv hs.t6 (blk_k (by decide)) rfl) rfl rfl rfl ⟨Nat.zero_le _, Nat.zero_le _⟩ ?_
    refine jj_cN3v (q := 87) dX7_isHeldBack_84 yk_X8_put ml_X7_96 (ex_putv hp.t15 (tw15 hdj) rfl) rfl rfl rfl ⟨Nat.zero_le _, Nat.zero_le _⟩ ?_
    refine jj_aload_n (q := 88) dX7_isHeldBack_87 rfl rfl rfl ?_
    refine jj_getR (q := 91) dX7_isHeldBack_88 fl_X7_153 hp.t11 hp.r11_5 rfl rfl rfl ?_
    refine jj_iconst (v := 3) (q := 92) dX7_isHeldBack_91 rfl rfl ?_
    refine jj_aload_n (q := 93) dX7_isHeldBack_92 rfl rfl rfl ?_
    refine jj_getR (q := 96) dX7_isHeldBack_93 fl_X7_9 hs.t0 hs.r0_4 rfl rfl rfl ?_
    refine jj_getR (q := 99) dX7_isHeldBack_96 fl_X7_15 hs.t1 hs.r1_7 rfl rfl rfl ?_
    refine jj_bipush (v := 8) (q := 101) dX7_isHeldBack_99 rfl rfl ?_
    refine jj_cN2i (q := 104) dX7_isHeldBack_101 yk_X8_at ml_X7_21 (ex_atv hs.t8 (blk_k (by decide)) rfl) rfl rfl rfl ⟨Nat.zero_le _, Nat.zero_le _⟩ ?_
    refine jj_cN3v (q := 107) dX7_isHeldBack_104 yk_X8_put ml_X7_96 (ex_putv hp.t15 (tw15 hdj) rfl) rfl rfl rfl ⟨Nat.zero_le _, Nat.zero_le _⟩ ?_
    refine jj_aload_n (q := 108) dX7_isHeldBack_107 rfl rfl rfl ?_
    refine jj_getR (q := 111) dX7_isHeldBack_108 fl_X7_153 hp.t11 hp.r11_5 rfl rfl rfl ?_
    refine jj_iconst (v := 4) (q := 112) dX7_isHeldBack_111 rfl rfl ?_
    refine jj_aload_n (q := 113) dX7_isHeldBack_112 rfl rfl rfl ?_
    refine jj_getIv (q := 116) dX7_isHeldBack_113 fl_X7_31 hs.t0 (blk_0 (by decide)) rfl rfl ?_
    refine jj_cN3v (q := 119) dX7_isHeldBack_116 yk_X8_put ml_X7_96 (ex_putv hp.t15 (tw15 hdj) rfl) rfl rfl rfl ⟨Nat.zero_le _, Nat.zero_le _⟩ ?_
    refine jj_iconst (v := 0) (q := 120) dX7_isHeldBack_119 rfl rfl ?_
    refine jj_istore (q := 122) dX7_isHeldBack_120 (by decide) rfl ?_
    have h9' := lp_isHeldBack (Γ := Γ) (d := d) (S := S) (K := K) (L := L) (D := D) (z := z) (V := putV (putV (putV (putV (putV V 5 0 (hV5 K b 0)) 5 1 (hV5 K b 1)) 5 2 (hV5 K b 2)) 5 3 (hV5 K b 3)) 5 4 (hV5 K b 4)) hs hp hdj hI hW (b := b) (F := (fun V => (T, R, S, blk 19 (vv I p V) a K, L, D, z))) rfl (pnt P) 0 ⟨by omega, lt_0⟩
    unfold kHB
    rw [if_neg h9]
    have e : ∀ t, (fun t => decide (¬ hHo (pv P (putV (putV (putV (putV (putV V 5 0 (hV5 K b 0)) 5 1 (hV5 K b 1)) 5 2 (hV5 K b 2)) 5 3 (hV5 K b 3)) 5 4 (hV5 K b 4))) (pfr P t) (pto P t) = 0)) t = pHB P K b t := by
      intro t
      unfold pHB
      refine congrArg (fun x : Int32 => decide (¬ x = 0)) (hHo_congr ?_ (pfr P t) (pto P t))
      intro j hj
      rcases (show j = 0 ∨ j = 1 ∨ j = 2 ∨ j = 3 ∨ j = 4 by omega) with rfl | rfl | rfl | rfl | rfl <;> rfl
    rw [funext e] at h9'
    exact h9'
  · refine jj_iconst (v := 0) (q := 13) dX7_isHeldBack_12 rfl rfl ?_
    refine jj_zret dX7_isHeldBack_13 rfl (by first | rfl | assumption) (Nat.zero_le _) (Nat.zero_le _) ?_
    exact ⟨V, by unfold kHB; rw [if_pos h9], rfl⟩
theorem ex_stateAfter (hs : hSt T R a) (hp : hPl T R p) (hdj : p + 16 ≤ a ∨ a + 19 ≤ p) (hI : ∀ k : Nat, k < 15 → I (p + k) = P k) (hW : wP P) {x b : Int32} : Ex Γ (d + 3) Y_X7_stateAfter [.ref p, .ref a, .int x, .int b] (T, R, S, blk 19 (vv I p V) a K, L, D, z) 0 0 (rIV (kSA P K x b) (fun V => (T, R, S, blk 19 (vv I p V) a K, L, D, z))) := by
  have hro : ∀ k : Nat, k < 15 → ∀ {V : Nat → Int32} {K : JI}, blk 19 (vv I p V) a K (p + k) = P k := fun k hk => tro hdj hI k hk
  refine Ex.of (by decide) (by simp [Value.category]) (Nat.le_of_ble_eq_true rfl) rfl ?_
  refine jj_aload_n (q := 1) dX7_stateAfter_0 rfl rfl rfl ?_
  refine jj_iload_n (q := 2) dX7_stateAfter_1 rfl rfl rfl ?_
  refine jj_cV1i (q := 5) dX7_stateAfter_2 yk_X4_phaseOfBag ml_X7_111 hs.t0 (ex_phaseOfBag hs) rfl rfl rfl ⟨Nat.zero_le _, Nat.zero_le _⟩ ?_
  refine jj_istore (q := 7) dX7_stateAfter_5 (by decide) rfl ?_
  refine jj_iload (q := 9) dX7_stateAfter_7 rfl rfl ?_
  refine jj_iconst (v := 1) (q := 10) dX7_stateAfter_9 rfl rfl ?_
  refine jj_icmp_ne (q := 13) (tgt := 43) dX7_stateAfter_10 rfl rfl (fun h10 => ?_) (fun h10 => ?_)
  · refine jj_iload (q := 45) dX7_stateAfter_43 rfl rfl ?_
    refine jj_iconst (v := 2) (q := 46) dX7_stateAfter_45 rfl rfl ?_
    refine jj_icmp_ne (q := 49) (tgt := 65) dX7_stateAfter_46 rfl rfl (fun h46 => ?_) (fun h46 => ?_)
    · refine jj_aload_n (q := 66) dX7_stateAfter_65 rfl rfl rfl ?_
      refine jj_iload_n (q := 67) dX7_stateAfter_66 rfl rfl rfl ?_
      refine jj_cV1i (q := 70) dX7_stateAfter_67 yk_X3_laneOn ml_X7_104 hp.t0 (ex_laneOn hp (fun k hk => hro k hk) hW.1.1 hW.1.2) rfl rfl rfl ⟨Nat.zero_le _, Nat.zero_le _⟩ ?_
      refine jj_istore (q := 72) dX7_stateAfter_70 (by decide) rfl ?_
      refine jj_iload (q := 74) dX7_stateAfter_72 rfl rfl ?_
      refine jj_iconst (v := -1) (q := 75) dX7_stateAfter_74 rfl rfl ?_
      refine jj_icmp_eq (q := 78) (tgt := 102) dX7_stateAfter_75 rfl rfl (fun h75 => ?_) (fun h75 => ?_)
      · refine jj_iconst (v := 0) (q := 103) dX7_stateAfter_102 rfl rfl ?_
        refine jj_istore (q := 105) dX7_stateAfter_103 (by decide) rfl ?_
        refine jj_iload (q := 107) dX7_stateAfter_105 rfl rfl ?_
        refine jj_if_eq (q := 110) (tgt := 115) dX7_stateAfter_107 rfl rfl (fun h107 => ?_) (fun h107 => ?_)
        · refine jj_bipush (v := 8) (q := 117) dX7_stateAfter_115 rfl rfl ?_
          refine jj_iret dX7_stateAfter_117 rfl (Nat.zero_le _) (Nat.zero_le _) ?_
          first | (exact absurd h107 (by decide)) | exact ⟨V, by unfold kSA kOn; (first | rw [if_pos h10] | rw [if_neg h10] | skip); (first | rw [if_pos h32] | rw [if_neg h32] | skip); (first | rw [if_pos h46] | rw [if_neg h46] | skip); (first | rw [if_pos h54] | rw [if_neg h54] | skip); (first | rw [if_pos h75] | rw [if_neg h75] | skip); (first | rw [if_pos h86] | rw [if_neg h86] | skip); (first | rw [if_pos h95] | rw [if_neg h95] | skip), rfl⟩
        · refine jj_bipush (v := 9) (q := 112) dX7_stateAfter_110 rfl rfl ?_
          refine jj_goto (tgt := 117) dX7_stateAfter_112 rfl ?_
          refine jj_iret dX7_stateAfter_117 rfl (Nat.zero_le _) (Nat.zero_le _) ?_
          first | (exact absurd h107 (by decide)) | exact ⟨V, by unfold kSA kOn; (first | rw [if_pos h10] | rw [if_neg h10] | skip); (first | rw [if_pos h32] | rw [if_neg h32] | skip); (first | rw [if_pos h46] | rw [if_neg h46] | skip); (first | rw [if_pos h54] | rw [if_neg h54] | skip); (first | rw [if_pos h75] | rw [if_neg h75] | skip); (first | rw [if_pos h86] | rw [if_neg h86] | skip); (first | rw [if_pos h95] | rw [if_neg h95] | skip), rfl⟩
      · refine jj_aload_n (q := 79) dX7_stateAfter_78 rfl rfl rfl ?_
        refine jj_aload_n (q := 80) dX7_stateAfter_79 rfl rfl rfl ?_
        refine jj_iload (q := 82) dX7_stateAfter_80 rfl rfl ?_
        refine jj_iload_n (q := 83) dX7_stateAfter_82 rfl rfl rfl ?_
        refine jj_cS4i (q := 86) dX7_stateAfter_83 yk_X7_laneTakes ml_X7_123 (ex_laneTakes hs hp hdj hI hW) rfl rfl rfl ⟨Nat.zero_le _, Nat.zero_le _⟩ ?_
        refine jj_if_eq (q := 89) (tgt := 102) dX7_stateAfter_86 rfl rfl (fun h86 => ?_) (fun h86 => ?_)
        · refine jj_iconst (v := 0) (q := 103) dX7_stateAfter_102 rfl rfl ?_
          refine jj_istore (q := 105) dX7_stateAfter_103 (by decide) rfl ?_
          refine jj_iload (q := 107) dX7_stateAfter_105 rfl rfl ?_
          refine jj_if_eq (q := 110) (tgt := 115) dX7_stateAfter_107 rfl rfl (fun h107 => ?_) (fun h107 => ?_)
          · refine jj_bipush (v := 8) (q := 117) dX7_stateAfter_115 rfl rfl ?_
            refine jj_iret dX7_stateAfter_117 rfl (Nat.zero_le _) (Nat.zero_le _) ?_
            first | (exact absurd h107 (by decide)) | exact ⟨V, by unfold kSA kOn; (first | rw [if_pos h10] | rw [if_neg h10] | skip); (first | rw [if_pos h32] | rw [if_neg h32] | skip); (first | rw [if_pos h46] | rw [if_neg h46] | skip); (first | rw [if_pos h54] | rw [if_neg h54] | skip); (first | rw [if_pos h75] | rw [if_neg h75] | skip); (first | rw [if_pos h86] | rw [if_neg h86] | skip); (first | rw [if_pos h95] | rw [if_neg h95] | skip), rfl⟩
          · refine jj_bipush (v := 9) (q := 112) dX7_stateAfter_110 rfl rfl ?_
            refine jj_goto (tgt := 117) dX7_stateAfter_112 rfl ?_
            refine jj_iret dX7_stateAfter_117 rfl (Nat.zero_le _) (Nat.zero_le _) ?_
            first | (exact absurd h107 (by decide)) | exact ⟨V, by unfold kSA kOn; (first | rw [if_pos h10] | rw [if_neg h10] | skip); (first | rw [if_pos h32] | rw [if_neg h32] | skip); (first | rw [if_pos h46] | rw [if_neg h46] | skip); (first | rw [if_pos h54] | rw [if_neg h54] | skip); (first | rw [if_pos h75] | rw [if_neg h75] | skip); (first | rw [if_pos h86] | rw [if_neg h86] | skip); (first | rw [if_pos h95] | rw [if_neg h95] | skip), rfl⟩
        · refine jj_aload_n (q := 90) dX7_stateAfter_89 rfl rfl rfl ?_
          refine jj_aload_n (q := 91) dX7_stateAfter_90 rfl rfl rfl ?_
          refine jj_iload_n (q := 92) dX7_stateAfter_91 rfl rfl rfl ?_
          refine jj_eS3i (q := 95) dX7_stateAfter_92 yk_X7_isHeldBack ml_X7_127 (ex_isHeldBack hs hp hdj hI hW) rfl rfl rfl ⟨Nat.zero_le _, Nat.zero_le _⟩ (fun V => ?_)
          refine jj_if_ne (q := 98) (tgt := 102) dX7_stateAfter_95 rfl rfl (fun h95 => ?_) (fun h95 => ?_)
          · refine jj_iconst (v := 0) (q := 103) dX7_stateAfter_102 rfl rfl ?_
            refine jj_istore (q := 105) dX7_stateAfter_103 (by decide) rfl ?_
            refine jj_iload (q := 107) dX7_stateAfter_105 rfl rfl ?_
            refine jj_if_eq (q := 110) (tgt := 115) dX7_stateAfter_107 rfl rfl (fun h107 => ?_) (fun h107 => ?_)
            · refine jj_bipush (v := 8) (q := 117) dX7_stateAfter_115 rfl rfl ?_
              refine jj_iret dX7_stateAfter_117 rfl (Nat.zero_le _) (Nat.zero_le _) ?_
              first | (exact absurd h107 (by decide)) | exact ⟨V, by unfold kSA kOn; (first | rw [if_pos h10] | rw [if_neg h10] | skip); (first | rw [if_pos h32] | rw [if_neg h32] | skip); (first | rw [if_pos h46] | rw [if_neg h46] | skip); (first | rw [if_pos h54] | rw [if_neg h54] | skip); (first | rw [if_pos h75] | rw [if_neg h75] | skip); (first | rw [if_pos h86] | rw [if_neg h86] | skip); (first | rw [if_pos h95] | rw [if_neg h95] | skip), rfl⟩
            · refine jj_bipush (v := 9) (q := 112) dX7_stateAfter_110 rfl rfl ?_
              refine jj_goto (tgt := 117) dX7_stateAfter_112 rfl ?_
              refine jj_iret dX7_stateAfter_117 rfl (Nat.zero_le _) (Nat.zero_le _) ?_
              first | (exact absurd h107 (by decide)) | exact ⟨V, by unfold kSA kOn; (first | rw [if_pos h10] | rw [if_neg h10] | skip); (first | rw [if_pos h32] | rw [if_neg h32] | skip); (first | rw [if_pos h46] | rw [if_neg h46] | skip); (first | rw [if_pos h54] | rw [if_neg h54] | skip); (first | rw [if_pos h75] | rw [if_neg h75] | skip); (first | rw [if_pos h86] | rw [if_neg h86] | skip); (first | rw [if_pos h95] | rw [if_neg h95] | skip), rfl⟩
          · refine jj_iconst (v := 1) (q := 99) dX7_stateAfter_98 rfl rfl ?_
            refine jj_goto (tgt := 103) dX7_stateAfter_99 rfl ?_
            refine jj_istore (q := 105) dX7_stateAfter_103 (by decide) rfl ?_
            refine jj_iload (q := 107) dX7_stateAfter_105 rfl rfl ?_
            refine jj_if_eq (q := 110) (tgt := 115) dX7_stateAfter_107 rfl rfl (fun h107 => ?_) (fun h107 => ?_)
            · refine jj_bipush (v := 8) (q := 117) dX7_stateAfter_115 rfl rfl ?_
              refine jj_iret dX7_stateAfter_117 rfl (Nat.zero_le _) (Nat.zero_le _) ?_
              first | (exact absurd h107 (by decide)) | exact ⟨V, by unfold kSA kOn; (first | rw [if_pos h10] | rw [if_neg h10] | skip); (first | rw [if_pos h32] | rw [if_neg h32] | skip); (first | rw [if_pos h46] | rw [if_neg h46] | skip); (first | rw [if_pos h54] | rw [if_neg h54] | skip); (first | rw [if_pos h75] | rw [if_neg h75] | skip); (first | rw [if_pos h86] | rw [if_neg h86] | skip); (first | rw [if_pos h95] | rw [if_neg h95] | skip), rfl⟩
            · refine jj_bipush (v := 9) (q := 112) dX7_stateAfter_110 rfl rfl ?_
              refine jj_goto (tgt := 117) dX7_stateAfter_112 rfl ?_
              refine jj_iret dX7_stateAfter_117 rfl (Nat.zero_le _) (Nat.zero_le _) ?_
              first | (exact absurd h107 (by decide)) | exact ⟨V, by unfold kSA kOn; (first | rw [if_pos h10] | rw [if_neg h10] | skip); (first | rw [if_pos h32] | rw [if_neg h32] | skip); (first | rw [if_pos h46] | rw [if_neg h46] | skip); (first | rw [if_pos h54] | rw [if_neg h54] | skip); (first | rw [if_pos h75] | rw [if_neg h75] | skip); (first | rw [if_pos h86] | rw [if_neg h86] | skip); (first | rw [if_pos h95] | rw [if_neg h95] | skip), rfl⟩
    · refine jj_iload_n (q := 50) dX7_stateAfter_49 rfl rfl rfl ?_
      refine jj_aload_n (q := 51) dX7_stateAfter_50 rfl rfl rfl ?_
      refine jj_getIv (q := 54) dX7_stateAfter_51 fl_X7_120 hp.t0 (hro 0 (by decide)) rfl rfl ?_
      refine jj_icmp_ne (q := 57) (tgt := 62) dX7_stateAfter_54 rfl rfl (fun h54 => ?_) (fun h54 => ?_)
      · refine jj_bipush (v := 8) (q := 64) dX7_stateAfter_62 rfl rfl ?_
        refine jj_iret dX7_stateAfter_64 rfl (Nat.zero_le _) (Nat.zero_le _) ?_
        first | (exact absurd h107 (by decide)) | exact ⟨V, by unfold kSA kOn; (first | rw [if_pos h10] | rw [if_neg h10] | skip); (first | rw [if_pos h32] | rw [if_neg h32] | skip); (first | rw [if_pos h46] | rw [if_neg h46] | skip); (first | rw [if_pos h54] | rw [if_neg h54] | skip); (first | rw [if_pos h75] | rw [if_neg h75] | skip); (first | rw [if_pos h86] | rw [if_neg h86] | skip); (first | rw [if_pos h95] | rw [if_neg h95] | skip), rfl⟩
      · refine jj_bipush (v := 11) (q := 59) dX7_stateAfter_57 rfl rfl ?_
        refine jj_goto (tgt := 64) dX7_stateAfter_59 rfl ?_
        refine jj_iret dX7_stateAfter_64 rfl (Nat.zero_le _) (Nat.zero_le _) ?_
        first | (exact absurd h107 (by decide)) | exact ⟨V, by unfold kSA kOn; (first | rw [if_pos h10] | rw [if_neg h10] | skip); (first | rw [if_pos h32] | rw [if_neg h32] | skip); (first | rw [if_pos h46] | rw [if_neg h46] | skip); (first | rw [if_pos h54] | rw [if_neg h54] | skip); (first | rw [if_pos h75] | rw [if_neg h75] | skip); (first | rw [if_pos h86] | rw [if_neg h86] | skip); (first | rw [if_pos h95] | rw [if_neg h95] | skip), rfl⟩
  · refine jj_aload_n (q := 14) dX7_stateAfter_13 rfl rfl rfl ?_
    refine jj_getR (q := 17) dX7_stateAfter_14 fl_X7_114 hp.t0 hp.r0_7 rfl rfl rfl ?_
    refine jj_aload_n (q := 18) dX7_stateAfter_17 rfl rfl rfl ?_
    refine jj_getR (q := 21) dX7_stateAfter_18 fl_X7_9 hs.t0 hs.r0_4 rfl rfl rfl ?_
    refine jj_getR (q := 24) dX7_stateAfter_21 fl_X7_117 hs.t1 hs.r1_2 rfl rfl rfl ?_
    refine jj_iload_n (q := 25) dX7_stateAfter_24 rfl rfl rfl ?_
    refine jj_cN2i (q := 28) dX7_stateAfter_25 yk_X8_at ml_X7_21 (ex_atv hs.t3 (blk_k (by decide)) rfl) rfl rfl rfl ⟨Nat.zero_le _, Nat.zero_le _⟩ ?_
    refine jj_cN2i (q := 31) dX7_stateAfter_28 yk_X8_at ml_X7_21 (ex_atv hp.t4 (hro 4 (by decide)) rfl) rfl rfl rfl ⟨Nat.zero_le _, Nat.zero_le _⟩ ?_
    refine jj_iload_n (q := 32) dX7_stateAfter_31 rfl rfl rfl ?_
    refine jj_icmp_ne (q := 35) (tgt := 40) dX7_stateAfter_32 rfl rfl (fun h32 => ?_) (fun h32 => ?_)
    · refine jj_bipush (v := 8) (q := 42) dX7_stateAfter_40 rfl rfl ?_
      refine jj_iret dX7_stateAfter_42 rfl (Nat.zero_le _) (Nat.zero_le _) ?_
      first | (exact absurd h107 (by decide)) | exact ⟨V, by unfold kSA kOn; (first | rw [if_pos h10] | rw [if_neg h10] | skip); (first | rw [if_pos h32] | rw [if_neg h32] | skip); (first | rw [if_pos h46] | rw [if_neg h46] | skip); (first | rw [if_pos h54] | rw [if_neg h54] | skip); (first | rw [if_pos h75] | rw [if_neg h75] | skip); (first | rw [if_pos h86] | rw [if_neg h86] | skip); (first | rw [if_pos h95] | rw [if_neg h95] | skip), rfl⟩
    · refine jj_bipush (v := 10) (q := 37) dX7_stateAfter_35 rfl rfl ?_
      refine jj_goto (tgt := 42) dX7_stateAfter_37 rfl ?_
      refine jj_iret dX7_stateAfter_42 rfl (Nat.zero_le _) (Nat.zero_le _) ?_
      first | (exact absurd h107 (by decide)) | exact ⟨V, by unfold kSA kOn; (first | rw [if_pos h10] | rw [if_neg h10] | skip); (first | rw [if_pos h32] | rw [if_neg h32] | skip); (first | rw [if_pos h46] | rw [if_neg h46] | skip); (first | rw [if_pos h54] | rw [if_neg h54] | skip); (first | rw [if_pos h75] | rw [if_neg h75] | skip); (first | rw [if_pos h86] | rw [if_neg h86] | skip); (first | rw [if_pos h95] | rw [if_neg h95] | skip), rfl⟩
theorem lp_takeOffLoop (hs : hSt T R a) (hp : hPl T R p) (hdj : p + 16 ≤ a ∨ a + 19 ≤ p) (hI : ∀ k : Nat, k < 15 → I (p + k) = P k) (hW : wP P) : ∀ (k i : Nat) (K : JI) (V : Nat → Int32) (x3 x4 : Option Value), i + k = plen P → JJ Γ (jj_E Y_X7_takeOffLoop) (jj_Z Γ (rVV (fun V => (T, R, S, blk 19 (vv I p V) a (tkL P k i K), L, D, z))) 0 0) (jj_rm (d + 4) 0 0) 0 0 2 [some (.ref p), some (.ref a), some (.int (nI i)), x3, x4] [] (T, R, S, blk 19 (vv I p V) a K, L, D, z) := by
  have hro : ∀ k : Nat, k < 15 → ∀ {V : Nat → Int32} {K : JI}, blk 19 (vv I p V) a K (p + k) = P k := fun k hk => tro hdj hI k hk
  have hn3 := hW.2.2.2.2.1.2.2
  intro k
  induction k with
  | zero =>
    intro i K V x3 x4 hi
    refine jj_iload_n (q := 3) dX7_takeOffLoop_2 rfl rfl rfl ?_
    refine jj_aload_n (q := 4) dX7_takeOffLoop_3 rfl rfl rfl ?_
    refine jj_getIv (q := 7) dX7_takeOffLoop_4 fl_X7_82 hp.t0 (hro 0 (by decide)) rfl rfl ?_
    refine jj_icmp_ge (q := 10) (tgt := 99) dX7_takeOffLoop_7 rfl rfl (fun h7 => ?_) (fun h7 => absurd ((by rw [hW.2.2.2.2.1.1]; exact nI_le (show plen P ≤ i by omega) (by omega))) h7)
    refine jj_vret dX7_takeOffLoop_99 rfl (Nat.zero_le _) (Nat.zero_le _) ?_
    exact ⟨V, rfl, rfl⟩
  | succ k ih =>
    intro i K V x3 x4 hi
    refine jj_iload_n (q := 3) dX7_takeOffLoop_2 rfl rfl rfl ?_
    refine jj_aload_n (q := 4) dX7_takeOffLoop_3 rfl rfl rfl ?_
    refine jj_getIv (q := 7) dX7_takeOffLoop_4 fl_X7_82 hp.t0 (hro 0 (by decide)) rfl rfl ?_
    refine jj_icmp_ge (q := 10) (tgt := 99) dX7_takeOffLoop_7 rfl rfl (fun h7 => absurd h7 ((by rw [hW.2.2.2.2.1.1]; exact nI_ge (show i < plen P by omega) (by omega)))) (fun h7 => ?_)
    refine jj_aload_n (q := 11) dX7_takeOffLoop_10 rfl rfl rfl ?_
    refine jj_getR (q := 14) dX7_takeOffLoop_11 fl_X7_9 hs.t0 hs.r0_4 rfl rfl rfl ?_
    refine jj_getR (q := 17) dX7_takeOffLoop_14 fl_X7_15 hs.t1 hs.r1_7 rfl rfl rfl ?_
    refine jj_bipush (v := 8) (q := 19) dX7_takeOffLoop_17 rfl rfl ?_
    refine jj_cN2i (q := 22) dX7_takeOffLoop_19 yk_X8_at ml_X7_21 (ex_atv hs.t8 (blk_k (by decide)) rfl) rfl rfl rfl ⟨Nat.zero_le _, Nat.zero_le _⟩ ?_
    rw [show (8 : Int32) = nI 8 from rfl, atV_nI (show 8 < 14 by omega) (by omega)]
    refine jj_if_le (q := 25) (tgt := 99) dX7_takeOffLoop_22 rfl rfl (fun h22 => ?_) (fun h22 => ?_)
    · refine jj_vret dX7_takeOffLoop_99 rfl (Nat.zero_le _) (Nat.zero_le _) ?_
      exact ⟨V, rfl, by rw [tkL, if_pos h22]⟩
    · refine jj_aload_n (q := 26) dX7_takeOffLoop_25 rfl rfl rfl ?_
      refine jj_getR (q := 29) dX7_takeOffLoop_26 fl_X7_87 hs.t0 hs.r0_10 rfl rfl rfl ?_
      refine jj_iload_n (q := 30) dX7_takeOffLoop_29 rfl rfl rfl ?_
      refine jj_cN2i (q := 33) dX7_takeOffLoop_30 yk_X8_at ml_X7_21 (ex_atv hs.t14 (blk_k (by decide)) rfl) rfl rfl rfl ⟨Nat.zero_le _, Nat.zero_le _⟩ ?_
      rw [atV_nI (show i < 40 by omega) (by omega)]
      refine jj_istore_n (q := 34) dX7_takeOffLoop_33 rfl (by decide) rfl ?_
      refine jj_iload_n (q := 35) dX7_takeOffLoop_34 rfl rfl rfl ?_
      refine jj_iconst (v := -1) (q := 36) dX7_takeOffLoop_35 rfl rfl ?_
      refine jj_icmp_ne (q := 39) (tgt := 44) dX7_takeOffLoop_36 rfl rfl (fun h36 => ?_) (fun h36 => ?_)
      · refine jj_aload_n (q := 45) dX7_takeOffLoop_44 rfl rfl rfl ?_
        refine jj_aload_n (q := 46) dX7_takeOffLoop_45 rfl rfl rfl ?_
        refine jj_iload_n (q := 47) dX7_takeOffLoop_46 rfl rfl rfl ?_
        refine jj_iload_n (q := 48) dX7_takeOffLoop_47 rfl rfl rfl ?_
        refine jj_eS4i (q := 51) dX7_takeOffLoop_48 yk_X7_stateAfter ml_X7_100 (ex_stateAfter hs hp hdj hI hW) rfl rfl rfl ⟨Nat.zero_le _, Nat.zero_le _⟩ (fun V => ?_)
        refine jj_istore (q := 53) dX7_takeOffLoop_51 (by decide) rfl ?_
        refine jj_iload (q := 55) dX7_takeOffLoop_53 rfl rfl ?_
        refine jj_bipush (v := 8) (q := 57) dX7_takeOffLoop_55 rfl rfl ?_
        refine jj_icmp_eq (q := 60) (tgt := 93) dX7_takeOffLoop_57 rfl rfl (fun h57 => ?_) (fun h57 => ?_)
        · refine jj_iinc (v := nI (i + 1)) (q := 96) dX7_takeOffLoop_93 rfl (nI_inc i) (by decide) rfl ?_
          refine jj_goto (tgt := 2) dX7_takeOffLoop_96 rfl ?_
          first | (exact absurd rfl h57) | (rw [tkL, if_neg h22]; unfold tkS kOn; (first | rw [if_pos h36] | rw [if_neg h36] | skip); (first | rw [if_pos h57] | rw [if_neg h57] | skip); (first | rw [if_pos h80] | rw [if_neg h80] | skip); exact ih (i + 1) _ V _ _ (by omega))
        · refine jj_aload_n (q := 61) dX7_takeOffLoop_60 rfl rfl rfl ?_
          refine jj_getR (q := 64) dX7_takeOffLoop_61 fl_X7_87 hs.t0 hs.r0_10 rfl rfl rfl ?_
          refine jj_iload_n (q := 65) dX7_takeOffLoop_64 rfl rfl rfl ?_
          refine jj_iconst (v := -1) (q := 66) dX7_takeOffLoop_65 rfl rfl ?_
          refine jj_cN3v (q := 69) dX7_takeOffLoop_66 yk_X8_put ml_X7_96 (ex_putv hs.t14 (putI_blk (by decide)) rfl) rfl rfl rfl ⟨Nat.zero_le _, Nat.zero_le _⟩ ?_
          rw [putI_nI (show i < 40 by omega) (by omega)]
          refine jj_aload_n (q := 70) dX7_takeOffLoop_69 rfl rfl rfl ?_
          refine jj_iload_n (q := 71) dX7_takeOffLoop_70 rfl rfl rfl ?_
          refine jj_iload (q := 73) dX7_takeOffLoop_71 rfl rfl ?_
          refine jj_cV2v (q := 76) dX7_takeOffLoop_73 yk_X4_enter ml_X7_78 hs.t0 (ex_enter hs) rfl rfl rfl ⟨Nat.zero_le _, Nat.zero_le _⟩ ?_
          refine jj_iload (q := 78) dX7_takeOffLoop_76 rfl rfl ?_
          refine jj_bipush (v := 9) (q := 80) dX7_takeOffLoop_78 rfl rfl ?_
          refine jj_icmp_ne (q := 83) (tgt := 93) dX7_takeOffLoop_80 rfl rfl (fun h80 => ?_) (fun h80 => ?_)
          · refine jj_iinc (v := nI (i + 1)) (q := 96) dX7_takeOffLoop_93 rfl (nI_inc i) (by decide) rfl ?_
            refine jj_goto (tgt := 2) dX7_takeOffLoop_96 rfl ?_
            first | (exact absurd rfl h57) | (rw [tkL, if_neg h22]; unfold tkS kOn; (first | rw [if_pos h36] | rw [if_neg h36] | skip); (first | rw [if_pos h57] | rw [if_neg h57] | skip); (first | rw [if_pos h80] | rw [if_neg h80] | skip); exact ih (i + 1) _ V _ _ (by omega))
          · refine jj_aload_n (q := 84) dX7_takeOffLoop_83 rfl rfl rfl ?_
            refine jj_aload_n (q := 85) dX7_takeOffLoop_84 rfl rfl rfl ?_
            refine jj_iload_n (q := 86) dX7_takeOffLoop_85 rfl rfl rfl ?_
            refine jj_cV1i (q := 89) dX7_takeOffLoop_86 yk_X3_laneOn ml_X7_104 hp.t0 (ex_laneOn hp (fun k hk => hro k hk) hW.1.1 hW.1.2) rfl rfl rfl ⟨Nat.zero_le _, Nat.zero_le _⟩ ?_
            refine jj_iload_n (q := 90) dX7_takeOffLoop_89 rfl rfl rfl ?_
            refine jj_cS3v (q := 93) dX7_takeOffLoop_90 yk_X7_addLast ml_X7_107 (ex_addLast hs) rfl rfl rfl ⟨Nat.zero_le _, Nat.zero_le _⟩ ?_
            refine jj_iinc (v := nI (i + 1)) (q := 96) dX7_takeOffLoop_93 rfl (nI_inc i) (by decide) rfl ?_
            refine jj_goto (tgt := 2) dX7_takeOffLoop_96 rfl ?_
            first | (exact absurd rfl h57) | (rw [tkL, if_neg h22]; unfold tkS kOn; (first | rw [if_pos h36] | rw [if_neg h36] | skip); (first | rw [if_pos h57] | rw [if_neg h57] | skip); (first | rw [if_pos h80] | rw [if_neg h80] | skip); exact ih (i + 1) _ V _ _ (by omega))
      · refine jj_bipush (v := 8) (q := 41) dX7_takeOffLoop_39 rfl rfl ?_
        refine jj_goto (tgt := 51) dX7_takeOffLoop_41 rfl ?_
        refine jj_istore (q := 53) dX7_takeOffLoop_51 (by decide) rfl ?_
        refine jj_iload (q := 55) dX7_takeOffLoop_53 rfl rfl ?_
        refine jj_bipush (v := 8) (q := 57) dX7_takeOffLoop_55 rfl rfl ?_
        refine jj_icmp_eq (q := 60) (tgt := 93) dX7_takeOffLoop_57 rfl rfl (fun h57 => ?_) (fun h57 => ?_)
        · refine jj_iinc (v := nI (i + 1)) (q := 96) dX7_takeOffLoop_93 rfl (nI_inc i) (by decide) rfl ?_
          refine jj_goto (tgt := 2) dX7_takeOffLoop_96 rfl ?_
          first | (exact absurd rfl h57) | (rw [tkL, if_neg h22]; unfold tkS kOn; (first | rw [if_pos h36] | rw [if_neg h36] | skip); (first | rw [if_pos h57] | rw [if_neg h57] | skip); (first | rw [if_pos h80] | rw [if_neg h80] | skip); exact ih (i + 1) _ V _ _ (by omega))
        · refine jj_aload_n (q := 61) dX7_takeOffLoop_60 rfl rfl rfl ?_
          refine jj_getR (q := 64) dX7_takeOffLoop_61 fl_X7_87 hs.t0 hs.r0_10 rfl rfl rfl ?_
          refine jj_iload_n (q := 65) dX7_takeOffLoop_64 rfl rfl rfl ?_
          refine jj_iconst (v := -1) (q := 66) dX7_takeOffLoop_65 rfl rfl ?_
          refine jj_cN3v (q := 69) dX7_takeOffLoop_66 yk_X8_put ml_X7_96 (ex_putv hs.t14 (putI_blk (by decide)) rfl) rfl rfl rfl ⟨Nat.zero_le _, Nat.zero_le _⟩ ?_
          rw [putI_nI (show i < 40 by omega) (by omega)]
          refine jj_aload_n (q := 70) dX7_takeOffLoop_69 rfl rfl rfl ?_
          refine jj_iload_n (q := 71) dX7_takeOffLoop_70 rfl rfl rfl ?_
          refine jj_iload (q := 73) dX7_takeOffLoop_71 rfl rfl ?_
          refine jj_cV2v (q := 76) dX7_takeOffLoop_73 yk_X4_enter ml_X7_78 hs.t0 (ex_enter hs) rfl rfl rfl ⟨Nat.zero_le _, Nat.zero_le _⟩ ?_
          refine jj_iload (q := 78) dX7_takeOffLoop_76 rfl rfl ?_
          refine jj_bipush (v := 9) (q := 80) dX7_takeOffLoop_78 rfl rfl ?_
          refine jj_icmp_ne (q := 83) (tgt := 93) dX7_takeOffLoop_80 rfl rfl (fun h80 => ?_) (fun h80 => ?_)
          · refine jj_iinc (v := nI (i + 1)) (q := 96) dX7_takeOffLoop_93 rfl (nI_inc i) (by decide) rfl ?_
            refine jj_goto (tgt := 2) dX7_takeOffLoop_96 rfl ?_
            first | (exact absurd rfl h57) | (rw [tkL, if_neg h22]; unfold tkS kOn; (first | rw [if_pos h36] | rw [if_neg h36] | skip); (first | rw [if_pos h57] | rw [if_neg h57] | skip); (first | rw [if_pos h80] | rw [if_neg h80] | skip); exact ih (i + 1) _ V _ _ (by omega))
          · refine jj_aload_n (q := 84) dX7_takeOffLoop_83 rfl rfl rfl ?_
            refine jj_aload_n (q := 85) dX7_takeOffLoop_84 rfl rfl rfl ?_
            refine jj_iload_n (q := 86) dX7_takeOffLoop_85 rfl rfl rfl ?_
            refine jj_cV1i (q := 89) dX7_takeOffLoop_86 yk_X3_laneOn ml_X7_104 hp.t0 (ex_laneOn hp (fun k hk => hro k hk) hW.1.1 hW.1.2) rfl rfl rfl ⟨Nat.zero_le _, Nat.zero_le _⟩ ?_
            refine jj_iload_n (q := 90) dX7_takeOffLoop_89 rfl rfl rfl ?_
            refine jj_cS3v (q := 93) dX7_takeOffLoop_90 yk_X7_addLast ml_X7_107 (ex_addLast hs) rfl rfl rfl ⟨Nat.zero_le _, Nat.zero_le _⟩ ?_
            refine jj_iinc (v := nI (i + 1)) (q := 96) dX7_takeOffLoop_93 rfl (nI_inc i) (by decide) rfl ?_
            refine jj_goto (tgt := 2) dX7_takeOffLoop_96 rfl ?_
            first | (exact absurd rfl h57) | (rw [tkL, if_neg h22]; unfold tkS kOn; (first | rw [if_pos h36] | rw [if_neg h36] | skip); (first | rw [if_pos h57] | rw [if_neg h57] | skip); (first | rw [if_pos h80] | rw [if_neg h80] | skip); exact ih (i + 1) _ V _ _ (by omega))
theorem ex_takeOffLoop (hs : hSt T R a) (hp : hPl T R p) (hdj : p + 16 ≤ a ∨ a + 19 ≤ p) (hI : ∀ k : Nat, k < 15 → I (p + k) = P k) (hW : wP P) : Ex Γ (d + 4) Y_X7_takeOffLoop [.ref p, .ref a] (T, R, S, blk 19 (vv I p V) a K, L, D, z) 0 0 (rVV (fun V => (T, R, S, blk 19 (vv I p V) a (tkL P (plen P) 0 K), L, D, z))) := by
  refine Ex.of (by decide) (by simp [Value.category]) (Nat.le_of_ble_eq_true rfl) rfl ?_
  refine jj_iconst (v := 0) (q := 1) dX7_takeOffLoop_0 rfl rfl ?_
  refine jj_istore_n (q := 2) dX7_takeOffLoop_1 rfl (by decide) rfl ?_
  exact lp_takeOffLoop hs hp hdj hI hW (plen P) 0 K V none none (by omega)
theorem kEn_12 (K : JI) (b st : Int32) : kEn K b st 12 = K 12 := kEn_ne (by decide) (by decide) (by decide) (by decide) (by decide)
theorem kEn_1 (K : JI) (b st : Int32) : kEn K b st 1 = K 1 := kEn_ne (by decide) (by decide) (by decide) (by decide) (by decide)
theorem kRF_12 {K : JI} {l n : Nat} (h0 : 0 < n) : ∀ j, kRF K l n 12 j = if j = l then nI (n - 1) else K 12 j := fun j => by
  unfold kRF
  rw [u2_ap, if_pos rfl, rfL_ne (by decide)]
  by_cases h : j = l
  · rw [if_pos h, if_pos h, show (1 : Int32) = nI 1 from rfl, pk_sub (by omega)]
  · rw [if_neg h, if_neg h]
theorem lW_emS {P K : JI} {l : Nat} (hl : l < 4) (h : lW K) : lW (emS P l K) := by
  unfold emS
  split
  · exact h
  · rename_i h0
    split
    · split
      · exact h
      · intro j hj
        obtain ⟨n, hn, e⟩ := h l hl
        rw [e] at h0
        have hn0 : 0 < n := by
          rcases Nat.eq_zero_or_pos n with q | q
          · subst q; exact absurd (by decide) h0
          · exact q
        rw [kEn_12, putI_ne (by decide), e, nI_clamp (by omega), kRF_12 hn0]
        by_cases hjl : j = l
        · rw [if_pos hjl]; exact ⟨n - 1, by omega, rfl⟩
        · rw [if_neg hjl]; exact h j hj
    · exact h
theorem lp_emptyLanes (hs : hSt T R a) (hp : hPl T R p) (hdj : p + 16 ≤ a ∨ a + 19 ≤ p) (hI : ∀ k : Nat, k < 15 → I (p + k) = P k) (hW : wP P) : ∀ (k i : Nat) (K : JI) (x3 x4 : Option Value), (i + k = pnl P ∧ lW K) → JJ Γ (jj_E Y_X7_emptyLanes) (jj_Z Γ (rV (T, R, S, blk 19 (vv I p V) a (emL P k i K), L, D, z)) 0 0) (jj_rm (d + 3) 0 0) 0 0 2 [some (.ref p), some (.ref a), some (.int (nI i)), x3, x4] [] (T, R, S, blk 19 (vv I p V) a K, L, D, z) := by
  have hro : ∀ k : Nat, k < 15 → ∀ {V : Nat → Int32} {K : JI}, blk 19 (vv I p V) a K (p + k) = P k := fun k hk => tro hdj hI k hk
  have hn3 := hW.1.2
  intro k
  induction k with
  | zero =>
    intro i K x3 x4 hi
    refine jj_iload_n (q := 3) dX7_emptyLanes_2 rfl rfl rfl ?_
    refine jj_aload_n (q := 4) dX7_emptyLanes_3 rfl rfl rfl ?_
    refine jj_getIv (q := 7) dX7_emptyLanes_4 fl_X7_169 hp.t0 (hro 0 (by decide)) rfl rfl ?_
    refine jj_icmp_ge (q := 10) (tgt := 93) dX7_emptyLanes_7 rfl rfl (fun h7 => ?_) (fun h7 => absurd ((by rw [hW.1.1]; exact nI_le (show pnl P ≤ i by omega) (by omega))) h7)
    refine jj_vret dX7_emptyLanes_93 rfl (Nat.zero_le _) (Nat.zero_le _) ?_
    exact ⟨rfl, rfl⟩
  | succ k ih =>
    intro i K x3 x4 hi
    obtain ⟨m, hm, hme⟩ := hi.2 i (by omega)
    refine jj_iload_n (q := 3) dX7_emptyLanes_2 rfl rfl rfl ?_
    refine jj_aload_n (q := 4) dX7_emptyLanes_3 rfl rfl rfl ?_
    refine jj_getIv (q := 7) dX7_emptyLanes_4 fl_X7_169 hp.t0 (hro 0 (by decide)) rfl rfl ?_
    refine jj_icmp_ge (q := 10) (tgt := 93) dX7_emptyLanes_7 rfl rfl (fun h7 => absurd h7 ((by rw [hW.1.1]; exact nI_ge (show i < pnl P by omega) (by omega)))) (fun h7 => ?_)
    refine jj_aload_n (q := 11) dX7_emptyLanes_10 rfl rfl rfl ?_
    refine jj_getR (q := 14) dX7_emptyLanes_11 fl_X7_172 hp.t0 hp.r0_9 rfl rfl rfl ?_
    refine jj_iload_n (q := 15) dX7_emptyLanes_14 rfl rfl rfl ?_
    refine jj_cN2i (q := 18) dX7_emptyLanes_15 yk_X8_at ml_X7_21 (ex_atv hp.t5 (hro 5 (by decide)) rfl) rfl rfl rfl ⟨Nat.zero_le _, Nat.zero_le _⟩ ?_
    rw [atV_nI (show i < 4 by omega) (by omega)]
    refine jj_istore_n (q := 19) dX7_emptyLanes_18 rfl (by decide) rfl ?_
    refine jj_aload_n (q := 20) dX7_emptyLanes_19 rfl rfl rfl ?_
    refine jj_getR (q := 23) dX7_emptyLanes_20 fl_X7_131 hs.t0 hs.r0_8 rfl rfl rfl ?_
    refine jj_iload_n (q := 24) dX7_emptyLanes_23 rfl rfl rfl ?_
    refine jj_cN2i (q := 27) dX7_emptyLanes_24 yk_X8_at ml_X7_21 (ex_atv hs.t12 (blk_k (by decide)) rfl) rfl rfl rfl ⟨Nat.zero_le _, Nat.zero_le _⟩ ?_
    rw [atV_nI (show i < 4 by omega) (by omega)]
    refine jj_if_le (q := 30) (tgt := 87) dX7_emptyLanes_27 rfl rfl (fun h27 => ?_) (fun h27 => ?_)
    · refine jj_iinc (v := nI (i + 1)) (q := 90) dX7_emptyLanes_87 rfl (nI_inc i) (by decide) rfl ?_
      refine jj_goto (tgt := 2) dX7_emptyLanes_90 rfl ?_
      have hl' := lW_emS (P := P) (l := i) (by omega) hi.2
      rw [emL]
      unfold emS at hl' ⊢
      (first | rw [if_pos h27] at hl' ⊢ | rw [if_neg h27] at hl' ⊢ | skip); (first | rw [if_pos h39] at hl' ⊢ | rw [if_neg h39] at hl' ⊢ | skip); (first | rw [if_pos h61] at hl' ⊢ | rw [if_neg h61] at hl' ⊢ | skip)
      (first | rw [show (K 12 i).toNatClampNeg = m by rw [hme, nI_clamp (by omega)]] at hl' ⊢ | skip)
      exact ih (i + 1) _ _ _ ⟨by omega, hl'⟩
    · refine jj_aload_n (q := 31) dX7_emptyLanes_30 rfl rfl rfl ?_
      refine jj_getR (q := 34) dX7_emptyLanes_31 fl_X7_87 hs.t0 hs.r0_10 rfl rfl rfl ?_
      refine jj_iload_n (q := 35) dX7_emptyLanes_34 rfl rfl rfl ?_
      refine jj_cN2i (q := 38) dX7_emptyLanes_35 yk_X8_at ml_X7_21 (ex_atv hs.t14 (blk_k (by decide)) rfl) rfl rfl rfl ⟨Nat.zero_le _, Nat.zero_le _⟩ ?_
      refine jj_iconst (v := -1) (q := 39) dX7_emptyLanes_38 rfl rfl ?_
      refine jj_icmp_ne (q := 42) (tgt := 87) dX7_emptyLanes_39 rfl rfl (fun h39 => ?_) (fun h39 => ?_)
      · refine jj_iinc (v := nI (i + 1)) (q := 90) dX7_emptyLanes_87 rfl (nI_inc i) (by decide) rfl ?_
        refine jj_goto (tgt := 2) dX7_emptyLanes_90 rfl ?_
        have hl' := lW_emS (P := P) (l := i) (by omega) hi.2
        rw [emL]
        unfold emS at hl' ⊢
        (first | rw [if_pos h27] at hl' ⊢ | rw [if_neg h27] at hl' ⊢ | skip); (first | rw [if_pos h39] at hl' ⊢ | rw [if_neg h39] at hl' ⊢ | skip); (first | rw [if_pos h61] at hl' ⊢ | rw [if_neg h61] at hl' ⊢ | skip)
        (first | rw [show (K 12 i).toNatClampNeg = m by rw [hme, nI_clamp (by omega)]] at hl' ⊢ | skip)
        exact ih (i + 1) _ _ _ ⟨by omega, hl'⟩
      · refine jj_aload_n (q := 43) dX7_emptyLanes_42 rfl rfl rfl ?_
        refine jj_getR (q := 46) dX7_emptyLanes_43 fl_X7_140 hs.t0 hs.r0_9 rfl rfl rfl ?_
        refine jj_iload_n (q := 47) dX7_emptyLanes_46 rfl rfl rfl ?_
        refine jj_bipush (v := 20) (q := 49) dX7_emptyLanes_47 rfl rfl ?_
        refine jj_imul (q := 50) dX7_emptyLanes_49 rfl ?_
        refine jj_cN2i (q := 53) dX7_emptyLanes_50 yk_X8_at ml_X7_21 (ex_atv hs.t13 (blk_k (by decide)) rfl) rfl rfl rfl ⟨Nat.zero_le _, Nat.zero_le _⟩ ?_
        rw [rf_s, atV_nI (show i * 20 < 80 by omega) (by omega)]
        refine jj_istore (q := 55) dX7_emptyLanes_53 (by decide) rfl ?_
        refine jj_aload_n (q := 56) dX7_emptyLanes_55 rfl rfl rfl ?_
        refine jj_iload (q := 58) dX7_emptyLanes_56 rfl rfl ?_
        refine jj_cV1i (q := 61) dX7_emptyLanes_58 yk_X4_phaseOfBag ml_X7_111 hs.t0 (ex_phaseOfBag hs) rfl rfl rfl ⟨Nat.zero_le _, Nat.zero_le _⟩ ?_
        refine jj_if_eq (q := 64) (tgt := 87) dX7_emptyLanes_61 rfl rfl (fun h61 => ?_) (fun h61 => ?_)
        · refine jj_iinc (v := nI (i + 1)) (q := 90) dX7_emptyLanes_87 rfl (nI_inc i) (by decide) rfl ?_
          refine jj_goto (tgt := 2) dX7_emptyLanes_90 rfl ?_
          have hl' := lW_emS (P := P) (l := i) (by omega) hi.2
          rw [emL]
          unfold emS at hl' ⊢
          (first | rw [if_pos h27] at hl' ⊢ | rw [if_neg h27] at hl' ⊢ | skip); (first | rw [if_pos h39] at hl' ⊢ | rw [if_neg h39] at hl' ⊢ | skip); (first | rw [if_pos h61] at hl' ⊢ | rw [if_neg h61] at hl' ⊢ | skip)
          (first | rw [show (K 12 i).toNatClampNeg = m by rw [hme, nI_clamp (by omega)]] at hl' ⊢ | skip)
          exact ih (i + 1) _ _ _ ⟨by omega, hl'⟩
        · refine jj_aload_n (q := 65) dX7_emptyLanes_64 rfl rfl rfl ?_
          refine jj_iload_n (q := 66) dX7_emptyLanes_65 rfl rfl rfl ?_
          refine jj_cS2v (q := 69) dX7_emptyLanes_66 yk_X7_removeFirst ml_X7_175 (ex_removeFirst hs (show i < 4 by omega) hm (by rw [← hme])) rfl rfl rfl ⟨Nat.zero_le _, Nat.zero_le _⟩ ?_
          refine jj_aload_n (q := 70) dX7_emptyLanes_69 rfl rfl rfl ?_
          refine jj_getR (q := 73) dX7_emptyLanes_70 fl_X7_87 hs.t0 hs.r0_10 rfl rfl rfl ?_
          refine jj_iload_n (q := 74) dX7_emptyLanes_73 rfl rfl rfl ?_
          refine jj_iload (q := 76) dX7_emptyLanes_74 rfl rfl ?_
          refine jj_cN3v (q := 79) dX7_emptyLanes_76 yk_X8_put ml_X7_96 (ex_putv hs.t14 (putI_blk (by decide)) rfl) rfl rfl rfl ⟨Nat.zero_le _, Nat.zero_le _⟩ ?_
          refine jj_aload_n (q := 80) dX7_emptyLanes_79 rfl rfl rfl ?_
          refine jj_iload (q := 82) dX7_emptyLanes_80 rfl rfl ?_
          refine jj_bipush (v := 8) (q := 84) dX7_emptyLanes_82 rfl rfl ?_
          refine jj_cV2v (q := 87) dX7_emptyLanes_84 yk_X4_enter ml_X7_78 hs.t0 (ex_enter hs) rfl rfl rfl ⟨Nat.zero_le _, Nat.zero_le _⟩ ?_
          refine jj_iinc (v := nI (i + 1)) (q := 90) dX7_emptyLanes_87 rfl (nI_inc i) (by decide) rfl ?_
          refine jj_goto (tgt := 2) dX7_emptyLanes_90 rfl ?_
          have hl' := lW_emS (P := P) (l := i) (by omega) hi.2
          rw [emL]
          unfold emS at hl' ⊢
          (first | rw [if_pos h27] at hl' ⊢ | rw [if_neg h27] at hl' ⊢ | skip); (first | rw [if_pos h39] at hl' ⊢ | rw [if_neg h39] at hl' ⊢ | skip); (first | rw [if_pos h61] at hl' ⊢ | rw [if_neg h61] at hl' ⊢ | skip)
          (first | rw [show (K 12 i).toNatClampNeg = m by rw [hme, nI_clamp (by omega)]] at hl' ⊢ | skip)
          exact ih (i + 1) _ _ _ ⟨by omega, hl'⟩
theorem ex_emptyLanes (hs : hSt T R a) (hp : hPl T R p) (hdj : p + 16 ≤ a ∨ a + 19 ≤ p) (hI : ∀ k : Nat, k < 15 → I (p + k) = P k) (hW : wP P) (hlw : lW K) : Ex Γ (d + 3) Y_X7_emptyLanes [.ref p, .ref a] (T, R, S, blk 19 (vv I p V) a K, L, D, z) 0 0 (rV (T, R, S, blk 19 (vv I p V) a (emL P (pnl P) 0 K), L, D, z)) := by
  refine Ex.of (by decide) (by simp [Value.category]) (Nat.le_of_ble_eq_true rfl) rfl ?_
  refine jj_iconst (v := 0) (q := 1) dX7_emptyLanes_0 rfl rfl ?_
  refine jj_istore_n (q := 2) dX7_emptyLanes_1 rfl (by decide) rfl ?_
  exact lp_emptyLanes hs hp hdj hI hW (pnl P) 0 K none none ⟨by omega, hlw⟩
theorem ex_fillEntry (hs : hSt T R a) (hp : hPl T R p) (hdj : p + 16 ≤ a ∨ a + 19 ≤ p) (hI : ∀ k : Nat, k < 15 → I (p + k) = P k) (hW : wP P) (hc : K 1 0 = nI c) (hc1 : c ≤ 100) : Ex Γ (d + 3) Y_X7_fillEntry [.ref p, .ref a] (T, R, S, blk 19 (vv I p V) a K, L, D, z) 0 0 (rV (T, R, S, blk 19 (vv I p V) a (fEn P c K), L, D, z)) := by
  have hro : ∀ k : Nat, k < 15 → ∀ {V : Nat → Int32} {K : JI}, blk 19 (vv I p V) a K (p + k) = P k := fun k hk => tro hdj hI k hk
  refine Ex.of (by decide) (by simp [Value.category]) (Nat.le_of_ble_eq_true rfl) rfl ?_
  refine jj_aload_n (q := 1) dX7_fillEntry_0 rfl rfl rfl ?_
  refine jj_getR (q := 4) dX7_fillEntry_1 fl_X7_87 hs.t0 hs.r0_10 rfl rfl rfl ?_
  refine jj_aload_n (q := 5) dX7_fillEntry_4 rfl rfl rfl ?_
  refine jj_getIv (q := 8) dX7_fillEntry_5 fl_X7_90 hp.t0 (hro 0 (by decide)) rfl rfl ?_
  refine jj_cN2i (q := 11) dX7_fillEntry_8 yk_X8_at ml_X7_21 (ex_atv hs.t14 (blk_k (by decide)) rfl) rfl rfl rfl ⟨Nat.zero_le _, Nat.zero_le _⟩ ?_
  refine jj_iconst (v := -1) (q := 12) dX7_fillEntry_11 rfl rfl ?_
  refine jj_icmp_ne (q := 15) (tgt := 58) dX7_fillEntry_12 rfl rfl (fun h12 => ?_) (fun h12 => ?_)
  · refine jj_vret dX7_fillEntry_58 rfl (Nat.zero_le _) (Nat.zero_le _) ?_
    exact ⟨rfl, by unfold fEn; (first | rw [if_pos h12] | rw [if_neg h12] | skip); (first | rw [if_pos h24] | rw [if_neg h24] | skip)⟩
  · refine jj_aload_n (q := 16) dX7_fillEntry_15 rfl rfl rfl ?_
    refine jj_bipush (v := 7) (q := 18) dX7_fillEntry_16 rfl rfl ?_
    refine jj_cV1i (q := 21) dX7_fillEntry_18 yk_X4_firstOfQueue ml_X7_204 hs.t0 (ex_firstOfQueue hs hc hc1) rfl rfl rfl ⟨Nat.zero_le _, Nat.zero_le _⟩ ?_
    refine jj_istore_n (q := 22) dX7_fillEntry_21 rfl (by decide) rfl ?_
    refine jj_iload_n (q := 23) dX7_fillEntry_22 rfl rfl rfl ?_
    refine jj_iconst (v := -1) (q := 24) dX7_fillEntry_23 rfl rfl ?_
    refine jj_icmp_eq (q := 27) (tgt := 58) dX7_fillEntry_24 rfl rfl (fun h24 => ?_) (fun h24 => ?_)
    · refine jj_vret dX7_fillEntry_58 rfl (Nat.zero_le _) (Nat.zero_le _) ?_
      exact ⟨rfl, by unfold fEn; (first | rw [if_pos h12] | rw [if_neg h12] | skip); (first | rw [if_pos h24] | rw [if_neg h24] | skip)⟩
    · refine jj_aload_n (q := 28) dX7_fillEntry_27 rfl rfl rfl ?_
      refine jj_getR (q := 31) dX7_fillEntry_28 fl_X7_87 hs.t0 hs.r0_10 rfl rfl rfl ?_
      refine jj_aload_n (q := 32) dX7_fillEntry_31 rfl rfl rfl ?_
      refine jj_getIv (q := 35) dX7_fillEntry_32 fl_X7_90 hp.t0 (hro 0 (by decide)) rfl rfl ?_
      refine jj_iload_n (q := 36) dX7_fillEntry_35 rfl rfl rfl ?_
      refine jj_cN3v (q := 39) dX7_fillEntry_36 yk_X8_put ml_X7_96 (ex_putv hs.t14 (putI_blk (by decide)) rfl) rfl rfl rfl ⟨Nat.zero_le _, Nat.zero_le _⟩ ?_
      refine jj_aload_n (q := 40) dX7_fillEntry_39 rfl rfl rfl ?_
      refine jj_getR (q := 43) dX7_fillEntry_40 fl_X7_9 hs.t0 hs.r0_4 rfl rfl rfl ?_
      refine jj_getR (q := 46) dX7_fillEntry_43 fl_X7_93 hs.t1 hs.r1_4 rfl rfl rfl ?_
      refine jj_iload_n (q := 47) dX7_fillEntry_46 rfl rfl rfl ?_
      refine jj_iconst (v := 0) (q := 48) dX7_fillEntry_47 rfl rfl ?_
      refine jj_cN3v (q := 51) dX7_fillEntry_48 yk_X8_put ml_X7_96 (ex_putv hs.t5 (putI_blk (by decide)) rfl) rfl rfl rfl ⟨Nat.zero_le _, Nat.zero_le _⟩ ?_
      refine jj_aload_n (q := 52) dX7_fillEntry_51 rfl rfl rfl ?_
      refine jj_iload_n (q := 53) dX7_fillEntry_52 rfl rfl rfl ?_
      refine jj_bipush (v := 8) (q := 55) dX7_fillEntry_53 rfl rfl ?_
      refine jj_cV2v (q := 58) dX7_fillEntry_55 yk_X4_enter ml_X7_78 hs.t0 (ex_enter hs) rfl rfl rfl ⟨Nat.zero_le _, Nat.zero_le _⟩ ?_
      refine jj_vret dX7_fillEntry_58 rfl (Nat.zero_le _) (Nat.zero_le _) ?_
      exact ⟨rfl, by unfold fEn; (first | rw [if_pos h12] | rw [if_neg h12] | skip); (first | rw [if_pos h24] | rw [if_neg h24] | skip)⟩
end M24
