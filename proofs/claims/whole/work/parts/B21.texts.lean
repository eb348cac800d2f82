/-! TEXTS: WHAT STANDS IN THEM -/
theorem wL_b : ∀ (l : List Nat) (B : JI) (s : Nat), B 0 0 = nI s → s + l.length < 2 ^ 30 → ∀ j, (j < s → wL B l 1 j = B 1 j) ∧ (s ≤ j → j < s + l.length → wL B l 1 j = nI (l.getD (j - s) 0))
  | [], _, _, _, _, _ => ⟨fun _ => rfl, fun h1 h2 => absurd h2 (by rw [List.length_nil]; omega)⟩
  | b :: l, B, s, h, hs, j => by
    have hs' : s + (l.length + 1) < 2 ^ 30 := hs
    have ih := wL_b l (wB B b) (s + 1) (wB_0 h (by omega)) (by omega) j
    have e : wB B b 1 j = if j = s then nI b else B 1 j := by
      unfold wB
      rw [u2_ne (by omega), u2_ap, if_pos rfl, h, nN_nI (by omega)]
    refine ⟨fun h1 => ?_, fun h1 h2 => ?_⟩
    · show wL (wB B b) l 1 j = _
      rw [ih.1 (by omega), e, if_neg (by omega)]
    · have h2' : j < s + (l.length + 1) := h2
      show wL (wB B b) l 1 j = _
      by_cases g : j = s
      · rw [ih.1 (by omega), e, if_pos g, g, Nat.sub_self]
        rfl
      · rw [ih.2 (by omega) (by omega), show j - s = (j - (s + 1)) + 1 by omega]
        rfl
theorem wL_f (l : List Nat) (B : JI) (hl : l.length < 2 ^ 30) : wL (u2 B 0 0 0) l 0 0 = nI l.length ∧ ∀ j, j < l.length → wL (u2 B 0 0 0) l 1 j = nI (l.getD j 0) := by
  have h0 : u2 B 0 0 0 0 0 = nI 0 := by rw [u2_ap, if_pos rfl, if_pos rfl]; rfl
  refine ⟨?_, fun j hj => ?_⟩
  · rw [wL_0 h0 (by omega), Nat.zero_add]
  · rw [(wL_b l _ 0 h0 (by omega) j).2 (by omega) (by omega), Nat.sub_zero]
theorem wAL_b {c : Nat} (hc : c ≠ 0) : ∀ (l : List Nat) (A : JI) (s : Nat), A 0 34 = nI s → s + l.length < 2 ^ 30 → ∀ j, (j < s → wAL c A l c j = A c j) ∧ (s ≤ j → j < s + l.length → wAL c A l c j = nI (l.getD (j - s) 0))
  | [], _, _, _, _, _ => ⟨fun _ => rfl, fun h1 h2 => absurd h2 (by rw [List.length_nil]; omega)⟩
  | b :: l, A, s, h, hs, j => by
    have hs' : s + (l.length + 1) < 2 ^ 30 := hs
    have ih := wAL_b hc l (wA c A b) (s + 1) (wA_0 h (by omega)) (by omega) j
    have e : wA c A b c j = if j = s then nI b else A c j := by
      unfold wA
      rw [u2_ne hc, u2_ap, if_pos rfl, h, nN_nI (by omega)]
    refine ⟨fun h1 => ?_, fun h1 h2 => ?_⟩
    · show wAL c (wA c A b) l c j = _
      rw [ih.1 (by omega), e, if_neg (by omega)]
    · have h2' : j < s + (l.length + 1) := h2
      show wAL c (wA c A b) l c j = _
      by_cases g : j = s
      · rw [ih.1 (by omega), e, if_pos g, g, Nat.sub_self]
        rfl
      · rw [ih.2 (by omega) (by omega), show j - s = (j - (s + 1)) + 1 by omega]
        rfl
theorem wAL_h {c : Nat} (hc : c ≠ 0) {j : Nat} (hj : j ≠ 34) : ∀ (l : List Nat) (A : JI), wAL c A l 0 j = A 0 j
  | [], _ => rfl
  | b :: l, A => by
    show wAL c (wA c A b) l 0 j = _
    rw [wAL_h hc hj l]
    unfold wA
    rw [u2_ap, if_pos rfl, if_neg hj, u2_ne (by omega)]
theorem fM_at (g : Nat → Nat) (j : Nat) : ∀ (n i : Nat) (A : JI), fM g i n A 17 j = if i ≤ j ∧ j < i + n then nI (g j) else A 17 j
  | 0, i, A => by rw [if_neg (by omega)]; rfl
  | n + 1, i, A => by
    show fM g (i + 1) n (u2 A 17 i (nI (g i))) 17 j = _
    rw [fM_at g j n (i + 1), u2_ap, if_pos rfl]
    by_cases e : j = i
    · rw [if_neg (by omega), if_pos e, if_pos (by omega), e]
    · rw [if_neg e]
      by_cases g1 : i + 1 ≤ j ∧ j < i + 1 + n
      · rw [if_pos g1, if_pos (by omega)]
      · rw [if_neg g1, if_neg (by omega)]
theorem rM_at (g : Nat → Nat) : ∀ (n i j : Nat), j < n → (rM g i n).getD j 0 = g (i + j)
  | 0, _, _, h => by omega
  | n + 1, i, 0, _ => rfl
  | n + 1, i, j + 1, h => by
    show (rM g (i + 1) n).getD j 0 = _
    rw [rM_at g n (i + 1) j (by omega), show i + 1 + j = i + (j + 1) by omega]
/-- all are bytes -/
def b7 (l : List Nat) : Prop := ∀ x, x ∈ l → x < 128
theorem b7.at_ {l : List Nat} (h : b7 l) (j : Nat) : l.getD j 0 < 128 := by
  rw [List.getD_eq_getElem?_getD]
  cases e : l[j]? with
  | none => exact (by decide : (0 : Nat) < 128)
  | some x => exact h x (List.mem_of_getElem? e)
theorem b7.apq {l m : List Nat} (h1 : b7 l) (h2 : b7 m) : b7 (l ++ m) := fun x hx => (List.mem_append.mp hx).elim (h1 x) (h2 x)
theorem b7.nil : b7 [] := fun x hx => by cases hx
theorem b7.cons {b : Nat} {l : List Nat} (h1 : b < 128) (h2 : b7 l) : b7 (b :: l) := fun x hx => (List.mem_cons.mp hx).elim (fun e => by rw [e]; exact h1) (h2 x)
theorem b7.one {b : Nat} (h : b < 128) : b7 [b] := b7.cons h b7.nil
theorem dj_b7 (v : Nat) : ∀ j, b7 (dj v j)
  | 0 => b7.one (by omega)
  | j + 1 => by
    show b7 (if 10 ^ (j + 1) ≤ v then (48 + v / 10 ^ (j + 1) % 10) :: dj v j else dj v j)
    split
    · exact b7.cons (by omega) (dj_b7 v j)
    · exact dj_b7 v j
theorem dg_b7 (v : Nat) : b7 (dg v) := dj_b7 v 9
theorem sgR_b7 (f l a s : Nat) : b7 (sgR f l a s) := by
  unfold sgR
  refine b7.apq ?_ (b7.apq (dg_b7 l) (b7.apq (b7.one (by omega)) (b7.apq (dg_b7 a) ?_)))
  · split
    · exact b7.nil
    · exact b7.one (by omega)
  · split
    · exact b7.nil
    · exact b7.apq (b7.one (by omega)) (dg_b7 s)
theorem rR_b7 (l a s : Nat → Nat) : ∀ (n f : Nat), b7 (rR l a s f n)
  | 0, _ => b7.nil
  | n + 1, f => (sgR_b7 f (l f) (a f) (s f)).apq (rR_b7 l a s n (f + 1))
theorem rL_b7 (m : Nat → Nat) : ∀ (n l : Nat), b7 (rL m l n)
  | 0, _ => b7.nil
  | n + 1, l => by
    refine b7.apq ?_ (rL_b7 m n (l + 1))
    unfold lT
    split
    · exact b7.nil
    · exact b7.apq (b7.one (by omega)) (b7.apq (dg_b7 l) (b7.apq (b7.one (by omega)) (dg_b7 _)))
theorem tW_b7 {nl : Nat} {op cl : Nat → Nat} {m : Nat → Nat → Nat} {f : Nat} (hf : f < 8) : b7 (tW nl op cl m f) := by
  unfold tW
  exact b7.apq (b7.one (by omega)) (b7.apq (dg_b7 _) (b7.apq (b7.one (by omega)) (b7.apq (dg_b7 _) (rL_b7 _ nl 0))))
theorem rTt_b7 {tw : Nat → List Nat} {m : Nat} (h : ∀ r, r < m → b7 (tw r)) : ∀ (n r : Nat), r + n ≤ m → b7 (rTt tw r n)
  | 0, _, _ => b7.nil
  | n + 1, r, hr => by
    refine b7.apq ?_ (b7.apq (h r (by omega)) (rTt_b7 h n (r + 1) (by omega)))
    split
    · exact b7.nil
    · exact b7.one (by omega)
theorem rTt_cg {t1 t2 : Nat → List Nat} {m : Nat} (h : ∀ r, r < m → t1 r = t2 r) : ∀ (n r : Nat), r + n ≤ m → rTt t1 r n = rTt t2 r n
  | 0, _, _ => rfl
  | n + 1, r, hr => by
    show (if r = 0 then [] else [59]) ++ (t1 r ++ rTt t1 (r + 1) n) = (if r = 0 then [] else [59]) ++ (t2 r ++ rTt t2 (r + 1) n)
    rw [h r (by omega), rTt_cg h n (r + 1) (by omega)]
/-- ranks -/
theorem fb_ct_lt {p q : Nat → Bool} {a : Nat} (hpa : p a = false) (hqa : q a = true) : ∀ {n : Nat}, a < n → (∀ k, k < n → p k = true → q k = true) → fb_ct p n < fb_ct q n
  | 0, h, _ => by omega
  | n + 1, h, hs => by
    rw [fb_ct_succ, fb_ct_succ]
    have h1 := fb_ct_sub (p := p) (q := q) (n := n) fun k hk => hs k (by omega)
    by_cases g : a = n
    · subst g
      rw [hpa, hqa, if_neg (by decide), if_pos rfl]
      omega
    · have h2 := fb_ct_lt hpa hqa (n := n) (by omega) fun k hk => hs k (by omega)
      have h3 := hs n (by omega)
      by_cases e : p n = true
      · rw [e, h3 e, if_pos rfl]
        omega
      · rw [if_neg e]
        split <;> omega
theorem rank_ex {n : Nat} (lt : Nat → Nat → Bool) (irr : ∀ a, lt a a = false) (tr : ∀ a b c, lt a b = true → lt b c = true → lt a c = true) (totq : ∀ a b, a ≠ b → lt a b = true ∨ lt b a = true) : ∃ ph : Nat → Nat, ∀ r, r < n → ph r < n ∧ ∀ f, f < n → (fb_ct (fun o => lt o f) n = r ↔ f = ph r) := by
  have h1 : ∀ f, f < n → fb_ct (fun o => lt o f) n < n := fun f hf => by
    have h2 := fb_ct_le (fun o => lt o f) n
    have h3 : fb_ct (fun o => lt o f) n ≠ n := fun e => by
      have h4 : lt f f = true := (fb_ct_all.mp e) f hf
      rw [irr f] at h4
      cases h4
    omega
  have h4 : ∀ i j, i < n → lt i j = true → fb_ct (fun o => lt o i) n < fb_ct (fun o => lt o j) n := fun i j hi e => fb_ct_lt (p := fun o => lt o i) (q := fun o => lt o j) (a := i) (irr i) e hi fun k _ h => tr k i j h e
  have h5 : ∀ i j, i < n → j < n → fb_ct (fun o => lt o i) n = fb_ct (fun o => lt o j) n → i = j := fun i j hi hj e => Decidable.byContradiction fun g => by
    rcases totq i j g with w | w
    · have := h4 i j hi w
      omega
    · have := h4 j i hj w
      omega
  have h6 : ∀ r, ∃ i, r < n → i < n ∧ fb_ct (fun o => lt o i) n = r := fun r => by
    by_cases g : r < n
    · obtain ⟨i, k1, k2⟩ := inj_surj n (fun f => fb_ct (fun o => lt o f) n) h1 h5 r g
      exact ⟨i, fun _ => ⟨k1, k2⟩⟩
    · exact ⟨0, fun h => absurd h g⟩
  refine ⟨fun r => Classical.choose (h6 r), fun r hr => ?_⟩
  have h7 := Classical.choose_spec (h6 r) hr
  exact ⟨h7.1, fun f hf => ⟨fun e => h5 f _ hf h7.1 (e.trans h7.2.symm), fun e => by rw [e]; exact h7.2⟩⟩
/-- flights by when they close -/
def ltC (cl : Nat → Nat) (o f : Nat) : Bool := decide (cl o < cl f ∨ (cl o = cl f ∧ o < f))
theorem rank_cl (cl : Nat → Nat) (n : Nat) : ∃ ph : Nat → Nat, ∀ r, r < n → ph r < n ∧ ∀ f, f < n → (fb_ct (fun o => ltC cl o f) n = r ↔ f = ph r) := by
  refine rank_ex (ltC cl) (fun a => ?_) (fun a b c h1 h2 => ?_) (fun a b h => ?_)
  · unfold ltC
    exact decide_eq_false (by omega)
  · unfold ltC at h1 h2 ⊢
    rw [decide_eq_true_eq] at h1 h2 ⊢
    omega
  · unfold ltC
    rw [decide_eq_true_eq, decide_eq_true_eq]
    omega
section V21
variable {k nf : Nat} {Q X : JV} {K : JI} {r : Int64} {cl : Nat → Nat} {o f : Nat}
theorem aW_lt (ho : X (13 + o) = nI (cl o)) (hf : X (13 + f) = nI (cl f)) (h1 : cl o < 2 ^ 29) (h2 : cl f < 2 ^ 29) (ho8 : o < 8) (hf8 : f < 8) : decide (aW X o f = 1) = ltC cl o f := by
  unfold aW ltC
  have e1 := nI_ti (n := cl o) (by omega)
  have e2 := nI_ti (n := cl f) (by omega)
  have e3 := nI_ti (n := o) (by omega)
  have e4 := nI_ti (n := f) (by omega)
  rw [ho, hf]
  by_cases g1 : nI (cl o) < nI (cl f)
  · rw [if_pos g1]
    rw [fa_lt, e1, e2] at g1
    rw [decide_eq_true (show cl o < cl f ∨ (cl o = cl f ∧ o < f) by omega)]
    rfl
  · rw [if_neg g1]
    rw [fa_lt, e1, e2] at g1
    by_cases g2 : nI (cl o) = nI (cl f)
    · rw [if_pos g2]
      have g3 := nI_inj' (by omega) (by omega) g2
      by_cases g4 : nI f ≤ nI o
      · rw [if_pos g4]
        rw [fa_le, e3, e4] at g4
        rw [decide_eq_false (show ¬ (cl o < cl f ∨ (cl o = cl f ∧ o < f)) by omega)]
        rfl
      · rw [if_neg g4]
        rw [fa_le, e3, e4] at g4
        rw [decide_eq_true (show cl o < cl f ∨ (cl o = cl f ∧ o < f) by omega)]
        rfl
    · rw [if_neg g2]
      have g3 : cl o ≠ cl f := fun e => g2 (by rw [e])
      rw [decide_eq_false (show ¬ (cl o < cl f ∨ (cl o = cl f ∧ o < f)) by omega)]
      rfl
theorem cW_lt (ho : K 10 o = nI (cl o)) (hf : K 10 f = nI (cl f)) (h1 : cl o < 2 ^ 29) (h2 : cl f < 2 ^ 29) (ho8 : o < 8) (hf8 : f < 8) : decide (cW K o f = 1) = ltC cl o f := by
  unfold cW ltC
  have e1 := nI_ti (n := cl o) (by omega)
  have e2 := nI_ti (n := cl f) (by omega)
  have e3 := nI_ti (n := o) (by omega)
  have e4 := nI_ti (n := f) (by omega)
  rw [ho, hf]
  have e5 : (nI (cl o) - nI (cl f)).toInt = (cl o : Int) - (cl f : Int) := by rw [sub_ti (by omega) (by omega), e1, e2]
  by_cases g1 : nI (cl o) - nI (cl f) < 0
  · rw [if_pos g1]
    rw [fa_lt, e5, show (0 : Int32).toInt = 0 from rfl] at g1
    rw [decide_eq_true (show cl o < cl f ∨ (cl o = cl f ∧ o < f) by omega)]
    rfl
  · rw [if_neg g1]
    rw [fa_lt, e5, show (0 : Int32).toInt = 0 from rfl] at g1
    by_cases g2 : nI (cl o) - nI (cl f) = 0
    · rw [if_pos g2]
      have g3 : (cl o : Int) - (cl f : Int) = 0 := by rw [← e5, g2]; rfl
      by_cases g4 : nI f ≤ nI o
      · rw [if_pos g4]
        rw [fa_le, e3, e4] at g4
        rw [decide_eq_false (show ¬ (cl o < cl f ∨ (cl o = cl f ∧ o < f)) by omega)]
        rfl
      · rw [if_neg g4]
        rw [fa_le, e3, e4] at g4
        rw [decide_eq_true (show cl o < cl f ∨ (cl o = cl f ∧ o < f) by omega)]
        rfl
    · rw [if_neg g2]
      have g3 : cl o ≠ cl f := fun e => g2 (by rw [e]; exact Int32.sub_self _)
      rw [decide_eq_false (show ¬ (cl o < cl f ∨ (cl o = cl f ∧ o < f)) by omega)]
      rfl
theorem vl_rep (h : SR k nf Q K r X) : rR (kL K (mC X)) (kA K (mC X)) (kS K (mC X)) 0 nf = rR (xL X (mC X)) (xA X (mC X)) (xS X (mC X)) 0 nf := by
  have e1 : kL K (mC X) = xL X (mC X) := funext fun f => vl_of h (nI f) 10 10
  have e2 : kA K (mC X) = xA X (mC X) := funext fun f => vl_of h (nI f) 0 13
  have e3 : kS K (mC X) = xS X (mC X) := funext fun f => vl_of h (nI f) 11 11
  rw [e1, e2, e3]
theorem rep_len (X : JV) (hc : mC X ≤ 100) (hn : nf ≤ 8) : (rR (xL X (mC X)) (xA X (mC X)) (xS X (mC X)) 0 nf).length ≤ 200 := by
  have h1 : ∀ p : Nat → Bool, fb_ct p (mC X) ≤ 100 := fun p => Nat.le_trans (fb_ct_le p _) hc
  have := rR_len (l := xL X (mC X)) (a := xA X (mC X)) (s := xS X (mC X)) (fun f => ⟨h1 _, h1 _, h1 _⟩) nf 0
  omega
/-- what the map shows -/
def gX_ (X : JV) (i : Nat) : Nat := if X (133 + i) = -1 then 46 else 65 + mF X (nN (X (133 + i)))
theorem vl_map (h : SR k nf Q K r X) {ln : Nat} (hl : ln ≤ 40) : gM K (gX_ X) ln ∧ gX X (gX_ X) ln ∧ b7 (rM (gX_ X) 0 ln) := by
  have hX := h.i
  have hc := h.c
  have hg : ∀ i, i < 40 → (X (133 + i) = -1 ∧ gX_ X i = 46) ∨ ∃ b f, X (133 + i) = nI b ∧ b < mC X ∧ X (173 + b) = nI f ∧ f < 8 ∧ gX_ X i = 65 + f := fun i hi => by
    unfold gX_
    by_cases e : X (133 + i) = -1
    · exact Or.inl ⟨e, if_pos e⟩
    · have h1 := oB_n (hX.lo hi) e
      have h2 := hX.f h1.2
      refine Or.inr ⟨nN (X (133 + i)), _, h1.1, ?_, h2.1, h2.2, if_neg e⟩
      have h3 := h.2.1.2.1.1 i hi
      have h4 : xLo X i = nN (X (133 + i)) := if_neg e
      rw [h4] at h3
      rcases h3 with h3 | h3
      · omega
      · exact h3.1
  refine ⟨fun i hi => ?_, fun i hi => ?_, ?_⟩
  · rw [h.1.lo (show i < 40 by omega)]
    rcases hg i (by omega) with w | ⟨b, f, w1, w2, w3, w4, w5⟩
    · exact Or.inl w
    · exact Or.inr ⟨b, f, w1, by omega, by rw [h.1.get (mt3 (by omega)) ⟨fun _ _ => w2, fun e => by omega, fun e => by omega⟩]; exact w3, w4, w5⟩
  · rcases hg i (by omega) with w | ⟨b, f, w1, w2, w3, w4, w5⟩
    · exact Or.inl w
    · exact Or.inr ⟨b, f, w1, by omega, w3, w4, w5⟩
  · have h7 : ∀ (n i : Nat), i + n ≤ 40 → b7 (rM (gX_ X) i n) := by
      intro n
      induction n with
      | zero => exact fun _ _ => b7.nil
      | succ n ih =>
        intro i hi
        refine b7.cons ?_ (ih (i + 1) (by omega))
        rcases hg i (by omega) with w | ⟨b, f, w1, w2, w3, w4, w5⟩
        · rw [w.2]
          decide
        · omega
    exact h7 ln 0 (by omega)
theorem vl_kM (h : SR k nf Q K r X) : kM K (mHe X) = xM X := by
  have hX := h.i
  funext l f
  unfold kM xM
  by_cases hl : l < 4
  · rw [if_pos hl, if_pos hl]
    refine fb_ct_cong fun j hj => ?_
    have hh := (hX.he hl).2
    have h1 := hX.lb (l := 20 * l + j) (by omega)
    have h2 := h.2.1.2.1.2.2.1 l j hl hj
    have h3 : xLa X l j = mLb X (20 * l + j) := by unfold xLa mLb; rw [show 29 + (20 * l + j) = 29 + 20 * l + j by omega]
    rw [h3] at h2
    unfold pSt pHe
    rw [h.1.la hX hl hj, show 29 + 20 * l + j = 29 + (20 * l + j) by omega, h1.1, atV_nI (by omega) (by decide), h.1.get (mt3 (by omega)) ⟨fun _ _ => h2.1, fun e => by omega, fun e => by omega⟩]
  · rw [if_neg hl, if_neg hl]
/-- the timetable's data -/
theorem vl_tt (h : SR k nf Q K r X) (hn : nf ≤ 8) (hk : k ≤ 600) : ∃ op cl ph : Nat → Nat, (∀ f, f < nf → K 9 f = nI (op f) ∧ op f < 2 ^ 29 ∧ K 10 f = nI (cl f) ∧ cl f < 2 ^ 29) ∧ (∀ f, f < nf → X (5 + f) = nI (op f) ∧ op f < 2 ^ 29 ∧ X (13 + f) = nI (cl f) ∧ cl f < 2 ^ 29) ∧ (∀ r, r < nf → kFC K nf (nI r) = nI (ph r) ∧ ph r < nf) ∧ ∀ r, r < nf → ph r < nf ∧ ∀ f, f < nf → (nI (fb_ct (pFa X f) nf) = nI r ↔ f = ph r) := by
  have h9 : ∀ f, f < nf → K 9 f = X (5 + f) := fun f hf => h.1.get (mt9 (by omega)) ⟨fun e => by omega, fun _ => hf, fun e => by omega⟩
  have h10 : ∀ f, f < nf → K 10 f = X (13 + f) := fun f hf => h.1.get (mt10 (by omega)) ⟨fun e => by omega, fun _ => hf, fun e => by omega⟩
  have hX : ∀ f, f < nf → X (5 + f) = nI (nN (X (5 + f))) ∧ nN (X (5 + f)) < 2 ^ 29 ∧ X (13 + f) = nI (nN (X (13 + f))) ∧ nN (X (13 + f)) < 2 ^ 29 := fun f hf => by
    obtain ⟨b1, b2⟩ := h.2.2.2.2.1 f hf
    exact ⟨b1.1, by have := b1.2; omega, b2.1, by have := b2.2; omega⟩
  obtain ⟨ph, hph⟩ := rank_cl (fun f => nN (X (13 + f))) nf
  have hm : ∀ f, f < nf → fb_ct (pFa X f) nf = fb_ct (fun o => ltC (fun f => nN (X (13 + f))) o f) nf := fun f hf => fb_ct_cong fun o ho => aW_lt (cl := fun f => nN (X (13 + f))) (hX o ho).2.2.1 (hX f hf).2.2.1 (hX o ho).2.2.2 (hX f hf).2.2.2 (by omega) (by omega)
  have hc : ∀ f, f < nf → fb_ct (pCl K f) nf = fb_ct (fun o => ltC (fun f => nN (X (13 + f))) o f) nf := fun f hf => fb_ct_cong fun o ho => cW_lt (cl := fun f => nN (X (13 + f))) ((h10 o ho).trans (hX o ho).2.2.1) ((h10 f hf).trans (hX f hf).2.2.1) (hX o ho).2.2.2 (hX f hf).2.2.2 (by omega) (by omega)
  refine ⟨fun f => nN (X (5 + f)), fun f => nN (X (13 + f)), ph, fun f hf => ?_, hX, fun r hr => ⟨?_, (hph r hr).1⟩, fun r hr => ⟨(hph r hr).1, fun f hf => ?_⟩⟩
  · rw [h9 f hf, h10 f hf]
    exact hX f hf
  · unfold kFC
    have hq := hph r hr
    refine srch_hit (fun j hj => ?_) ?_ hq.1
    · have hj' : j < nf := by have := hq.1; omega
      refine decide_eq_false fun e => ?_
      rw [hc j hj'] at e
      have h1 := fb_ct_le (fun o => ltC (fun f => nN (X (13 + f))) o j) nf
      have := (hq.2 j hj').mp (nI_inj' (by omega) (by omega) e)
      omega
    · refine decide_eq_true ?_
      rw [hc _ hq.1, (hq.2 _ hq.1).mpr rfl]
  · rw [hm f hf]
    have h1 := fb_ct_le (fun o => ltC (fun f => nN (X (13 + f))) o f) nf
    exact ⟨fun e => ((hph r hr).2 f hf).mp (nI_inj' (by omega) (by omega) e), fun e => by rw [((hph r hr).2 f hf).mpr e]⟩
end V21
