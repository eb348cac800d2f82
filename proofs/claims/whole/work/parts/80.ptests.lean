/-! TESTS: pure; the trees of nodes grow -/
abbrev Tst : Type := (Nat → Int32) → Bool
def cmpT (o w v : Nat) : Tst := fun f => mCmp o (f w) (nI v)
def notT (t : Tst) : Tst := fun f => !t f
def opT (o : Bool) (t u : Tst) : Tst := fun f => if o = true then (t f && u f) else (t f || u f)
def pRel (b : Nat → Nat) (E p : Nat) : Res Nat := if isS b E p 60 = true then .inr (0, tN b E p) else if isS b E p 62 = true then .inr (1, tN b E p) else if isS b E p 61 = true then .inr (2, tN b E p) else .inl (1, tS b E p)
/-- which value's word is here: 5 for none -/
def wV (b : Nat → Nat) (E p : Nat) : Nat := if isW b E p wd_wait = true then 0 else if isW b E p wd_laps = true then 1 else if isW b E p wd_level = true then 2 else if isW b E p wd_load = true then 3 else if isW b E p wd_time = true then 4 else 5
def pCmp (b : Nat → Nat) (E w p : Nat) : Res Tst := (pRel b E (tN b E p)).bd (fun o q => (pNum b E 0 10000 q).bd (fun v q2 => .inr (cmpT o w v, q2)))
def pL (b : Nat → Nat) (E : Nat) (u : Nat → Res Tst) : Nat → Tst → Nat → Res Tst
  | 0, t, p => .inr (t, p)
  | n + 1, t, p => if isW b E p wd_and = true then (u (tN b E p)).bd (fun t2 q => pL b E u n (opT true t t2) q) else if isW b E p wd_or = true then (u (tN b E p)).bd (fun t2 q => pL b E u n (opT false t t2) q) else .inr (t, p)
def pT (b : Nat → Nat) (E : Nat) (u : Nat → Res Tst) (p : Nat) : Res Tst := (u p).bd (fun t q => pL b E u 1200 t q)
/-- no test begins here -/
def noT (b : Nat → Nat) (E p : Nat) : Bool := decide (wV b E p = 5) && !isW b E p wd_not && !isS b E p 40
def pU (b : Nat → Nat) (E : Nat) : Nat → Nat → Res Tst
  | 0, p => if noT b E p = true then .inl (1, tS b E p) else .inl (6, tS b E p)
  | f + 1, p => if noT b E p = true then .inl (1, tS b E p) else if isW b E p wd_not = true then (pU b E f (tN b E p)).bd (fun t q => .inr (notT t, q)) else if wV b E p = 5 then (pT b E (pU b E f) (tN b E p)).bd (fun t q => (pSg b E 41 q).bd (fun _ q2 => .inr (t, q2))) else pCmp b E (wV b E p) p
section T80
variable {A A' : JI} {X : JV} {b : Nat}
theorem vN_rg : ∀ (d lo n : Nat) (v : Bool), (∀ j, lo ≤ j → j ≤ n → A 11 j = A' 11 j ∧ A 12 j = A' 12 j ∧ A 13 j = A' 13 j) → (∀ j, lo ≤ j → j < n → A 14 j = A' 14 j) → vN A X b d lo n v → vN A' X b d lo n v
  | 0, _, _, _, _, _, h => h
  | d + 1, lo, n, v, h1, h2, ⟨m, c, e, hc, he, hb, hi, h0, hs⟩ => by
    have hcn : ∀ i, i ≤ m → lo ≤ c i ∧ c i ≤ n := fun i hi2 => by
      refine ⟨(hb i hi2).1, ?_⟩
      by_cases e2 : i = m
      · rw [e2, hc]; exact Nat.le_refl _
      · have := hi i m (by omega) (Nat.le_refl m)
        omega
    refine ⟨m, c, e, hc, he, hb, hi, ?_, fun i him => ?_⟩
    · have hg := h1 (c 0) (hcn 0 (Nat.zero_le m)).1 (hcn 0 (Nat.zero_le m)).2
      rw [← hg.1, ← hg.2.1, ← hg.2.2]
      rcases h0 with ⟨k2, s, w, ha, hlt, hv, hw⟩ | h0
      · refine Or.inl ⟨k2, s, w, ha, hlt, vN_rg d lo s w (fun j hj hj2 => h1 j hj ?_) (fun j hj hj2 => h2 j hj ?_) hv, hw⟩
        · have := (hcn 0 (Nat.zero_le m)).2; omega
        · have := (hcn 0 (Nat.zero_le m)).2; omega
      · exact Or.inr h0
    · have hci := hcn i (by omega)
      have hc1 := hcn (i + 1) (by omega)
      have hlt := hi i (i + 1) (by omega) (by omega)
      have hg := h1 (c (i + 1)) hc1.1 hc1.2
      rw [← hg.1, ← hg.2.1, ← hg.2.2, ← h2 (c i) hci.1 (by omega)]
      obtain ⟨a1, a2, a3, s, w, a4, a5, a6, a7⟩ := hs i him
      exact ⟨a1, a2, a3, s, w, a4, a5, vN_rg d (c i + 1) s w (fun j hj hj2 => h1 j (by omega) (by omega)) (fun j hj hj2 => h2 j (by omega) (by omega)) a6, a7⟩
theorem vN_lo : ∀ (d : Nat) {lo lo2 n : Nat} {v : Bool}, lo2 ≤ lo → vN A X b d lo n v → vN A X b d lo2 n v
  | 0, _, _, _, _, _, h => h
  | d + 1, lo, lo2, n, v, hl, ⟨m, c, e, hc, he, hb, hi, h0, hs⟩ => by
    refine ⟨m, c, e, hc, he, fun i hi2 => ⟨Nat.le_trans hl (hb i hi2).1, (hb i hi2).2⟩, hi, ?_, hs⟩
    rcases h0 with ⟨k2, s, w, ha, hlt, hv, hw⟩ | h0
    · exact Or.inl ⟨k2, s, w, ha, hlt, vN_lo d hl hv, hw⟩
    · exact Or.inr h0
theorem vN_up : ∀ (d : Nat) {lo n : Nat} {v : Bool}, vN A X b d lo n v → vN A X b (d + 1) lo n v
  | 0, _, _, _, h => h.elim
  | d + 1, lo, n, v, ⟨m, c, e, hc, he, hb, hi, h0, hs⟩ => by
    refine ⟨m, c, e, hc, he, hb, hi, ?_, fun i him => ?_⟩
    · rcases h0 with ⟨k2, s, w, ha, hlt, hv, hw⟩ | h0
      · exact Or.inl ⟨k2, s, w, ha, hlt, vN_up d hv, hw⟩
      · exact Or.inr h0
    · obtain ⟨a1, a2, a3, s, w, a4, a5, a6, a7⟩ := hs i him
      exact ⟨a1, a2, a3, s, w, a4, a5, vN_up d a6, a7⟩
theorem vN_leaf {d lo n o w : Nat} {y : Int32} (hn : lo ≤ n ∧ n < 1400) (ho : o < 3) (hw : w < 5) (h1 : A 11 n = nI (3 + o)) (h2 : A 12 n = nI w) (h3 : A 13 n = y) : vN A X b (d + 1) lo n (mCmp o (mAs X b w) y) := by
  refine ⟨0, fun _ => n, fun _ => mCmp o (mAs X b w) y, rfl, rfl, fun _ _ => hn, fun i j h1 h2 => by omega, Or.inr ⟨o, w, ho, h1, h2, hw, by rw [h3]⟩, fun i hi => by omega⟩
theorem vN_not {d lo n s : Nat} {w : Bool} (hn : lo ≤ n ∧ n < 1400) (h1 : A 11 n = 2) (h2 : A 12 n = nI s) (hs : s < n) (hv : vN A X b d lo s w) : vN A X b (d + 1) lo n (!w) :=
  ⟨0, fun _ => n, fun _ => !w, rfl, rfl, fun _ _ => hn, fun i j h1 h2 => by omega, Or.inl ⟨h1, s, w, h2, hs, hv, rfl⟩, fun i hi => by omega⟩
theorem vN_app {d lo n n2 s : Nat} {v w o : Bool} (hv : vN A X b (d + 1) lo n v) (hn : n < n2) (hn2 : n2 < 1400) (h1 : A 11 n2 = if o = true then 0 else 1) (h2 : A 12 n2 = nI n) (h3 : A 14 n = nI n2) (h4 : A 13 n2 = nI s) (hs : s < n2) (hw : vN A X b d (n + 1) s w) : vN A X b (d + 1) lo n2 (if o = true then (v && w) else (v || w)) := by
  obtain ⟨m, c, e, hc, he, hb, hi, h0, hl⟩ := hv
  have hcn : ∀ i, i ≤ m → c i ≤ n := fun i hi2 => by
    by_cases e2 : i = m
    · rw [e2, hc]; exact Nat.le_refl _
    · have := hi i m (by omega) (Nat.le_refl m)
      omega
  have hlo := (hb m (Nat.le_refl m)).1
  refine ⟨m + 1, fun i => if i ≤ m then c i else n2, fun i => if i ≤ m then e i else (if o = true then (v && w) else (v || w)), ?_, ?_, fun i hi2 => ?_, fun i j hij hj => ?_, ?_, fun i him => ?_⟩
  · dsimp only; rw [if_neg (by omega)]
  · dsimp only; rw [if_neg (by omega)]
  · dsimp only
    by_cases h : i ≤ m
    · rw [if_pos h]; exact hb i h
    · rw [if_neg h]; omega
  · dsimp only
    rw [if_pos (by omega)]
    by_cases h : j ≤ m
    · rw [if_pos h]; exact hi i j hij h
    · rw [if_neg h]; have := hcn i (by omega); omega
  · dsimp only
    rw [if_pos (Nat.zero_le m), if_pos (Nat.zero_le m)]
    exact h0
  · dsimp only
    by_cases h : i + 1 ≤ m
    · simp only [if_pos h, if_pos (show i ≤ m by omega)]
      exact hl i (by omega)
    · have e2 : i = m := by omega
      subst e2
      simp only [if_neg h, if_pos (Nat.le_refl i), hc, he]
      refine ⟨?_, h2, h3, s, w, h4, hs, hw, ?_⟩
      · rw [h1]; cases o <;> simp
      · cases o <;> simp [h1]
end T80
