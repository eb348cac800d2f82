/-! TESTS of the model: the chain of units -/
def gTs (G G' : JV) (k : Nat) : Prop := G' 26 = nI k ∧ ∀ j, (j < 3 ∨ 9 < j) → j ≠ 26 → G' j = G j
def aTs (A A' : JI) (lo hi : Nat) : Prop := (∀ c, c < 11 ∨ 14 < c → A' c = A c) ∧ ∀ c j, j < lo ∨ hi ≤ j → A' c j = A c j
/-- how a test ends: from k nodes and position p -/
def uP (b : Nat → Nat) (E bq k p slk e F : Nat) (res : Res Tst) (A : JI) (G : JV) (n : Nat) (A' : JI) (G' : JV) : Prop := ∃ k', k ≤ k' ∧ k' ≤ 600 + e ∧ gTs G G' k' ∧ aTs A A' (nIx bq k) (nIx bq 700) ∧ mSt b E (rU res) G' ∧ ∀ x, res = .inr x → p ≤ x.2 ∧ 2 * k' + slk ≤ x.2 ∧ nIx bq k ≤ n ∧ n < nIx bq k' ∧ ∀ X c, vN A' X c F (nIx bq k) n (x.1 (mAs X c))
def ovA (A : JI) (i n : Nat) (x y w : Int32) : JI := u2 (nodA A i x y w) 14 n (nI i)
theorem mB_.a {A A' : JI} {b : Nat → Nat} {E lo hi : Nat} (h : mB_ A b E) (ha : aTs A A' lo hi) : mB_ A' b E := ⟨h.1, fun j hj => by rw [ha.1 1 (by omega)]; exact h.2 j hj⟩
theorem aTs.r {A : JI} {lo hi : Nat} : aTs A A lo hi := ⟨fun _ _ => rfl, fun _ _ _ => rfl⟩
theorem aTs.t {A A1 A2 : JI} {lo lo1 hi : Nat} (h : aTs A A1 lo hi) (h2 : aTs A1 A2 lo1 hi) (hl : lo ≤ lo1) : aTs A A2 lo hi := ⟨fun c hc => (h2.1 c hc).trans (h.1 c hc), fun c j hj => (h2.2 c j (by omega)).trans (h.2 c j hj)⟩
theorem aTs.nd {A : JI} {lo hi i : Nat} {x y w : Int32} (h1 : lo ≤ i) (h2 : i < hi) : aTs A (nodA A i x y w) lo hi := by
  refine ⟨fun c hc => ?_, fun c j hj => ?_⟩
  · unfold nodA; rw [u2_ne (by omega), u2_ne (by omega), u2_ne (by omega)]
  · unfold nodA u2
    repeat' split
    all_goals first | rfl | omega
theorem aTs.ov {A : JI} {lo hi i n : Nat} {x y w : Int32} (h1 : lo ≤ n) (h2 : n ≤ i) (h3 : i < hi) : aTs A (ovA A i n x y w) lo hi := by
  refine ⟨fun c hc => ?_, fun c j hj => ?_⟩
  · unfold ovA nodA; rw [u2_ne (by omega), u2_ne (by omega), u2_ne (by omega), u2_ne (by omega)]
  · unfold ovA nodA u2
    repeat' split
    all_goals first | rfl | omega
theorem gTs.r {G : JV} {k : Nat} (h : G 26 = nI k) : gTs G G k := ⟨h, fun _ _ _ => rfl⟩
theorem gTs.t {G Ga Gb : JV} {k k2 : Nat} (h : gTs G Ga k) (h2 : gTs Ga Gb k2) : gTs G Gb k2 := ⟨h2.1, fun j hj hn => (h2.2 j hj hn).trans (h.2 j hj hn)⟩
theorem gTs.gn {b : Nat → Nat} {E k : Nat} {r : Res Unit} {G : JV} (h : G 26 = nI k) : gTs G (gN b E r G) k := ⟨(gN_o (by omega)).trans h, fun j hj hn => gN_o (by omega)⟩
theorem gTs.k {G : JV} {k : Nat} : gTs G (w1 G 26 (nI k)) k := ⟨w1_eq, fun j hj hn => w1_ne hn⟩
theorem isW_n {b : Nat → Nat} {E p : Nat} {l : List Nat} (hp : p ≤ E) (h : isW b E p l = true) : p + l.length ≤ tN b E p ∧ tK b E p = 1 := by
  have h1 := of_decide_eq_true h
  have h2 := tS_bd (b := b) hp
  have h3 := tN_bd (b := b) hp
  omega
theorem nodA_11 {A : JI} {i : Nat} {x y w : Int32} : nodA A i x y w 11 i = x ∧ nodA A i x y w 12 i = y ∧ nodA A i x y w 13 i = w := by simp [nodA, u2]
/-- one more link of the chain -/
theorem uP.app {b : Nat → Nat} {E bq k p slk f q n1 s : Nat} {t : Tst} {y : Tst × Nat} {A A1 A2 : JI} {G Ga Gb : JV} {o : Bool} {k1 : Nat} (hbq : bq ≤ 1) (hE : E ≤ 1200)
    (ha : k ≤ k1 ∧ gTs G Ga k1 ∧ aTs A A1 (nIx bq k) (nIx bq 700) ∧ p ≤ q ∧ nIx bq k ≤ n1 ∧ n1 < nIx bq k1 ∧ ∀ X c, vN A1 X c (f + 1) (nIx bq k) n1 (t (mAs X c))) (hq : q ≤ tN b E q)
    (hu : uP b E bq k1 (tN b E q) (slk + 2) (2 * f) f (.inr y) A1 (gN b E (.inr ((), q)) Ga) s A2 Gb) :
    ∃ k2, Gb 26 = nI k2 ∧ k2 < 700 ∧ k1 ≤ k2 ∧ n1 < nIx bq k2 ∧ uP b E bq k p slk (2 * f) (f + 1) (.inr (opT o t y.1, y.2)) A G (nIx bq k2) (ovA A2 (nIx bq k2) n1 (if o = true then 0 else 1) (nI n1) (nI s)) (w1 Gb 26 (nI (k2 + 1))) := by
  obtain ⟨h1, h2, h3, h4, h5, h6, h7⟩ := ha
  obtain ⟨k2, g1, g2, g3, g4, hg5, g6⟩ := hu
  obtain ⟨g7, g8, g9, g10, g11⟩ := g6 y rfl
  have hyE : y.2 ≤ E := hg5.2.1
  have e0 : nIx bq k1 = (1 - bq) * 700 + k1 := rfl
  have e1 : nIx bq k2 = (1 - bq) * 700 + k2 := rfl
  have e2 : nIx bq k = (1 - bq) * 700 + k := rfl
  have e3 : nIx bq 700 = (1 - bq) * 700 + 700 := rfl
  have e4 : nIx bq (k2 + 1) = (1 - bq) * 700 + (k2 + 1) := rfl
  refine ⟨k2, g3.1, by omega, g1, by omega, k2 + 1, by omega, ?_, ?_, ?_, ?_, fun x hx => ?_⟩
  · omega
  · exact (h2.t (gTs.gn h2.1)).t (g3.t gTs.k)
  · exact (h3.t g4 (by omega)).t (aTs.ov (lo := nIx bq k) (by omega) (by omega) (by omega)) (Nat.le_refl _)
  · exact hg5.w (by omega)
  · cases hx
    have hA : ∀ c j, j ≠ nIx bq k2 → (c ≠ 14 ∨ j ≠ n1) → ovA A2 (nIx bq k2) n1 (if o = true then 0 else 1) (nI n1) (nI s) c j = A2 c j := fun c j hj hc => by
      unfold ovA nodA u2
      repeat' split
      all_goals first | rfl | omega
    refine ⟨by omega, by omega, by omega, by omega, fun X c => ?_⟩
    have v1 : vN (ovA A2 (nIx bq k2) n1 (if o = true then 0 else 1) (nI n1) (nI s)) X c (f + 1) (nIx bq k) n1 (t (mAs X c)) := by
      refine vN_rg (f + 1) _ _ _ (fun j hj hj2 => ?_) (fun j hj hj2 => ?_) (h7 X c)
      · rw [hA 11 j (by omega) (by omega), hA 12 j (by omega) (by omega), hA 13 j (by omega) (by omega), g4.2 11 j (by omega), g4.2 12 j (by omega), g4.2 13 j (by omega)]
        exact ⟨rfl, rfl, rfl⟩
      · rw [hA 14 j (by omega) (by omega), g4.2 14 j (by omega)]
    have v2 : vN (ovA A2 (nIx bq k2) n1 (if o = true then 0 else 1) (nI n1) (nI s)) X c f (n1 + 1) s (y.1 (mAs X c)) := by
      refine vN_lo f (lo := nIx bq k1) (by omega) (vN_rg f _ _ _ (fun j hj hj2 => ?_) (fun j hj hj2 => ?_) (g11 X c))
      · rw [hA 11 j (by omega) (by omega), hA 12 j (by omega) (by omega), hA 13 j (by omega) (by omega)]
        exact ⟨rfl, rfl, rfl⟩
      · rw [hA 14 j (by omega) (by omega)]
    have hn := nodA_11 (A := A2) (i := nIx bq k2) (x := if o = true then 0 else 1) (y := nI n1) (w := nI s)
    have hov : ∀ c j, c ≠ 14 → ovA A2 (nIx bq k2) n1 (if o = true then 0 else 1) (nI n1) (nI s) c j = nodA A2 (nIx bq k2) (if o = true then 0 else 1) (nI n1) (nI s) c j := fun c j hc => by
      unfold ovA; rw [u2_ne hc]
    exact vN_app v1 (by omega) (by omega) ((hov _ _ (by omega)).trans hn.1) ((hov _ _ (by omega)).trans hn.2.1) (by unfold ovA; rw [u2_eq]; simp) ((hov _ _ (by omega)).trans hn.2.2) (by omega) v2
