/-! WHERE BAGS ARE, as numbers (100: nothing). e: a bag that is nowhere for the moment (100: none) -/
def up (f : Nat → Nat) (i v : Nat) : Nat → Nat := fun j => if j = i then v else f j
theorem up_eq {f : Nat → Nat} {i v : Nat} : up f i v i = v := if_pos rfl
theorem up_ne {f : Nat → Nat} {i j v : Nat} (h : j ≠ i) : up f i v j = f j := if_neg h
def up2 (f : Nat → Nat → Nat) (l i v : Nat) : Nat → Nat → Nat := fun k j => if k = l ∧ j = i then v else f k j
/-- st of a bag that nothing holds -/
def lo_ (s : Nat) : Prop := s ≠ 2 ∧ s ≠ 4 ∧ s ≠ 6 ∧ s ≠ 8 ∧ s ≠ 9
def sJ (len c : Nat) (lo st pl : Nat → Nat) (la : Nat → Nat → Nat) (he ow : Nat → Nat) (e : Nat) : Prop :=
  (∀ p, p < 40 → lo p = 100 ∨ (lo p < c ∧ lo p ≠ e ∧ st (lo p) = 8 ∧ pl (lo p) = p ∧ p < len)) ∧
  (∀ b, b < c → b ≠ e → st b = 8 → pl b < 40 ∧ lo (pl b) = b) ∧
  (∀ l j, l < 4 → j < he l → la l j < c ∧ la l j ≠ e ∧ st (la l j) = 9 ∧ pl (la l j) = l) ∧
  (∀ l i j, l < 4 → i < j → j < he l → la l i ≠ la l j) ∧
  (∀ b, b < c → b ≠ e → st b = 9 → pl b < 4 ∧ ∃ j, j < he (pl b) ∧ la (pl b) j = b) ∧
  (∀ k, k < 12 → ow k = 100 ∨ (ow k < c ∧ ow k ≠ e ∧ st (ow k) = 2 * (k / 4) + 2)) ∧
  (∀ k k', k < 12 → k' < 12 → ow k = ow k' → ow k = 100 ∨ k = k')
section SJ
variable {len c e b p s l k : Nat} {lo st pl : Nat → Nat} {la : Nat → Nat → Nat} {he ow : Nat → Nat}
theorem k4 (k : Nat) (h : k < 12) : 2 * (k / 4) + 2 = 2 ∨ 2 * (k / 4) + 2 = 4 ∨ 2 * (k / 4) + 2 = 6 := by omega
theorem sJ.hang (h : sJ len c lo st pl la he ow 100) (hc : c ≤ 100) (hs : lo_ (st b)) : sJ len c lo st pl la he ow b := by
  obtain ⟨h1, h2, h3, h4, h5, h6, h7⟩ := h
  unfold lo_ at hs
  refine ⟨fun p hp => ?_, fun x hx he => h2 x hx (by omega), fun l j hl hj => ?_, h4, fun x hx he => h5 x hx (by omega), fun k hk => ?_, h7⟩
  · rcases h1 p hp with q | ⟨q1, q2, q3, q4⟩
    · exact Or.inl q
    · exact Or.inr ⟨q1, fun e => by rw [e] at q3; omega, q3, q4⟩
  · obtain ⟨q1, q2, q3, q4⟩ := h3 l j hl hj
    exact ⟨q1, fun e => by rw [e] at q3; omega, q3, q4⟩
  · rcases h6 k hk with q | ⟨q1, q2, q3⟩
    · exact Or.inl q
    · exact Or.inr ⟨q1, fun e => by rw [e] at q3; have := k4 k hk; omega, q3⟩
theorem sJ.free (h : sJ len c lo st pl la he ow b) (hc : c ≤ 100) (hs : st b ≠ 8 ∧ st b ≠ 9) : sJ len c lo st pl la he ow 100 := by
  obtain ⟨h1, h2, h3, h4, h5, h6, h7⟩ := h
  refine ⟨fun p hp => ?_, fun x hx _ hx8 => h2 x hx (fun e => by rw [e] at hx8; omega) hx8, fun l j hl hj => ?_, h4, fun x hx _ hx9 => h5 x hx (fun e => by rw [e] at hx9; omega) hx9, fun k hk => ?_, h7⟩
  · rcases h1 p hp with q | ⟨q1, q2, q3, q4⟩
    · exact Or.inl q
    · exact Or.inr ⟨q1, by omega, q3, q4⟩
  · obtain ⟨q1, q2, q3, q4⟩ := h3 l j hl hj
    exact ⟨q1, by omega, q3, q4⟩
  · rcases h6 k hk with q | ⟨q1, q2, q3⟩
    · exact Or.inl q
    · exact Or.inr ⟨q1, by omega, q3⟩
theorem sJ.setSt (h : sJ len c lo st pl la he ow b) : sJ len c lo (up st b s) pl la he ow b := by
  obtain ⟨h1, h2, h3, h4, h5, h6, h7⟩ := h
  refine ⟨fun p hp => ?_, fun x hx he => ?_, fun l j hl hj => ?_, h4, fun x hx he => ?_, fun k hk => ?_, h7⟩
  · rcases h1 p hp with q | ⟨q1, q2, q3, q4⟩
    · exact Or.inl q
    · exact Or.inr ⟨q1, q2, by rw [up_ne q2]; exact q3, q4⟩
  · rw [up_ne he]; exact h2 x hx he
  · obtain ⟨q1, q2, q3, q4⟩ := h3 l j hl hj
    exact ⟨q1, q2, by rw [up_ne q2]; exact q3, q4⟩
  · rw [up_ne he]; exact h5 x hx he
  · rcases h6 k hk with q | ⟨q1, q2, q3⟩
    · exact Or.inl q
    · exact Or.inr ⟨q1, q2, by rw [up_ne q2]; exact q3⟩
theorem sJ.setPl (h : sJ len c lo st pl la he ow b) : sJ len c lo st (up pl b s) la he ow b := by
  obtain ⟨h1, h2, h3, h4, h5, h6, h7⟩ := h
  refine ⟨fun p hp => ?_, fun x hx he => ?_, fun l j hl hj => ?_, h4, fun x hx he => ?_, h6, h7⟩
  · rcases h1 p hp with q | ⟨q1, q2, q3, q4⟩
    · exact Or.inl q
    · exact Or.inr ⟨q1, q2, q3, by rw [up_ne q2]; exact q4⟩
  · rw [up_ne he]; exact h2 x hx he
  · obtain ⟨q1, q2, q3, q4⟩ := h3 l j hl hj
    exact ⟨q1, q2, q3, by rw [up_ne q2]; exact q4⟩
  · rw [up_ne he]; exact h5 x hx he
theorem sJ.offLoop (h : sJ len c lo st pl la he ow 100) (hc : c ≤ 100) (hp : p < 40) (hb : lo p = b) (hb1 : b ≠ 100) : sJ len c (up lo p 100) st pl la he ow b := by
  obtain ⟨h1, h2, h3, h4, h5, h6, h7⟩ := h
  have hp1 := (h1 p hp).resolve_left (by rw [hb]; exact hb1)
  rw [hb] at hp1
  refine ⟨fun p' hp' => ?_, fun x hx he h8 => ?_, fun l j hl hj => ?_, h4, fun x hx he => h5 x hx (by omega), fun k hk => ?_, h7⟩
  · by_cases hpp : p' = p
    · subst hpp; exact Or.inl up_eq
    · rw [up_ne hpp]
      rcases h1 p' hp' with q | ⟨q1, q2, q3, q4, q5⟩
      · exact Or.inl q
      · exact Or.inr ⟨q1, fun e => hpp (by rw [e] at q4; omega), q3, q4, q5⟩
  · obtain ⟨q1, q2⟩ := h2 x hx (by omega) h8
    exact ⟨q1, by rw [up_ne (fun e => he (by rw [e, hb] at q2; exact q2.symm))]; exact q2⟩
  · obtain ⟨q1, q2, q3, q4⟩ := h3 l j hl hj
    exact ⟨q1, fun e => by rw [e] at q3; omega, q3, q4⟩
  · rcases h6 k hk with q | ⟨q1, q2, q3⟩
    · exact Or.inl q
    · exact Or.inr ⟨q1, fun e => by rw [e] at q3; have := k4 k hk; omega, q3⟩
theorem sJ.onLoop (h : sJ len c lo st pl la he ow b) (hc : c ≤ 100) (hbc : b < c) (hp : p < 40) (hpl : p < len) (he0 : lo p = 100) (hs : st b = 8) (hpp : pl b = p) : sJ len c (up lo p b) st pl la he ow 100 := by
  obtain ⟨h1, h2, h3, h4, h5, h6, h7⟩ := h
  refine ⟨fun p' hp' => ?_, fun x hx he h8 => ?_, fun l j hl hj => ?_, h4, fun x hx _ h9 => h5 x hx (fun e => by rw [e] at h9; omega) h9, fun k hk => ?_, h7⟩
  · by_cases hq : p' = p
    · subst hq; rw [up_eq]; exact Or.inr ⟨hbc, by omega, hs, hpp, hpl⟩
    · rw [up_ne hq]
      rcases h1 p' hp' with q | ⟨q1, q2, q3, q4, q5⟩
      · exact Or.inl q
      · exact Or.inr ⟨q1, by omega, q3, q4, q5⟩
  · by_cases hxb : x = b
    · subst hxb; rw [hpp]; exact ⟨hp, up_eq⟩
    · obtain ⟨q1, q2⟩ := h2 x hx hxb h8
      exact ⟨q1, by rw [up_ne (fun e => by rw [e, he0] at q2; omega)]; exact q2⟩
  · obtain ⟨q1, q2, q3, q4⟩ := h3 l j hl hj
    exact ⟨q1, by omega, q3, q4⟩
  · rcases h6 k hk with q | ⟨q1, q2, q3⟩
    · exact Or.inl q
    · exact Or.inr ⟨q1, by omega, q3⟩
theorem sJ.onMach (h : sJ len c lo st pl la he ow b) (hc : c ≤ 100) (hbc : b < c) (hk : k < 12) (he0 : ow k = 100) (hs : st b = 2 * (k / 4) + 2) : sJ len c lo st pl la he (up ow k b) 100 := by
  obtain ⟨h1, h2, h3, h4, h5, h6, h7⟩ := h
  have hk4 := k4 k hk
  refine ⟨fun p' hp' => ?_, fun x hx _ h8 => h2 x hx (fun e => by rw [e] at h8; omega) h8, fun l j hl hj => ?_, h4, fun x hx _ h9 => h5 x hx (fun e => by rw [e] at h9; omega) h9, fun k' hk' => ?_, fun k1 k2 hk1 hk2 hee => ?_⟩
  · rcases h1 p' hp' with q | ⟨q1, q2, q3, q4, q5⟩
    · exact Or.inl q
    · exact Or.inr ⟨q1, by omega, q3, q4, q5⟩
  · obtain ⟨q1, q2, q3, q4⟩ := h3 l j hl hj
    exact ⟨q1, by omega, q3, q4⟩
  · by_cases hq : k' = k
    · subst hq; rw [up_eq]; exact Or.inr ⟨hbc, by omega, hs⟩
    · rw [up_ne hq]
      rcases h6 k' hk' with q | ⟨q1, q2, q3⟩
      · exact Or.inl q
      · exact Or.inr ⟨q1, by omega, q3⟩
  · by_cases e1 : k1 = k
    · by_cases e2 : k2 = k
      · right; omega
      · subst e1
        rw [up_eq, up_ne e2] at hee
        rcases h6 k2 hk2 with q | ⟨q1, q2, q3⟩
        · omega
        · exact absurd hee.symm q2
    · rw [up_ne e1] at hee ⊢
      by_cases e2 : k2 = k
      · subst e2
        rw [up_eq] at hee
        rcases h6 k1 hk1 with q | ⟨q1, q2, q3⟩
        · exact Or.inl q
        · exact absurd hee q2
      · rw [up_ne e2] at hee
        exact h7 k1 k2 hk1 hk2 hee
theorem sJ.offMach (h : sJ len c lo st pl la he ow 100) (hc : c ≤ 100) (hk : k < 12) (hb : ow k = b) (hb1 : b ≠ 100) : sJ len c lo st pl la he (up ow k 100) b := by
  obtain ⟨h1, h2, h3, h4, h5, h6, h7⟩ := h
  have hk4 := k4 k hk
  have hp1 := (h6 k hk).resolve_left (by rw [hb]; exact hb1)
  rw [hb] at hp1
  refine ⟨fun p hp => ?_, fun x hx he => h2 x hx (by omega), fun l j hl hj => ?_, h4, fun x hx he => h5 x hx (by omega), fun k' hk' => ?_, fun k1 k2 hk1 hk2 hee => ?_⟩
  · rcases h1 p hp with q | ⟨q1, q2, q3, q4⟩
    · exact Or.inl q
    · exact Or.inr ⟨q1, fun e => by rw [e] at q3; omega, q3, q4⟩
  · obtain ⟨q1, q2, q3, q4⟩ := h3 l j hl hj
    exact ⟨q1, fun e => by rw [e] at q3; omega, q3, q4⟩
  · by_cases hq : k' = k
    · subst hq; exact Or.inl up_eq
    · rw [up_ne hq]
      rcases h6 k' hk' with q | ⟨q1, q2, q3⟩
      · exact Or.inl q
      · refine Or.inr ⟨q1, fun e => ?_, q3⟩
        rcases h7 k' k hk' hk (by rw [e, hb]) with w | w
        · omega
        · exact hq w
  · by_cases e1 : k1 = k
    · subst e1; exact Or.inl up_eq
    · rw [up_ne e1] at hee ⊢
      by_cases e2 : k2 = k
      · subst e2
        rw [up_eq] at hee
        exact Or.inl hee
      · rw [up_ne e2] at hee
        exact h7 k1 k2 hk1 hk2 hee
theorem sJ.onLane {la' : Nat → Nat → Nat} {he' : Nat → Nat} (h : sJ len c lo st pl la he ow b) (hc : c ≤ 100) (hbc : b < c) (hl : l < 4) (hs : st b = 9) (hpp : pl b = l) (hh : ∀ k, he' k = if k = l then he l + 1 else he k) (h0 : la' l (he l) = b) (h9 : ∀ k j, k < 4 → j < he k → la' k j = la k j) : sJ len c lo st pl la' he' ow 100 := by
  obtain ⟨h1, h2, h3, h4, h5, h6, h7⟩ := h
  refine ⟨fun p' hp' => ?_, fun x hx _ h8 => h2 x hx (fun e => by rw [e] at h8; omega) h8, fun k j hk hj => ?_, fun k i j hk hij hj => ?_, fun x hx _ hx9 => ?_, fun k hk => ?_, h7⟩
  · rcases h1 p' hp' with q | ⟨q1, q2, q3, q4, q5⟩
    · exact Or.inl q
    · exact Or.inr ⟨q1, by omega, q3, q4, q5⟩
  · rw [hh] at hj
    by_cases hkl : k = l ∧ j = he l
    · obtain ⟨e1, e2⟩ := hkl
      subst e1; subst e2
      rw [h0]; exact ⟨hbc, by omega, hs, hpp⟩
    · have hj' : j < he k := by
        split at hj
        · rename_i e; subst e; omega
        · exact hj
      rw [h9 k j hk hj']
      obtain ⟨q1, q2, q3, q4⟩ := h3 k j hk hj'
      exact ⟨q1, by omega, q3, q4⟩
  · rw [hh] at hj
    split at hj
    · rename_i e; subst e
      rw [h9 k i hk (by omega)]
      by_cases hjj : j = he k
      · subst hjj
        rw [h0]
        exact (h3 k i hk hij).2.1
      · rw [h9 k j hk (by omega)]; exact h4 k i j hk hij (by omega)
    · rw [h9 k i hk (by omega), h9 k j hk hj]; exact h4 k i j hk hij hj
  · by_cases hxb : x = b
    · subst hxb
      rw [hpp]
      exact ⟨hl, he l, by rw [hh, if_pos rfl]; omega, h0⟩
    · obtain ⟨q1, j, q2, q3⟩ := h5 x hx hxb hx9
      have hj : j < he' (pl x) := by
        rw [hh]
        split
        · rename_i e; rw [e] at q2; omega
        · exact q2
      exact ⟨q1, j, hj, by rw [h9 _ j q1 q2]; exact q3⟩
  · rcases h6 k hk with q | ⟨q1, q2, q3⟩
    · exact Or.inl q
    · exact Or.inr ⟨q1, by omega, q3⟩
theorem sJ.offLane {la' : Nat → Nat → Nat} {he' : Nat → Nat} (h : sJ len c lo st pl la he ow 100) (hc : c ≤ 100) (hl : l < 4) (h0 : 0 < he l) (hb : la l 0 = b) (hh : ∀ k, he' k = if k = l then he l - 1 else he k) (h8 : ∀ j, j < he l - 1 → la' l j = la l (j + 1)) (h9 : ∀ k j, k < 4 → k ≠ l → j < he k → la' k j = la k j) : sJ len c lo st pl la' he' ow b := by
  obtain ⟨h1, h2, h3, h4, h5, h6, h7⟩ := h
  have hb3 := h3 l 0 hl h0
  rw [hb] at hb3
  refine ⟨fun p hp => ?_, fun x hx he => h2 x hx (by omega), fun k j hk hj => ?_, fun k i j hk hij hj => ?_, fun x hx hxb hx9 => ?_, fun k hk => ?_, h7⟩
  · rcases h1 p hp with q | ⟨q1, q2, q3, q4⟩
    · exact Or.inl q
    · exact Or.inr ⟨q1, fun e => by rw [e] at q3; omega, q3, q4⟩
  · rw [hh] at hj
    split at hj
    · rename_i e; subst e
      rw [h8 j hj]
      obtain ⟨q1, q2, q3, q4⟩ := h3 k (j + 1) hk (by omega)
      exact ⟨q1, fun e => h4 k 0 (j + 1) hk (by omega) (by omega) (by rw [hb, e]), q3, q4⟩
    · rename_i e
      rw [h9 k j hk e hj]
      obtain ⟨q1, q2, q3, q4⟩ := h3 k j hk hj
      exact ⟨q1, fun w => e (by rw [w] at q4; omega), q3, q4⟩
  · rw [hh] at hj
    split at hj
    · rename_i e; subst e
      rw [h8 i (by omega), h8 j hj]
      exact h4 k (i + 1) (j + 1) hk (by omega) (by omega)
    · rename_i e
      rw [h9 k i hk e (by omega), h9 k j hk e hj]; exact h4 k i j hk hij hj
  · obtain ⟨q1, j, q2, q3⟩ := h5 x hx (by omega) hx9
    refine ⟨q1, ?_⟩
    by_cases e : pl x = l
    · rw [e] at q2 q3 ⊢
      have hj0 : j ≠ 0 := fun w => hxb (by rw [w, hb] at q3; exact q3.symm)
      exact ⟨j - 1, by rw [hh, if_pos rfl]; omega, by rw [h8 (j - 1) (by omega), show j - 1 + 1 = j by omega]; exact q3⟩
    · exact ⟨j, by rw [hh, if_neg e]; exact q2, by rw [h9 _ j q1 e q2]; exact q3⟩
  · rcases h6 k hk with q | ⟨q1, q2, q3⟩
    · exact Or.inl q
    · exact Or.inr ⟨q1, fun e => by rw [e] at q3; have := k4 k hk; omega, q3⟩
/-- the loop turns: who was at p is at p + 1 -/
theorem sJ.turn {lo' pl' : Nat → Nat} {e : Nat} (h : sJ len c lo st pl la he ow e) (hc : c ≤ 100) (h4 : 0 < len) (h40 : len ≤ 40) (hz : lo' 0 = lo (len - 1)) (hs : ∀ p, p + 1 < len → lo' (p + 1) = lo p) (ho : ∀ p, len ≤ p → p < 40 → lo' p = lo p) (hp1 : ∀ p, p < len → lo' p ≠ 100 → pl' (lo' p) = p) (hp2 : ∀ x, x < c → (∀ p, p < len → lo' p ≠ x) → pl' x = pl x) : sJ len c lo' st pl' la he ow e := by
  obtain ⟨h1, h2, h3, h4', h5, h6, h7⟩ := h
  have hlo : ∀ p, p < 40 → lo' p = 100 ∨ (lo' p < c ∧ lo' p ≠ e ∧ st (lo' p) = 8 ∧ pl' (lo' p) = p ∧ p < len) := fun p hp => by
    by_cases hl : p < len
    · by_cases hn : lo' p = 100
      · exact Or.inl hn
      · have hq := hp1 p hl hn
        have ex : ∃ q, q < 40 ∧ lo' p = lo q := by
          by_cases h0 : p = 0
          · subst h0; exact ⟨len - 1, by omega, hz⟩
          · exact ⟨p - 1, by omega, by have := hs (p - 1) (by omega); rw [show p - 1 + 1 = p by omega] at this; exact this⟩
        obtain ⟨q, q0, qe⟩ := ex
        rcases h1 q q0 with w | ⟨w1, w2, w3, w4⟩
        · exact absurd (qe.trans w) hn
        · rw [← qe] at w1 w2 w3
          exact Or.inr ⟨w1, w2, w3, hq, hl⟩
    · rw [ho p (by omega) hp]
      rcases h1 p hp with q | ⟨q1, q2, q3, q4, q5⟩
      · exact Or.inl q
      · omega
  have hno : ∀ x, x < c → st x ≠ 8 → pl' x = pl x := fun x hx h8 => hp2 x hx (fun p hp e => by
    rcases hlo p (by omega) with w | w
    · omega
    · rw [e] at w; omega)
  refine ⟨hlo, fun x hx hxe h8 => ?_, fun l j hl hj => ?_, h4', fun x hx hxe h9 => ?_, h6, h7⟩
  · obtain ⟨q1, q2⟩ := h2 x hx hxe h8
    have hq5 : pl x < len := by
      rcases h1 (pl x) q1 with w | w
      · omega
      · exact w.2.2.2.2
    have ex : ∃ p, p < len ∧ lo' p = x := by
      by_cases hl : pl x + 1 < len
      · exact ⟨pl x + 1, hl, by rw [hs _ hl]; exact q2⟩
      · exact ⟨0, h4, by rw [hz, show len - 1 = pl x by omega]; exact q2⟩
    obtain ⟨p, p1, p2⟩ := ex
    have := hp1 p p1 (by omega)
    rw [p2] at this
    rw [this]
    exact ⟨by omega, p2⟩
  · obtain ⟨q1, q2, q3, q4⟩ := h3 l j hl hj
    exact ⟨q1, q2, q3, by rw [hno _ q1 (by omega)]; exact q4⟩
  · rw [hno x hx (by omega)]; exact h5 x hx hxe h9
theorem sJ.ext {lo' st' pl' he' ow' : Nat → Nat} {la' : Nat → Nat → Nat} (h : sJ len c lo st pl la he ow e) (a1 : ∀ p, p < 40 → lo' p = lo p) (a2 : ∀ x, x < c → st' x = st x) (a3 : ∀ x, x < c → pl' x = pl x) (a4 : ∀ l j, l < 4 → j < he l → la' l j = la l j) (a5 : ∀ l, l < 4 → he' l = he l) (a6 : ∀ k, k < 12 → ow' k = ow k) : sJ len c lo' st' pl' la' he' ow' e := by
  obtain ⟨h1, h2, h3, h4, h5, h6, h7⟩ := h
  refine ⟨fun p hp => ?_, fun x hx he => ?_, fun l j hl hj => ?_, fun l i j hl hij hj => ?_, fun x hx he => ?_, fun k hk => ?_, fun k k' hk hk' => ?_⟩
  · rw [a1 p hp]
    rcases h1 p hp with q | ⟨q1, q2, q3, q4⟩
    · exact Or.inl q
    · exact Or.inr ⟨q1, q2, by rw [a2 _ q1]; exact q3, by rw [a3 _ q1]; exact q4⟩
  · rw [a2 x hx, a3 x hx]
    intro h8
    obtain ⟨q1, q2⟩ := h2 x hx he h8
    exact ⟨q1, by rw [a1 _ q1]; exact q2⟩
  · rw [a5 l hl] at hj
    obtain ⟨q1, q2, q3, q4⟩ := h3 l j hl hj
    rw [a4 l j hl hj, a2 _ q1, a3 _ q1]
    exact ⟨q1, q2, q3, q4⟩
  · rw [a5 l hl] at hj
    rw [a4 l i hl (by omega), a4 l j hl hj]
    exact h4 l i j hl hij hj
  · rw [a2 x hx, a3 x hx]
    intro h9
    obtain ⟨q1, j, q2, q3⟩ := h5 x hx he h9
    exact ⟨q1, j, by rw [a5 _ q1]; exact q2, by rw [a4 _ j q1 q2]; exact q3⟩
  · rw [a6 k hk]
    rcases h6 k hk with q | ⟨q1, q2, q3⟩
    · exact Or.inl q
    · exact Or.inr ⟨q1, q2, by rw [a2 _ q1]; exact q3⟩
  · rw [a6 k hk, a6 k' hk']
    exact h7 k k' hk hk'
end SJ
