/-! MORE ANSWERS -/
theorem mIn_ct (X : JV) (s : Nat) : ∀ n, mIn X (nI s) n = fb_ct (pSt_ X s) n
  | 0 => rfl
  | n + 1 => by
    show (if X (373 + n) = nI s then mIn X (nI s) n + 1 else mIn X (nI s) n) = fb_ct (pSt_ X s) n + (if pSt_ X s n then 1 else 0)
    unfold pSt_
    rw [mIn_ct X s n]
    by_cases e : X (373 + n) = nI s
    · rw [if_pos e, if_pos (by rw [decide_eq_true_eq]; exact e)]
      rfl
    · rw [if_neg e, if_neg (by rw [decide_eq_true_eq]; exact e)]
      rfl
theorem inI_iff {v lo hi : Int32} : ¬ inI v lo hi = 0 ↔ lo ≤ v ∧ v ≤ hi := by
  unfold inI
  by_cases h1 : v < lo
  · rw [if_pos h1]
    exact ⟨fun h => absurd rfl h, fun h => absurd h1 (Int32.not_lt.mpr h.1)⟩
  · rw [if_neg h1]
    by_cases h2 : hi < v
    · rw [if_pos h2]
      exact ⟨fun h => absurd rfl h, fun h => absurd h2 (Int32.not_lt.mpr h.2)⟩
    · rw [if_neg h2]
      exact ⟨fun _ => ⟨Int32.not_lt.mp h1, Int32.not_lt.mp h2⟩, fun _ => by decide⟩
section V6
variable {k nf : Nat} {Q X : JV} {K P : JI} {r : Int64} {j : Nat}
theorem vl_mf (h : SR k nf Q K r X) (hq : Q 12 = nI nf) (hn : nf ≤ 8) (hj : j < mC X) : mF X j < nf := by
  have h1 := h.2.1.2.2.2.2.2 j hj
  rw [hq, nN_nI (by omega)] at h1
  exact h1
theorem vl_f (h : SR k nf Q K r X) (hj : j < mC X) : X (173 + j) = nI (mF X j) := (h.i.f (by have := h.c; omega)).1
theorem vl_hot (h : SR k nf Q K r X) (hq : Q 12 = nI nf) (hn : nf ≤ 8) (hj : j < mC X) : vHot K (nI j) = mHot X j := by
  have hf := vl_mf h hq hn hj
  unfold vHot mHot
  rw [vl_fl h hj, vl_f h hj, atV_nI (by omega) (by omega), (h.1.op hn hf).2, h.1.clk, show K 0 2 = X 4 from h.1.get mt02 ⟨fun e => by omega, fun e => by omega, fun e => by omega⟩]
theorem vl_of (h : SR k nf Q K r X) (f lo hi : Int32) : fb_ct (pOf K f lo hi) (mC X) = fb_ct (pB X f lo hi) (mC X) := fb_ct_cong fun b hb => by
  have hc := h.c
  unfold pOf pB
  rw [h.1.st hc hb, h.1.get (mt3 (by omega)) ⟨fun _ _ => hb, fun e => by omega, fun e => by omega⟩]
  exact decide_eq_decide.mpr (and_congr_right fun _ => inI_iff.symm)
theorem vl_cnt (h : SR k nf Q K r X) {s : Nat} (hs : s < 14) : atV 14 (K 8) (nI s) = nI (mIn X (nI s) (mC X)) := by
  rw [atV_nI hs (by omega), mIn_ct]
  exact h.1.2.2.2.2.1 s hs
theorem vl_c8 (h : SR k nf Q K r X) {s : Nat} (hs : s < 14) : K 8 s = nI (mIn X (nI s) (mC X)) := by
  rw [mIn_ct]
  exact h.1.2.2.2.2.1 s hs
theorem mAh_self (X : JV) (b : Nat) : mAh X b b = 0 := by
  unfold mAh mSo
  rw [if_pos rfl, if_pos (Int32.sub_self _), if_pos rfl, if_pos (Int32.le_refl _)]
theorem vl_q (h : SR k nf Q K r X) (hq : Q 12 = nI nf) (hn : nf ≤ 8) (hk : k ≤ 600) (w x : Int32) : srch (pIn K w x (mC X)) (mC X) nI (-1) = srch (pQm X w x (mC X)) (mC X) nI (-1) := srch_cg fun b hb => by
  have hc := h.c
  unfold pIn pQm
  rw [h.1.st hc hb]
  refine decide_eq_decide.mpr (and_congr_right fun e => ?_)
  rw [show fb_ct (pQ K (nI b)) (mC X) = fb_ct (pA X w b) (mC X) from fb_ct_cong fun o ho => ?_]
  unfold pQ pA
  rw [vl_st h hb, h.1.st hc ho, e]
  refine decide_eq_decide.mpr ⟨fun g => ⟨fun e2 => ?_, g.1, ?_⟩, fun g => ⟨g.2.1, ?_⟩⟩
  · have e3 : o = b := nI_inj' (by omega) (by omega) e2
    subst e3
    have e4 := (gb_same h.1 h.i hn (h.2.2.n hk) (fun b hb => vl_mf h hq hn hb) ho hb)
    rw [mAh_self] at e4
    exact g.2 (e4 ▸ rfl)
  · have e4 := (gb_same h.1 h.i hn (h.2.2.n hk) (fun b hb => vl_mf h hq hn hb) ho hb)
    exact fun e5 => g.2 (e4.symm ▸ e5)
  · have e4 := (gb_same h.1 h.i hn (h.2.2.n hk) (fun b hb => vl_mf h hq hn hb) ho hb)
    exact fun e5 => g.2.2 (e4 ▸ e5)
end V6
