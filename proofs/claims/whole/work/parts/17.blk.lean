/-! BLOCKS: w cells from a on hold K -/
def blk (w : Nat) (I : JI) (a : Nat) (K : JI) : JI := fun b j => if a ≤ b ∧ b < a + w then K (b - a) j else I b j
theorem blk_k {w : Nat} {I K : JI} {a k : Nat} (h : k < w) : blk w I a K (a + k) = K k := by
  funext j
  unfold blk
  rw [if_pos ⟨by omega, by omega⟩, Nat.add_sub_cancel_left]
theorem blk_0 {w : Nat} {I K : JI} {a : Nat} (h : 0 < w) : blk w I a K a = K 0 := blk_k (k := 0) h
theorem blk_out {w : Nat} {I K : JI} {a b : Nat} (h : b < a ∨ a + w ≤ b) : blk w I a K b = I b := by
  funext j
  unfold blk
  rw [if_neg (by omega)]
theorem blk_self (w : Nat) (I : JI) (a : Nat) : blk w I a (fun k => I (a + k)) = I := by
  funext b j
  unfold blk
  split
  · rename_i h
    show I (a + (b - a)) j = _
    rw [show a + (b - a) = b by omega]
  · rfl
theorem blk_blk {w : Nat} {I K K' : JI} {a : Nat} : blk w (blk w I a K) a K' = blk w I a K' := by
  funext b j
  unfold blk
  split <;> rfl
theorem u2_blk {w : Nat} {I K : JI} {a k j : Nat} {v : Int32} (h : k < w) : u2 (blk w I a K) (a + k) j v = blk w I a (u2 K k j v) := by
  funext b i
  by_cases hb : b = a + k
  · subst hb
    rw [blk_k h, u2_eq, u2_eq, blk_k h]
  · rw [u2_ne hb]
    by_cases hr : a ≤ b ∧ b < a + w
    · have e : b = a + (b - a) := by omega
      rw [e, blk_k (by omega), blk_k (by omega), u2_ne (by omega)]
    · rw [blk_out (by omega), blk_out (by omega)]
theorem u2_blk0 {w : Nat} {I K : JI} {a j : Nat} {v : Int32} (h : 0 < w) : u2 (blk w I a K) a j v = blk w I a (u2 K 0 j v) := u2_blk (k := 0) h
theorem putI_blk {w : Nat} {I K : JI} {a k n : Nat} {i v : Int32} (h : k < w) : putI (blk w I a K) (a + k) n i v = blk w I a (putI K k n i v) := by
  unfold putI
  split
  · rfl
  · split
    · rfl
    · exact u2_blk h
theorem uC_blk {w : Nat} {I K : JI} {a k k0 sp dp n : Nat} (h : k < w) (h0 : k0 < w) : uC (blk w I a K) (a + k0) sp (a + k) dp n = blk w I a (uC K k0 sp k dp n) := by
  funext b i
  by_cases hb : b = a + k
  · subst hb
    rw [uC_eq, blk_k h, blk_k h, blk_k h0, uC_eq]
  · rw [uC_ne hb]
    by_cases hr : a ≤ b ∧ b < a + w
    · have e : b = a + (b - a) := by omega
      rw [e, blk_k (by omega), blk_k (by omega), uC_ne (by omega)]
    · rw [blk_out (by omega), blk_out (by omega)]
section JB
variable {Γ : Gam} {E : JE} {Zf : List Frame → Array Value → State → State → Prop} {Rm : Room} {cells slots pc q d n : Nat} {vl : List (Option Value)} {st : List Value}
variable {T : JT} {R S : JR} {I I' : JI} {L L' : JL} {D : JD} {z : Option Nat} {a : Nat} {f : Nat → Int32}
theorem jj_getIw {ix ci k : Nat} {v : Int32} (hd : decode E.2.1 pc = .ok (.getfield ix, 3)) (hf : FL E.1 ix ci k) (hT : T a = some (.inl ci)) (he : I a k = v) (hy : jj_int (kY ci k) = true) (hq : pc + 3 = q) (kk : JJ Γ E Zf Rm cells slots q vl (.int v :: st) (T, R, S, I, L, D, z)) : JJ Γ E Zf Rm cells slots pc vl (.ref a :: st) (T, R, S, I, L, D, z) := by
  subst he
  exact jj_getI hd hf hT hy hq kk
theorem u2_ap {α : Type} (f : Nat → Nat → α) (a k : Nat) (v : α) (b j : Nat) : u2 f a k v b j = if b = a then (if j = k then v else f b j) else f b j := rfl
theorem u2_blkn {w : Nat} {I K : JI} {a k c : Nat} {v : Int32} (h : k < w) (hc : c < 2 ^ 31) : u2 (blk w I a K) (a + k) (nI c).toNatClampNeg v = blk w I a (u2 K k c v) := by
  rw [nI_clamp hc]
  exact u2_blk h
theorem ex_atv {i : Int32} (hT : T a = some (.inr (.int, n))) (he : I a = f) (hn : Nat.blt n 2147483648 = true) : Ex Γ d Y_X8_at [.ref a, .int i] (T, R, S, I, L, D, z) 0 0 (rI (atV n f i) (T, R, S, I, L, D, z)) := by
  subst he
  exact ex_at hT (Nat.le_of_ble_eq_true hn)
theorem ex_putv {i x : Int32} (hT : T a = some (.inr (.int, n))) (he : putI I a n i x = I') (hn : Nat.blt n 2147483648 = true) : Ex Γ d Y_X8_put [.ref a, .int i, .int x] (T, R, S, I, L, D, z) 0 0 (rV (T, R, S, I', L, D, z)) := by
  subst he
  exact ex_put hT (Nat.le_of_ble_eq_true hn)
end JB
