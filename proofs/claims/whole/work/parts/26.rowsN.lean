/-! ROWS for ints that are known as numbers -/
theorem nI_incn (e c : Nat) {n : Int} (h : Int32.ofInt n = nI c) : nI e + Int32.ofInt n = nI (e + c) := by rw [h, nI_add]
section JN
variable {Γ : Gam} {E : JE} {Zf : List Frame → Array Value → State → State → Prop} {Rm : Room} {cells slots pc q n : Nat} {vl : List (Option Value)} {st : List Value}
variable {T : JT} {R S : JR} {I I' : JI} {L : JL} {D : JD} {z : Option Nat} {ad : Nat} {f : Nat → Int32} {M : JM}
theorem jj_iaddN {x y : Int32} {a b : Nat} (hd : decode E.2.1 pc = .ok (.iadd, 1)) (hx : x = nI a) (hy : y = nI b) (hq : pc + 1 = q) (k : JJ Γ E Zf Rm cells slots q vl (.int (nI (a + b)) :: st) M) : JJ Γ E Zf Rm cells slots pc vl (.int y :: .int x :: st) M := by
  subst hx; subst hy
  refine jj_iadd hd hq ?_
  rw [nI_add]
  exact k
theorem jj_imulN {x y : Int32} {a b : Nat} (hd : decode E.2.1 pc = .ok (.imul, 1)) (hx : x = nI a) (hy : y = nI b) (hq : pc + 1 = q) (k : JJ Γ E Zf Rm cells slots q vl (.int (nI (a * b)) :: st) M) : JJ Γ E Zf Rm cells slots pc vl (.int y :: .int x :: st) M := by
  subst hx; subst hy
  refine jj_imul hd hq ?_
  rw [pk_mul]
  exact k
theorem jj_isubN {x y : Int32} {a b e : Nat} (hd : decode E.2.1 pc = .ok (.isub, 1)) (hx : x = nI a) (hy : y = nI b) (he : e + b = a) (hq : pc + 1 = q) (k : JJ Γ E Zf Rm cells slots q vl (.int (nI e) :: st) M) : JJ Γ E Zf Rm cells slots pc vl (.int y :: .int x :: st) M := by
  subst hx; subst hy
  refine jj_isub hd hq ?_
  rw [pk_sub (by omega), show a - b = e by omega]
  exact k
theorem jj_ialdN {i : Int32} {j : Nat} (hd : decode E.2.1 pc = .ok (.iaload, 1)) (hT : T ad = some (.inr (.int, n))) (he : I ad = f) (hi : i = nI j) (hj : j < n ∧ n < 2 ^ 31) (hq : pc + 1 = q) (kk : JJ Γ E Zf Rm cells slots q vl (.int (f j) :: st) (T, R, S, I, L, D, z)) : JJ Γ E Zf Rm cells slots pc vl (.int i :: .ref ad :: st) (T, R, S, I, L, D, z) := by
  subst hi
  refine jj_ialdv hd hT he (vp_in_nI hj.1 hj.2) hq ?_
  rw [nI_clamp (by omega)]
  exact kk
theorem jj_ialdW {i v : Int32} {j : Nat} (hd : decode E.2.1 pc = .ok (.iaload, 1)) (hT : T ad = some (.inr (.int, n))) (he : I ad = f) (hi : i = nI j) (hj : j < n ∧ n < 2 ^ 31) (hv : f j = v) (hq : pc + 1 = q) (kk : JJ Γ E Zf Rm cells slots q vl (.int v :: st) (T, R, S, I, L, D, z)) : JJ Γ E Zf Rm cells slots pc vl (.int i :: .ref ad :: st) (T, R, S, I, L, D, z) := by
  subst hv
  exact jj_ialdN hd hT he hi hj hq kk
theorem jj_iastN {i x : Int32} {j : Nat} (hd : decode E.2.1 pc = .ok (.iastore, 1)) (hT : T ad = some (.inr (.int, n))) (he : u2 I ad j x = I') (hi : i = nI j) (hj : j < n ∧ n < 2 ^ 31) (hq : pc + 1 = q) (kk : JJ Γ E Zf Rm cells slots q vl st (T, R, S, I', L, D, z)) : JJ Γ E Zf Rm cells slots pc vl (.int x :: .int i :: .ref ad :: st) (T, R, S, I, L, D, z) := by
  subst hi; subst he
  refine jj_iastv hd hT rfl (vp_in_nI hj.1 hj.2) hq ?_
  rw [nI_clamp (by omega)]
  exact kk
end JN
