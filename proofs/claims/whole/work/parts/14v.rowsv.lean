/-! ROWS that take what is read or written by an equation -/
section JB
variable {Γ : Gam} {E : JE} {Zf : List Frame → Array Value → State → State → Prop} {Rm : Room} {cells slots pc q d n : Nat} {vl : List (Option Value)} {st : List Value}
variable {T : JT} {R S : JR} {I I' : JI} {L L' : JL} {D : JD} {z : Option Nat} {a : Nat} {f : Nat → Int32}
theorem jj_getIv {ix ci k : Nat} (hd : decode E.2.1 pc = .ok (.getfield ix, 3)) (hf : FL E.1 ix ci k) (hT : T a = some (.inl ci)) (he : I a = f) (hy : jj_int (kY ci k) = true) (hq : pc + 3 = q) (kk : JJ Γ E Zf Rm cells slots q vl (.int (f k) :: st) (T, R, S, I, L, D, z)) : JJ Γ E Zf Rm cells slots pc vl (.ref a :: st) (T, R, S, I, L, D, z) := by
  subst he
  exact jj_getI hd hf hT hy hq kk
theorem jj_getLv {ix ci k : Nat} {v : Int64} (hd : decode E.2.1 pc = .ok (.getfield ix, 3)) (hf : FL E.1 ix ci k) (hT : T a = some (.inl ci)) (he : L a k = v) (hy : kY ci k = .long) (hq : pc + 3 = q) (kk : JJ Γ E Zf Rm cells slots q vl (.long v :: st) (T, R, S, I, L, D, z)) : JJ Γ E Zf Rm cells slots pc vl (.ref a :: st) (T, R, S, I, L, D, z) := by
  subst he
  exact jj_getL hd hf hT hy hq kk
theorem jj_putIv {ix ci k : Nat} {x : Int32} (hd : decode E.2.1 pc = .ok (.putfield ix, 3)) (hf : FL E.1 ix ci k) (hT : T a = some (.inl ci)) (he : u2 I a k x = I') (hy : jj_int (kY ci k) = true) (hfin : (kT ci k).2.2.2 = false) (hn : narrow (kY ci k) (.int x) = .int x) (hfit : fits (kY ci k) (.int x) = true) (hq : pc + 3 = q) (kk : JJ Γ E Zf Rm cells slots q vl st (T, R, S, I', L, D, z)) : JJ Γ E Zf Rm cells slots pc vl (.int x :: .ref a :: st) (T, R, S, I, L, D, z) := by
  subst he
  exact jj_putI hd hf hT hy hfin hn hfit hq kk
theorem jj_putLv {ix ci k : Nat} {x : Int64} (hd : decode E.2.1 pc = .ok (.putfield ix, 3)) (hf : FL E.1 ix ci k) (hT : T a = some (.inl ci)) (he : u2 L a k x = L') (hy : kY ci k = .long) (hfin : (kT ci k).2.2.2 = false) (hq : pc + 3 = q) (kk : JJ Γ E Zf Rm cells slots q vl st (T, R, S, I, L', D, z)) : JJ Γ E Zf Rm cells slots pc vl (.long x :: .ref a :: st) (T, R, S, I, L, D, z) := by
  subst he
  exact jj_putL hd hf hT hy hfin hq kk
theorem jj_ialdv {i : Int32} (hd : decode E.2.1 pc = .ok (.iaload, 1)) (hT : T a = some (.inr (.int, n))) (he : I a = f) (hin : vp_in i n) (hq : pc + 1 = q) (kk : JJ Γ E Zf Rm cells slots q vl (.int (f i.toNatClampNeg) :: st) (T, R, S, I, L, D, z)) : JJ Γ E Zf Rm cells slots pc vl (.int i :: .ref a :: st) (T, R, S, I, L, D, z) := by
  subst he
  exact jj_iald hd hT hin rfl hq kk
theorem jj_baldv {i : Int32} (hd : decode E.2.1 pc = .ok (.baload, 1)) (hT : T a = some (.inr (.byte, n))) (he : I a = f) (hin : vp_in i n) (hq : pc + 1 = q) (kk : JJ Γ E Zf Rm cells slots q vl (.int (f i.toNatClampNeg) :: st) (T, R, S, I, L, D, z)) : JJ Γ E Zf Rm cells slots pc vl (.int i :: .ref a :: st) (T, R, S, I, L, D, z) := by
  subst he
  exact jj_bald hd hT hin rfl hq kk
theorem jj_iastv {i x : Int32} (hd : decode E.2.1 pc = .ok (.iastore, 1)) (hT : T a = some (.inr (.int, n))) (he : u2 I a i.toNatClampNeg x = I') (hin : vp_in i n) (hq : pc + 1 = q) (kk : JJ Γ E Zf Rm cells slots q vl st (T, R, S, I', L, D, z)) : JJ Γ E Zf Rm cells slots pc vl (.int x :: .int i :: .ref a :: st) (T, R, S, I, L, D, z) := by
  subst he
  exact jj_iast hd hT hin hq kk
theorem jj_bastv {i x : Int32} (hd : decode E.2.1 pc = .ok (.bastore, 1)) (hT : T a = some (.inr (.byte, n))) (he : u2 I a i.toNatClampNeg x.toInt8.toInt32 = I') (hin : vp_in i n) (hq : pc + 1 = q) (kk : JJ Γ E Zf Rm cells slots q vl st (T, R, S, I', L, D, z)) : JJ Γ E Zf Rm cells slots pc vl (.int x :: .int i :: .ref a :: st) (T, R, S, I, L, D, z) := by
  subst he
  exact jj_bast hd hT hin hq kk
end JB
