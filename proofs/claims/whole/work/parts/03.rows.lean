/-! ROWS: an instruction, a row, over JJ -/
section JR1
variable {Γ : Gam} {E : JE} {Zf : List Frame → Array Value → State → State → Prop} {R : Room} {cells slots pc q : Nat} {vl : List (Option Value)} {st : List Value} {M : JM}
theorem jj_iconst {n : Int} {v : Int32} (hd : decode E.2.1 pc = .ok (.iconst n, 1)) (hv : Int32.ofInt n = v) (hq : pc + 1 = q) (k : JJ Γ E Zf R cells slots q vl (.int v :: st) M) : JJ Γ E Zf R cells slots pc vl (st) M := by
  subst hq
  intro p l e s m args below meth c H locs ls C hR hlo hl
  exact lv_iconst C.1 C.2.1 hd hv (k p l e s m args below meth c H locs ls C hR hlo hl)
theorem jj_bipush {n : Int} {v : Int32} (hd : decode E.2.1 pc = .ok (.bipush n, 2)) (hv : (Int8.ofInt n).toInt32 = v) (hq : pc + 2 = q) (k : JJ Γ E Zf R cells slots q vl (.int v :: st) M) : JJ Γ E Zf R cells slots pc vl (st) M := by
  subst hq
  intro p l e s m args below meth c H locs ls C hR hlo hl
  exact lv_bipush C.1 C.2.1 hd hv (k p l e s m args below meth c H locs ls C hR hlo hl)
theorem jj_sipush {n : Int} {v : Int32} (hd : decode E.2.1 pc = .ok (.sipush n, 3)) (hv : (Int16.ofInt n).toInt32 = v) (hq : pc + 3 = q) (k : JJ Γ E Zf R cells slots q vl (.int v :: st) M) : JJ Γ E Zf R cells slots pc vl (st) M := by
  subst hq
  intro p l e s m args below meth c H locs ls C hR hlo hl
  exact lv_sipush C.1 C.2.1 hd hv (k p l e s m args below meth c H locs ls C hR hlo hl)
theorem jj_lconst {n : Fin 2} {v : Int64} (hd : decode E.2.1 pc = .ok (.lconst n, 1)) (hv : Int64.ofNat (n : Nat) = v) (hq : pc + 1 = q) (k : JJ Γ E Zf R cells slots q vl (.long v :: st) M) : JJ Γ E Zf R cells slots pc vl (st) M := by
  subst hq
  intro p l e s m args below meth c H locs ls C hR hlo hl
  exact lv_lconst C.1 C.2.1 hd hv (k p l e s m args below meth c H locs ls C hR hlo hl)
theorem jj_fconst0  (hd : decode E.2.1 pc = .ok (.fconst 0, 1))  (hq : pc + 1 = q) (k : JJ Γ E Zf R cells slots q vl (.float FP.fconst0 :: st) M) : JJ Γ E Zf R cells slots pc vl (st) M := by
  subst hq
  intro p l e s m args below meth c H locs ls C hR hlo hl
  exact lv_fconst0 C.1 C.2.1 hd (k p l e s m args below meth c H locs ls C hR hlo hl)
theorem jj_ldci {ix : Nat} {v : Int32} (hd : decode E.2.1 pc = .ok (.ldc ix, 2)) (hc : Cond.constant E.1 ix v ∈ lw_good) (hq : pc + 2 = q) (k : JJ Γ E Zf R cells slots q vl (.int v :: st) M) : JJ Γ E Zf R cells slots pc vl (st) M := by
  subst hq
  intro p l e s m args below meth c H locs ls C hR hlo hl
  exact lv_ldc C.1 C.2.1 C.2.2.2.2.1 (C.2.2.2.2.2.1 _ hc) hd (k p l e s m args below meth c H locs ls C hR hlo hl)
theorem jj_ldcwi {ix : Nat} {v : Int32} (hd : decode E.2.1 pc = .ok (.ldc_w ix, 3)) (hc : Cond.constant E.1 ix v ∈ lw_good) (hq : pc + 3 = q) (k : JJ Γ E Zf R cells slots q vl (.int v :: st) M) : JJ Γ E Zf R cells slots pc vl (st) M := by
  subst hq
  intro p l e s m args below meth c H locs ls C hR hlo hl
  exact lv_ldcw C.1 C.2.1 C.2.2.2.2.1 (C.2.2.2.2.2.1 _ hc) hd (k p l e s m args below meth c H locs ls C hR hlo hl)
theorem jj_ldc2 {ix : Nat} {v : Int64} (hd : decode E.2.1 pc = .ok (.ldc2_w ix, 3)) (hc : Cond.constantLong E.1 ix v ∈ lw_good) (hq : pc + 3 = q) (k : JJ Γ E Zf R cells slots q vl (.long v :: st) M) : JJ Γ E Zf R cells slots pc vl (st) M := by
  subst hq
  intro p l e s m args below meth c H locs ls C hR hlo hl
  exact lv_ldc2 C.1 C.2.1 C.2.2.2.2.1 (C.2.2.2.2.2.1 _ hc) hd (k p l e s m args below meth c H locs ls C hR hlo hl)
theorem jj_iload_n {kk : Fin 4} {i : Nat} {x : Int32} (hd : decode E.2.1 pc = .ok (.iload_n kk, 1)) (hi : (kk : Nat) = i) (hv : vl[i]? = some (some (.int x))) (hq : pc + 1 = q) (k : JJ Γ E Zf R cells slots q vl (.int x :: st) M) : JJ Γ E Zf R cells slots pc vl (st) M := by
  subst hq
  intro p l e s m args below meth c H locs ls C hR hlo hl
  exact lv_iload_n C.1 C.2.1 hd hi (hl.at hv) (k p l e s m args below meth c H locs ls C hR hlo hl)
theorem jj_iload {i : Nat} {x : Int32} (hd : decode E.2.1 pc = .ok (.iload i, 2)) (hv : vl[i]? = some (some (.int x))) (hq : pc + 2 = q) (k : JJ Γ E Zf R cells slots q vl (.int x :: st) M) : JJ Γ E Zf R cells slots pc vl (st) M := by
  subst hq
  intro p l e s m args below meth c H locs ls C hR hlo hl
  exact lv_iload C.1 C.2.1 hd (hl.at hv) (k p l e s m args below meth c H locs ls C hR hlo hl)
theorem jj_aload_n {kk : Fin 4} {i : Nat} {x : Nat} (hd : decode E.2.1 pc = .ok (.aload_n kk, 1)) (hi : (kk : Nat) = i) (hv : vl[i]? = some (some (.ref x))) (hq : pc + 1 = q) (k : JJ Γ E Zf R cells slots q vl (.ref x :: st) M) : JJ Γ E Zf R cells slots pc vl (st) M := by
  subst hq
  intro p l e s m args below meth c H locs ls C hR hlo hl
  exact lv_aload_n C.1 C.2.1 hd hi (hl.at hv) (k p l e s m args below meth c H locs ls C hR hlo hl)
theorem jj_aload {i : Nat} {x : Nat} (hd : decode E.2.1 pc = .ok (.aload i, 2)) (hv : vl[i]? = some (some (.ref x))) (hq : pc + 2 = q) (k : JJ Γ E Zf R cells slots q vl (.ref x :: st) M) : JJ Γ E Zf R cells slots pc vl (st) M := by
  subst hq
  intro p l e s m args below meth c H locs ls C hR hlo hl
  exact lv_aload C.1 C.2.1 hd (hl.at hv) (k p l e s m args below meth c H locs ls C hR hlo hl)
theorem jj_fload_n {kk : Fin 4} {i : Nat} {x : UInt32} (hd : decode E.2.1 pc = .ok (.fload_n kk, 1)) (hi : (kk : Nat) = i) (hv : vl[i]? = some (some (.float x))) (hq : pc + 1 = q) (k : JJ Γ E Zf R cells slots q vl (.float x :: st) M) : JJ Γ E Zf R cells slots pc vl (st) M := by
  subst hq
  intro p l e s m args below meth c H locs ls C hR hlo hl
  exact lv_fload_n C.1 C.2.1 hd hi (hl.at hv) (k p l e s m args below meth c H locs ls C hR hlo hl)
theorem jj_fload {i : Nat} {x : UInt32} (hd : decode E.2.1 pc = .ok (.fload i, 2)) (hv : vl[i]? = some (some (.float x))) (hq : pc + 2 = q) (k : JJ Γ E Zf R cells slots q vl (.float x :: st) M) : JJ Γ E Zf R cells slots pc vl (st) M := by
  subst hq
  intro p l e s m args below meth c H locs ls C hR hlo hl
  exact lv_fload C.1 C.2.1 hd (hl.at hv) (k p l e s m args below meth c H locs ls C hR hlo hl)
theorem jj_istore_n {kk : Fin 4} {i : Nat} {x : Int32} (hd : decode E.2.1 pc = .ok (.istore_n kk, 1)) (hi : (kk : Nat) = i) (hn : i < E.2.2.1) (hq : pc + 1 = q) (k : JJ Γ E Zf R cells slots q (vl.set i (some (.int x))) st M) : JJ Γ E Zf R cells slots pc vl (.int x :: st) M := by
  subst hq
  intro p l e s m args below meth c H locs ls C hR hlo hl
  exact lv_istore_n C.1 C.2.1 hd hi hl.lv hn rfl (fun ls' h' => k p l e s m args below meth c H locs ls' C hR hlo (hl.set rfl h'))
theorem jj_istore {i : Nat} {x : Int32} (hd : decode E.2.1 pc = .ok (.istore i, 2))  (hn : i < E.2.2.1) (hq : pc + 2 = q) (k : JJ Γ E Zf R cells slots q (vl.set i (some (.int x))) st M) : JJ Γ E Zf R cells slots pc vl (.int x :: st) M := by
  subst hq
  intro p l e s m args below meth c H locs ls C hR hlo hl
  exact lv_istore C.1 C.2.1 hd hl.lv hn rfl (fun ls' h' => k p l e s m args below meth c H locs ls' C hR hlo (hl.set rfl h'))
theorem jj_astore_n {kk : Fin 4} {i : Nat} {x : Nat} (hd : decode E.2.1 pc = .ok (.astore_n kk, 1)) (hi : (kk : Nat) = i) (hn : i < E.2.2.1) (hq : pc + 1 = q) (k : JJ Γ E Zf R cells slots q (vl.set i (some (.ref x))) st M) : JJ Γ E Zf R cells slots pc vl (.ref x :: st) M := by
  subst hq
  intro p l e s m args below meth c H locs ls C hR hlo hl
  exact lv_astore_n C.1 C.2.1 hd hi hl.lv hn rfl (fun ls' h' => k p l e s m args below meth c H locs ls' C hR hlo (hl.set rfl h'))
theorem jj_astore {i : Nat} {x : Nat} (hd : decode E.2.1 pc = .ok (.astore i, 2))  (hn : i < E.2.2.1) (hq : pc + 2 = q) (k : JJ Γ E Zf R cells slots q (vl.set i (some (.ref x))) st M) : JJ Γ E Zf R cells slots pc vl (.ref x :: st) M := by
  subst hq
  intro p l e s m args below meth c H locs ls C hR hlo hl
  exact lv_astore C.1 C.2.1 hd hl.lv hn rfl (fun ls' h' => k p l e s m args below meth c H locs ls' C hR hlo (hl.set rfl h'))
theorem jj_fstore_n {kk : Fin 4} {i : Nat} {x : UInt32} (hd : decode E.2.1 pc = .ok (.fstore_n kk, 1)) (hi : (kk : Nat) = i) (hn : i < E.2.2.1) (hq : pc + 1 = q) (k : JJ Γ E Zf R cells slots q (vl.set i (some (.float x))) st M) : JJ Γ E Zf R cells slots pc vl (.float x :: st) M := by
  subst hq
  intro p l e s m args below meth c H locs ls C hR hlo hl
  exact lv_fstore_n C.1 C.2.1 hd hi hl.lv hn rfl (fun ls' h' => k p l e s m args below meth c H locs ls' C hR hlo (hl.set rfl h'))
theorem jj_fstore {i : Nat} {x : UInt32} (hd : decode E.2.1 pc = .ok (.fstore i, 2))  (hn : i < E.2.2.1) (hq : pc + 2 = q) (k : JJ Γ E Zf R cells slots q (vl.set i (some (.float x))) st M) : JJ Γ E Zf R cells slots pc vl (.float x :: st) M := by
  subst hq
  intro p l e s m args below meth c H locs ls C hR hlo hl
  exact lv_fstore C.1 C.2.1 hd hl.lv hn rfl (fun ls' h' => k p l e s m args below meth c H locs ls' C hR hlo (hl.set rfl h'))
theorem jj_iinc {i : Nat} {n : Int} {x v : Int32} (hd : decode E.2.1 pc = .ok (.iinc i n, 3)) (hv : vl[i]? = some (some (.int x))) (hw : x + Int32.ofInt n = v) (hn : i < E.2.2.1) (hq : pc + 3 = q) (k : JJ Γ E Zf R cells slots q (vl.set i (some (.int v))) st M) : JJ Γ E Zf R cells slots pc vl st M := by
  subst hq
  intro p l e s m args below meth c H locs ls C hR hlo hl
  obtain ⟨j, hj⟩ := List.getElem?_of_mem (jj_prs_mem (q := (i, Value.int x)).mpr hv)
  exact lv_iinc C.1 C.2.1 hd hl.lv hj hw hn rfl (fun ls' h' => k p l e s m args below meth c H locs ls' C hR hlo (hl.set rfl h'))
theorem jj_iadd {x y : Int32} (hd : decode E.2.1 pc = .ok (.iadd, 1))  (hq : pc + 1 = q) (k : JJ Γ E Zf R cells slots q vl (.int (x + y) :: st) M) : JJ Γ E Zf R cells slots pc vl (.int y :: .int x :: st) M := by
  subst hq
  intro p l e s m args below meth c H locs ls C hR hlo hl
  exact lv_iadd C.1 C.2.1 hd (k p l e s m args below meth c H locs ls C hR hlo hl)
theorem jj_isub {x y : Int32} (hd : decode E.2.1 pc = .ok (.isub, 1))  (hq : pc + 1 = q) (k : JJ Γ E Zf R cells slots q vl (.int (x - y) :: st) M) : JJ Γ E Zf R cells slots pc vl (.int y :: .int x :: st) M := by
  subst hq
  intro p l e s m args below meth c H locs ls C hR hlo hl
  exact lv_isub C.1 C.2.1 hd (k p l e s m args below meth c H locs ls C hR hlo hl)
theorem jj_imul {x y : Int32} (hd : decode E.2.1 pc = .ok (.imul, 1))  (hq : pc + 1 = q) (k : JJ Γ E Zf R cells slots q vl (.int (x * y) :: st) M) : JJ Γ E Zf R cells slots pc vl (.int y :: .int x :: st) M := by
  subst hq
  intro p l e s m args below meth c H locs ls C hR hlo hl
  exact lv_imul C.1 C.2.1 hd (k p l e s m args below meth c H locs ls C hR hlo hl)
theorem jj_iand {x y : Int32} (hd : decode E.2.1 pc = .ok (.iand, 1))  (hq : pc + 1 = q) (k : JJ Γ E Zf R cells slots q vl (.int (x &&& y) :: st) M) : JJ Γ E Zf R cells slots pc vl (.int y :: .int x :: st) M := by
  subst hq
  intro p l e s m args below meth c H locs ls C hR hlo hl
  exact lv_iand C.1 C.2.1 hd (k p l e s m args below meth c H locs ls C hR hlo hl)
theorem jj_ior {x y : Int32} (hd : decode E.2.1 pc = .ok (.ior, 1))  (hq : pc + 1 = q) (k : JJ Γ E Zf R cells slots q vl (.int (x ||| y) :: st) M) : JJ Γ E Zf R cells slots pc vl (.int y :: .int x :: st) M := by
  subst hq
  intro p l e s m args below meth c H locs ls C hR hlo hl
  exact lv_ior C.1 C.2.1 hd (k p l e s m args below meth c H locs ls C hR hlo hl)
theorem jj_ixor {x y : Int32} (hd : decode E.2.1 pc = .ok (.ixor, 1))  (hq : pc + 1 = q) (k : JJ Γ E Zf R cells slots q vl (.int (x ^^^ y) :: st) M) : JJ Γ E Zf R cells slots pc vl (.int y :: .int x :: st) M := by
  subst hq
  intro p l e s m args below meth c H locs ls C hR hlo hl
  exact lv_ixor C.1 C.2.1 hd (k p l e s m args below meth c H locs ls C hR hlo hl)
theorem jj_ishl {x y : Int32} (hd : decode E.2.1 pc = .ok (.ishl, 1))  (hq : pc + 1 = q) (k : JJ Γ E Zf R cells slots q vl (.int (x <<< (y &&& 31)) :: st) M) : JJ Γ E Zf R cells slots pc vl (.int y :: .int x :: st) M := by
  subst hq
  intro p l e s m args below meth c H locs ls C hR hlo hl
  exact lv_ishl C.1 C.2.1 hd (k p l e s m args below meth c H locs ls C hR hlo hl)
theorem jj_ishr {x y : Int32} (hd : decode E.2.1 pc = .ok (.ishr, 1))  (hq : pc + 1 = q) (k : JJ Γ E Zf R cells slots q vl (.int (x >>> (y &&& 31)) :: st) M) : JJ Γ E Zf R cells slots pc vl (.int y :: .int x :: st) M := by
  subst hq
  intro p l e s m args below meth c H locs ls C hR hlo hl
  exact lv_ishr C.1 C.2.1 hd (k p l e s m args below meth c H locs ls C hR hlo hl)
theorem jj_ladd {x y : Int64} (hd : decode E.2.1 pc = .ok (.ladd, 1))  (hq : pc + 1 = q) (k : JJ Γ E Zf R cells slots q vl (.long (x + y) :: st) M) : JJ Γ E Zf R cells slots pc vl (.long y :: .long x :: st) M := by
  subst hq
  intro p l e s m args below meth c H locs ls C hR hlo hl
  exact lv_ladd C.1 C.2.1 hd (k p l e s m args below meth c H locs ls C hR hlo hl)
theorem jj_lmul {x y : Int64} (hd : decode E.2.1 pc = .ok (.lmul, 1))  (hq : pc + 1 = q) (k : JJ Γ E Zf R cells slots q vl (.long (x * y) :: st) M) : JJ Γ E Zf R cells slots pc vl (.long y :: .long x :: st) M := by
  subst hq
  intro p l e s m args below meth c H locs ls C hR hlo hl
  exact lv_lmul C.1 C.2.1 hd (k p l e s m args below meth c H locs ls C hR hlo hl)
theorem jj_land {x y : Int64} (hd : decode E.2.1 pc = .ok (.land, 1))  (hq : pc + 1 = q) (k : JJ Γ E Zf R cells slots q vl (.long (x &&& y) :: st) M) : JJ Γ E Zf R cells slots pc vl (.long y :: .long x :: st) M := by
  subst hq
  intro p l e s m args below meth c H locs ls C hR hlo hl
  exact lv_land C.1 C.2.1 hd (k p l e s m args below meth c H locs ls C hR hlo hl)
theorem jj_lor {x y : Int64} (hd : decode E.2.1 pc = .ok (.lor, 1))  (hq : pc + 1 = q) (k : JJ Γ E Zf R cells slots q vl (.long (x ||| y) :: st) M) : JJ Γ E Zf R cells slots pc vl (.long y :: .long x :: st) M := by
  subst hq
  intro p l e s m args below meth c H locs ls C hR hlo hl
  exact lv_lor C.1 C.2.1 hd (k p l e s m args below meth c H locs ls C hR hlo hl)
theorem jj_idiv {x y : Int32} (hd : decode E.2.1 pc = .ok (.idiv, 1)) (hne : ¬ y = 0) (hq : pc + 1 = q) (k : JJ Γ E Zf R cells slots q vl (.int (x / y) :: st) M) : JJ Γ E Zf R cells slots pc vl (.int y :: .int x :: st) M := by
  subst hq
  intro p l e s m args below meth c H locs ls C hR hlo hl
  exact lv_idiv C.1 C.2.1 hd hne (k p l e s m args below meth c H locs ls C hR hlo hl)
theorem jj_irem {x y : Int32} (hd : decode E.2.1 pc = .ok (.irem, 1)) (hne : ¬ y = 0) (hq : pc + 1 = q) (k : JJ Γ E Zf R cells slots q vl (.int (x - x / y * y) :: st) M) : JJ Γ E Zf R cells slots pc vl (.int y :: .int x :: st) M := by
  subst hq
  intro p l e s m args below meth c H locs ls C hR hlo hl
  exact lv_irem C.1 C.2.1 hd hne (k p l e s m args below meth c H locs ls C hR hlo hl)
theorem jj_ldiv {x y : Int64} (hd : decode E.2.1 pc = .ok (.ldiv, 1)) (hne : ¬ y = 0) (hq : pc + 1 = q) (k : JJ Γ E Zf R cells slots q vl (.long (x / y) :: st) M) : JJ Γ E Zf R cells slots pc vl (.long y :: .long x :: st) M := by
  subst hq
  intro p l e s m args below meth c H locs ls C hR hlo hl
  exact lv_ldiv C.1 C.2.1 hd hne (k p l e s m args below meth c H locs ls C hR hlo hl)
theorem jj_lrem {x y : Int64} (hd : decode E.2.1 pc = .ok (.lrem, 1)) (hne : ¬ y = 0) (hq : pc + 1 = q) (k : JJ Γ E Zf R cells slots q vl (.long (x - x / y * y) :: st) M) : JJ Γ E Zf R cells slots pc vl (.long y :: .long x :: st) M := by
  subst hq
  intro p l e s m args below meth c H locs ls C hR hlo hl
  exact lv_lrem C.1 C.2.1 hd hne (k p l e s m args below meth c H locs ls C hR hlo hl)
theorem jj_lshl {x : Int64} {y : Int32} (hd : decode E.2.1 pc = .ok (.lshl, 1))  (hq : pc + 1 = q) (k : JJ Γ E Zf R cells slots q vl (.long (x <<< (y.toInt64 &&& 63)) :: st) M) : JJ Γ E Zf R cells slots pc vl (.int y :: .long x :: st) M := by
  subst hq
  intro p l e s m args below meth c H locs ls C hR hlo hl
  exact lv_lshl C.1 C.2.1 hd rfl (k p l e s m args below meth c H locs ls C hR hlo hl)
theorem jj_lshr {x : Int64} {y : Int32} (hd : decode E.2.1 pc = .ok (.lshr, 1))  (hq : pc + 1 = q) (k : JJ Γ E Zf R cells slots q vl (.long (x >>> (y.toInt64 &&& 63)) :: st) M) : JJ Γ E Zf R cells slots pc vl (.int y :: .long x :: st) M := by
  subst hq
  intro p l e s m args below meth c H locs ls C hR hlo hl
  exact lv_lshr C.1 C.2.1 hd rfl (k p l e s m args below meth c H locs ls C hR hlo hl)
theorem jj_i2l {x : Int32} (hd : decode E.2.1 pc = .ok (.i2l, 1))  (hq : pc + 1 = q) (k : JJ Γ E Zf R cells slots q vl (.long x.toInt64 :: st) M) : JJ Γ E Zf R cells slots pc vl (.int x :: st) M := by
  subst hq
  intro p l e s m args below meth c H locs ls C hR hlo hl
  exact lv_i2l C.1 C.2.1 hd rfl (k p l e s m args below meth c H locs ls C hR hlo hl)
theorem jj_l2i {x : Int64} (hd : decode E.2.1 pc = .ok (.l2i, 1))  (hq : pc + 1 = q) (k : JJ Γ E Zf R cells slots q vl (.int x.toInt32 :: st) M) : JJ Γ E Zf R cells slots pc vl (.long x :: st) M := by
  subst hq
  intro p l e s m args below meth c H locs ls C hR hlo hl
  exact lv_l2i C.1 C.2.1 hd rfl (k p l e s m args below meth c H locs ls C hR hlo hl)
theorem jj_i2b {x : Int32} (hd : decode E.2.1 pc = .ok (.i2b, 1))  (hq : pc + 1 = q) (k : JJ Γ E Zf R cells slots q vl (.int x.toInt8.toInt32 :: st) M) : JJ Γ E Zf R cells slots pc vl (.int x :: st) M := by
  subst hq
  intro p l e s m args below meth c H locs ls C hR hlo hl
  exact lv_i2b C.1 C.2.1 hd rfl (k p l e s m args below meth c H locs ls C hR hlo hl)
theorem jj_i2c {x : Int32} (hd : decode E.2.1 pc = .ok (.i2c, 1))  (hq : pc + 1 = q) (k : JJ Γ E Zf R cells slots q vl (.int (x.toUInt32 % 65536).toInt32 :: st) M) : JJ Γ E Zf R cells slots pc vl (.int x :: st) M := by
  subst hq
  intro p l e s m args below meth c H locs ls C hR hlo hl
  exact lv_i2c C.1 C.2.1 hd rfl (k p l e s m args below meth c H locs ls C hR hlo hl)
theorem jj_i2f {x : Int32} (hd : decode E.2.1 pc = .ok (.i2f, 1))  (hq : pc + 1 = q) (k : JJ Γ E Zf R cells slots q vl (.float (FP.i2f x) :: st) M) : JJ Γ E Zf R cells slots pc vl (.int x :: st) M := by
  subst hq
  intro p l e s m args below meth c H locs ls C hR hlo hl
  exact lv_i2f C.1 C.2.1 hd (k p l e s m args below meth c H locs ls C hR hlo hl)
theorem jj_fdiv {x y : UInt32} (hd : decode E.2.1 pc = .ok (.fdiv, 1)) (hne : vf_n32 (FP.fdiv x y)) (hq : pc + 1 = q) (k : JJ Γ E Zf R cells slots q vl (.float (FP.fdiv x y) :: st) M) : JJ Γ E Zf R cells slots pc vl (.float y :: .float x :: st) M := by
  subst hq
  intro p l e s m args below meth c H locs ls C hR hlo hl
  exact lv_fdiv C.1 C.2.1 hd hne (k p l e s m args below meth c H locs ls C hR hlo hl)
theorem jj_f2d {x : UInt32} (hd : decode E.2.1 pc = .ok (.f2d, 1)) (hne : vf_n64 (FP.f2d x)) (hq : pc + 1 = q) (k : JJ Γ E Zf R cells slots q vl (.double (FP.f2d x) :: st) M) : JJ Γ E Zf R cells slots pc vl (.float x :: st) M := by
  subst hq
  intro p l e s m args below meth c H locs ls C hR hlo hl
  exact lv_f2d C.1 C.2.1 hd hne (k p l e s m args below meth c H locs ls C hR hlo hl)
theorem jj_fcmp {x y : UInt32} {op : CmpOp} (hd : decode E.2.1 pc = .ok (.fcmp op, 1))  (hq : pc + 1 = q) (k : JJ Γ E Zf R cells slots q vl (.int (Op.cmpValue (FP.fcmp x y) op) :: st) M) : JJ Γ E Zf R cells slots pc vl (.float y :: .float x :: st) M := by
  subst hq
  intro p l e s m args below meth c H locs ls C hR hlo hl
  exact lv_fcmp C.1 C.2.1 hd (k p l e s m args below meth c H locs ls C hR hlo hl)
theorem jj_dcmp {x y : UInt64} {op : CmpOp} (hd : decode E.2.1 pc = .ok (.dcmp op, 1))  (hq : pc + 1 = q) (k : JJ Γ E Zf R cells slots q vl (.int (Op.cmpValue (FP.dcmp x y) op) :: st) M) : JJ Γ E Zf R cells slots pc vl (.double y :: .double x :: st) M := by
  subst hq
  intro p l e s m args below meth c H locs ls C hR hlo hl
  exact lv_dcmp C.1 C.2.1 hd (k p l e s m args below meth c H locs ls C hR hlo hl)
theorem jj_lcmp {x y : Int64} (hd : decode E.2.1 pc = .ok (.lcmp, 1))  (hq : pc + 1 = q) (k : JJ Γ E Zf R cells slots q vl (.int (lg_cmp x y) :: st) M) : JJ Γ E Zf R cells slots pc vl (.long y :: .long x :: st) M := by
  subst hq
  intro p l e s m args below meth c H locs ls C hR hlo hl
  exact W.lcmp C.1 C.2.1 hd (k p l e s m args below meth c H locs ls C hR hlo hl)
theorem jj_dup {va : Value} (hd : decode E.2.1 pc = .ok (.dup, 1)) (hva : va.category = 1) (hq : pc + 1 = q) (k : JJ Γ E Zf R cells slots q vl (va :: va :: st) M) : JJ Γ E Zf R cells slots pc vl (va :: st) M := by
  subst hq
  intro p l e s m args below meth c H locs ls C hR hlo hl
  exact lv_dup C.1 C.2.1 hd hva (k p l e s m args below meth c H locs ls C hR hlo hl)
theorem jj_dup2 {va vb : Value} (hd : decode E.2.1 pc = .ok (.dup2, 1)) (hva : va.category = 1) (hvb : vb.category = 1) (hq : pc + 1 = q) (k : JJ Γ E Zf R cells slots q vl (va :: vb :: va :: vb :: st) M) : JJ Γ E Zf R cells slots pc vl (va :: vb :: st) M := by
  subst hq
  intro p l e s m args below meth c H locs ls C hR hlo hl
  exact lv_dup2_11 C.1 C.2.1 hd hva hvb (k p l e s m args below meth c H locs ls C hR hlo hl)
theorem jj_if_eq {x : Int32} {off : Int} {tgt : Nat} (hd : decode E.2.1 pc = .ok (.ifCond .eq off, 3)) (ht : (pc : Int) + off = (tgt : Int)) (hq : pc + 3 = q) (kt : x = 0 → JJ Γ E Zf R cells slots tgt vl st M) (kf : ¬ x = 0 → JJ Γ E Zf R cells slots q vl st M) : JJ Γ E Zf R cells slots pc vl (.int x :: st) M := by
  subst hq
  intro p l e s m args below meth c H locs ls C hR hlo hl
  exact lv_if_eq C.1 C.2.1 hd ht (fun h => kt h p l e s m args below meth c H locs ls C hR hlo hl) (fun h => kf h p l e s m args below meth c H locs ls C hR hlo hl)
theorem jj_if_ne {x : Int32} {off : Int} {tgt : Nat} (hd : decode E.2.1 pc = .ok (.ifCond .ne off, 3)) (ht : (pc : Int) + off = (tgt : Int)) (hq : pc + 3 = q) (kt : ¬ x = 0 → JJ Γ E Zf R cells slots tgt vl st M) (kf : x = 0 → JJ Γ E Zf R cells slots q vl st M) : JJ Γ E Zf R cells slots pc vl (.int x :: st) M := by
  subst hq
  intro p l e s m args below meth c H locs ls C hR hlo hl
  exact lv_if_ne C.1 C.2.1 hd ht (fun h => kt h p l e s m args below meth c H locs ls C hR hlo hl) (fun h => kf h p l e s m args below meth c H locs ls C hR hlo hl)
theorem jj_if_lt {x : Int32} {off : Int} {tgt : Nat} (hd : decode E.2.1 pc = .ok (.ifCond .lt off, 3)) (ht : (pc : Int) + off = (tgt : Int)) (hq : pc + 3 = q) (kt : x < 0 → JJ Γ E Zf R cells slots tgt vl st M) (kf : ¬ x < 0 → JJ Γ E Zf R cells slots q vl st M) : JJ Γ E Zf R cells slots pc vl (.int x :: st) M := by
  subst hq
  intro p l e s m args below meth c H locs ls C hR hlo hl
  exact lv_if_lt C.1 C.2.1 hd ht (fun h => kt h p l e s m args below meth c H locs ls C hR hlo hl) (fun h => kf h p l e s m args below meth c H locs ls C hR hlo hl)
theorem jj_if_ge {x : Int32} {off : Int} {tgt : Nat} (hd : decode E.2.1 pc = .ok (.ifCond .ge off, 3)) (ht : (pc : Int) + off = (tgt : Int)) (hq : pc + 3 = q) (kt : 0 ≤ x → JJ Γ E Zf R cells slots tgt vl st M) (kf : ¬ 0 ≤ x → JJ Γ E Zf R cells slots q vl st M) : JJ Γ E Zf R cells slots pc vl (.int x :: st) M := by
  subst hq
  intro p l e s m args below meth c H locs ls C hR hlo hl
  exact lv_if_ge C.1 C.2.1 hd ht (fun h => kt h p l e s m args below meth c H locs ls C hR hlo hl) (fun h => kf h p l e s m args below meth c H locs ls C hR hlo hl)
theorem jj_if_gt {x : Int32} {off : Int} {tgt : Nat} (hd : decode E.2.1 pc = .ok (.ifCond .gt off, 3)) (ht : (pc : Int) + off = (tgt : Int)) (hq : pc + 3 = q) (kt : 0 < x → JJ Γ E Zf R cells slots tgt vl st M) (kf : ¬ 0 < x → JJ Γ E Zf R cells slots q vl st M) : JJ Γ E Zf R cells slots pc vl (.int x :: st) M := by
  subst hq
  intro p l e s m args below meth c H locs ls C hR hlo hl
  exact lv_if_gt C.1 C.2.1 hd ht (fun h => kt h p l e s m args below meth c H locs ls C hR hlo hl) (fun h => kf h p l e s m args below meth c H locs ls C hR hlo hl)
theorem jj_if_le {x : Int32} {off : Int} {tgt : Nat} (hd : decode E.2.1 pc = .ok (.ifCond .le off, 3)) (ht : (pc : Int) + off = (tgt : Int)) (hq : pc + 3 = q) (kt : x ≤ 0 → JJ Γ E Zf R cells slots tgt vl st M) (kf : ¬ x ≤ 0 → JJ Γ E Zf R cells slots q vl st M) : JJ Γ E Zf R cells slots pc vl (.int x :: st) M := by
  subst hq
  intro p l e s m args below meth c H locs ls C hR hlo hl
  exact lv_if_le C.1 C.2.1 hd ht (fun h => kt h p l e s m args below meth c H locs ls C hR hlo hl) (fun h => kf h p l e s m args below meth c H locs ls C hR hlo hl)
theorem jj_icmp_eq {x y : Int32} {off : Int} {tgt : Nat} (hd : decode E.2.1 pc = .ok (.if_icmp .eq off, 3)) (ht : (pc : Int) + off = (tgt : Int)) (hq : pc + 3 = q) (kt : x = y → JJ Γ E Zf R cells slots tgt vl st M) (kf : ¬ x = y → JJ Γ E Zf R cells slots q vl st M) : JJ Γ E Zf R cells slots pc vl (.int y :: .int x :: st) M := by
  subst hq
  intro p l e s m args below meth c H locs ls C hR hlo hl
  exact lv_icmp_eq C.1 C.2.1 hd ht (fun h => kt h p l e s m args below meth c H locs ls C hR hlo hl) (fun h => kf h p l e s m args below meth c H locs ls C hR hlo hl)
theorem jj_icmp_ne {x y : Int32} {off : Int} {tgt : Nat} (hd : decode E.2.1 pc = .ok (.if_icmp .ne off, 3)) (ht : (pc : Int) + off = (tgt : Int)) (hq : pc + 3 = q) (kt : ¬ x = y → JJ Γ E Zf R cells slots tgt vl st M) (kf : x = y → JJ Γ E Zf R cells slots q vl st M) : JJ Γ E Zf R cells slots pc vl (.int y :: .int x :: st) M := by
  subst hq
  intro p l e s m args below meth c H locs ls C hR hlo hl
  exact lv_icmp_ne C.1 C.2.1 hd ht (fun h => kt h p l e s m args below meth c H locs ls C hR hlo hl) (fun h => kf h p l e s m args below meth c H locs ls C hR hlo hl)
theorem jj_icmp_lt {x y : Int32} {off : Int} {tgt : Nat} (hd : decode E.2.1 pc = .ok (.if_icmp .lt off, 3)) (ht : (pc : Int) + off = (tgt : Int)) (hq : pc + 3 = q) (kt : x < y → JJ Γ E Zf R cells slots tgt vl st M) (kf : ¬ x < y → JJ Γ E Zf R cells slots q vl st M) : JJ Γ E Zf R cells slots pc vl (.int y :: .int x :: st) M := by
  subst hq
  intro p l e s m args below meth c H locs ls C hR hlo hl
  exact lv_icmp_lt C.1 C.2.1 hd ht (fun h => kt h p l e s m args below meth c H locs ls C hR hlo hl) (fun h => kf h p l e s m args below meth c H locs ls C hR hlo hl)
theorem jj_icmp_ge {x y : Int32} {off : Int} {tgt : Nat} (hd : decode E.2.1 pc = .ok (.if_icmp .ge off, 3)) (ht : (pc : Int) + off = (tgt : Int)) (hq : pc + 3 = q) (kt : y ≤ x → JJ Γ E Zf R cells slots tgt vl st M) (kf : ¬ y ≤ x → JJ Γ E Zf R cells slots q vl st M) : JJ Γ E Zf R cells slots pc vl (.int y :: .int x :: st) M := by
  subst hq
  intro p l e s m args below meth c H locs ls C hR hlo hl
  exact lv_icmp_ge C.1 C.2.1 hd ht (fun h => kt h p l e s m args below meth c H locs ls C hR hlo hl) (fun h => kf h p l e s m args below meth c H locs ls C hR hlo hl)
theorem jj_icmp_gt {x y : Int32} {off : Int} {tgt : Nat} (hd : decode E.2.1 pc = .ok (.if_icmp .gt off, 3)) (ht : (pc : Int) + off = (tgt : Int)) (hq : pc + 3 = q) (kt : y < x → JJ Γ E Zf R cells slots tgt vl st M) (kf : ¬ y < x → JJ Γ E Zf R cells slots q vl st M) : JJ Γ E Zf R cells slots pc vl (.int y :: .int x :: st) M := by
  subst hq
  intro p l e s m args below meth c H locs ls C hR hlo hl
  exact lv_icmp_gt C.1 C.2.1 hd ht (fun h => kt h p l e s m args below meth c H locs ls C hR hlo hl) (fun h => kf h p l e s m args below meth c H locs ls C hR hlo hl)
theorem jj_icmp_le {x y : Int32} {off : Int} {tgt : Nat} (hd : decode E.2.1 pc = .ok (.if_icmp .le off, 3)) (ht : (pc : Int) + off = (tgt : Int)) (hq : pc + 3 = q) (kt : x ≤ y → JJ Γ E Zf R cells slots tgt vl st M) (kf : ¬ x ≤ y → JJ Γ E Zf R cells slots q vl st M) : JJ Γ E Zf R cells slots pc vl (.int y :: .int x :: st) M := by
  subst hq
  intro p l e s m args below meth c H locs ls C hR hlo hl
  exact lv_icmp_le C.1 C.2.1 hd ht (fun h => kt h p l e s m args below meth c H locs ls C hR hlo hl) (fun h => kf h p l e s m args below meth c H locs ls C hR hlo hl)
theorem jj_goto {off : Int} {tgt : Nat} (hd : decode E.2.1 pc = .ok (.goto off, 3)) (ht : (pc : Int) + off = (tgt : Int)) (k : JJ Γ E Zf R cells slots tgt vl st M) : JJ Γ E Zf R cells slots pc vl st M := by
  intro p l e s m args below meth c H locs ls C hR hlo hl
  exact lv_goto C.1 C.2.1 hd ht (k p l e s m args below meth c H locs ls C hR hlo hl)
theorem jj_tableIn {dflt lo hi : Int} {offs : Array Int} {len : Nat} {x : Int32} {off : Int} {tgt : Nat} (hd : decode E.2.1 pc = .ok (.tableswitch dflt lo hi offs, len)) (h1 : ¬ x.toInt < lo) (h2 : ¬ hi < x.toInt) (ho : offs[(x.toInt - lo).toNat]? = some off) (ht : (pc : Int) + off = (tgt : Int)) (k : JJ Γ E Zf R cells slots tgt vl st M) : JJ Γ E Zf R cells slots pc vl (.int x :: st) M := by
  intro p l e s m args below meth c H locs ls C hR hlo hl
  exact lv_tableIn C.1 C.2.1 hd h1 h2 ho ht (k p l e s m args below meth c H locs ls C hR hlo hl)
theorem jj_tableOut {dflt lo hi : Int} {offs : Array Int} {len : Nat} {x : Int32} {tgt : Nat} (hd : decode E.2.1 pc = .ok (.tableswitch dflt lo hi offs, len)) (h : x.toInt < lo ∨ hi < x.toInt) (ht : (pc : Int) + dflt = (tgt : Int)) (k : JJ Γ E Zf R cells slots tgt vl st M) : JJ Γ E Zf R cells slots pc vl (.int x :: st) M := by
  intro p l e s m args below meth c H locs ls C hR hlo hl
  exact lv_tableOut C.1 C.2.1 hd h ht (k p l e s m args below meth c H locs ls C hR hlo hl)
theorem jj_ifnull {x : Nat} {off : Int} (hd : decode E.2.1 pc = .ok (.ifnull off, 3)) (hq : pc + 3 = q) (k : JJ Γ E Zf R cells slots q vl st M) : JJ Γ E Zf R cells slots pc vl (.ref x :: st) M := by
  subst hq
  intro p l e s m args below meth c H locs ls C hR hlo hl
  exact lv_ifnull C.1 C.2.1 hd (k p l e s m args below meth c H locs ls C hR hlo hl)
theorem jj_widen {k n : Nat} (h1 : cells ≤ k) (h2 : slots ≤ n) (kk : JJ Γ E Zf R k n pc vl st M) : JJ Γ E Zf R cells slots pc vl st M := by
  intro p l e s m args below meth c H locs ls C hR hlo hl
  exact W.widen h1 h2 (kk p l e s m args below meth c H locs ls C hR hlo hl)
theorem jj_locs {vl' : List (Option Value)} (hl : vl'.length ≤ vl.length) (hs : ∀ (i : Nat) (v : Value), vl'[i]? = some (some v) → vl[i]? = some (some v)) (kk : JJ Γ E Zf R cells slots pc vl' st M) : JJ Γ E Zf R cells slots pc vl st M := by
  intro p l e s m args below meth c H locs ls C hR hlo hl'
  exact kk p l e s m args below meth c H locs ls C hR hlo (hl'.unk hl hs)
end JR1
