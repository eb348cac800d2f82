/-! MEMORY: what the own cells hold, by address and place; T: class or array type and length; R: references (S: those of the two big classes); I, L, D: ints, longs, doubles; z: the heap's size where it is known -/
abbrev JT : Type := Nat → Option (Nat ⊕ (FieldType × Nat))
abbrev JR : Type := Nat → Nat → Option Nat
abbrev JI : Type := Nat → Nat → Int32
abbrev JL : Type := Nat → Nat → Int64
abbrev JD : Type := Nat → Nat → UInt64
abbrev JM : Type := JT × JR × JR × JI × JL × JD × Option Nat
def u2 {α : Type} (f : Nat → Nat → α) (a k : Nat) (v : α) : Nat → Nat → α := fun b j => if b = a then (if j = k then v else f b j) else f b j
def u1 {α : Type} (f : Nat → α) (a : Nat) (v : α) : Nat → α := fun b => if b = a then v else f b
/-! the classes, by number -/
def kR : Nat → String
  | 0 => RX0 | 1 => RX1 | 2 => RX2 | 3 => RX3 | 4 => RX4 | 5 => RX5 | 6 => RX6 | 7 => RX8 | _ => RX9
def kT : Nat → u_T
  | 0 => TX0 | 1 => TX1 | 2 => TX2 | 3 => TX3 | 4 => TX4 | 5 => TX5 | 6 => TX6 | 7 => TX8 | _ => TX9
def kN : Nat → Nat
  | 0 => 8 | 1 => 3 | 2 => 10 | 3 => 17 | 4 => 16 | 5 => 6 | 6 => 2 | 7 => 14 | _ => 37
def kY : Nat → Nat → FieldType
  | 0 => tyX0 | 1 => tyX1 | 2 => tyX2 | 3 => tyX3 | 4 => tyX4 | 5 => tyX5 | 6 => tyX6 | 7 => tyX8 | _ => tyX9
theorem k_nine {P : Nat → Prop} (h0 : P 0) (h1 : P 1) (h2 : P 2) (h3 : P 3) (h4 : P 4) (h5 : P 5) (h6 : P 6) (h7 : P 7) (h8 : P 8) : ∀ ci, ci < 9 → P ci
  | 0, _ => h0 | 1, _ => h1 | 2, _ => h2 | 3, _ => h3 | 4, _ => h4 | 5, _ => h5 | 6, _ => h6 | 7, _ => h7 | 8, _ => h8
theorem k_cl : ∀ ci, ci < 9 → vwCl[ci]? = some (kR ci, kT ci, kN ci) := k_nine rfl rfl rfl rfl rfl rfl rfl rfl rfl
theorem k_ty : ∀ ci, ci < 9 → ∀ k, k < kN ci → parseFieldDescriptor (kT ci k).2.2.1 = some (kY ci k) := k_nine tyX0_ok tyX1_ok tyX2_ok tyX3_ok tyX4_ok tyX5_ok tyX6_ok tyX8_ok tyX9_ok
theorem k_nm : ∀ ci, ci < 9 → ∀ a, a < kN ci → ∀ b, b < kN ci → a ≠ b → (kT ci a).2.1 ≠ (kT ci b).2.1 := k_nine nmX0 nmX1 nmX2 nmX3 nmX4 nmX5 nmX6 nmX8 nmX9
theorem k_lt {ci : Nat} {q : vw_C} (h : vwCl[ci]? = some q) : ci < 9 := by
  have := (List.getElem?_eq_some_iff.mp h).1
  exact this
/-! the tables' good words: the one list of words that every contract takes -/
def lw_good : List Cond := lw_tbl.filter goodWord
theorem lw_gd (i : Nat) {w : Cond} (h : lw_tbl[i]? = some w) (hg : goodWord w = true) : w ∈ lw_good := List.mem_filter.mpr ⟨List.mem_of_getElem? h, hg⟩
theorem lw_gin {ws : List Cond} (h : ∀ w ∈ ws, w ∈ lw_good) : GoodIn lw_good ws := fun w hw => ⟨h w hw, good_of_word (List.mem_filter.mp (h w hw)).2⟩
/-! what is fixed for a run: class numbers and slots; array classes; where the own cells begin, the heap there; where string constants lie (by class and entry), where their bytes lie -/
abbrev Gam : Type := va_G × (FieldType → ClassId) × Nat × Heap × (String → Nat → Nat) × (Nat → Nat) × (Nat × Nat × (Nat → Int32))
def Gam.D (Γ : Gam) : va_G := Γ.1
def Gam.cA (Γ : Gam) : FieldType → ClassId := Γ.2.1
def Gam.base (Γ : Gam) : Nat := Γ.2.2.1
def Gam.H0 (Γ : Gam) : Heap := Γ.2.2.2.1
def Gam.ss (Γ : Gam) : String → Nat → Nat := Γ.2.2.2.2.1
def Gam.sv (Γ : Gam) : Nat → Nat := Γ.2.2.2.2.2.1
/-- the law's script: where it lies, how long it is, what it holds -/
def Gam.sc (Γ : Gam) : Nat × Nat × (Nat → Int32) := Γ.2.2.2.2.2.2
def jj_rq (ci : Nat) (R S : JR) : JR := if 7 ≤ ci then S else R
def jj_fv (ci : Nat) (M : JM) (a k : Nat) : Value := match kY ci k with
  | .long => .long (M.2.2.2.2.1 a k)
  | .array _ => va_rf (jj_rq ci M.2.1 M.2.2.1 a k)
  | .object _ => va_rf (jj_rq ci M.2.1 M.2.2.1 a k)
  | _ => .int (M.2.2.2.1 a k)
def jj_ar (ty : FieldType) (M : JM) (a n : Nat) : vp_A := match ty with
  | .long => (n, .inr (.inl (M.2.2.2.2.1 a)))
  | .double => (n, .inr (.inr (.inr (.inl (M.2.2.2.2.2.1 a)))))
  | .object _ => (n, .inr (.inr (.inr (.inr (M.2.1 a)))))
  | _ => (n, .inl (M.2.2.2.1 a))
def jj_ce (Γ : Gam) (M : JM) (a : Nat) : Option va_E := match M.1 a with
  | none => none
  | some (.inl ci) => some (.inr (ci, (List.range (kN ci)).map (jj_fv ci M a)))
  | some (.inr q) => some (.inl (Γ.cA q.1, jj_ar q.1 M a q.2))
def jj_Rep (Γ : Gam) (M : JM) (H : Heap) : Prop := (∀ z, M.2.2.2.2.2.2 = some z → H.size = z) ∧ (∀ (a : Nat) (e : va_E), jj_ce Γ M a = some e → va_at Γ.D vwCl (a, e) H) ∧ (∀ a : Nat, a < Γ.base → H[a]? = Γ.H0[a]?) ∧ Γ.base ≤ H.size ∧ (∀ a : Nat, ¬ M.1 a = none → Γ.base ≤ a)
theorem jj_Rep.put {Γ : Gam} {M M' : JM} {H H' : Heap} {a : Nat} {e' : va_E} (h : jj_Rep Γ M H) (hT : M'.1 = M.1) (hz : M'.2.2.2.2.2.2 = M.2.2.2.2.2.2) (ha : ¬ M.1 a = none) (hc : jj_ce Γ M' a = some e') (he : va_at Γ.D vwCl (a, e') H') (ho : ∀ b : Nat, b ≠ a → jj_ce Γ M' b = jj_ce Γ M b) (hs : H'.size = H.size) (oq : ∀ q : Nat, q ≠ a → H'[q]? = H[q]?) : jj_Rep Γ M' H' := by
  obtain ⟨h1, h2, h3, h4, h5⟩ := h
  have hb := h5 a ha
  refine ⟨fun z hz' => ?_, fun b e hb' => ?_, fun b hb' => ?_, by rw [hs]; exact h4, fun b hb' => h5 b (by rw [← hT]; exact hb')⟩
  · rw [hs]; exact h1 z (by rw [← hz]; exact hz')
  · by_cases hba : b = a
    · subst hba
      rw [hc] at hb'
      cases hb'
      exact he
    · rw [ho b hba] at hb'
      exact (h2 b e hb').kept (oq b hba)
  · rw [oq b (fun z => by omega)]; exact h3 b hb'
abbrev jj_tys : List FieldType := [.int, .byte, .boolean, .long, .double, .object RX4, .object "java/lang/String"]
def jj_nest : Cond → Bool
  | .methodLinkNest _ _ _ _ => true
  | .castable _ _ => true
  | .declares _ => true
  | _ => false
/-- a text's bytes -/
def sTx (t : String) : List Int32 := t.toList.map (fun c => Int32.ofNat c.toNat)
abbrev xISE : String := "java/lang/IllegalStateException"
abbrev xIAE : String := "java/lang/IllegalArgumentException"
abbrev xIOB : String := "java/lang/IndexOutOfBoundsException"
def Gam.A (Γ : Gam) : Nat → Prop := fun q => Γ.base ≤ q
/-- a String constant: where it lies, what it holds -/
def KStr (Γ : Gam) (a : Nat) (tx : String) (U : State) : Prop := va_O "java/lang/String" a Γ.A U Γ.H0 ∧ va_OF "java/lang/String" "coder" "B" (.int 0) a Γ.A U Γ.H0 ∧ va_OF "java/lang/String" "value" "[B" (.ref (Γ.sv a)) a Γ.A U Γ.H0 ∧ va_T .byte (Γ.sv a) (sTx tx).length (fun j => .int ((sTx tx).getD j 0)) Γ.A U Γ.H0
/-- what the tables and the constant cells say, at a state -/
def KG (Γ : Gam) (U : State) : Prop :=
  (∀ (c : Nat) (q : vw_C), vwCl[c]? = some q → u_Kn U q.1 q.2.1 q.2.2 (Γ.D.1 c) (Γ.D.2 c)) ∧
  (∀ ty ∈ jj_tys, (ArrOfT U (Γ.cA ty) ty ∧ va_RA U (Γ.cA ty) ty) ∧ ∀ C9 : String, ty = .object C9 → va_AO C9 U) ∧
  (∀ w ∈ lw_tbl, jj_nest w = true → va_Nw w U) ∧
  (vx_Zq Bundle.tN "UNASSIGNED_STACK" Bundle.steD Γ.A U Γ.H0 ∧ vx_Zq Bundle.tN "SUPPRESSED_SENTINEL" Bundle.listD Γ.A U Γ.H0) ∧
  (∀ (own : String) (ix : Nat) (tx : String), Cond.stringRef own ix tx ∈ lw_tbl → vk_R own ix tx (Γ.ss own ix) U ∧ KStr Γ (Γ.ss own ix) tx U) ∧
  (va_Nc xISE xIAE U ∧ va_Nc xISE xIOB U ∧ va_Nc xIAE xISE U ∧ va_Nc xIAE xIOB U ∧ va_Nc xIOB xISE U ∧ va_Nc xIOB xIAE U) ∧
  va_Z "java/lang/String" "COMPACT_STRINGS" "Z" (.int 1) Γ.A U Γ.H0 ∧
  va_Zq "jdk/internal/util/Preconditions" "SIOOBE_FORMATTER" "Ljava/util/function/BiFunction;" Γ.A U Γ.H0 ∧
  va_T .int Γ.sc.1 Γ.sc.2.1 (fun j => .int (Γ.sc.2.2 j)) Γ.A U Γ.H0
theorem KStr.warm {Γ : Gam} {a : Nat} {tx : String} {s U : State} (hW : s.vm.Alike U.vm) (h : KStr Γ a tx s) : KStr Γ a tx U := ⟨h.1.moved hW, h.2.1.moved hW, h.2.2.1.moved hW, h.2.2.2.moved hW⟩
theorem KG.warm {Γ : Gam} {s U : State} (hW : s.WarmedH U.vm) (h : KG Γ s) : KG Γ U := by
  have ha := hW.alike
  obtain ⟨h1, h2, h3, h4, h5, h6, h7, h8, h9⟩ := h
  refine ⟨fun c q hq => u_Kn_moved ha (h1 c q hq), fun ty ht => ⟨⟨arrOfT_moved ha (h2 ty ht).1.1, (h2 ty ht).1.2.moved ha⟩, fun C9 h => ((h2 ty ht).2 C9 h).moved ha⟩, fun w hw hn => ?_, ⟨h4.1.moved ha, h4.2.moved ha⟩, fun own ix tx hm => ⟨(h5 own ix tx hm).1.warm hW, (h5 own ix tx hm).2.warm ha⟩, ⟨h6.1.moved ha, h6.2.1.moved ha, h6.2.2.1.moved ha, h6.2.2.2.1.moved ha, h6.2.2.2.2.1.moved ha, h6.2.2.2.2.2.moved ha⟩, h7.moved ha, h8.moved ha, h9.moved ha⟩
  have h8 := h3 w hw hn
  cases w <;> first | exact va_Nw.warmM hW h8 | exact va_Nw.warmC hW h8 | exact va_tabs rfl (rfl : (s.setVm U.vm).vm = U.vm) (by rw [Cond.declares_setVm hW.alike]; exact h8) | cases hn
theorem KG.arr {Γ : Gam} {s : State} (h : KG Γ s) {ty : FieldType} (ht : ty ∈ jj_tys) : ArrOfT s (Γ.cA ty) ty ∧ va_RA s (Γ.cA ty) ty := (h.2.1 ty ht).1
theorem KG.ao {Γ : Gam} {s : State} (h : KG Γ s) {C9 : String} (ht : FieldType.object C9 ∈ jj_tys) : va_AO C9 s := (h.2.1 _ ht).2 C9 rfl
/-- the locals -/
def jj_has (ls : Array Slot) (nL : Nat) (vl : List (Option Value)) : Prop := ls.size = nL ∧ lv_wf ls ∧ vl.length ≤ nL ∧ ∀ (i : Nat) (v : Value), vl[i]? = some (some v) → v.category = 1 ∧ ls[i]? = some (.val v)
def jj_prs (vl : List (Option Value)) : List (Nat × Value) := (List.range vl.length).filterMap (fun i => (vl.getD i none).map (fun v => (i, v)))
theorem jj_prs_mem {vl : List (Option Value)} {q : Nat × Value} : q ∈ jj_prs vl ↔ vl[q.1]? = some (some q.2) := by
  unfold jj_prs
  rw [List.mem_filterMap]
  constructor
  · rintro ⟨i, hi, h⟩
    obtain ⟨v, hv, rfl⟩ := Option.map_eq_some_iff.mp h
    have hl : i < vl.length := List.mem_range.mp hi
    rw [List.getD_eq_getElem?_getD, List.getElem?_eq_getElem hl] at hv
    rw [List.getElem?_eq_getElem hl]
    simpa using hv
  · intro h
    have hl := (List.getElem?_eq_some_iff.mp h).1
    refine ⟨q.1, List.mem_range.mpr hl, ?_⟩
    rw [List.getD_eq_getElem?_getD, h]
    rfl
theorem jj_has.lv {ls : Array Slot} {nL : Nat} {vl : List (Option Value)} (h : jj_has ls nL vl) : lv_has ls nL (jj_prs vl) := ⟨h.1, h.2.1, fun q hq => (h.2.2.2 q.1 q.2 (jj_prs_mem.mp hq)).2⟩
theorem jj_has.at {ls : Array Slot} {nL : Nat} {vl : List (Option Value)} (h : jj_has ls nL vl) {i : Nat} {v : Value} (hv : vl[i]? = some (some v)) : ls[i]? = some (.val v) := (h.2.2.2 i v hv).2
theorem jj_has.set {ls ls' : Array Slot} {nL : Nat} {vl : List (Option Value)} (h : jj_has ls nL vl) {i : Nat} {v : Value} (hc : v.category = 1) (h' : lv_has ls' nL ((i, v) :: (jj_prs vl).filter (fun q => !(q.1 == i) && !(q.1 + 1 == i && q.2.category == 2)))) : jj_has ls' nL (vl.set i (some v)) := by
  refine ⟨h'.1, h'.2.1, by rw [List.length_set]; exact h.2.2.1, fun j w hj => ?_⟩
  by_cases hji : j = i
  · subst hji
    have hl := (List.getElem?_eq_some_iff.mp hj).1
    rw [List.length_set] at hl
    rw [List.getElem?_set_self hl] at hj
    cases hj
    exact ⟨hc, h'.2.2 (j, v) List.mem_cons_self⟩
  · rw [List.getElem?_set_ne (fun z => hji z.symm)] at hj
    obtain ⟨h1, h2⟩ := h.2.2.2 j w hj
    refine ⟨h1, h'.2.2 (j, w) (List.mem_cons_of_mem _ (List.mem_filter.mpr ⟨jj_prs_mem.mpr hj, ?_⟩))⟩
    simp [hji, h1]
/-- a local whose value isn't known any more -/
theorem jj_has.unk {ls : Array Slot} {nL : Nat} {vl vl' : List (Option Value)} (h : jj_has ls nL vl) (hl : vl'.length ≤ vl.length) (hs : ∀ (i : Nat) (v : Value), vl'[i]? = some (some v) → vl[i]? = some (some v)) : jj_has ls nL vl' := ⟨h.1, h.2.1, Nat.le_trans hl h.2.2.1, fun i v hv => h.2.2.2 i v (hs i v hv)⟩
/-! a method's own: class, bytes, locals, return type, table, name -/
abbrev JE : Type := String × ByteArray × Nat × Option FieldType × List ExceptionTableEntry × String
def Cx (Γ : Gam) (E : JE) (p : Program) (l : Launch) (s : State) (m : MethodId) (args : Array Value) (meth : Method) (c : Code) : Prop :=
  p.tables.exec = Jvm.exec ∧ c.code = E.2.1 ∧ c.maxLocals = E.2.2.1 ∧ meth.sig.returnType = E.2.2.2.1 ∧ s.vm.findClass E.1 = some m.cls ∧ (∀ w ∈ lw_good, w.before args s = true) ∧ KG Γ s ∧ meth.locks = false ∧ c.exceptionTable.toList = E.2.2.2.2.1 ∧ l.stackTraces = false ∧ meth.name = E.2.2.2.2.2 ∧ Γ.base ≤ s.heap.size
/-- THE JUDGEMENT: at pc, with these locals, this stack and this memory, the machine comes to the end Zf -/
def JJ (Γ : Gam) (E : JE) (Zf : List Frame → Array Value → State → State → Prop) (R : Room) (cells slots pc : Nat) (vl : List (Option Value)) (st : List Value) (M : JM) : Prop :=
  ∀ (p : Program) (l : Launch) (e : Env) (s : State) (m : MethodId) (args : Array Value) (below : List Frame) (meth : Method) (c : Code) (H : Heap) (locs : List Loc) (ls : Array Slot), Cx Γ E p l s m args meth c → jj_Rep Γ M H → (∀ q ∈ locs, Γ.base ≤ q.base) → jj_has ls E.2.2.1 vl → W p l e R s m args below meth c H locs cells slots (Zf below args s) (F0 m pc ls st)
