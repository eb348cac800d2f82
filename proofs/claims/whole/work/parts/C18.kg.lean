/-! THE START: what the tables and the entry say -/
def FL1 : List Cond := flatC (Jvm.Cond.and given_1 narrow_1)
abbrev SQ : Type := Nat × String × Nat × String
def PL1 : List SQ := [(44, "BaggageLoop", 83, "n is not 0 to the number of bytes in the buffer"), (95, "BaggageLoop$Parser", 273, ";()<>="), (105, "BaggageLoop$Parser", 85, "loop"), (113, "BaggageLoop$Parser", 255, "the text has an error"), (138, "BaggageLoop$Parser", 107, "level"), (147, "BaggageLoop$Parser", 119, "hot"), (154, "BaggageLoop$Parser", 123, "seed"), (162, "BaggageLoop$Parser", 129, "flight"), (172, "BaggageLoop$Parser", 142, "lane"), (180, "BaggageLoop$Parser", 151, "bags"), (188, "BaggageLoop$Parser", 156, "shift"), (197, "BaggageLoop$Parser", 164, "keep"), (205, "BaggageLoop$Parser", 245, "wait"), (213, "BaggageLoop$Parser", 247, "laps"), (221, "BaggageLoop$Parser", 249, "load"), (229, "BaggageLoop$Parser", 251, "time"), (237, "BaggageLoop$Parser", 237, "not"), (244, "BaggageLoop$Parser", 226, "and"), (251, "BaggageLoop$Parser", 228, "or"), (257, "BaggageLoop", 341, "there is no airport"), (280, "BaggageLoop", 350, "there is no such number"), (307, "BaggageLoop", 352, "an argument is out of range"), (338, "BaggageLoop", 346, "the time would be greater than 9999"), (377, "BaggageLoop", 348, "the flight is closed"), (401, "BaggageLoop", 322, "the bag is not loaded"), (426, "BaggageLoop", 328, "the bag is in one of the states 10 to 13"), (470, "BaggageLoop", 333, "there is no change to undo"), (500, "BaggageLoop", 339, "nothing is saved in the slot"), (532, "BaggageLoopModel", 44, "wait"), (541, "BaggageLoopModel", 46, "laps"), (550, "BaggageLoopModel", 48, "level"), (560, "BaggageLoopModel", 50, "load"), (569, "BaggageLoopModel", 52, "time"), (578, "BaggageLoopModel", 154, "loop"), (587, "BaggageLoopModel", 160, "hot"), (595, "BaggageLoopModel", 162, "seed"), (604, "BaggageLoopModel", 209, "flight"), (615, "BaggageLoopModel", 214, "shift"), (625, "BaggageLoopModel", 219, "lane"), (634, "BaggageLoopModel", 224, "bags"), (643, "BaggageLoopModel", 229, "keep"), (652, "BaggageLoopModel", 192, "not"), (660, "BaggageLoopModel", 181, "and"), (668, "BaggageLoopModel", 183, "or")]
def sWo (q : SQ) : List Cond := .exactly (.string q.2.1 q.2.2.1) "java/lang/String" :: .eq (.field (.string q.2.1 q.2.2.1) "java/lang/String" "coder" "B") (.int 0) :: .arrayOf (.field (.string q.2.1 q.2.2.1) "java/lang/String" "value" "[B") .byte :: .eq (.length (.field (.string q.2.1 q.2.2.1) "java/lang/String" "value" "[B")) (.int (Int32.ofNat (sTx q.2.2.2).length)) :: (List.range (sTx q.2.2.2).length).map (fun j => .eq (.elem (.field (.string q.2.1 q.2.2.1) "java/lang/String" "value" "[B") (.int (Int32.ofNat j))) (.int ((sTx q.2.2.2).getD j 0)))
theorem pl_row : ∀ q ∈ PL1, (FL1.drop q.1).take ((sTx q.2.2.2).length + 4) = sWo q ∧ (sTx q.2.2.2).length < 2 ^ 31 := by decide +kernel
def srOf : Cond → Option (String × Nat × String)
  | .stringRef o i t => some (o, i, t)
  | _ => none
theorem sr_tbl : lw_tbl.filterMap srOf = PL1.map Prod.snd := by decide +kernel
theorem sr_in {own tx : String} {ix : Nat} (h : Cond.stringRef own ix tx ∈ lw_tbl) : ∃ p, (p, own, ix, tx) ∈ PL1 := by
  have h1 : (own, ix, tx) ∈ PL1.map Prod.snd := by rw [← sr_tbl]; exact List.mem_filterMap.mpr ⟨_, h, rfl⟩
  obtain ⟨q, h2, h3⟩ := List.mem_map.mp h1
  obtain ⟨p, q2⟩ := q
  subst h3
  exact ⟨p, h2⟩
section C18
variable {s : State} {args : Array Value} {A : Nat → Prop}
theorem va_OF1 {v w : Value} {a : Nat} {H : Heap} {fo fn fd : String} (h : va_OF fo fn fd v a A s H) (g : va_OF fo fn fd w a A s H) : v = w := by
  obtain ⟨cf, k, i, f, cell, h1, h2, h3, h4, h5, h6⟩ := h
  obtain ⟨cf2, k2, i2, f2, cell2, g1, g2, g3, g4, g5, g6⟩ := g
  rw [h1] at g1
  cases g1
  rw [h3] at g3
  cases g3
  rw [h5] at g5
  exact Option.some.inj g5
/-- a String constant at the start: where it lies, where its bytes lie -/
def KS1 (s : State) (args : Array Value) (A : Nat → Prop) (own : String) (ix : Nat) (tx : String) (a t : Nat) : Prop := (Term.string own ix).eval args s none [] s = some (.ref a) ∧ va_O "java/lang/String" a A s s.heap ∧ va_OF "java/lang/String" "coder" "B" (.int 0) a A s s.heap ∧ va_OF "java/lang/String" "value" "[B" (.ref t) a A s s.heap ∧ va_T .byte t (sTx tx).length (fun j => .int ((sTx tx).getD j 0)) A s s.heap
theorem ks_one {own tx : String} {ix : Nat} (hg : ∀ w ∈ FL1, w.before args s = true) (hm : Cond.stringRef own ix tx ∈ lw_tbl) (hA : ∀ a : Nat, a < s.heap.size → ¬ A a) : ∃ a t, KS1 s args A own ix tx a t := by
  obtain ⟨p, hp⟩ := sr_in hm
  obtain ⟨hr, hN⟩ := pl_row _ hp
  have h : ∀ w ∈ sWo (p, own, ix, tx), w.before args s = true := fun w hw => hg w (List.mem_of_mem_drop (List.mem_of_mem_take (by rw [hr]; exact hw)))
  obtain ⟨a, c, cA, kA, q1, q2, q3, q4, q5, q6, -⟩ := Cond.exactly_spec (args := args) (first := s) (o := none) (s := s) (idx := []) (t := .string own ix) (cls := "java/lang/String") (h _ List.mem_cons_self)
  obtain ⟨t, ht, hT⟩ := va_Tof (f := fun j => .int ((sTx tx).getD j 0)) (A := A) hN (h _ (List.mem_cons_of_mem _ (List.mem_cons_of_mem _ List.mem_cons_self))) (va_eqt (h _ (List.mem_cons_of_mem _ (List.mem_cons_of_mem _ (List.mem_cons_of_mem _ List.mem_cons_self))))) (fun j hj => va_eqt (h _ (List.mem_cons_of_mem _ (List.mem_cons_of_mem _ (List.mem_cons_of_mem _ (List.mem_cons_of_mem _ (List.mem_map.mpr ⟨j, List.mem_range.mpr hj, rfl⟩))))))) hA
  exact ⟨a, t, q1, ⟨cA, q3, q5, by rw [q6]; exact q2, hA a (Array.getElem?_eq_some_iff.mp q3).1⟩, vk_OFof q1 (va_eqt (h _ (List.mem_cons_of_mem _ List.mem_cons_self))) hA, vk_OFof q1 ht hA, hT⟩
theorem ks_all (hg : ∀ w ∈ FL1, w.before args s = true) (hA : ∀ a : Nat, a < s.heap.size → ¬ A a) : ∃ (ss : String → Nat → Nat) (sv : Nat → Nat), ∀ own ix tx, Cond.stringRef own ix tx ∈ lw_tbl → KS1 s args A own ix tx (ss own ix) (sv (ss own ix)) := by
  have h0 : ∀ q : String × Nat, ∃ a : Nat, ∀ tx, Cond.stringRef q.1 q.2 tx ∈ lw_tbl → ∃ t, KS1 s args A q.1 q.2 tx a t := by
    intro q
    by_cases hq : ∃ tx, Cond.stringRef q.1 q.2 tx ∈ lw_tbl
    · obtain ⟨tx, hm⟩ := hq
      obtain ⟨a, t, hk⟩ := ks_one hg hm hA
      refine ⟨a, fun tx2 hm2 => ?_⟩
      obtain ⟨a2, t2, hk2⟩ := ks_one hg hm2 hA
      have e := hk.1.symm.trans hk2.1
      cases e
      exact ⟨t2, hk2⟩
    · exact ⟨0, fun tx hm => absurd ⟨tx, hm⟩ hq⟩
  obtain ⟨ss, hss⟩ := Classical.axiomOfChoice h0
  have h1 : ∀ a : Nat, ∃ t : Nat, ∀ own ix tx, Cond.stringRef own ix tx ∈ lw_tbl → ss (own, ix) = a → KS1 s args A own ix tx a t := by
    intro a
    by_cases hq : ∃ own ix tx, Cond.stringRef own ix tx ∈ lw_tbl ∧ ss (own, ix) = a
    · obtain ⟨own, ix, tx, hm, e⟩ := hq
      obtain ⟨t, hk⟩ := hss (own, ix) tx hm
      rw [e] at hk
      refine ⟨t, fun own2 ix2 tx2 hm2 e2 => ?_⟩
      obtain ⟨t2, hk2⟩ := hss (own2, ix2) tx2 hm2
      rw [e2] at hk2
      have e3 := va_OF1 hk.2.2.2.1 hk2.2.2.2.1
      cases e3
      exact hk2
    · exact ⟨0, fun own ix tx hm e => absurd ⟨own, ix, tx, hm, e⟩ hq⟩
  obtain ⟨sv, hsv⟩ := Classical.axiomOfChoice h1
  exact ⟨fun own ix => ss (own, ix), sv, fun own ix tx hm => hsv _ own ix tx hm rfl⟩

theorem kn_all (hts : ∀ w ∈ lw_tbl, w.before args s = true) : ∀ q ∈ vwCl, ∃ (cC : ClassId) (iS : Nat → Nat), u_Kn s q.1 q.2.1 q.2.2 cC iS := by
  intro q hq
  simp only [List.mem_cons, List.mem_nil_iff, or_false] at hq
  rcases hq with rfl | rfl | rfl | rfl | rfl | rfl | rfl | rfl | rfl
  · exact u_known (C := RX0) (T := TX0) (N := 8) (n := 8) hts (by decide +kernel) (hts _ (List.mem_filter.mp ki_0).1)
  · exact u_known (C := RX1) (T := TX1) (N := 3) (n := 3) hts (by decide +kernel) (hts _ (List.mem_filter.mp ki_1).1)
  · exact u_known (C := RX2) (T := TX2) (N := 10) (n := 10) hts (by decide +kernel) (hts _ (List.mem_filter.mp ki_2).1)
  · exact u_known (C := RX3) (T := TX3) (N := 17) (n := 17) hts (by decide +kernel) (hts _ (List.mem_filter.mp ki_3).1)
  · exact u_known (C := RX4) (T := TX4) (N := 16) (n := 16) hts (by decide +kernel) (hts _ (List.mem_filter.mp ki_4).1)
  · exact u_known (C := RX5) (T := TX5) (N := 6) (n := 6) hts (by decide +kernel) (hts _ (List.mem_filter.mp ki_5).1)
  · exact u_known (C := RX6) (T := TX6) (N := 2) (n := 2) hts (by decide +kernel) (hts _ (List.mem_filter.mp ki_6).1)
  · exact u_known (C := RX8) (T := TX8) (N := 14) (n := 14) hts (by decide +kernel) (hts _ (List.mem_filter.mp ki_7).1)
  · exact u_known (C := RX9) (T := TX9) (N := 37) (n := 37) hts (by decide +kernel) (hts _ (List.mem_filter.mp ki_8).1)
theorem ka_all (hts : ∀ w ∈ lw_tbl, w.before args s = true) : ∀ ty ∈ jj_tys, ∃ c : ClassId, (ArrOfT s c ty ∧ va_RA s c ty) ∧ ∀ C9 : String, ty = .object C9 → va_AO C9 s := by
  intro ty h
  simp only [List.mem_cons, List.mem_nil_iff, or_false] at h
  rcases h with rfl | rfl | rfl | rfl | rfl | rfl | rfl
  · obtain ⟨c, k, comp, h1, h2, h3⟩ := Cond.arrayClass_spec (hts _ (List.mem_filter.mp ka_int).1)
    exact ⟨c, ⟨fun n z => ⟨fun k h => (by cases h), k, h2, comp, h3⟩, h1⟩, fun C9 h => by cases h⟩
  · obtain ⟨c, k, comp, h1, h2, h3⟩ := Cond.arrayClass_spec (hts _ (List.mem_filter.mp ka_byte).1)
    exact ⟨c, ⟨fun n z => ⟨fun k h => (by cases h), k, h2, comp, h3⟩, h1⟩, fun C9 h => by cases h⟩
  · obtain ⟨c, k, comp, h1, h2, h3⟩ := Cond.arrayClass_spec (hts _ (List.mem_filter.mp ka_boolean).1)
    exact ⟨c, ⟨fun n z => ⟨fun k h => (by cases h), k, h2, comp, h3⟩, h1⟩, fun C9 h => by cases h⟩
  · obtain ⟨c, k, comp, h1, h2, h3⟩ := Cond.arrayClass_spec (hts _ (List.mem_filter.mp ka_long).1)
    exact ⟨c, ⟨fun n z => ⟨fun k h => (by cases h), k, h2, comp, h3⟩, h1⟩, fun C9 h => by cases h⟩
  · obtain ⟨c, k, comp, h1, h2, h3⟩ := Cond.arrayClass_spec (hts _ (List.mem_filter.mp ka_double).1)
    exact ⟨c, ⟨fun n z => ⟨fun k h => (by cases h), k, h2, comp, h3⟩, h1⟩, fun C9 h => by cases h⟩
  · have h0 := (hts _ (lw_m2 _ (List.mem_of_getElem? (i := 102) (by decide +kernel))) : (Cond.arrayOver (.object "BaggageLoop$State")).before args s = true)
    obtain ⟨comp, c, k, h1, h2, h3, h4, h5⟩ := Cond.arrayOver_spec h0
    exact ⟨c, ⟨fun n z => ⟨fun k h => (by cases h), k, h3, comp, h4⟩, k, comp, h3, h4, h1, h5⟩, fun C9 h => by cases h; exact va_AO.of h0⟩
  · have h0 := (hts _ (lw_m7 _ (List.mem_of_getElem? (i := 35) (by decide +kernel))) : (Cond.arrayOver (.object "java/lang/String")).before args s = true)
    obtain ⟨comp, c, k, h1, h2, h3, h4, h5⟩ := Cond.arrayOver_spec h0
    exact ⟨c, ⟨fun n z => ⟨fun k h => (by cases h), k, h3, comp, h4⟩, k, comp, h3, h4, h1, h5⟩, fun C9 h => by cases h; exact va_AO.of h0⟩
/-- the tables and the constant cells at the law's entry -/
theorem kg_start {b N : Nat} {xs : Nat → Int32} (hts : ∀ w ∈ lw_tbl, w.before #[Value.ref b] s = true) (hgv : (Jvm.Cond.and given_1 narrow_1).before #[Value.ref b] s = true) (hX : va_X b N xs s s.heap) (hbl : b < s.heap.size) : ∃ Γ : Gam, KG Γ s ∧ Γ.base = s.heap.size ∧ Γ.H0 = s.heap ∧ Γ.sc = (b, N, xs) := by
  have hg : ∀ w ∈ FL1, w.before #[Value.ref b] s = true := flat_of_before _ hgv
  have hA : ∀ a : Nat, a < s.heap.size → ¬ (fun q : Nat => s.heap.size ≤ q) a := fun a h => Nat.not_le.mpr h
  have h0 : ∀ c : Nat, ∃ x : ClassId × (Nat → Nat), ∀ q : vw_C, vwCl[c]? = some q → u_Kn s q.1 q.2.1 q.2.2 x.1 x.2 := by
    intro c
    cases hq : vwCl[c]? with
    | none => exact ⟨(0, fun _ => 0), fun q h => by cases h⟩
    | some q =>
      obtain ⟨cC, iS, h⟩ := kn_all hts q (List.mem_of_getElem? hq)
      exact ⟨(cC, iS), fun q2 h2 => by cases h2; exact h⟩
  obtain ⟨f, hf⟩ := Classical.axiomOfChoice h0
  have h1 : ∀ ty : FieldType, ∃ c : ClassId, ty ∈ jj_tys → (ArrOfT s c ty ∧ va_RA s c ty) ∧ ∀ C9 : String, ty = .object C9 → va_AO C9 s := by
    intro ty
    by_cases h : ty ∈ jj_tys
    · obtain ⟨c, h2⟩ := ka_all hts ty h
      exact ⟨c, fun _ => h2⟩
    · exact ⟨0, fun h2 => absurd h2 h⟩
  obtain ⟨cA, hcA⟩ := Classical.axiomOfChoice h1
  obtain ⟨ss, sv, hss⟩ := ks_all (A := fun q : Nat => s.heap.size ≤ q) hg hA
  refine ⟨((fun c => (f c).1, fun c => (f c).2), cA, s.heap.size, s.heap, ss, sv, (b, N, xs)), ⟨fun c q hq => hf c q hq, fun ty h => hcA ty h, fun w hw hn => va_Nw.of (jj_nest_on hn) (hts w hw), ⟨vx_Zqof (hts _ (lw_m3 _ (List.mem_of_getElem? (i := 30) (by decide +kernel)))) (hts _ (lw_m1 _ (List.mem_of_getElem? (i := 11) (by decide +kernel)))) (hg _ (List.mem_of_getElem? (i := 4) (by decide +kernel))) hA, vx_Zqof (hts _ (lw_m3 _ (List.mem_of_getElem? (i := 32) (by decide +kernel)))) (hts _ (lw_m1 _ (List.mem_of_getElem? (i := 11) (by decide +kernel)))) (hg _ (List.mem_of_getElem? (i := 5) (by decide +kernel))) hA⟩, fun own ix tx hm => ?_, ⟨va_Nc.of (hg _ (List.mem_of_getElem? (i := 32) (by decide +kernel))), va_Nc.of (hg _ (List.mem_of_getElem? (i := 21) (by decide +kernel))), va_Nc.of (hg _ (List.mem_of_getElem? (i := 43) (by decide +kernel))), va_Nc.of (hg _ (List.mem_of_getElem? (i := 20) (by decide +kernel))), va_Nc.of (hg _ (List.mem_of_getElem? (i := 42) (by decide +kernel))), va_Nc.of (hg _ (List.mem_of_getElem? (i := 31) (by decide +kernel)))⟩, va_Zof (hts _ (lw_m3 _ (List.mem_of_getElem? (i := 119) (by decide +kernel)))) (hts _ (lw_m1 _ (List.mem_of_getElem? (i := 16) (by decide +kernel)))) (va_eqt (hg _ (List.mem_of_getElem? (i := 6) (by decide +kernel)))) hA, va_Zqof (hts _ (lw_m3 _ (List.mem_of_getElem? (i := 158) (by decide +kernel)))) (hts _ (lw_m1 _ (List.mem_of_getElem? (i := 19) (by decide +kernel)))) (hg _ (List.mem_of_getElem? (i := 7) (by decide +kernel))) hA, ?_⟩, rfl, rfl, rfl⟩
  · have hk := hss own ix tx hm
    exact ⟨vk_R.of (hts _ hm) hk.1, hk.2.1, hk.2.2.1, hk.2.2.2.1, hk.2.2.2.2⟩
  · obtain ⟨scr, hcb, hof, hkn, hsz, hval⟩ := hX
    exact ⟨scr, hcb, hof, hkn, Nat.le_of_eq hsz.symm, by rw [hsz]; rfl, hval, Nat.not_le.mpr hbl⟩
end C18
