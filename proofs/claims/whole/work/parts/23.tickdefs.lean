/-! A TICK, STEP BY STEP, over the state's block K and the plan's block P -/
def vv (I : JI) (p : Nat) (V : Nat → Int32) : JI := fun b j => if b = p + 15 then V j else I b j
def pv (P : JI) (V : Nat → Int32) : JI := fun k j => if k = 15 then V j else P k j
def pnl (P : JI) : Nat := (P 0 8).toNatClampNeg
def pns (P : JI) : Nat := (P 0 11).toNatClampNeg
def pnt (P : JI) : Nat := (P 11 0).toNatClampNeg
def pto (P : JI) (t : Nat) : Nat := (P 12 t).toNatClampNeg
def pfr (P : JI) : Nat → Nat
  | 0 => 0
  | t + 1 => pto P t
def plen (P : JI) : Nat := (P 0 0).toNatClampNeg
def pnm (P : JI) (q : Nat) : Nat := (P 1 q).toNatClampNeg
/-- what a plan's block is like -/
def wP (P : JI) : Prop := (P 0 8 = nI (pnl P) ∧ pnl P ≤ 4) ∧ (P 0 11 = nI (pns P) ∧ pns P ≤ 4) ∧ (P 11 0 = nI (pnt P) ∧ pnt P ≤ 3) ∧ (∀ t, t < pnt P → P 12 t = nI (pto P t) ∧ pfr P t ≤ pto P t ∧ pto P t ≤ 600) ∧ (P 0 0 = nI (plen P) ∧ 4 ≤ plen P ∧ plen P ≤ 40) ∧ (∀ q, q < 3 → P 1 q = nI (pnm P q) ∧ pnm P q ≤ 4) ∧ (∀ l, l < 4 → ∃ n, n ≤ 20 ∧ P 6 l = nI n)
/-- the lanes' sizes are numbers up to 20 -/
def lW (K : JI) : Prop := ∀ l, l < 4 → ∃ n, n ≤ 20 ∧ K 12 l = nI n
def kMi (lv m : Int32) : Int32 := (lv - 1) * 4 + m
def kWk (P K : JI) (lv m : Int32) : Int32 := if K 0 0 ≤ atV 12 (K 17) (kMi lv m) then 0 else if srch (pOff P lv m (K 0 0)) (pns P) (fun _ => 1) 0 = 0 then 1 else 0
def kAA (lv : Int32) : Int32 := if lv = 3 then 12 else 2 * (lv + 1) - 1
def kAL (K : JI) (l b : Int32) : JI := putI (putI K 13 80 (l * 20 + atV 4 (K 12) l) b) 12 4 l (atV 4 (K 12) l + 1)
def rfL (l : Nat) : Nat → Nat → JI → JI
  | 0, _, K => K
  | k + 1, i, K => rfL l k (i + 1) (u2 K 13 (l * 20 + i - 1) (K 13 (l * 20 + i)))
def kRF (K : JI) (l n : Nat) : JI := u2 (rfL l (n - 1) 1 K) 12 l (nI n - 1)
def kLT (P K : JI) (l b : Int32) : Int32 := if atV 4 (K 11) l = 1 then 0 else if atV 4 (K 12) l < atV 4 (P 6) l then (if atV 4 (K 12) l = 0 then 1 else if atV 8 (K 9) (atV 100 (K 3) b) < atV 8 (K 9) (atV 100 (K 3) (atV 80 (K 13) (l * 20 + atV 4 (K 12) l - 1))) then 0 else 1) else 0
def hV5 (K : JI) (b : Int32) : Nat → Int32
  | 0 => if 0 < atV 8 (K 9) (atV 100 (K 3) b) - K 0 0 then atV 8 (K 9) (atV 100 (K 3) b) - K 0 0 else 0
  | 1 => atV 100 (K 5) b
  | 2 => atV 100 (K 6) b
  | 3 => atV 14 (K 8) 8
  | _ => K 0 0
def pHB (P K : JI) (b : Int32) : Nat → Bool := fun t => decide (¬ hHo (pv P (hV5 K b)) (pfr P t) (pto P t) = 0)
def kHB (P K : JI) (b : Int32) : Int32 := if P 11 0 = 0 then 0 else srch (pHB P K b) (pnt P) (fun _ => 1) 0
def kOn (P : JI) (x : Int32) : Int32 := srch (pOn P x) (pnl P) nI (-1)
def kSA (P K : JI) (x b : Int32) : Int32 := if kPhB K b = 1 then (if atV 8 (P 4) (atV 100 (K 3) b) = x then 10 else 8) else if kPhB K b = 2 then (if x = P 0 2 then 11 else 8) else if kOn P x = -1 then 8 else if kLT P K (kOn P x) b = 0 then 8 else if kHB P K b = 0 then 9 else 8
/-- (c) at one position -/
def tkS (P : JI) (i : Nat) (K : JI) : JI := if K 14 i = -1 then K else if kSA P K (nI i) (K 14 i) = 8 then K else if kSA P K (nI i) (K 14 i) = 9 then kAL (kEn (u2 K 14 i (-1)) (K 14 i) (kSA P K (nI i) (K 14 i))) (kOn P (nI i)) (K 14 i) else kEn (u2 K 14 i (-1)) (K 14 i) (kSA P K (nI i) (K 14 i))
def tkL (P : JI) : Nat → Nat → JI → JI
  | 0, _, K => K
  | k + 1, i, K => if K 8 8 ≤ 0 then K else tkL P k (i + 1) (tkS P i K)
/-- (d) at one lane -/
def emS (P : JI) (l : Nat) (K : JI) : JI := if K 12 l ≤ 0 then K else if atV 40 (K 14) (P 5 l) = -1 then (if kPhB K (K 13 (l * 20)) = 0 then K else kEn (putI (kRF K l (K 12 l).toNatClampNeg) 14 40 (P 5 l) (K 13 (l * 20))) (K 13 (l * 20)) 8) else K
def emL (P : JI) : Nat → Nat → JI → JI
  | 0, _, K => K
  | k + 1, i, K => emL P k (i + 1) (emS P i K)
/-- (e) at one machine -/
def wmS (P : JI) (lv : Int32) (m : Nat) (x : JI × Int64) : JI × Int64 := if atV 12 (x.1 15) (kMi lv (nI m)) = -1 then x else if kWk P x.1 lv (nI m) = 0 then x else if atV 12 (x.1 16) (kMi lv (nI m)) - 1 = 0 then (kEn (putI (putI x.1 16 12 (kMi lv (nI m)) (atV 12 (x.1 16) (kMi lv (nI m)) - 1)) 15 12 (kMi lv (nI m)) (-1)) (atV 12 (x.1 15) (kMi lv (nI m))) (if atV 3 (P 3) (lv - 1) ≤ dDraw x.2 then 7 else kAA lv), rDraw x.2) else (putI x.1 16 12 (kMi lv (nI m)) (atV 12 (x.1 16) (kMi lv (nI m)) - 1), x.2)
def wmL (P : JI) (lv : Int32) : Nat → Nat → JI × Int64 → JI × Int64
  | 0, _, x => x
  | k + 1, i, x => wmL P lv k (i + 1) (wmS P lv i x)
/-- (f) at one machine -/
def fmS (P : JI) (c : Nat) (lv : Int32) (m : Nat) (K : JI) : JI := if atV 12 (K 15) (kMi lv (nI m)) = -1 then (if kWk P K lv (nI m) = 0 then K else if kFQ K (2 * lv - 1) c = -1 then K else kEn (putI (putI (putI K 15 12 (kMi lv (nI m)) (kFQ K (2 * lv - 1) c)) 16 12 (kMi lv (nI m)) (atV 3 (P 2) (lv - 1))) 6 100 (kFQ K (2 * lv - 1) c) lv) (kFQ K (2 * lv - 1) c) (2 * lv - 1 + 1)) else K
def fmL (P : JI) (c : Nat) (lv : Int32) : Nat → Nat → JI → JI
  | 0, _, K => K
  | k + 1, i, K => fmL P c lv k (i + 1) (fmS P c lv i K)
def fmA (P : JI) (c : Nat) (lv : Int32) (n : Nat) (K : JI) : JI := if atV 14 (K 8) (2 * lv - 1) = 0 then K else fmL P c lv n 0 K
/-- (g) -/
def fEn (P : JI) (c : Nat) (K : JI) : JI := if atV 40 (K 14) (P 0 1) = -1 then (if kFQ K 7 c = -1 then K else kEn (putI (putI K 14 40 (P 0 1) (kFQ K 7 c)) 5 100 (kFQ K 7 c) 0) (kFQ K 7 c) 8) else K
/-- (b) -/
def mv1 (P K : JI) : JI := u2 (uC K 14 0 14 1 (plen P - 1)) 14 0 (K 14 (plen P - 1))
def mvL (P K : JI) : JI := if K 8 8 = 0 then K else if atV 40 (mv1 P K 14) (P 0 1) = -1 then mv1 P K else putI (mv1 P K) 5 100 (atV 40 (mv1 P K 14) (P 0 1)) (atV 100 (mv1 P K 5) (atV 40 (mv1 P K 14) (P 0 1)) + 1)
/-- (a) -/
def adS (i : Nat) (K : JI) : JI := if K 2 i = 0 then (if K 4 i = K 0 0 then kEn K (nI i) 1 else K) else K
def adL : Nat → Nat → JI → JI
  | 0, _, K => K
  | k + 1, i, K => adL k (i + 1) (adS i K)
def adA (c : Nat) (K : JI) : JI := if K 8 0 = 0 then K else adL c 0 K
def tk0 (K : JI) : JI := u2 K 0 0 (K 0 0 + 1)
def tk1 (P : JI) (c : Nat) (K : JI) : JI := if adA c K 0 0 ≤ adA c K 0 3 then adA c K else mvL P (adA c K)
def tk2 (P : JI) (c : Nat) (K : JI) : JI := emL P (pnl P) 0 (tkL P (plen P) 0 (tk1 P c K))
def tk3 (P : JI) (x : JI × Int64) : JI × Int64 := wmL P 1 (pnm P 0) 0 (wmL P 2 (pnm P 1) 0 (wmL P 3 (pnm P 2) 0 x))
def tk4 (P : JI) (c : Nat) (K : JI) : JI := fmA P c 1 (pnm P 0) (fmA P c 2 (pnm P 1) (fmA P c 3 (pnm P 2) K))
def kTick (P : JI) (c : Nat) (x : JI × Int64) : JI × Int64 := if kAF (tk0 x.1) = 0 then (fEn P c (tk4 P c (tk3 P (tk2 P c (tk0 x.1), x.2)).1), (tk3 P (tk2 P c (tk0 x.1), x.2)).2) else (tk0 x.1, x.2)
def kRun (P : JI) (c : Nat) : Nat → JI × Int64 → JI × Int64
  | 0, x => x
  | n + 1, x => kRun P c n (kTick P c x)
/-! which cells stay -/
theorem putI_ne {K : JI} {k n k' : Nat} {i v : Int32} (h : k' ≠ k) : putI K k n i v k' = K k' := by
  unfold putI
  split
  · rfl
  · split
    · rfl
    · exact u2_ne h
theorem kCh_ne {K : JI} {b st : Int32} {k : Nat} (h2 : k ≠ 2) (h8 : k ≠ 8) : kCh K b st k = K k := by
  unfold kCh kCh2 kCh1
  rw [putI_ne h2, putI_ne h8, putI_ne h8]
theorem kEn1_ne {K : JI} {b st : Int32} {k : Nat} (h2 : k ≠ 2) (h8 : k ≠ 8) (h7 : k ≠ 7) : kEn1 K b st k = K k := by
  unfold kEn1
  split
  · exact kCh_ne h2 h8
  · rw [putI_ne h7, kCh_ne h2 h8]
theorem kLog_ne {K : JI} {b st : Int32} {k : Nat} (h0 : k ≠ 0) (h18 : k ≠ 18) : kLog K b st k = K k := by
  unfold kLog
  rw [u2_ne h0, putI_ne h18]
theorem kEn_ne {K : JI} {b st : Int32} {k : Nat} (h2 : k ≠ 2) (h8 : k ≠ 8) (h7 : k ≠ 7) (h0 : k ≠ 0) (h18 : k ≠ 18) : kEn K b st k = K k := by
  unfold kEn
  split
  · exact kEn1_ne h2 h8 h7
  · split
    · exact kEn1_ne h2 h8 h7
    · rw [kLog_ne h0 h18, kEn1_ne h2 h8 h7]
