/-! What the methods answer, in numbers. -/
theorem inn_lt (v a b : Int32) : inn v a b = ((!decide (v < a)) && (!decide (b < v))) := by
  unfold inn
  congr 1
  · by_cases h : v < a
    · rw [decide_eq_true h, decide_eq_false (Int32.not_le.mpr h)]; rfl
    · rw [decide_eq_false h, decide_eq_true (Int32.not_lt.mp h)]; rfl
  · by_cases h : b < v
    · rw [decide_eq_true h, decide_eq_false (Int32.not_le.mpr h)]; rfl
    · rw [decide_eq_false h, decide_eq_true (Int32.not_lt.mp h)]; rfl
theorem inn_t {v a b : Int32} (h : inn v a b = true) : a ≤ v ∧ v ≤ b := by
  simp only [inn, Bool.and_eq_true, decide_eq_true_eq] at h
  exact h
theorem inn_toInt {v a b : Int32} (h : inn v a b = true) : a.toInt ≤ v.toInt ∧ v.toInt ≤ b.toInt := by
  obtain ⟨h1, h2⟩ := inn_t h
  exact ⟨Int32.le_iff_toInt_le.mp h1, Int32.le_iff_toInt_le.mp h2⟩
/-- 0 .. N - 1 as told by a test -/
theorem inn_vp {v M : Int32} {N : Nat} (h : inn v 0 M = true) (hM : M.toInt < N) : vp_in v N := by
  obtain ⟨h1, h2⟩ := inn_toInt h
  rw [vp_in_iff]
  have : (0 : Int32).toInt = 0 := rfl
  omega
theorem cl_ne {x y : Int32} {N : Nat} (hx : vp_in x N) (hy : vp_in y N) (hN : N < 2 ^ 31) (h : x ≠ y) : x.toNatClampNeg ≠ y.toNatClampNeg := by
  obtain ⟨i, hi, rfl⟩ := vp_in_of hx hN
  obtain ⟨j, hj, rfl⟩ := vp_in_of hy hN
  rw [nI_clamp (by omega), nI_clamp (by omega)]
  rintro rfl
  exact h rfl
theorem kEx_to {a b : Int32} {E : String} (h : kEx a E) (hab : a ≠ 0 → b = a) : kEx b E := by
  rcases h with ⟨h1, h2⟩ | ⟨h1, h2⟩ | ⟨h1, h2⟩
  · exact Or.inl ⟨h1, by rw [hab (by rw [h2]; decide)]; exact h2⟩
  · exact Or.inr (Or.inl ⟨h1, by rw [hab (by rw [h2]; decide)]; exact h2⟩)
  · exact Or.inr (Or.inr ⟨h1, by rw [hab (by rw [h2]; decide)]; exact h2⟩)
def bsum (x : Int32) : Nat → Int32
  | 0 => 0
  | k + 1 => bsum x k + ((x >>> (nI k &&& 31)) &&& 1)
def bits (x : Int32) : Int32 := bsum x 24
/-- the exceptions of a method by its code: all three; the first and the third; the second alone; the second and the third -/
def e13 (k : Int32) : Int32 := if k = 2 then 3 else k
def e2 (k : Int32) : Int32 := if k = 1 then 2 else k
def e23 (k : Int32) : Int32 := if k = 1 then 2 else if k = 2 then 3 else k
def rq (b : Bool) (k : Int32) : Int32 := if b = true then 0 else k
def kd_two (N w o : Int32) : Int32 := if (inn w 0 N && inn o 0 N) = true then (if w = o then 2 else 0) else 1
/-- a relation is turned between two places of a row -/
def tg (g : sg) (K : Nat) (w o : Int32) : sg := sU (sU g K w.toNatClampNeg (g K w.toNatClampNeg ^^^ ((1 : Int32) <<< (o &&& 31)))) K o.toNatClampNeg (g K o.toNatClampNeg ^^^ ((1 : Int32) <<< (w &&& 31)))
def tb (g : sg) (K : Nat) (w o : Int32) : Bool := decide ((((g K w.toNatClampNeg ^^^ ((1 : Int32) <<< (o &&& 31))) >>> (o &&& 31)) &&& 1) = 1)
/-- codes of refusal: the first test that fails -/
def kd1 (a : Bool) : Int32 := if a = true then 0 else 1
def kd2 (a b : Bool) : Int32 := if a = true then (if b = true then 0 else 2) else 1
def kd3 (a b c : Bool) : Int32 := if a = true then (if b = true then (if c = true then 0 else 3) else 2) else 1
theorem kd1_0 {a : Bool} : kd1 a = 0 ↔ a = true := by cases a <;> simp [kd1]
theorem kd2_0 {a b : Bool} : kd2 a b = 0 ↔ a = true ∧ b = true := by cases a <;> cases b <;> simp [kd2]
theorem kd3_0 {a b c : Bool} : kd3 a b c = 0 ↔ a = true ∧ b = true ∧ c = true := by cases a <;> cases b <;> cases c <;> simp [kd3]
theorem and_l {a b : Bool} (h : (a && b) = true) : a = true := (Bool.and_eq_true_iff.mp h).1
theorem and_r {a b : Bool} (h : (a && b) = true) : b = true := (Bool.and_eq_true_iff.mp h).2
def rv (k v : Int32) : Int32 := if k = 0 then v else 0
def mk (k : Int32) (G g : sg) : sg := if k = 0 then G else sU g 9 0 k
theorem rv_0 {k v : Int32} (h : k = 0) : rv k v = v := if_pos h
theorem rv_n {k v : Int32} (h : ¬ k = 0) : rv k v = 0 := if_neg h
theorem mk_0 {k : Int32} {G g : sg} (h : k = 0) : mk k G g = G := if_pos h
theorem mk_n {k : Int32} {G g : sg} (h : ¬ k = 0) : mk k G g = sU g 9 0 k := if_neg h
theorem zv_0 {k : Int32} {b : Bool} (h : k = 0) : b2 (decide (k = 0) && b) = b2 b := by rw [decide_eq_true h]; rfl
theorem zv_n {k : Int32} {b : Bool} (h : ¬ k = 0) : b2 (decide (k = 0) && b) = 0 := by rw [decide_eq_false h]; rfl
/-- there is such a find, such a claim -/
def isF (n : Nat) (x : Int32) : Bool := inn x 0 (nI n - 1)
theorem isF_ex {n : Nat} {x : Int32} (h : isF n x = true) (hn : n ≤ 30) : ∃ i, i < n ∧ x = nI i := by
  obtain ⟨h1, h2⟩ := inn_toInt h
  have h0 : (0 : Int32).toInt = 0 := rfl
  cases n with
  | zero =>
    have : (nI 0 - 1 : Int32).toInt = -1 := by decide +kernel
    omega
  | succ n =>
    rw [nI_pred, nI_toInt (by omega)] at h2
    have hv : vp_in x (n + 1) := vp_in_iff.mpr ⟨by omega, by omega⟩
    obtain ⟨j, hj, e⟩ := vp_in_of hv (by omega)
    exact ⟨j, hj, e⟩
theorem isF_vp {n N : Nat} {x : Int32} (h : isF n x = true) (hn : n ≤ N) (hN : N ≤ 30) : vp_in x N := by
  obtain ⟨i, hi, rfl⟩ := isF_ex h (by omega)
  exact vp_in_nI (by omega) (by omega)
theorem isF_of {n i : Nat} (h : i < n) (hn : n ≤ 30) : isF n (nI i) = true := by
  obtain ⟨m, rfl⟩ : ∃ m, n = m + 1 := ⟨n - 1, by omega⟩
  unfold isF inn
  rw [nI_pred, Bool.and_eq_true, decide_eq_true_eq, decide_eq_true_eq]
  exact ⟨nI_pos' (by omega), nI_le (by omega) (by omega)⟩
/-- a bit, as it is asked by a shift -/
def bq (x r : Int32) : Bool := decide (((x >>> (r &&& 31)) &&& 1) = 1)
theorem cl_nI {i : Nat} (h : i < 2 ^ 31) : (nI i).toNatClampNeg = i := nI_clamp h
/-- the rows of a find's hands behind a coming -/
def cmR (r : Nat → Int32) (o : Nat) (h v : Int32) : Nat → Int32 := fun q => if h = 12 then (if o + 1 ≤ q ∧ q ≤ o + 10 then r (q + 1) else if q = o + 11 then v else r q) else if q = o + h.toNatClampNeg then v else r q
def cmH (h : Int32) : Int32 := if h = 12 then 12 else h + 1
def mComes (g : sg) (i : Nat) (room : Int32) : sg := fun k => if k = 73 then cmR (g 73) (12 * i) (g 72 i) room else if k = 74 then cmR (g 74) (12 * i) (g 72 i) (g 9 1) else if k = 72 then upd (g 72) i (cmH (g 72 i)) else if k = 65 then upd (g 65) i 0 else if k = 66 then upd (g 66) i room else g k
/-- lose -/
def lsB (g : sg) (room : Int32) (k : Nat) : Bool := decide (g 65 k = 1) && decide (g 67 k = room)
def lsN (g : sg) (room : Int32) : Nat → Int32
  | 0 => 0
  | k + 1 => lsN g room k + (if lsB g room k = true then 1 else 0)
def lsS (g : sg) (room : Int32) (K : Nat) : sg := fun k j => if k = 65 ∧ j < K ∧ lsB g room j = true then 2 else g k j
/-- scores -/
def rmO (stp : Nat → Int32) (p : Int32) : Int32 := if p < 6 then 1 <<< (p &&& 31) else stp (p - 6).toNatClampNeg
def scW (known said : Int32) (near : Nat → Int32) : Nat → Int32
  | 0 => 0
  | w + 1 => scW known said near w + (if bq said (nI w) = true then (if bq known (nI w) = true then 6 else if ¬ (known &&& near w) = 0 then 3 else -1) else 0)
def scP (stp : Nat → Int32) (pf pc : Int32) : Int32 := if pf = pc then 20 else if ¬ (rmO stp pf &&& rmO stp pc) = 0 then 10 else 0
def scD (df fr to : Int32) : Int32 := if df < fr then 0 else if df - to ≤ 0 then 20 else if df - to < 10 then 20 - 2 * (df - to) else 0
def scK (kf kc alr : Int32) : Int32 := if kf = kc then 40 else if bq alr kc = true then 15 else -1
def score (kf kc alr pf pc : Int32) (stp : Nat → Int32) (df fr to wf sf tl sd : Int32) (near : Nat → Int32) : Int32 :=
  if scK kf kc alr = -1 then -1 else
  let s := scK kf kc alr + scP stp pf pc + scD df fr to + scW (wf ||| (sf &&& tl)) sd near 24
  if s < 0 then 0 else s
def mSc (g : sg) (i j : Nat) : Int32 := score (g 59 i) (g 76 j) (g 53 (g 59 i).toNatClampNeg) (g 60 i) (g 77 j) (g 56) (g 61 i) (g 78 j) (g 79 j) (g 62 i) (g 63 i) (g 81 j) (g 80 j) (g 52)
def cSc (g : sg) (i j : Nat) : Int32 := score (g (100 + 3 * i) 0) (g (200 + j) 1) (g 2 (g (100 + 3 * i) 0).toNatClampNeg) (g (100 + 3 * i) 1) (g (200 + j) 2) (g 3) (g (100 + 3 * i) 2) (g (200 + j) 3) (g (200 + j) 4) (g (100 + 3 * i) 8) (g (100 + 3 * i) 3) (g (200 + j) 6) (g (200 + j) 5) (g 1)
/-- proofs, candidates, who is beaten -/
def prv (sec told : Int32) : Bool := decide ((if bits sec < 2 then bits sec else 2) ≤ bits (sec &&& told)) && decide (bits (told &&& (sec ^^^ -1)) ≤ 1)
def cnd (st sc th : Int32) : Bool := decide (st = 0) && decide (th ≤ sc)
def anyB (f : Nat → Bool) : Nat → Bool
  | 0 => false
  | k + 1 => anyB f k || f k
def cntB (f : Nat → Bool) : Nat → Int32
  | 0 => 0
  | k + 1 => cntB f k + (if f k = true then 1 else 0)
def mCnd (g : sg) (i j : Nat) : Bool := cnd (g 82 j) (mSc g i j) (g 9 7)
def mPrv (g : sg) (i j : Nat) : Bool := prv (g 63 i) (g 81 j)
def mBt (g : sg) (i j k : Nat) : Bool := !decide (k = j) && decide (g 82 k = 0) && mPrv g i k && (decide (mSc g i j < mSc g i k) || (decide (mSc g i k = mSc g i j) && decide (k < j)))
def mBeaten (g : sg) (nc i j : Nat) : Bool := anyB (mBt g i j) nc
def mServe (g : sg) (nc i j : Nat) : Bool := mCnd g i j && mPrv g i j && !mBeaten g nc i j
def mHere (g : sg) (i : Nat) : Bool := decide (g 65 i ≤ 2)
def mAsk (g : sg) (j i : Nat) : Bool := mHere g i && mCnd g i j
def mOver (g : sg) (nc i : Nat) : Bool := decide (g 65 i = 0) && decide (g 68 i < g 9 1) && decide (g 69 i = 0) && !anyB (fun j => mCnd g i j) nc
