/-! What the methods answer, in numbers. -/
theorem inn_lt (v a b : Int32) : inn v a b = ((!decide (v < a)) && (!decide (b < v))) := by
  unfold inn
  congr 1
  · by_cases h : v < a
    · rw [decide_eq_true h, decide_eq_false (Int32.not_le.mpr h)]; rfl
    · rw [decide_eq_false h, decide_eq_true (Int32.not_lt.mp h)]; rfl
  · by_cases h : b < v
    · rw [decide_eq_true h, decide_eq_false (Int32.not_le.mpr h)]; rfl
    · rw [decide_eq_false h, decide_eq_true (Int32.not_lt.mp h)]; rfl
theorem inn_t {v a b : Int32} (h : inn v a b = true) : a ≤ v ∧ v ≤ b := by
  simp only [inn, Bool.and_eq_true, decide_eq_true_eq] at h
  exact h
theorem inn_toInt {v a b : Int32} (h : inn v a b = true) : a.toInt ≤ v.toInt ∧ v.toInt ≤ b.toInt := by
  obtain ⟨h1, h2⟩ := inn_t h
  exact ⟨Int32.le_iff_toInt_le.mp h1, Int32.le_iff_toInt_le.mp h2⟩
/-- 0 .. N - 1 as told by a test -/
theorem inn_vp {v M : Int32} {N : Nat} (h : inn v 0 M = true) (hM : M.toInt < N) : vp_in v N := by
  obtain ⟨h1, h2⟩ := inn_toInt h
  rw [vp_in_iff]
  have : (0 : Int32).toInt = 0 := rfl
  omega
theorem cl_ne {x y : Int32} {N : Nat} (hx : vp_in x N) (hy : vp_in y N) (hN : N < 2 ^ 31) (h : x ≠ y) : x.toNatClampNeg ≠ y.toNatClampNeg := by
  obtain ⟨i, hi, rfl⟩ := vp_in_of hx hN
  obtain ⟨j, hj, rfl⟩ := vp_in_of hy hN
  rw [nI_clamp (by omega), nI_clamp (by omega)]
  rintro rfl
  exact h rfl
theorem kEx_to {a b : Int32} {E : String} (h : kEx a E) (hab : a ≠ 0 → b = a) : kEx b E := by
  rcases h with ⟨h1, h2⟩ | ⟨h1, h2⟩ | ⟨h1, h2⟩
  · exact Or.inl ⟨h1, by rw [hab (by rw [h2]; decide)]; exact h2⟩
  · exact Or.inr (Or.inl ⟨h1, by rw [hab (by rw [h2]; decide)]; exact h2⟩)
  · exact Or.inr (Or.inr ⟨h1, by rw [hab (by rw [h2]; decide)]; exact h2⟩)
def bsum (x : Int32) : Nat → Int32
  | 0 => 0
  | k + 1 => bsum x k + ((x >>> (nI k &&& 31)) &&& 1)
def bits (x : Int32) : Int32 := bsum x 24
/-- the exceptions of a method by its code: all three; the first and the third; the second alone; the second and the third -/
def e13 (k : Int32) : Int32 := if k = 2 then 3 else k
def e2 (k : Int32) : Int32 := if k = 1 then 2 else k
def e23 (k : Int32) : Int32 := if k = 1 then 2 else if k = 2 then 3 else k
def rq (b : Bool) (k : Int32) : Int32 := if b = true then 0 else k
def kd_two (N w o : Int32) : Int32 := if (inn w 0 N && inn o 0 N) = true then (if w = o then 2 else 0) else 1
/-- a relation is turned between two places of a row -/
def tg (g : sg) (K : Nat) (w o : Int32) : sg := sU (sU g K w.toNatClampNeg (g K w.toNatClampNeg ^^^ ((1 : Int32) <<< (o &&& 31)))) K o.toNatClampNeg (g K o.toNatClampNeg ^^^ ((1 : Int32) <<< (w &&& 31)))
def tb (g : sg) (K : Nat) (w o : Int32) : Bool := decide ((((g K w.toNatClampNeg ^^^ ((1 : Int32) <<< (o &&& 31))) >>> (o &&& 31)) &&& 1) = 1)
/-- codes of refusal: the first test that fails -/
def kd1 (a : Bool) : Int32 := if a = true then 0 else 1
def kd2 (a b : Bool) : Int32 := if a = true then (if b = true then 0 else 2) else 1
def kd3 (a b c : Bool) : Int32 := if a = true then (if b = true then (if c = true then 0 else 3) else 2) else 1
theorem kd1_0 {a : Bool} : kd1 a = 0 ↔ a = true := by cases a <;> simp [kd1]
theorem kd2_0 {a b : Bool} : kd2 a b = 0 ↔ a = true ∧ b = true := by cases a <;> cases b <;> simp [kd2]
theorem kd3_0 {a b c : Bool} : kd3 a b c = 0 ↔ a = true ∧ b = true ∧ c = true := by cases a <;> cases b <;> cases c <;> simp [kd3]
theorem and_l {a b : Bool} (h : (a && b) = true) : a = true := (Bool.and_eq_true_iff.mp h).1
theorem and_r {a b : Bool} (h : (a && b) = true) : b = true := (Bool.and_eq_true_iff.mp h).2
def rv (k v : Int32) : Int32 := if k = 0 then v else 0
def mk (k : Int32) (G g : sg) : sg := if k = 0 then G else sU g 9 0 k
theorem rv_0 {k v : Int32} (h : k = 0) : rv k v = v := if_pos h
theorem rv_n {k v : Int32} (h : ¬ k = 0) : rv k v = 0 := if_neg h
theorem mk_0 {k : Int32} {G g : sg} (h : k = 0) : mk k G g = G := if_pos h
theorem mk_n {k : Int32} {G g : sg} (h : ¬ k = 0) : mk k G g = sU g 9 0 k := if_neg h
theorem zv_0 {k : Int32} {b : Bool} (h : k = 0) : b2 (decide (k = 0) && b) = b2 b := by rw [decide_eq_true h]; rfl
theorem zv_n {k : Int32} {b : Bool} (h : ¬ k = 0) : b2 (decide (k = 0) && b) = 0 := by rw [decide_eq_false h]; rfl
/-- there is such a find, such a claim -/
def isF (n : Nat) (x : Int32) : Bool := inn x 0 (nI n - 1)
theorem isF_ex {n : Nat} {x : Int32} (h : isF n x = true) (hn : n ≤ 30) : ∃ i, i < n ∧ x = nI i := by
  obtain ⟨h1, h2⟩ := inn_toInt h
  have h0 : (0 : Int32).toInt = 0 := rfl
  cases n with
  | zero =>
    have : (nI 0 - 1 : Int32).toInt = -1 := by decide +kernel
    omega
  | succ n =>
    rw [nI_pred, nI_toInt (by omega)] at h2
    have hv : vp_in x (n + 1) := vp_in_iff.mpr ⟨by omega, by omega⟩
    obtain ⟨j, hj, e⟩ := vp_in_of hv (by omega)
    exact ⟨j, hj, e⟩
theorem isF_vp {n N : Nat} {x : Int32} (h : isF n x = true) (hn : n ≤ N) (hN : N ≤ 30) : vp_in x N := by
  obtain ⟨i, hi, rfl⟩ := isF_ex h (by omega)
  exact vp_in_nI (by omega) (by omega)
theorem isF_of {n i : Nat} (h : i < n) (hn : n ≤ 30) : isF n (nI i) = true := by
  obtain ⟨m, rfl⟩ : ∃ m, n = m + 1 := ⟨n - 1, by omega⟩
  unfold isF inn
  rw [nI_pred, Bool.and_eq_true, decide_eq_true_eq, decide_eq_true_eq]
  exact ⟨nI_pos' (by omega), nI_le (by omega) (by omega)⟩
theorem nI_cl {x : Int32} {N : Nat} (h : vp_in x N) : nI x.toNatClampNeg = x := by
  have h2 := vp_in_iff.mp h
  have h3 : x = nI x.toInt.toNat := by
    rw [← Int32.toInt_inj, nI_toInt (by have := Int32.toInt_lt x; omega)]
    omega
  rw [h3, nI_clamp (by have := Int32.toInt_lt x; omega)]
theorem isF_lt {n : Nat} {x : Int32} (h : isF n x = true) (hn : n ≤ 30) : x.toNatClampNeg < n := by
  obtain ⟨i, hi, rfl⟩ := isF_ex h hn
  rw [nI_clamp (by omega)]
  exact hi
theorem dec_le (a b : Int32) : decide (a ≤ b) = !decide (b < a) := by
  by_cases h : b < a
  · rw [decide_eq_true h, decide_eq_false (Int32.not_le.mpr h)]; rfl
  · rw [decide_eq_false h, decide_eq_true (Int32.not_lt.mp h)]; rfl
theorem nlt_of {n N : Nat} {M : Int32} (h : (!decide (nI n = M)) = true) (hn : n ≤ N) (hM : M = nI N) : n < N := by
  have h1 : ¬ nI n = M := by simpa using h
  rcases Nat.lt_or_ge n N with q | q
  · exact q
  · exact absurd (by rw [hM, Nat.le_antisymm hn q]) h1
/-- a bit, as it is asked by a shift -/
def bq (x r : Int32) : Bool := decide (((x >>> (r &&& 31)) &&& 1) = 1)
theorem cl_nI {i : Nat} (h : i < 2 ^ 31) : (nI i).toNatClampNeg = i := nI_clamp h
/-- the rows of a find's hands behind a coming -/
def cmR (r : Nat → Int32) (o : Nat) (h v : Int32) : Nat → Int32 := fun q => if h = 12 then (if o + 1 ≤ q ∧ q ≤ o + 10 then r (q + 1) else if q = o + 11 then v else r q) else if q = o + h.toNatClampNeg then v else r q
def cmH (h : Int32) : Int32 := if h = 12 then 12 else h + 1
def mComes (g : sg) (i : Nat) (room : Int32) : sg := fun k => if k = 73 then cmR (g 73) (12 * i) (g 72 i) room else if k = 74 then cmR (g 74) (12 * i) (g 72 i) (g 9 1) else if k = 72 then upd (g 72) i (cmH (g 72 i)) else if k = 65 then upd (g 65) i 0 else if k = 66 then upd (g 66) i room else g k
def shR (r : Nat → Int32) (o q : Nat) : Nat → Int32 := fun t => if o + 1 ≤ t ∧ t < q then r (t + 1) else r t
def cmL (b : sg) (i q : Nat) : sg := fun k => if k = 73 then shR (b 73) (12 * i) q else if k = 74 then shR (b 74) (12 * i) q else b k
theorem cmL_0 (b : sg) (i : Nat) : cmL b i (12 * i + 1) = b := by
  funext k t
  unfold cmL shR
  by_cases h : k = 73
  · subst h; simp only [if_true]; rw [if_neg (by omega)]
  · rw [if_neg h]
    by_cases h2 : k = 74
    · subst h2; simp only [if_true]; rw [if_neg (by omega)]
    · rw [if_neg h2]
theorem shR_s {r : Nat → Int32} {o q : Nat} (h : o + 1 ≤ q) (t : Nat) : (if t = q then shR r o q (q + 1) else shR r o q t) = shR r o (q + 1) t := by
  unfold shR
  by_cases e : t = q
  · subst e; rw [if_pos rfl, if_neg (by omega), if_pos (by omega)]
  · rw [if_neg e]
    by_cases e2 : o + 1 ≤ t ∧ t < q
    · rw [if_pos e2, if_pos (by omega)]
    · rw [if_neg e2, if_neg (by omega)]
theorem cmL_s {b : sg} {i q : Nat} (h : 12 * i + 1 ≤ q) : sU (sU (cmL b i q) 73 q (cmL b i q 73 (q + 1))) 74 q (cmL b i q 74 (q + 1)) = cmL b i (q + 1) := by
  funext k t
  by_cases h3 : k = 73
  · subst h3
    rw [sU_k _ _ _ _ (by decide)]
    show (if 73 = 73 ∧ t = q then cmL b i q 73 (q + 1) else cmL b i q 73 t) = _
    simp only [cmL, true_and, if_true]
    exact shR_s h t
  · by_cases h4 : k = 74
    · subst h4
      show (if 74 = 74 ∧ t = q then cmL b i q 74 (q + 1) else sU (cmL b i q) 73 q (cmL b i q 73 (q + 1)) 74 t) = _
      rw [sU_k _ _ _ _ (by decide)]
      simp only [cmL, true_and, if_true, show ¬ (74 = 73) by decide, if_false]
      exact shR_s h t
    · rw [sU_k _ _ _ _ h4, sU_k _ _ _ _ h3]
      simp only [cmL, if_neg h3, if_neg h4]
/-- lose -/
def lsB (g : sg) (room : Int32) (k : Nat) : Bool := decide (g 65 k = 1) && decide (g 67 k = room)
def lsN (g : sg) (room : Int32) : Nat → Int32
  | 0 => 0
  | k + 1 => lsN g room k + (if lsB g room k = true then 1 else 0)
def lsS (g : sg) (room : Int32) (K : Nat) : sg := fun k j => if k = 65 ∧ j < K ∧ lsB g room j = true then 2 else g k j
/-- scores -/
def rmO (stp : Nat → Int32) (p : Int32) : Int32 := if 6 ≤ p then stp (p - 6).toNatClampNeg else 1 <<< (p &&& 31)
theorem vp_sub6 {q : Int32} (h : vp_in q 10) (c : 6 ≤ q) : vp_in (q - 6) 4 := by
  obtain ⟨j, hj, rfl⟩ := vp_in_of h (by decide)
  have h6 : 6 ≤ j := (nI_leI (a := 6) (b := j) (by omega) (by omega)).mp c
  rw [show nI j - 6 = nI (j - 6) from pk_sub (a := j) (b := 6) h6]
  exact vp_in_nI (by omega) (by decide)
def scW (known said : Int32) (near : Nat → Int32) : Nat → Int32
  | 0 => 0
  | w + 1 => scW known said near w + (if (decide (((said >>> (nI w &&& 31)) &&& 1) = 1)) = true then (if ((known >>> (nI w &&& 31)) &&& 1) = 1 then 6 else (if (known &&& near w) = 0 then -1 else 3)) else 0)
def scP (stp : Nat → Int32) (pf pc : Int32) : Int32 := if pf = pc then 20 else (if (rmO stp pf &&& rmO stp pc) = 0 then 0 else 10)
def scD (df fr to : Int32) : Int32 := if fr ≤ df then (if 0 < df - to then (if 10 ≤ df - to then 0 else 20 - 2 * (df - to)) else 20) else 0
def scK (kf kc alr : Int32) : Int32 := if kf = kc then 40 else if bq alr kc = true then 15 else -1
def score (kf kc alr pf pc : Int32) (stp : Nat → Int32) (df fr to wf sf tl sd : Int32) (near : Nat → Int32) : Int32 :=
  if scK kf kc alr = -1 then -1 else
  if 0 ≤ scK kf kc alr + scP stp pf pc + scD df fr to + scW (wf ||| (sf &&& tl)) sd near 24 then scK kf kc alr + scP stp pf pc + scD df fr to + scW (wf ||| (sf &&& tl)) sd near 24 else 0
def mSc (g : sg) (i j : Nat) : Int32 := score (g 59 i) (g 76 j) (g 53 (g 59 i).toNatClampNeg) (g 60 i) (g 77 j) (g 56) (g 61 i) (g 78 j) (g 79 j) (g 62 i) (g 63 i) (g 81 j) (g 80 j) (g 52)
def cSc (g : sg) (i j : Nat) : Int32 := score (g (100 + 3 * i) 0) (g (200 + j) 1) (g 2 (g (100 + 3 * i) 0).toNatClampNeg) (g (100 + 3 * i) 1) (g (200 + j) 2) (g 3) (g (100 + 3 * i) 2) (g (200 + j) 3) (g (200 + j) 4) (g (100 + 3 * i) 8) (g (100 + 3 * i) 3) (g (200 + j) 6) (g (200 + j) 5) (g 1)
/-- proofs, candidates, who is beaten -/
def prv (sec told : Int32) : Bool := (!(decide (bits (sec &&& told) < (if 2 ≤ bits sec then 2 else bits sec)))) && (!(decide (1 < bits (told &&& (sec ^^^ (-1))))))
def cnd (st sc th : Int32) : Bool := (decide (st = 0)) && (!(decide (sc < th)))
def anyB (f : Nat → Bool) : Nat → Bool
  | 0 => false
  | k + 1 => anyB f k || f k
def cntB (f : Nat → Bool) : Nat → Int32
  | 0 => 0
  | k + 1 => cntB f k + (if f k = true then 1 else 0)
def mCnd (g : sg) (i j : Nat) : Bool := cnd (g 82 j) (mSc g i j) (g 9 7)
def mPrv (g : sg) (i j : Nat) : Bool := prv (g 63 i) (g 81 j)
def btn (kj st : Int32) (pr : Bool) (its oth kk : Int32) : Bool := (!(decide (kk = kj))) && ((decide (st = 0)) && (pr && ((decide (its < oth)) || ((decide (oth = its)) && (!(decide (kj ≤ kk)))))))
def mBt (g : sg) (i j k : Nat) : Bool := btn (nI j) (g 82 k) (mPrv g i k) (mSc g i j) (mSc g i k) (nI k)
def mBeaten (g : sg) (nc i j : Nat) : Bool := anyB (mBt g i j) nc
def mServe (g : sg) (nc i j : Nat) : Bool := mCnd g i j && (mPrv g i j && (!(mBeaten g nc i j)))
def mHere (g : sg) (i : Nat) : Bool := decide (g 65 i ≤ 2)
def mAsk (g : sg) (j i : Nat) : Bool := mHere g i && mCnd g i j
def mOv0 (g : sg) (i : Nat) : Bool := (decide (g 65 i = 0)) && ((!(decide (g 9 1 ≤ g 68 i))) && (decide (g 69 i = 0)))
def mOver (g : sg) (nc i : Nat) : Bool := mOv0 g i && !anyB (fun j => mCnd g i j) nc
def mR (n nc : Nat) (g : sg) : Prop := (∀ i, i < n → vp_in (g 59 i) 8 ∧ vp_in (g 60 i) 10) ∧ (∀ j, j < nc → vp_in (g 77 j) 10)
theorem mR_9 {n nc : Nat} {g : sg} (h : mR n nc g) (a : Nat) (v : Int32) : mR n nc (sU g 9 a v) := h
theorem mSc_90 (g : sg) (v : Int32) (i j : Nat) : mSc (sU g 9 0 v) i j = mSc g i j := by
  unfold mSc
  rw [sU_row _ _ _ (by decide : 56 ≠ 9), sU_row _ _ _ (by decide : 52 ≠ 9), sU_row _ _ _ (by decide : 59 ≠ 9), sU_row _ _ _ (by decide : 76 ≠ 9), sU_row _ _ _ (by decide : 53 ≠ 9), sU_row _ _ _ (by decide : 60 ≠ 9), sU_row _ _ _ (by decide : 77 ≠ 9), sU_row _ _ _ (by decide : 61 ≠ 9), sU_row _ _ _ (by decide : 78 ≠ 9), sU_row _ _ _ (by decide : 79 ≠ 9), sU_row _ _ _ (by decide : 62 ≠ 9), sU_row _ _ _ (by decide : 63 ≠ 9), sU_row _ _ _ (by decide : 81 ≠ 9), sU_row _ _ _ (by decide : 80 ≠ 9)]
theorem mCnd_90 (g : sg) (v : Int32) (i j : Nat) : mCnd (sU g 9 0 v) i j = mCnd g i j := by
  unfold mCnd
  rw [mSc_90, sU_k _ _ _ _ (by decide), sU_j _ _ _ _ (by decide)]
theorem mPrv_90 (g : sg) (v : Int32) (i j : Nat) : mPrv (sU g 9 0 v) i j = mPrv g i j := by
  unfold mPrv
  rw [sU_k _ _ _ _ (by decide), sU_k _ _ _ _ (by decide)]
theorem mAsk_90 (g : sg) (v : Int32) (j i : Nat) : mAsk (sU g 9 0 v) j i = mAsk g j i := by
  unfold mAsk mHere
  rw [mCnd_90, sU_k _ _ _ _ (by decide)]
