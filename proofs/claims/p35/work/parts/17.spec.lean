/-! .. behind days, and what is asked -/
def mBag (G : sg) : Nat → sg
  | 0 => G
  | k + 1 => if mBag G k 65 k = 1 then mComes (mBag G k) k (mBag G k 67 k) else mBag G k
def erB (st d f : Int32) : Bool := bif decide (st = 1) then !(decide (d - f < 90)) else ((decide (st = 2)) && (!(decide (d - f < 90))))
def mEr (G : sg) : Nat → sg
  | 0 => G
  | k + 1 => sU (sU (sU (mEr G k) 82 k (if erB (mEr G k 82 k) (mEr G k 9 1) (mEr G k 83 k) = true then 3 else mEr G k 82 k)) 80 k (if erB (mEr G k 82 k) (mEr G k 9 1) (mEr G k 83 k) = true then 0 else mEr G k 80 k)) 81 k (if erB (mEr G k 82 k) (mEr G k 9 1) (mEr G k 83 k) = true then 0 else mEr G k 81 k)
def mDay (g : sg) (n nc : Nat) : sg := mEr (mBag (sU g 9 1 (g 9 1 + 1)) n) nc
def mDays (g : sg) (n nc : Nat) : Nat → sg
  | 0 => g
  | k + 1 => mDay (mDays g n nc k) n nc
theorem mComes_row (g : sg) (i : Nat) (r : Int32) {k : Nat} (h : k ≠ 73 ∧ k ≠ 74 ∧ k ≠ 72 ∧ k ≠ 65 ∧ k ≠ 66) : mComes g i r k = g k := by
  unfold mComes
  rw [if_neg h.1, if_neg h.2.1, if_neg h.2.2.1, if_neg h.2.2.2.1, if_neg h.2.2.2.2]
theorem mBag_row (G : sg) (K : Nat) {k : Nat} (h : k ≠ 73 ∧ k ≠ 74 ∧ k ≠ 72 ∧ k ≠ 65 ∧ k ≠ 66) : mBag G K k = G k := by
  induction K with
  | zero => rfl
  | succ K ih =>
    unfold mBag
    by_cases c : mBag G K 65 K = 1
    · rw [if_pos c, mComes_row _ _ _ h, ih]
    · rw [if_neg c, ih]
theorem mBag_72 (G : sg) (K : Nat) {i : Nat} (h : K ≤ i) : mBag G K 72 i = G 72 i := by
  induction K with
  | zero => rfl
  | succ K ih =>
    have ih := ih (by omega)
    unfold mBag
    by_cases c : mBag G K 65 K = 1
    · rw [if_pos c]
      show upd (mBag G K 72) K _ i = _
      unfold upd
      rw [if_neg (by omega)]
      exact ih
    · rw [if_neg c]; exact ih
theorem mEr_row (G : sg) (K : Nat) {k : Nat} (h : k ≠ 82 ∧ k ≠ 80 ∧ k ≠ 81) : mEr G K k = G k := by
  induction K with
  | zero => rfl
  | succ K ih =>
    unfold mEr
    rw [sU_row _ _ _ h.2.2, sU_row _ _ _ h.2.1, sU_row _ _ _ h.1, ih]
theorem cmH_ok {x : Int32} (h : ∃ h : Nat, h ≤ 12 ∧ x = nI h) : ∃ h : Nat, h ≤ 12 ∧ cmH x = nI h := by
  obtain ⟨h, h1, rfl⟩ := h
  unfold cmH
  by_cases c : nI h = 12
  · rw [if_pos c]; exact ⟨12, Nat.le_refl _, rfl⟩
  · rw [if_neg c, nI_1]
    refine ⟨h + 1, ?_, rfl⟩
    have : h ≠ 12 := fun q => c (by rw [q]; rfl)
    omega
theorem mBag_h {G : sg} {i : Nat} (h : ∃ h : Nat, h ≤ 12 ∧ G 72 i = nI h) (K : Nat) : ∃ h : Nat, h ≤ 12 ∧ mBag G K 72 i = nI h := by
  induction K with
  | zero => exact h
  | succ K ih =>
    unfold mBag
    by_cases c : mBag G K 65 K = 1
    · rw [if_pos c]
      show ∃ h : Nat, h ≤ 12 ∧ upd (mBag G K 72) K _ i = nI h
      unfold upd
      by_cases e : i = K
      · subst e; rw [if_pos rfl]; exact cmH_ok ih
      · rw [if_neg e]; exact ih
    · rw [if_neg c]; exact ih
theorem mDay_9 (g : sg) (n nc : Nat) {j : Nat} (h : j ≠ 1) : mDay g n nc 9 j = g 9 j := by
  unfold mDay
  rw [mEr_row _ _ (by decide), mBag_row _ _ (by decide), sU_j _ _ _ _ h]
theorem mDay_h {g : sg} {n nc i : Nat} (h : ∃ h : Nat, h ≤ 12 ∧ g 72 i = nI h) : ∃ h : Nat, h ≤ 12 ∧ mDay g n nc 72 i = nI h := by
  unfold mDay
  rw [mEr_row _ _ (by decide)]
  exact mBag_h (by rw [sU_k _ _ _ _ (by decide)]; exact h) n
theorem mk_self (k : Int32) (g : sg) : mk k (sU g 9 0 0) g = sU g 9 0 k := by
  by_cases h : k = 0
  · rw [mk_0 h, h]
  · rw [mk_n h]
theorem inn_ex {v M : Int32} {N : Nat} (h : inn v 1 M = true) (hM : M = nI N) (hN : N < 2 ^ 30) : ∃ j : Nat, j ≤ N ∧ v = nI j := by
  obtain ⟨h1, h2⟩ := inn_toInt h
  subst hM
  rw [nI_toInt (by omega)] at h2
  have h0 : (1 : Int32).toInt = 1 := rfl
  have hv : vp_in v (N + 1) := vp_in_iff.mpr ⟨by omega, by omega⟩
  obtain ⟨j, hj, e⟩ := vp_in_of hv (by omega)
  exact ⟨j, by omega, e⟩
def mRew (g : sg) (i : Nat) : Int32 := (g 64 i * g 55 (g 59 i).toNatClampNeg) / 100
def mAhB (g : sg) (j i k : Nat) : Bool := (decide (0 < (if mAsk g j k = true then mSc g k j - mSc g i j else -1))) || ((decide ((if mAsk g j k = true then mSc g k j - mSc g i j else -1) = 0)) && (!(decide (nI i ≤ nI k))))
def mAh (g : sg) (j i : Nat) : Nat → Int32
  | 0 => 0
  | k + 1 => mAh g j i k + b2 (mAhB g j i k)
def mCan (g : sg) (n j : Nat) (place : Int32) : Nat → Int32
  | 0 => -1
  | k + 1 => if mAsk g j k = true then (if mAh g j k n = place then nI k else mCan g n j place k) else mCan g n j place k
def mQm (g : sg) (j : Nat) : Nat → Int32
  | 0 => 0
  | k + 1 => mQm g j k + b2 (mAsk g j k)
def mQb (g : sg) (j : Nat) (word : Int32) : Nat → Int32
  | 0 => 0
  | k + 1 => mQb g j word k + (if mAsk g j k = true then (if (((g 62 k ||| g 63 k) >>> (word &&& 31)) &&& 1) = 1 then 1 else -1) else 0)
def qFar (v : Int32) : Int32 := if 0 ≤ v then v else -v
def mQB (said word far many found least : Int32) : Bool := (decide (((said >>> (word &&& 31)) &&& 1) = 0)) && ((!(decide (many ≤ far))) && ((decide (found = (-1))) || (!(decide (least < far)))))
def mQ (g : sg) (n j : Nat) : Nat → Int32 × Int32
  | 0 => (-1, 0)
  | w + 1 => (if mQB (g 80 j) (23 - nI w) (qFar (mQb g j (23 - nI w) n)) (mQm g j n) (mQ g n j w).1 (mQ g n j w).2 = true then 23 - nI w else (mQ g n j w).1, if mQB (g 80 j) (23 - nI w) (qFar (mQb g j (23 - nI w) n)) (mQm g j n) (mQ g n j w).1 (mQ g n j w).2 = true then qFar (mQb g j (23 - nI w) n) else (mQ g n j w).2)
def mOf (g : sg) (i : Nat) (what : Int32) : Int32 := if what = nI 0 then g 65 i else if what = nI 1 then (if g 65 i = 1 then g 67 i else if g 65 i = 2 then g 67 i else g 66 i) else if what = nI 2 then g 68 i else if what = nI 3 then g 62 i else g 72 i
def mOc (g : sg) (j : Nat) (what : Int32) : Int32 := if what = 0 then g 82 j else (if what = 1 then g 80 j else (if what = 2 then g 81 j else g 84 j))
def mMo (g : sg) (what : Int32) : Int32 := if what = 0 then g 9 35 else (if what = 1 then g 9 36 else g 9 37)
def mAu (g : sg) (room : Int32) : Nat → Int32
  | 0 => 0
  | k + 1 => mAu g room k ||| (if g 65 k = 0 then (if g 66 k = room then (1 : Int32) <<< (nI k &&& 31) else 0) else 0)
def mFee (g : sg) (i : Nat) : Int32 := if 5 ≤ g 70 i then 5 else g 70 i
theorem mOver_90 (g : sg) (v : Int32) (nc i : Nat) : mOver (sU g 9 0 v) nc i = mOver g nc i := by
  have e : mOv0 (sU g 9 0 v) i = mOv0 g i := by unfold mOv0; simp [sU]
  unfold mOver
  rw [e, funext (fun j => mCnd_90 g v i j)]
theorem sub_1 (w : Nat) : ((23 : Int32) - nI w) + (-1) = 23 - nI (w + 1) := by
  rw [← nI_1]
  generalize nI w = x
  grind
theorem sub_v {w : Nat} (h : w ≤ 24) : ((23 : Int32) - nI w).toInt = 23 - (w : Int) := pk_sub_toInt (a := 23) (b := w) (by decide) (by omega)
theorem sub_neg {w : Nat} (h : w ≤ 24) (c : (23 : Int32) - nI w < 0) : 24 ≤ w := by
  rw [Int32.lt_iff_toInt_lt, sub_v h, Int32.toInt_zero] at c
  omega
theorem sub_nneg {w : Nat} (h : w ≤ 24) (c : ¬ (23 : Int32) - nI w < 0) : w < 24 := by
  rw [Int32.lt_iff_toInt_lt, sub_v h, Int32.toInt_zero] at c
  omega
theorem pk_mul12 (i : Nat) : (12 : Int32) * nI i = nI (12 * i) := pk_mul 12 i
theorem hand_ix {v y : Int32} {h : Nat} (hv : inn v 0 (y - 1) = true) (hy : y = nI h) (h1 : h ≤ 12) : ∃ pp, pp < h ∧ v = nI pp ∧ (nI pp).toNatClampNeg = pp := by
  subst hy
  obtain ⟨i, h2, h3⟩ := isF_ex (n := h) hv (by omega)
  exact ⟨i, h2, h3, nI_clamp (by omega)⟩
