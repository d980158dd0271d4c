/-! Both sides tell the same of finds and claims. -/
theorem anyB_cg {f f' : Nat → Bool} {n : Nat} (h : ∀ t, t < n → f t = f' t) : anyB f n = anyB f' n := by
  induction n with
  | zero => rfl
  | succ n ih =>
    unfold anyB
    rw [ih (fun t ht => h t (by omega)), h n (by omega)]
section RelS
variable {n nc : Nat} {c m : sg}
theorem kRl.day (h : kRl n nc c m) : c 0 10 = m 9 1 := h.2.1.2.2.2.2.2.1
theorem kRl.th (h : kRl n nc c m) : c 0 11 = m 9 7 := h.2.1.2.2.2.2.2.2.1
theorem kRl.rm (h : kRl n nc c m) {i : Nat} (hi : i < n) : c (100 + 3 * i) 10 = if m 65 i = 1 ∨ m 65 i = 2 then m 67 i else m 66 i := h.2.2.2.2.1 i hi
theorem kRl.st (h : kRl n nc c m) {i : Nat} (hi : i < n) : ∃ t : Nat, t ≤ 6 ∧ m 65 i = nI t := (h.W i hi).2.2.2.2.2.1
theorem kRl.sc (h : kRl n nc c m) {i j : Nat} (hi : i < n) (hj : j < nc) : cSc c i j = mSc m i j := by
  unfold cSc mSc
  rw [h.F hi 0 59 (by decide) rfl (by decide), h.F hi 1 60 (by decide) rfl (by decide), h.F hi 2 61 (by decide) rfl (by decide), h.F hi 8 62 (by decide) rfl (by decide), h.F hi 3 63 (by decide) rfl (by decide), h.C hj 1 76 (by decide) rfl (by decide), h.C hj 2 77 (by decide) rfl (by decide), h.C hj 3 78 (by decide) rfl (by decide), h.C hj 4 79 (by decide) rfl (by decide), h.C hj 5 80 (by decide) rfl (by decide), h.C hj 6 81 (by decide) rfl (by decide), h.2.1.1, h.2.1.2.1, h.2.1.2.2.1]
theorem kRl.cnd (h : kRl n nc c m) {i j : Nat} (hi : i < n) (hj : j < nc) : cCnd c i j = mCnd m i j := by
  unfold cCnd mCnd
  rw [h.sc hi hj, h.C hj 7 82 (by decide) rfl (by decide), h.th]
theorem kRl.prv (h : kRl n nc c m) {i j : Nat} (hi : i < n) (hj : j < nc) : cPrv c i j = mPrv m i j := by
  unfold cPrv mPrv
  rw [h.F hi 3 63 (by decide) rfl (by decide), h.C hj 6 81 (by decide) rfl (by decide)]
theorem kRl.beaten (h : kRl n nc c m) {i j : Nat} (hi : i < n) (hj : j < nc) : cBeaten c nc i j = mBeaten m nc i j := by
  unfold cBeaten mBeaten
  refine anyB_cg (fun k hk => ?_)
  unfold cBt mBt
  rw [h.sc hi hj, h.sc hi hk, h.prv hi hk, h.C hk 7 82 (by decide) rfl (by decide)]
theorem kRl.serve (h : kRl n nc c m) {i j : Nat} (hi : i < n) (hj : j < nc) : cServe c nc i j = mServe m nc i j := by
  unfold cServe mServe
  rw [h.cnd hi hj, h.prv hi hj, h.beaten hi hj]
theorem here_st {x : Int32} (h : ∃ t : Nat, t ≤ 6 ∧ x = nI t) : ((decide (x = 0)) || ((decide (x = 1)) || (decide (x = 2)))) = decide (x ≤ 2) := by
  obtain ⟨t, ht, rfl⟩ := h
  exact (by decide +kernel : ∀ t : Nat, t < 7 → ((decide (nI t = 0)) || ((decide (nI t = 1)) || (decide (nI t = 2)))) = decide (nI t ≤ 2)) t (by omega)
theorem kRl.here (h : kRl n nc c m) {i : Nat} (hi : i < n) : cHere c i = mHere m i := by
  unfold cHere mHere
  rw [h.F hi 9 65 (by decide) rfl (by decide)]
  exact here_st (h.st hi)
theorem kRl.ask (h : kRl n nc c m) {i j : Nat} (hi : i < n) (hj : j < nc) : cAsk c j i = mAsk m j i := by
  unfold cAsk mAsk
  rw [h.here hi, h.cnd hi hj]
theorem kRl.over (h : kRl n nc c m) {i : Nat} (hi : i < n) : cOver c nc i = mOver m nc i := by
  unfold cOver mOver cOv0 mOv0
  rw [h.F hi 9 65 (by decide) rfl (by decide), h.F hi 11 68 (by decide) rfl (by decide), h.F hi 12 69 (by decide) rfl (by decide), h.day, anyB_cg (fun j hj => h.cnd hi hj)]
end RelS
theorem kd1_cg {a a' : Bool} (h : a = a') : kd1 a = kd1 a' := by rw [h]
theorem kd2_cg {a b b' : Bool} (h : a = true → b = b') : kd2 a b = kd2 a b' := by
  cases a with
  | false => rfl
  | true => rw [h rfl]
theorem kd3_cg {a b b' c c' : Bool} (h : a = true → b = b' ∧ c = c') : kd3 a b c = kd3 a b' c' := by
  cases a with
  | false => rfl
  | true => rw [(h rfl).1, (h rfl).2]
/-! scores are small -/
theorem ti_add {a b : Int32} (h1 : -2147483648 ≤ a.toInt + b.toInt) (h2 : a.toInt + b.toInt < 2147483648) : (a + b).toInt = a.toInt + b.toInt := by
  rw [Int32.toInt_add]
  exact Int.bmod_eq_of_le (by omega) (by omega)
theorem ti_sub {a b : Int32} (h1 : -2147483648 ≤ a.toInt - b.toInt) (h2 : a.toInt - b.toInt < 2147483648) : (a - b).toInt = a.toInt - b.toInt := by
  rw [Int32.toInt_sub]
  exact Int.bmod_eq_of_le (by omega) (by omega)
theorem scW_bd (K S : Int32) (near : Nat → Int32) : ∀ w : Nat, w ≤ 24 → -(w : Int) ≤ (scW K S near w).toInt ∧ (scW K S near w).toInt ≤ 6 * (w : Int)
  | 0, _ => by
    rw [show (scW K S near 0).toInt = 0 from rfl]
    omega
  | w + 1, hw => by
    have ih := scW_bd K S near w (by omega)
    rw [scW_s K S near w (by omega)]
    have hs : ∃ b : Int32, (if bt S w = true then (if bt K w = true then (6 : Int32) else (if (K &&& near w) = 0 then -1 else 3)) else 0) = b ∧ -1 ≤ b.toInt ∧ b.toInt ≤ 6 := by
      refine ⟨_, rfl, ?_⟩
      by_cases h1 : bt S w = true
      · rw [if_pos h1]
        by_cases h2 : bt K w = true
        · rw [if_pos h2]; decide
        · rw [if_neg h2]
          by_cases h3 : (K &&& near w) = 0
          · rw [if_pos h3]; decide
          · rw [if_neg h3]; decide
      · rw [if_neg h1]; decide
    obtain ⟨b, hb, h1, h2⟩ := hs
    rw [hb, ti_add (by omega) (by omega)]
    omega
theorem scD_bd (df fr to : Int32) : 0 ≤ (scD df fr to).toInt ∧ (scD df fr to).toInt ≤ 20 := by
  unfold scD
  by_cases h1 : fr ≤ df
  · rw [if_pos h1]
    by_cases h2 : 0 < df - to
    · rw [if_pos h2]
      by_cases h3 : 10 ≤ df - to
      · rw [if_pos h3]; decide
      · rw [if_neg h3]
        generalize df - to = d at h2 h3 ⊢
        have hv : vp_in d 10 := by
          rw [vp_in_iff]
          rw [Int32.lt_iff_toInt_lt, Int32.toInt_zero] at h2
          rw [Int32.le_iff_toInt_le] at h3
          have : (10 : Int32).toInt = 10 := rfl
          omega
        obtain ⟨j, hj, rfl⟩ := vp_in_of hv (by decide)
        exact (by decide +kernel : ∀ j : Nat, j < 10 → 0 ≤ ((20 : Int32) - 2 * nI j).toInt ∧ ((20 : Int32) - 2 * nI j).toInt ≤ 20) j hj
    · rw [if_neg h2]; decide
  · rw [if_neg h1]; decide
theorem mSc_bd (g : sg) (i j : Nat) : -1 ≤ (mSc g i j).toInt ∧ (mSc g i j).toInt ≤ 1000 := by
  unfold mSc score
  generalize hk : scK (g 59 i) (g 76 j) (g 53 (g 59 i).toNatClampNeg) = a
  generalize hp : scP (g 56) (g 60 i) (g 77 j) = b
  generalize hd : scD (g 61 i) (g 78 j) (g 79 j) = d
  generalize hw : scW (g 62 i ||| (g 63 i &&& g 81 j)) (g 80 j) (g 52) 24 = w
  have ha : -1 ≤ a.toInt ∧ a.toInt ≤ 40 := by
    rw [← hk]
    unfold scK
    by_cases h1 : g 59 i = g 76 j
    · rw [if_pos h1]; decide
    · rw [if_neg h1]
      by_cases h2 : bq (g 53 (g 59 i).toNatClampNeg) (g 76 j) = true
      · rw [if_pos h2]; decide
      · rw [if_neg h2]; decide
  have hb : 0 ≤ b.toInt ∧ b.toInt ≤ 20 := by
    rw [← hp]
    unfold scP
    by_cases h1 : g 60 i = g 77 j
    · rw [if_pos h1]; decide
    · rw [if_neg h1]
      by_cases h2 : (rmO (g 56) (g 60 i) &&& rmO (g 56) (g 77 j)) = 0
      · rw [if_pos h2]; decide
      · rw [if_neg h2]; decide
  have hd1 : 0 ≤ d.toInt ∧ d.toInt ≤ 20 := by rw [← hd]; exact scD_bd _ _ _
  have hw1 : -(24 : Int) ≤ w.toInt ∧ w.toInt ≤ 6 * (24 : Int) := by rw [← hw]; exact scW_bd _ _ _ 24 (Nat.le_refl _)
  by_cases e : a = -1
  · rw [if_pos e]; decide
  · rw [if_neg e]
    have e1 : (a + b).toInt = a.toInt + b.toInt := ti_add (by omega) (by omega)
    have e2 : (a + b + d).toInt = a.toInt + b.toInt + d.toInt := by rw [ti_add (by omega) (by omega), e1]
    have e3 : (a + b + d + w).toInt = a.toInt + b.toInt + d.toInt + w.toInt := by rw [ti_add (by omega) (by omega), e2]
    by_cases h0 : 0 ≤ a + b + d + w
    · rw [if_pos h0]
      rw [Int32.le_iff_toInt_le, Int32.toInt_zero] at h0
      omega
    · rw [if_neg h0]; decide
/-! counts -/
def cntN (f : Nat → Bool) : Nat → Nat
  | 0 => 0
  | k + 1 => cntN f k + (if f k = true then 1 else 0)
theorem cntB_N (f : Nat → Bool) (k : Nat) : cntB f k = nI (cntN f k) := by
  induction k with
  | zero => rfl
  | succ k ih =>
    show cntB f k + (if f k = true then 1 else 0) = nI (cntN f k + (if f k = true then 1 else 0))
    rw [ih]
    by_cases h : f k = true
    · rw [if_pos h, if_pos h, nI_1]
    · rw [if_neg h, if_neg h]; exact Int32.add_zero _
theorem cntN_le (f : Nat → Bool) (k : Nat) : cntN f k ≤ k := by
  induction k with
  | zero => exact Nat.le_refl _
  | succ k ih =>
    show cntN f k + (if f k = true then 1 else 0) ≤ k + 1
    by_cases h : f k = true
    · rw [if_pos h]; omega
    · rw [if_neg h]; omega
theorem cntB_cg {f f' : Nat → Bool} {n : Nat} (h : ∀ t, t < n → f t = f' t) : cntB f n = cntB f' n := by
  induction n with
  | zero => rfl
  | succ n ih =>
    unfold cntB
    rw [ih (fun t ht => h t (by omega)), h n (by omega)]
theorem cntB_up {f : Nat → Bool} {n : Nat} (h : ∀ t, n ≤ t → f t = false) (d : Nat) : cntB f (n + d) = cntB f n := by
  induction d with
  | zero => rfl
  | succ d ih =>
    show cntB f (n + d) + (if f (n + d) = true then 1 else 0) = _
    rw [h (n + d) (by omega), ih]
    exact Int32.add_zero _
theorem cntN_mono {f f' : Nat → Bool} {n : Nat} (h : ∀ t, t < n → f t = true → f' t = true) : cntN f n ≤ cntN f' n := by
  induction n with
  | zero => exact Nat.le_refl _
  | succ n ih =>
    have ih := ih (fun t ht => h t (by omega))
    show cntN f n + (if f n = true then 1 else 0) ≤ cntN f' n + (if f' n = true then 1 else 0)
    by_cases c : f n = true
    · rw [if_pos c, if_pos (h n (by omega) c)]; omega
    · rw [if_neg c]; omega
theorem cntN_lt {f f' : Nat → Bool} {n : Nat} (h : ∀ t, t < n → f t = true → f' t = true) {k : Nat} (hk : k < n) (h1 : f k = false) (h2 : f' k = true) : cntN f n < cntN f' n := by
  induction n with
  | zero => omega
  | succ n ih =>
    show cntN f n + (if f n = true then 1 else 0) < cntN f' n + (if f' n = true then 1 else 0)
    by_cases e : k = n
    · subst e
      have := cntN_mono (f := f) (f' := f') (n := k) (fun t ht => h t (by omega))
      rw [h1, h2]
      simp
      omega
    · have ih := ih (fun t ht => h t (by omega)) (by omega)
      by_cases c : f n = true
      · rw [if_pos c, if_pos (h n (by omega) c)]; omega
      · rw [if_neg c]; omega
/-! the candidates by rank -/
theorem thr_pos {x t : Int32} (ht : 1 ≤ t.toInt) (h : decide (x < t) = false) : 1 ≤ x.toInt := by
  have h1 : ¬ x < t := of_decide_eq_false h
  rw [Int32.lt_iff_toInt_lt] at h1
  omega
theorem mAsk_pos {g : sg} {i j : Nat} (ht : 1 ≤ (g 9 7).toInt) (h : mAsk g j i = true) : 1 ≤ (mSc g i j).toInt := by
  have h1 : mCnd g i j = true := and_r (a := mHere g i) h
  have h2 : (!(decide (mSc g i j < g 9 7))) = true := and_r (a := decide (g 82 j = 0)) h1
  exact thr_pos ht (by simpa using h2)
theorem ah_iff {m : sg} {i j k : Nat} (hi : i < 30) (hk : k < 30) : mAhB m j i k = true ↔ mAsk m j k = true ∧ ((mSc m i j).toInt < (mSc m k j).toInt ∨ (mSc m k j).toInt = (mSc m i j).toInt ∧ k < i) := by
  have h1 := mSc_bd m k j
  have h2 := mSc_bd m i j
  have hs : (mSc m k j - mSc m i j).toInt = (mSc m k j).toInt - (mSc m i j).toInt := ti_sub (by omega) (by omega)
  have hz : (mSc m k j - mSc m i j = 0) ↔ (mSc m k j).toInt = (mSc m i j).toInt := by
    rw [← Int32.toInt_inj, hs, Int32.toInt_zero]
    omega
  have hp : (0 < mSc m k j - mSc m i j) ↔ (mSc m i j).toInt < (mSc m k j).toInt := by
    rw [Int32.lt_iff_toInt_lt, hs, Int32.toInt_zero]
    omega
  have hl : (nI i ≤ nI k) ↔ i ≤ k := nI_leI (by omega) (by omega)
  unfold mAhB
  by_cases a : mAsk m j k = true
  · rw [if_pos a, Bool.or_eq_true, Bool.and_eq_true, decide_eq_true_iff, decide_eq_true_iff, hz, hp]
    simp only [a, true_and, Bool.not_eq_true', decide_eq_false_iff_not, hl]
    omega
  · rw [if_neg a, show decide ((0 : Int32) < -1) = false from by decide, show decide ((-1 : Int32) = 0) = false from by decide]
    constructor
    · intro q; cases q
    · intro q; exact absurd q.1 a
theorem mAh_cnt (g : sg) (j i : Nat) (k : Nat) : mAh g j i k = cntB (mAhB g j i) k := by
  induction k with
  | zero => rfl
  | succ k ih =>
    show mAh g j i k + b2 (mAhB g j i k) = cntB (mAhB g j i) k + (if mAhB g j i k = true then 1 else 0)
    rw [ih]
    rfl
theorem rank_ne {m : sg} {n j a b : Nat} (hn : n ≤ 30) (ha : a < n) (hb : b < n) (hab : mAhB m j b a = true) : mAh m j a n ≠ mAh m j b n := by
  rw [mAh_cnt, mAh_cnt, cntB_N, cntB_N]
  intro q
  have l1 := cntN_le (mAhB m j a) n
  have l2 := cntN_le (mAhB m j b) n
  have q2 := (nI_eq (by omega) (by omega)).mp q
  have h1 := (ah_iff (m := m) (j := j) (i := b) (k := a) (by omega) (by omega)).mp hab
  have : cntN (mAhB m j a) n < cntN (mAhB m j b) n := by
    refine cntN_lt (k := a) (fun t ht h => ?_) ha ?_ hab
    · have h2 := (ah_iff (by omega) (by omega)).mp h
      exact (ah_iff (by omega) (by omega)).mpr ⟨h2.1, by omega⟩
    · cases e : mAhB m j a a with
      | false => rfl
      | true =>
        have := (ah_iff (by omega) (by omega)).mp e
        omega
  omega
theorem rank_inj {m : sg} {n j a b : Nat} (hn : n ≤ 30) (ha : a < n) (hb : b < n) (qa : mAsk m j a = true) (qb : mAsk m j b = true) (h : mAh m j a n = mAh m j b n) : a = b := by
  rcases Nat.lt_trichotomy a b with c | c | c
  · exfalso
    by_cases d : (mSc m a j).toInt < (mSc m b j).toInt
    · exact rank_ne hn hb ha ((ah_iff (by omega) (by omega)).mpr ⟨qb, Or.inl d⟩) h.symm
    · exact rank_ne hn ha hb ((ah_iff (by omega) (by omega)).mpr ⟨qa, by omega⟩) h
  · exact c
  · exfalso
    by_cases d : (mSc m b j).toInt < (mSc m a j).toInt
    · exact rank_ne hn ha hb ((ah_iff (by omega) (by omega)).mpr ⟨qa, Or.inl d⟩) h
    · exact rank_ne hn hb ha ((ah_iff (by omega) (by omega)).mpr ⟨qb, by omega⟩) h.symm
theorem can_none {g : sg} {n j : Nat} {place : Int32} {K : Nat} (h : ∀ t, t < K → mAsk g j t = true → mAh g j t n = place → False) : mCan g n j place K = -1 := by
  induction K with
  | zero => rfl
  | succ K ih =>
    have ih := ih (fun t ht => h t (by omega))
    show (if mAsk g j K = true then (if mAh g j K n = place then nI K else mCan g n j place K) else mCan g n j place K) = -1
    by_cases a : mAsk g j K = true
    · rw [if_pos a, if_neg (fun q => h K (by omega) a q), ih]
    · rw [if_neg a, ih]
theorem can_at {g : sg} {n j k : Nat} {place : Int32} (h1 : mAsk g j k = true) (h2 : mAh g j k n = place) {K : Nat} (hk : k < K) (h : ∀ t, t < K → mAsk g j t = true → mAh g j t n = place → t = k) : mCan g n j place K = nI k := by
  induction K with
  | zero => omega
  | succ K ih =>
    show (if mAsk g j K = true then (if mAh g j K n = place then nI K else mCan g n j place K) else mCan g n j place K) = nI k
    by_cases e : K = k
    · subst e
      rw [if_pos h1, if_pos h2]
    · have ih := ih (by omega) (fun t ht => h t (by omega))
      by_cases a : mAsk g j K = true
      · rw [if_pos a, if_neg (fun q => e (h K (by omega) a q)), ih]
      · rw [if_neg a, ih]
theorem cNS_at (g : sg) (n j : Nat) {t : Nat} (ht : t < 30) : cNS g n j 30 8 t = if (decide (t < n) && cAsk g j t) = true then cSc g t j else -1 := by
  unfold cNS
  rw [if_pos ⟨rfl, ht⟩]
section RelK
variable {n nc : Nat} {c m : sg}
theorem kRl.ns (h : kRl n nc c m) {j t : Nat} (hj : j < nc) (ht : t < 30) : cNS c n j 30 8 t = if (decide (t < n) && mAsk m j t) = true then mSc m t j else -1 := by
  rw [cNS_at _ _ _ ht]
  by_cases q : t < n
  · rw [h.ask q hj, h.sc q hj]
  · rw [decide_eq_false q, Bool.false_and, Bool.false_and, if_neg (by decide), if_neg (by decide)]
theorem kRl.ns_t (h : kRl n nc c m) {j t : Nat} (hj : j < nc) (ht : t < n) (ha : mAsk m j t = true) : cNS c n j 30 8 t = mSc m t j := by
  rw [h.ns hj (Nat.lt_of_lt_of_le ht h.n30), if_pos]
  rw [decide_eq_true ht, ha]
  rfl
theorem kRl.ns_f (h : kRl n nc c m) {j t : Nat} (hj : j < nc) (ht : t < 30) (ha : ¬ (t < n ∧ mAsk m j t = true)) : cNS c n j 30 8 t = -1 := by
  rw [h.ns hj ht, if_neg]
  rw [Bool.and_eq_true, decide_eq_true_iff]
  exact ha
theorem kRl.pos (h : kRl n nc c m) {i j : Nat} (ha : mAsk m j i = true) : 1 ≤ (mSc m i j).toInt := mAsk_pos h.2.2.1.2.1 ha
theorem kRl.better (h : kRl n nc c m) {i j t : Nat} (hj : j < nc) (hi : i < n) (ha : mAsk m j i = true) (ht : t < 30) : cbB (cNS c n j 30) i t = (decide (t < n) && mAhB m j i t) := by
  have hn := h.n30
  have hp := h.pos ha
  have hm1 : (-1 : Int32).toInt = -1 := by decide
  have hl : (nI i ≤ nI t) ↔ i ≤ t := nI_leI (by omega) (by omega)
  unfold cbB
  rw [h.ns_t hj hi ha]
  by_cases q : t < n ∧ mAsk m j t = true
  · rw [h.ns_t hj q.1 q.2, decide_eq_true q.1, Bool.true_and, Bool.eq_iff_iff, ah_iff (by omega) (by omega)]
    rw [Bool.or_eq_true, Bool.and_eq_true, decide_eq_true_iff, decide_eq_true_iff, Int32.lt_iff_toInt_lt, ← Int32.toInt_inj]
    simp only [q.2, true_and, Bool.not_eq_true', decide_eq_false_iff_not, hl]
    omega
  · rw [h.ns_f hj ht q, decide_eq_false (show ¬ mSc m i j < -1 by rw [Int32.lt_iff_toInt_lt, hm1]; omega), decide_eq_false (show ¬ (-1 : Int32) = mSc m i j by rw [← Int32.toInt_inj, hm1]; omega)]
    by_cases q1 : t < n
    · have q2 : mAhB m j i t = false := by
        cases e : mAhB m j i t with
        | false => rfl
        | true => exact absurd ⟨q1, ((ah_iff (by omega) (by omega)).mp e).1⟩ q
      rw [q2, Bool.and_false]
      rfl
    · rw [decide_eq_false q1]
      rfl
theorem cnt_n {f : Nat → Bool} {n : Nat} (hn : n ≤ 30) : cntB (fun t => decide (t < n) && f t) 30 = cntB f n := by
  obtain ⟨d, hd⟩ : ∃ d, 30 = n + d := ⟨30 - n, by omega⟩
  rw [hd, cntB_up (fun t ht => by rw [decide_eq_false (by omega), Bool.false_and])]
  exact cntB_cg (fun t ht => by rw [decide_eq_true ht, Bool.true_and])
theorem kRl.rank (h : kRl n nc c m) {i j : Nat} (hj : j < nc) (hi : i < n) (ha : mAsk m j i = true) : cntB (cbB (cNS c n j 30) i) 30 = mAh m j i n := by
  rw [mAh_cnt, ← cnt_n h.n30]
  exact cntB_cg (fun t ht => h.better hj hi ha ht)
theorem kRl.cd (h : kRl n nc c m) {j t : Nat} {place : Int32} (hj : j < nc) (ht : t < 30) : cdB (cNS c n j 30) place t = true ↔ t < n ∧ mAsk m j t = true ∧ mAh m j t n = place := by
  unfold cdB
  by_cases q : t < n ∧ mAsk m j t = true
  · have hp := h.pos q.2
    rw [h.ns_t hj q.1 q.2, h.rank hj q.1 q.2, Bool.and_eq_true, decide_eq_true_iff, decide_eq_false (show ¬ mSc m t j = -1 by rw [← Int32.toInt_inj, show (-1 : Int32).toInt = -1 from by decide]; omega)]
    constructor
    · intro z; exact ⟨q.1, q.2, z.2⟩
    · intro z; exact ⟨rfl, z.2.2⟩
  · rw [h.ns_f hj ht q]
    constructor
    · intro z; cases z
    · intro z; exact absurd ⟨z.1, z.2.1⟩ q
theorem kRl.can (h : kRl n nc c m) {j : Nat} {place : Int32} (hj : j < nc) : fstI (cdB (cNS c n j 30) place) 30 = mCan m n j place n := by
  have hn := h.n30
  by_cases q : ∃ k, k < n ∧ mAsk m j k = true ∧ mAh m j k n = place
  · obtain ⟨k, hk, k1, k2⟩ := q
    rw [can_at k1 k2 hk (fun t ht t1 t2 => rank_inj hn ht hk t1 k1 (t2.trans k2.symm))]
    refine fst_at (fun t ht => ?_) ((h.cd hj (by omega)).mpr ⟨hk, k1, k2⟩) (by omega)
    cases e : cdB (cNS c n j 30) place t with
    | false => rfl
    | true =>
      obtain ⟨t0, t1, t2⟩ := (h.cd hj (by omega)).mp e
      have := rank_inj hn t0 hk t1 k1 (t2.trans k2.symm)
      omega
  · rw [can_none (fun t ht t1 t2 => q ⟨t, ht, t1, t2⟩)]
    refine fst_none (fun t ht => ?_)
    cases e : cdB (cNS c n j 30) place t with
    | false => rfl
    | true =>
      obtain ⟨t0, t1, t2⟩ := (h.cd hj ht).mp e
      exact absurd ⟨t, t0, t1, t2⟩ q
/-! the question -/
theorem mQm_cnt (g : sg) (j k : Nat) : mQm g j k = cntB (mAsk g j) k := by
  induction k with
  | zero => rfl
  | succ k ih =>
    show mQm g j k + b2 (mAsk g j k) = cntB (mAsk g j) k + (if mAsk g j k = true then 1 else 0)
    rw [ih]
    rfl
def hasW (g : sg) (w k : Nat) : Bool := bq (g 62 k ||| g 63 k) (nI w)
theorem mQb_cnt (g : sg) (j w k : Nat) : mQb g j (nI w) k = 2 * cntB (fun t => mAsk g j t && hasW g w t) k - cntB (mAsk g j) k := by
  induction k with
  | zero => exact (by decide +kernel : (0 : Int32) = 2 * 0 - 0)
  | succ k ih =>
    show mQb g j (nI w) k + (if mAsk g j k = true then (if (((g 62 k ||| g 63 k) >>> (nI w &&& 31)) &&& 1) = 1 then 1 else -1) else 0) = 2 * (cntB (fun t => mAsk g j t && hasW g w t) k + (if (mAsk g j k && hasW g w k) = true then 1 else 0)) - (cntB (mAsk g j) k + (if mAsk g j k = true then 1 else 0))
    rw [ih]
    generalize cntB (fun t => mAsk g j t && hasW g w t) k = A
    generalize cntB (mAsk g j) k = B
    cases a : mAsk g j k with
    | false => simp
    | true =>
      by_cases b : (((g 62 k ||| g 63 k) >>> (nI w &&& 31)) &&& 1) = 1
      · have hb : hasW g w k = true := decide_eq_true b
        rw [hb, if_pos b]
        simp
        grind
      · have hb : hasW g w k = false := decide_eq_false b
        rw [hb, if_neg b]
        simp
        grind
theorem mask_has {x : Int32} {w : Nat} (hw : w < 24) : (!(decide ((x &&& ((1 : Int32) <<< (nI w &&& 31))) = 0))) = bq x (nI w) := by
  rw [Bool.eq_iff_iff, ← mask_bq x (by omega)]
  simp
theorem kRl.nw (h : kRl n nc c m) {j w : Nat} (hj : j < nc) (hw : w < 24) : cntB (nwB (cNS c n j 30) n w) 30 = cntB (fun t => mAsk m j t && hasW m w t) n := by
  rw [← cnt_n h.n30]
  refine cntB_cg (fun t ht => ?_)
  unfold nwB
  by_cases q : t < n
  · rw [decide_eq_true q, Bool.true_and, Bool.true_and, mask_has hw, cNS_row _ _ _ _ (by omega : 100 + 3 * t ≠ 8), h.F q 8 62 (by decide) rfl (by decide), h.F q 3 63 (by decide) rfl (by decide)]
    by_cases a : mAsk m j t = true
    · have hp := h.pos a
      rw [h.ns_t hj q a, a, decide_eq_false (show ¬ mSc m t j = -1 by rw [← Int32.toInt_inj, show (-1 : Int32).toInt = -1 from by decide]; omega)]
      rfl
    · rw [h.ns_f hj ht (fun z => a z.2), Bool.eq_false_iff.mpr a]
      rfl
  · rw [decide_eq_false q, Bool.false_and, Bool.false_and]
theorem kRl.askn (h : kRl n nc c m) {j : Nat} (hj : j < nc) : cntB (askN c n j) 30 = cntB (mAsk m j) n := by
  rw [← cnt_n h.n30]
  refine cntB_cg (fun t ht => ?_)
  unfold askN
  by_cases q : t < n
  · rw [h.ask q hj]
  · rw [decide_eq_false q, Bool.false_and, Bool.false_and]
def farW (m : sg) (n j w : Nat) : Int32 := qFar (mQb m j (nI w) n)
theorem kRl.far (h : kRl n nc c m) {j w : Nat} (hj : j < nc) (hw : w < 24) : cFar (cNS c n j 30) n (mQm m j n) w = farW m n j w := by
  unfold cFar farW
  rw [h.nw hj hw, mQb_cnt, mQm_cnt]
  unfold qFar
  by_cases z : 0 ≤ 2 * cntB (fun t => mAsk m j t && hasW m w t) n - cntB (mAsk m j) n
  · rw [if_pos z, if_pos z]
  · rw [if_neg z, if_neg z, Int32.zero_sub]
end RelK
/-- a word that tells -/
def tels (m : sg) (n j w : Nat) : Prop := bq (m 80 j) (nI w) = false ∧ farW m n j w < mQm m j n
def bestW (m : sg) (n j lo hi : Nat) (b f : Int32) : Prop := (b = -1 ∧ ∀ w, lo ≤ w → w < hi → ¬ tels m n j w) ∨ ∃ w, lo ≤ w ∧ w < hi ∧ b = nI w ∧ f = farW m n j w ∧ tels m n j w ∧ ∀ v, lo ≤ v → v < hi → tels m n j v → farW m n j w ≤ farW m n j v ∧ (farW m n j v = farW m n j w → w ≤ v)
theorem best_one {m : sg} {n j lo hi : Nat} {b f b' f' : Int32} (h : bestW m n j lo hi b f) (h' : bestW m n j lo hi b' f') : b = b' := by
  rcases h with ⟨h1, h2⟩ | ⟨w, h1, h2, h3, h4, h5, h6⟩
  · rcases h' with ⟨k1, k2⟩ | ⟨v, k1, k2, k3, k4, k5, k6⟩
    · rw [h1, k1]
    · exact absurd k5 (h2 v k1 k2)
  · rcases h' with ⟨k1, k2⟩ | ⟨v, k1, k2, k3, k4, k5, k6⟩
    · exact absurd h5 (k2 w h1 h2)
    · obtain ⟨a1, a2⟩ := h6 v k1 k2 k5
      obtain ⟨b1, b2⟩ := k6 w h1 h2 h5
      have e := Int32.le_antisymm a1 b1
      have : w = v := Nat.le_antisymm (a2 e.symm) (b2 e)
      rw [h3, k3, this]
section RelQ
variable {n nc : Nat} {c m : sg}
theorem kRl.cq (h : kRl n nc c m) {j : Nat} (hj : j < nc) : ∀ w : Nat, w ≤ 24 → bestW m n j 0 w (cQ (cNS c n j 30) n (m 80 j) (mQm m j n) w).1 (cQ (cNS c n j 30) n (m 80 j) (mQm m j n) w).2 ∧ ((cQ (cNS c n j 30) n (m 80 j) (mQm m j n) w).1 = -1 → (cQ (cNS c n j 30) n (m 80 j) (mQm m j n) w).2 = mQm m j n)
  | 0, _ => ⟨Or.inl ⟨rfl, fun w _ h => absurd h (by omega)⟩, fun _ => rfl⟩
  | w + 1, hw => by
    obtain ⟨ih1, ih2⟩ := h.cq hj w (by omega)
    have hf := h.far hj (w := w) (by omega)
    have hm := mask_has (x := m 80 j) (w := w) (by omega)
    show bestW m n j 0 (w + 1) (if (m 80 j &&& ((1 : Int32) <<< (nI w &&& 31))) = 0 then (if (cQ (cNS c n j 30) n (m 80 j) (mQm m j n) w).2 ≤ cFar (cNS c n j 30) n (mQm m j n) w then cQ (cNS c n j 30) n (m 80 j) (mQm m j n) w else (nI w, cFar (cNS c n j 30) n (mQm m j n) w)) else cQ (cNS c n j 30) n (m 80 j) (mQm m j n) w).1 (if (m 80 j &&& ((1 : Int32) <<< (nI w &&& 31))) = 0 then (if (cQ (cNS c n j 30) n (m 80 j) (mQm m j n) w).2 ≤ cFar (cNS c n j 30) n (mQm m j n) w then cQ (cNS c n j 30) n (m 80 j) (mQm m j n) w else (nI w, cFar (cNS c n j 30) n (mQm m j n) w)) else cQ (cNS c n j 30) n (m 80 j) (mQm m j n) w).2 ∧ ((if (m 80 j &&& ((1 : Int32) <<< (nI w &&& 31))) = 0 then (if (cQ (cNS c n j 30) n (m 80 j) (mQm m j n) w).2 ≤ cFar (cNS c n j 30) n (mQm m j n) w then cQ (cNS c n j 30) n (m 80 j) (mQm m j n) w else (nI w, cFar (cNS c n j 30) n (mQm m j n) w)) else cQ (cNS c n j 30) n (m 80 j) (mQm m j n) w).1 = -1 → (if (m 80 j &&& ((1 : Int32) <<< (nI w &&& 31))) = 0 then (if (cQ (cNS c n j 30) n (m 80 j) (mQm m j n) w).2 ≤ cFar (cNS c n j 30) n (mQm m j n) w then cQ (cNS c n j 30) n (m 80 j) (mQm m j n) w else (nI w, cFar (cNS c n j 30) n (mQm m j n) w)) else cQ (cNS c n j 30) n (m 80 j) (mQm m j n) w).2 = mQm m j n)
    rw [hf]
    generalize cQ (cNS c n j 30) n (m 80 j) (mQm m j n) w = P at ih1 ih2 ⊢
    obtain ⟨b, f⟩ := P
    dsimp only at ih1 ih2
    have keep : ¬ (tels m n j w ∧ ¬ f ≤ farW m n j w) → bestW m n j 0 (w + 1) b f := by
      intro hk
      rcases ih1 with ⟨h1, h2⟩ | ⟨v, h1, h2, h3, h4, h5, h6⟩
      · refine Or.inl ⟨h1, fun v v1 v2 v3 => ?_⟩
        by_cases e : v = w
        · subst e
          refine hk ⟨v3, ?_⟩
          rw [ih2 h1]
          exact Int32.not_le.mpr v3.2
        · exact h2 v v1 (by omega) v3
      · refine Or.inr ⟨v, h1, by omega, h3, h4, h5, fun u u1 u2 u3 => ?_⟩
        by_cases e : u = w
        · subst e
          have q : f ≤ farW m n j u := Classical.byContradiction fun z => hk ⟨u3, z⟩
          rw [h4] at q
          exact ⟨q, fun _ => by omega⟩
        · exact h6 u u1 (by omega) u3
    by_cases z : (m 80 j &&& ((1 : Int32) <<< (nI w &&& 31))) = 0
    · rw [if_pos z]
      have zq : bq (m 80 j) (nI w) = false := by rw [← hm, decide_eq_true z]; rfl
      by_cases y : f ≤ farW m n j w
      · rw [if_pos y]
        exact ⟨keep (fun q => q.2 y), ih2⟩
      · rw [if_neg y]
        have y2 : farW m n j w < f := Int32.not_le.mp y
        have ht : tels m n j w := by
          refine ⟨zq, ?_⟩
          rcases ih1 with ⟨h1, h2⟩ | ⟨v, h1, h2, h3, h4, h5, h6⟩
          · rw [← ih2 h1]; exact y2
          · rw [h4] at y2
            exact Int32.lt_trans y2 h5.2
        refine ⟨Or.inr ⟨w, Nat.zero_le _, by omega, rfl, rfl, ht, fun u u1 u2 u3 => ?_⟩, fun q => absurd q ?_⟩
        · by_cases e : u = w
          · subst e
            exact ⟨Int32.le_refl _, fun _ => Nat.le_refl _⟩
          · rcases ih1 with ⟨h1, h2⟩ | ⟨v, h1, h2, h3, h4, h5, h6⟩
            · exact absurd u3 (h2 u u1 (by omega))
            · have g1 := (h6 u u1 (by omega) u3).1
              rw [h4] at y2
              have g2 := Int32.lt_of_lt_of_le y2 g1
              exact ⟨Int32.le_of_lt g2, fun q => by rw [q] at g2; exact (Int32.lt_irrefl g2).elim⟩
        · show ¬ nI w = -1
          exact (by decide +kernel : ∀ w : Nat, w < 24 → ¬ nI w = -1) w (by omega)
    · rw [if_neg z]
      have zq : bq (m 80 j) (nI w) = true := by rw [← hm, decide_eq_false z]; rfl
      exact ⟨keep (fun q => by rw [q.1.1] at zq; cases zq), ih2⟩
theorem mq_best (m : sg) (n j : Nat) : ∀ s : Nat, s ≤ 24 → bestW m n j (24 - s) 24 (mQ m n j s).1 (mQ m n j s).2
  | 0, _ => Or.inl ⟨rfl, fun w h1 h2 => absurd h2 (by omega)⟩
  | s + 1, hs => by
    have ih := mq_best m n j s (by omega)
    have hw : (23 : Int32) - nI s = nI (23 - s) := pk_sub (a := 23) (b := s) (by omega)
    show bestW m n j (24 - (s + 1)) 24 (if mQB (m 80 j) (23 - nI s) (qFar (mQb m j (23 - nI s) n)) (mQm m j n) (mQ m n j s).1 (mQ m n j s).2 = true then 23 - nI s else (mQ m n j s).1) (if mQB (m 80 j) (23 - nI s) (qFar (mQb m j (23 - nI s) n)) (mQm m j n) (mQ m n j s).1 (mQ m n j s).2 = true then qFar (mQb m j (23 - nI s) n) else (mQ m n j s).2)
    rw [hw]
    generalize mQ m n j s = P at ih ⊢
    obtain ⟨b, f⟩ := P
    obtain ⟨w, hw1⟩ : ∃ w, w = 23 - s := ⟨_, rfl⟩
    rw [← hw1]
    have e1 : 24 - (s + 1) = w := by omega
    have e2 : 24 - s = w + 1 := by omega
    have hw24 : w < 24 := by omega
    rw [e2] at ih
    rw [e1]
    dsimp only at ih ⊢
    have hB : mQB (m 80 j) (nI w) (qFar (mQb m j (nI w) n)) (mQm m j n) b f = true ↔ tels m n j w ∧ (b = -1 ∨ farW m n j w ≤ f) := by
      have hn : decide (((m 80 j >>> (nI w &&& 31)) &&& 1) = 0) = !bq (m 80 j) (nI w) := by
        rw [bq_bt _ (by omega), bit_if _ (by omega)]
        cases bt (m 80 j) w <;> rfl
      unfold mQB
      rw [hn]
      show (!bq (m 80 j) (nI w) && (!(decide (mQm m j n ≤ farW m n j w)) && (decide (b = -1) || !(decide (f < farW m n j w))))) = true ↔ _
      unfold tels
      rw [Bool.and_eq_true, Bool.and_eq_true, Bool.or_eq_true, decide_eq_true_iff]
      simp only [Bool.not_eq_true', decide_eq_false_iff_not, Int32.not_le, Int32.not_lt]
      exact ⟨fun q => ⟨⟨q.1, q.2.1⟩, q.2.2⟩, fun q => ⟨q.1.1, q.1.2, q.2⟩⟩
    show bestW m n j w 24 (if mQB (m 80 j) (nI w) (qFar (mQb m j (nI w) n)) (mQm m j n) b f = true then nI w else b) (if mQB (m 80 j) (nI w) (qFar (mQb m j (nI w) n)) (mQm m j n) b f = true then farW m n j w else f)
    by_cases z : mQB (m 80 j) (nI w) (qFar (mQb m j (nI w) n)) (mQm m j n) b f = true
    · rw [if_pos z, if_pos z]
      obtain ⟨z1, z2⟩ := hB.mp z
      refine Or.inr ⟨w, Nat.le_refl _, hw24, rfl, rfl, z1, fun u u1 u2 u3 => ⟨?_, fun _ => u1⟩⟩
      by_cases e : u = w
      · subst e; exact Int32.le_refl _
      · rcases ih with ⟨h1, h2⟩ | ⟨v, h1, h2, h3, h4, h5, h6⟩
        · exact absurd u3 (h2 u (by omega) u2)
        · have g1 := (h6 u (by omega) u2 u3).1
          rcases z2 with z2 | z2
          · rw [h3] at z2
            exact absurd z2 ((by decide +kernel : ∀ w : Nat, w < 24 → ¬ nI w = -1) v h2)
          · rw [h4] at z2
            exact Int32.le_trans z2 g1
    · rw [if_neg z, if_neg z]
      have z0 : ¬ (tels m n j w ∧ (b = -1 ∨ farW m n j w ≤ f)) := fun q => z (hB.mpr q)
      rcases ih with ⟨h1, h2⟩ | ⟨v, h1, h2, h3, h4, h5, h6⟩
      · refine Or.inl ⟨h1, fun u u1 u2 u3 => ?_⟩
        by_cases e : u = w
        · subst e; exact z0 ⟨u3, Or.inl h1⟩
        · exact h2 u (by omega) u2 u3
      · refine Or.inr ⟨v, by omega, h2, h3, h4, h5, fun u u1 u2 u3 => ?_⟩
        by_cases e : u = w
        · subst e
          have q : ¬ farW m n j u ≤ f := fun y => z0 ⟨u3, Or.inr y⟩
          have q2 : f < farW m n j u := Int32.not_le.mp q
          rw [h4] at q2
          exact ⟨Int32.le_of_lt q2, fun y => by rw [y] at q2; exact (Int32.lt_irrefl q2).elim⟩
        · exact h6 u (by omega) u2 u3
theorem kRl.q (h : kRl n nc c m) {j : Nat} (hj : j < nc) : (cQ (cNS c n j 30) n (c (200 + j) 5) (cntB (askN c n j) 30) 24).1 = (mQ m n j 24).1 := by
  rw [h.C hj 5 80 (by decide) rfl (by decide), h.askn hj, ← mQm_cnt]
  exact best_one (h.cq hj 24 (Nat.le_refl _)).1 (mq_best m n j 24 (Nat.le_refl _))
end RelQ
