/-! the class's side, part 2: scores, candidates, days -/
theorem vp_n0 {x : Int32} {N : Nat} (h : vp_in x N) : ¬ x < 0 := fun c => h (Or.inl c)
theorem vp_nge {x M : Int32} {N : Nat} (h : vp_in x N) (hM : M.toInt = N) : ¬ M ≤ x := by
  rw [Int32.le_iff_toInt_le]
  have := vp_in_iff.mp h
  omega
def wn (near : Nat → Int32) (x : Int32) : Nat → Int32
  | 0 => 0
  | k + 1 => if (x &&& ((1 : Int32) <<< (nI k &&& 31))) = 0 then wn near x k else wn near x k ||| near k
theorem mx0 (t : Int32) : (if (0 : Int32) < t then t else 0) = if 0 ≤ t then t else 0 := by
  by_cases h : (0 : Int32) < t
  · rw [if_pos h, if_pos (Int32.le_of_lt h)]
  · rw [if_neg h]
    by_cases h2 : (0 : Int32) ≤ t
    · rw [if_pos h2]
      exact (Int32.le_antisymm (Int32.not_lt.mp h) h2).symm
    · rw [if_neg h2]
theorem scD_c {d f t : Int32} (hd : vp_in d 10000) (ht : vp_in t 10000) : scD d f t = if f ≤ d then (if (0 : Int32) < 20 - 2 * (if (0 : Int32) < d - t then d - t else 0) then 20 - 2 * (if (0 : Int32) < d - t then d - t else 0) else 0) else 0 := by
  obtain ⟨a, ha, rfl⟩ := vp_in_of hd (by decide)
  obtain ⟨b, hb, rfl⟩ := vp_in_of ht (by decide)
  unfold scD
  by_cases h : f ≤ nI a
  case neg => rw [if_neg h, if_neg h]
  case pos =>
    rw [if_pos h, if_pos h]
    have hi := pk_sub_toInt (a := a) (b := b) (by omega) (by omega)
    by_cases c : b < a
    · rw [pk_sub (by omega)]
      have h1 : (0 : Int32) < nI (a - b) := nI_lt (a := 0) (b := a - b) (by omega) (by omega)
      rw [if_pos h1, if_pos h1, show (2 : Int32) * nI (a - b) = nI (2 * (a - b)) from pk_mul 2 (a - b)]
      have h20 := pk_sub_toInt (a := 20) (b := 2 * (a - b)) (by omega) (by omega)
      by_cases c2 : (10 : Int32) ≤ nI (a - b)
      · have c3 : 10 ≤ a - b := (nI_leI (a := 10) (b := a - b) (by omega) (by omega)).mp c2
        rw [if_pos c2, if_neg]
        rw [Int32.lt_iff_toInt_lt, Int32.toInt_zero]
        have : ((20 : Int32) - nI (2 * (a - b))).toInt = _ := h20
        omega
      · have c3 : a - b < 10 := Nat.not_le.mp fun q => c2 ((nI_leI (a := 10) (b := a - b) (by omega) (by omega)).mpr q)
        rw [if_neg c2, if_pos]
        rw [Int32.lt_iff_toInt_lt, Int32.toInt_zero]
        have : ((20 : Int32) - nI (2 * (a - b))).toInt = _ := h20
        omega
    · have h1 : ¬ (0 : Int32) < nI a - nI b := by
        rw [Int32.lt_iff_toInt_lt, Int32.toInt_zero]
        omega
      rw [if_neg h1, if_neg h1]
      decide +kernel
theorem b_not (x : Int32) {i : Nat} (h : i < 32) : bt (x ^^^ (-1)) i = !bt x i := by
  rw [b_xor, b_m1 i h]
  cases bt x i <;> rfl
theorem bit_if (x : Int32) {k : Nat} (hk : k < 32) : ((x >>> (nI k &&& 31)) &&& 1) = if bt x k = true then 1 else 0 := by
  refine b_ext fun i hi => ?_
  rw [b_and, b_sshr k hk x hi, b_1]
  by_cases e : i = 0
  · subst e
    simp only [Nat.add_zero, hk, if_true, decide_true, Bool.and_true]
    cases bt x k
    · rw [if_neg (by decide), b_0]
    · rw [if_pos rfl, b_1]; rfl
  · rw [decide_eq_false e, Bool.and_false]
    cases bt x k
    · rw [if_neg (by decide), b_0]
    · rw [if_pos rfl, b_1, decide_eq_false e]
theorem wn_bt (near : Nat → Int32) (x : Int32) (i : Nat) : ∀ K, K ≤ 32 → (bt (wn near x K) i = true ↔ ∃ k, k < K ∧ bt x k = true ∧ bt (near k) i = true)
  | 0, _ => by
    unfold wn
    rw [b_0]
    exact ⟨fun h => absurd h (by decide), fun ⟨k, h, _⟩ => absurd h (by omega)⟩
  | K + 1, hK => by
    have ih := wn_bt near x i K (by omega)
    have hm := mask_bq x (k := K) (by omega)
    rw [bq_bt x (by omega)] at hm
    unfold wn
    by_cases c : (x &&& ((1 : Int32) <<< (nI K &&& 31))) = 0
    · rw [if_pos c, ih]
      constructor
      · rintro ⟨k, h1, h2⟩; exact ⟨k, by omega, h2⟩
      · rintro ⟨k, h1, h2, h3⟩
        by_cases e : k = K
        · subst e; exact absurd c (hm.mpr h2)
        · exact ⟨k, by omega, h2, h3⟩
    · rw [if_neg c, b_or, Bool.or_eq_true, ih]
      constructor
      · rintro (⟨k, h1, h2⟩ | h)
        · exact ⟨k, by omega, h2⟩
        · exact ⟨K, by omega, hm.mp c, h⟩
      · rintro ⟨k, h1, h2, h3⟩
        by_cases e : k = K
        · subst e; exact Or.inr h3
        · exact Or.inl ⟨k, by omega, h2, h3⟩
/-- near as it is told by either side -/
def nSy (near : Nat → Int32) : Prop := ∀ a b, a < 24 → b < 24 → bt (near a) b = bt (near b) a
theorem wn_sy {near : Nat → Int32} (hs : nSy near) {K : Int32} (hK : sB K) {w : Nat} (hw : w < 24) : (K &&& near w = 0) ↔ bt (wn near K 24) w = false := by
  constructor
  · intro h
    cases c : bt (wn near K 24) w with
    | false => rfl
    | true =>
      obtain ⟨k, h1, h2, h3⟩ := (wn_bt near K w 24 (by decide)).mp c
      have : bt (K &&& near w) k = true := by rw [b_and, h2, hs w k hw h1, h3]; rfl
      rw [h, b_0] at this
      cases this
  · intro h
    apply Classical.byContradiction
    intro hn
    obtain ⟨k, h1, h2⟩ := (ne0_bt _).mp hn
    rw [b_and, Bool.and_eq_true] at h2
    have hk : k < 24 := Nat.not_le.mp fun q => by rw [hK k q] at h2; exact absurd h2.1 (by decide)
    have : bt (wn near K 24) w = true := (wn_bt near K w 24 (by decide)).mpr ⟨k, hk, h2.1, by rw [← hs w k hw hk]; exact h2.2⟩
    rw [h] at this
    cases this
theorem scW_s (K S : Int32) (near : Nat → Int32) (w : Nat) (hw : w < 32) : scW K S near (w + 1) = scW K S near w + (if bt S w = true then (if bt K w = true then 6 else (if (K &&& near w) = 0 then -1 else 3)) else 0) := by
  show scW K S near w + (if (decide (((S >>> (nI w &&& 31)) &&& 1) = 1)) = true then (if ((K >>> (nI w &&& 31)) &&& 1) = 1 then 6 else (if (K &&& near w) = 0 then -1 else 3)) else 0) = _
  have h1 : (decide (((S >>> (nI w &&& 31)) &&& 1) = 1)) = bt S w := bq_bt S hw
  have h2 : (decide (((K >>> (nI w &&& 31)) &&& 1) = 1)) = bt K w := bq_bt K hw
  rw [h1, ← h2]
  congr 1
  by_cases c : bt S w = true
  · rw [if_pos c, if_pos c]
    by_cases d : ((K >>> (nI w &&& 31)) &&& 1) = 1
    · rw [if_pos d, if_pos (decide_eq_true d)]
    · rw [if_neg d, if_neg (show ¬ (decide (((K >>> (nI w &&& 31)) &&& 1) = 1) = true) by rw [decide_eq_false d]; decide)]
  · rw [if_neg c, if_neg c]
theorem sw_eq {K S : Int32} {near : Nat → Int32} (hK : sB K) (hs : nSy near) : 6 * bits (S &&& K) + 3 * bits (S &&& (K ^^^ (-1)) &&& wn near K 24) - 1 * bits (S &&& (K ^^^ (-1)) &&& ((S &&& (K ^^^ (-1)) &&& wn near K 24) ^^^ (-1))) = scW K S near 24 := by
  have key : ∀ w, w ≤ 24 → 6 * bsum (S &&& K) w + 3 * bsum (S &&& (K ^^^ (-1)) &&& wn near K 24) w - 1 * bsum (S &&& (K ^^^ (-1)) &&& ((S &&& (K ^^^ (-1)) &&& wn near K 24) ^^^ (-1))) w = scW K S near w := by
    intro w
    induction w with
    | zero => intro _; exact (by decide +kernel : (6 : Int32) * 0 + 3 * 0 - 1 * 0 = 0)
    | succ w ih =>
      intro hw
      have ih := ih (by omega)
      have hW := wn_sy hs hK (w := w) (by omega)
      rw [scW_s K S near w (by omega), ← ih]
      show 6 * (bsum (S &&& K) w + (((S &&& K) >>> (nI w &&& 31)) &&& 1)) + 3 * (bsum (S &&& (K ^^^ (-1)) &&& wn near K 24) w + (((S &&& (K ^^^ (-1)) &&& wn near K 24) >>> (nI w &&& 31)) &&& 1)) - 1 * (bsum (S &&& (K ^^^ (-1)) &&& ((S &&& (K ^^^ (-1)) &&& wn near K 24) ^^^ (-1))) w + (((S &&& (K ^^^ (-1)) &&& ((S &&& (K ^^^ (-1)) &&& wn near K 24) ^^^ (-1))) >>> (nI w &&& 31)) &&& 1)) = _
      rw [bit_if (S &&& K) (by omega), bit_if (S &&& (K ^^^ (-1)) &&& wn near K 24) (by omega), bit_if (S &&& (K ^^^ (-1)) &&& ((S &&& (K ^^^ (-1)) &&& wn near K 24) ^^^ (-1))) (by omega)]
      rw [b_and S K, b_and _ (wn near K 24), b_and S (K ^^^ (-1)), b_not K (by omega), b_and _ ((S &&& (K ^^^ (-1)) &&& wn near K 24) ^^^ (-1)), b_and S (K ^^^ (-1)), b_not K (by omega), b_not _ (by omega), b_and _ (wn near K 24), b_and S (K ^^^ (-1)), b_not K (by omega)]
      generalize bsum (S &&& K) w = A
      generalize bsum (S &&& (K ^^^ (-1)) &&& wn near K 24) w = B
      generalize bsum (S &&& (K ^^^ (-1)) &&& ((S &&& (K ^^^ (-1)) &&& wn near K 24) ^^^ (-1))) w = C
      cases hS : bt S w with
      | false => simp
      | true =>
        cases hk : bt K w with
        | true => simp; grind
        | false =>
          cases hn : bt (wn near K 24) w with
          | true =>
            have : ¬ (K &&& near w) = 0 := fun q => by rw [hW.mp q] at hn; cases hn
            simp [this]; grind
          | false =>
            have : (K &&& near w) = 0 := hW.mpr hn
            simp [this]; grind
  exact key 24 (Nat.le_refl _)
theorem prv_c (sec told : Int32) : prv sec told = ((!(decide (bits (told &&& sec) < (if bits sec < 2 then bits sec else 2)))) && (!(decide (1 < bits (told &&& (sec ^^^ (-1))))))) := by
  unfold prv
  rw [Int32.and_comm sec told]
  congr 4
  by_cases h : bits sec < 2
  · rw [if_pos h, if_neg (Int32.not_le.mpr h)]
  · rw [if_neg h, if_pos (Int32.not_lt.mp h)]
def cR (n nc : Nat) (g : sg) : Prop :=
  (∀ i, i < n → vp_in (g (100 + 3 * i) 0) 8 ∧ vp_in (g (100 + 3 * i) 1) 10 ∧ vp_in (g (100 + 3 * i) 2) 10000 ∧ sB (g (100 + 3 * i) 8) ∧ sB (g (100 + 3 * i) 3)) ∧
  (∀ j, j < nc → vp_in (g (200 + j) 1) 8 ∧ vp_in (g (200 + j) 2) 10 ∧ vp_in (g (200 + j) 4) 10000 ∧ sB (g (200 + j) 5) ∧ sB (g (200 + j) 6) ∧ g (200 + j) 0 = nI j) ∧ nSy (g 1)
def cCnd (g : sg) (i j : Nat) : Bool := cnd (g (200 + j) 7) (cSc g i j) (g 0 11)
def cPrv (g : sg) (i j : Nat) : Bool := prv (g (100 + 3 * i) 3) (g (200 + j) 6)
def cBt (g : sg) (i j k : Nat) : Bool := btn (nI j) (g (200 + k) 7) (cPrv g i k) (cSc g i j) (cSc g i k) (nI k)
def cBeaten (g : sg) (nc i j : Nat) : Bool := anyB (cBt g i j) nc
def cServe (g : sg) (nc i j : Nat) : Bool := cCnd g i j && (cPrv g i j && (!(cBeaten g nc i j)))
def cAsk (g : sg) (j i : Nat) : Bool := cHere g i && cCnd g i j
def cOv0 (g : sg) (i : Nat) : Bool := (decide (g (100 + 3 * i) 9 = 0)) && ((!(decide (g 0 10 ≤ g (100 + 3 * i) 11))) && (decide (g (100 + 3 * i) 12 = 0)))
def cOver (g : sg) (nc i : Nat) : Bool := cOv0 g i && !anyB (fun j => cCnd g i j) nc
theorem anyB_t {f : Nat → Bool} {k n : Nat} (h : k < n) (hf : f k = true) : anyB f n = true := by
  induction n with
  | zero => omega
  | succ n ih =>
    unfold anyB
    by_cases e : k = n
    · subst e; rw [hf, Bool.or_true]
    · rw [ih (by omega), Bool.true_or]
theorem anyB_f {f : Nat → Bool} {n : Nat} (h : ∀ t, t < n → f t = false) : anyB f n = false := by
  induction n with
  | zero => rfl
  | succ n ih =>
    unfold anyB
    rw [ih (fun t ht => h t (by omega)), h n (by omega)]
    rfl
theorem btn_c (kj st : Int32) (pr : Bool) (its oth kk : Int32) : btn kj st pr its oth kk = (((!(decide (kk = kj))) && (decide (st = 0))) && (pr && ((decide (its < oth)) || ((decide (oth = its)) && (!(decide (kj ≤ kk))))))) := by
  unfold btn
  rw [Bool.and_assoc]
/-- noted scores -/
def cNS (g : sg) (n j K : Nat) : sg := fun k t => if k = 8 ∧ t < K then (if (decide (t < n) && cAsk g j t) = true then cSc g t j else -1) else g k t
theorem cNS_row (g : sg) (n j K : Nat) {k : Nat} (h : k ≠ 8) : cNS g n j K k = g k := by
  funext t
  unfold cNS
  rw [if_neg (fun q => h q.1)]
theorem cNS_0 (g : sg) (n j : Nat) : cNS g n j 0 = g := by
  funext k t
  unfold cNS
  rw [if_neg (by omega)]
theorem cNS_sc (g : sg) (n j K i t : Nat) : cSc (cNS g n j K) i t = cSc g i t := by
  unfold cSc
  rw [cNS_row _ _ _ _ (by omega : 100 + 3 * i ≠ 8), cNS_row _ _ _ _ (by omega : 200 + t ≠ 8), cNS_row _ _ _ _ (by decide : 2 ≠ 8), cNS_row _ _ _ _ (by decide : 3 ≠ 8), cNS_row _ _ _ _ (by decide : 1 ≠ 8)]
theorem cNS_cnd (g : sg) (n j K i t : Nat) : cCnd (cNS g n j K) i t = cCnd g i t := by
  unfold cCnd
  rw [cNS_sc, cNS_row _ _ _ _ (by omega : 200 + t ≠ 8), cNS_row _ _ _ _ (by decide : 0 ≠ 8)]
theorem cNS_ask (g : sg) (n j K i t : Nat) : (cHere (cNS g n j K) i && cCnd (cNS g n j K) i t) = cAsk g t i := by
  unfold cAsk cHere
  rw [cNS_cnd, cNS_row _ _ _ _ (by omega : 100 + 3 * i ≠ 8)]
theorem cNS_R {n nc : Nat} {g : sg} (h : cR n nc g) (j K : Nat) : cR n nc (cNS g n j K) := by
  obtain ⟨h1, h2, h3⟩ := h
  refine ⟨fun i hi => ?_, fun t ht => ?_, ?_⟩
  · rw [cNS_row _ _ _ _ (by omega : 100 + 3 * i ≠ 8)]; exact h1 i hi
  · rw [cNS_row _ _ _ _ (by omega : 200 + t ≠ 8)]; exact h2 t ht
  · rw [cNS_row _ _ _ _ (by decide : 1 ≠ 8)]; exact h3
theorem cNS_s {g : sg} {n j k : Nat} {v : Int32} (hv : v = if (decide (k < n) && cAsk g j k) = true then cSc g k j else -1) : sU (cNS g n j k) 8 k v = cNS g n j (k + 1) := by
  subst hv
  funext a t
  unfold sU cNS
  by_cases h : a = 8
  · subst h
    by_cases e : t = k
    · subst e
      simp only [true_and, if_true, Nat.lt_succ_self]
    · by_cases e2 : t < k
      · simp [e, e2, show t < k + 1 by omega]
      · simp [e, e2, show ¬ t < k + 1 by omega]
  · simp [h]
theorem cNS_y {g : sg} {n j k : Nat} (h : k < n) : (if (cHere (cNS g n j k) k && cCnd (cNS g n j k) k j) = true then cSc (cNS g n j k) k j else -1) = if (decide (k < n) && cAsk g j k) = true then cSc g k j else -1 := by
  rw [cNS_ask, cNS_sc, decide_eq_true h, Bool.true_and]
theorem cNS_n {g : sg} {n j k : Nat} (h : n ≤ k) : (-1 : Int32) = if (decide (k < n) && cAsk g j k) = true then cSc g k j else -1 := by
  rw [decide_eq_false (Nat.not_lt.mpr h), Bool.false_and, if_neg (by decide)]
def askN (g : sg) (n j : Nat) : Nat → Bool := fun t => decide (t < n) && cAsk g j t
theorem askN_t {g : sg} {n j k : Nat} (h : k < n) (c : (cHere (cNS g n j k) k && cCnd (cNS g n j k) k j) = true) : cntB (askN g n j) (k + 1) = cntB (askN g n j) k + 1 := by
  rw [cNS_ask] at c
  show cntB (askN g n j) k + (if askN g n j k = true then 1 else 0) = _
  rw [show askN g n j k = true from by unfold askN; rw [decide_eq_true h, c]; rfl]
  rfl
theorem askN_f {g : sg} {n j k : Nat} (c : (cHere (cNS g n j k) k && cCnd (cNS g n j k) k j) = false) : cntB (askN g n j) (k + 1) = cntB (askN g n j) k := by
  rw [cNS_ask] at c
  show cntB (askN g n j) k + (if askN g n j k = true then 1 else 0) = _
  rw [show askN g n j k = false from by unfold askN; rw [c, Bool.and_false]]
  exact Int32.add_zero _
theorem askN_n {g : sg} {n j k : Nat} (h : n ≤ k) : cntB (askN g n j) (k + 1) = cntB (askN g n j) k := by
  show cntB (askN g n j) k + (if askN g n j k = true then 1 else 0) = _
  rw [show askN g n j k = false from by unfold askN; rw [decide_eq_false (Nat.not_lt.mpr h)]; rfl]
  exact Int32.add_zero _
/-- who is better; the first that .. -/
def cbB (g : sg) (i t : Nat) : Bool := (decide (g 8 i < g 8 t)) || ((decide (g 8 t = g 8 i)) && (!(decide (nI i ≤ nI t))))
def fstI (f : Nat → Bool) : Nat → Int32
  | 0 => -1
  | k + 1 => if anyB f k = true then fstI f k else if f k = true then nI k else -1
theorem fst_none {f : Nat → Bool} {k : Nat} (h : ∀ t, t < k → f t = false) : fstI f k = -1 := by
  cases k with
  | zero => rfl
  | succ k =>
    unfold fstI
    rw [anyB_f (fun t ht => h t (by omega)), h k (by omega)]
    rfl
theorem fst_at {f : Nat → Bool} {k : Nat} (h : ∀ t, t < k → f t = false) (hk : f k = true) {N : Nat} (hN : k < N) : fstI f N = nI k := by
  induction N with
  | zero => omega
  | succ N ih =>
    unfold fstI
    by_cases e : k = N
    · subst e
      rw [anyB_f h, hk]
      rfl
    · rw [anyB_t (by omega : k < N) hk]
      exact ih (by omega)
def cdB (g : sg) (place : Int32) (t : Nat) : Bool := (!(decide (g 8 t = -1))) && (decide (cntB (cbB g t) 30 = place))
/-- a word that halves them -/
def nwB (g : sg) (n : Nat) (w t : Nat) : Bool := decide (t < n) && ((!(decide (g 8 t = -1))) && (!(decide (((g (100 + 3 * t) 8 ||| g (100 + 3 * t) 3) &&& ((1 : Int32) <<< (nI w &&& 31))) = 0))))
def cFar (g : sg) (n : Nat) (many : Int32) (w : Nat) : Int32 := if 0 ≤ 2 * cntB (nwB g n w) 30 - many then 2 * cntB (nwB g n w) 30 - many else 0 - (2 * cntB (nwB g n w) 30 - many)
def cQ (g : sg) (n : Nat) (said many : Int32) : Nat → Int32 × Int32
  | 0 => (-1, many)
  | w + 1 => if (said &&& ((1 : Int32) <<< (nI w &&& 31))) = 0 then (if (cQ g n said many w).2 ≤ cFar g n many w then cQ g n said many w else (nI w, cFar g n many w)) else cQ g n said many w
/-- days -/
def erC (st d f : Int32) : Bool := ((decide (st = 1)) || (decide (st = 2))) && (!(decide (d - f < 90)))
def cErs (g : sg) (j : Nat) (d : Int32) : sg := if erC (g (200 + j) 7) d (g (200 + j) 9) = true then sU (sU (sU g (200 + j) 7 3) (200 + j) 5 0) (200 + j) 6 0 else g
def cBag (G : sg) (n : Nat) : Nat → sg
  | 0 => G
  | k + 1 => if k < n then (if cBag G n k (100 + 3 * k) 9 = 1 then cComes (cBag G n k) k (cBag G n k (100 + 3 * k) 10) (cBag G n k 0 10) else cBag G n k) else cBag G n k
def cEr (G : sg) (nc : Nat) : Nat → sg
  | 0 => G
  | k + 1 => if k < nc then cErs (cEr G nc k) k (cEr G nc k 0 10) else cEr G nc k
def cDay (g : sg) (n nc : Nat) : sg := cEr (cBag (sU g 0 10 (g 0 10 + 1)) n 30) nc 20
def cDays (g : sg) (n nc : Nat) : Nat → sg
  | 0 => g
  | k + 1 => cDay (cDays g n nc k) n nc
theorem cComes_row (g : sg) (i : Nat) (r d : Int32) {k : Nat} (h : k < 100 ∨ 200 ≤ k) (hi : i < 30) : cComes g i r d k = g k := by
  unfold cComes
  rw [if_neg (by omega), if_neg (by omega), if_neg (by omega)]
theorem cBag_row (G : sg) (n : Nat) {k : Nat} (h : k < 100 ∨ 200 ≤ k) (hn : n ≤ 30) (K : Nat) : cBag G n K k = G k := by
  induction K with
  | zero => rfl
  | succ K ih =>
    unfold cBag
    by_cases c : K < n
    · rw [if_pos c]
      by_cases d : cBag G n K (100 + 3 * K) 9 = 1
      · rw [if_pos d, cComes_row _ _ _ _ h (by omega), ih]
      · rw [if_neg d, ih]
    · rw [if_neg c, ih]
theorem cErs_row (g : sg) (j : Nat) (d : Int32) {k : Nat} (h : k < 200) : cErs g j d k = g k := by
  unfold cErs
  by_cases c : erC (g (200 + j) 7) d (g (200 + j) 9) = true
  · rw [if_pos c, sU_row _ _ _ (by omega), sU_row _ _ _ (by omega), sU_row _ _ _ (by omega)]
  · rw [if_neg c]
theorem cEr_row (G : sg) (nc : Nat) {k : Nat} (h : k < 200) (K : Nat) : cEr G nc K k = G k := by
  induction K with
  | zero => rfl
  | succ K ih =>
    unfold cEr
    by_cases c : K < nc
    · rw [if_pos c, cErs_row _ _ _ h, ih]
    · rw [if_neg c, ih]
theorem cBag_h {G : sg} {n i : Nat} (h : ∃ h : Nat, h ≤ 12 ∧ G (100 + 3 * i) 7 = nI h) (K : Nat) : ∃ h : Nat, h ≤ 12 ∧ cBag G n K (100 + 3 * i) 7 = nI h := by
  induction K with
  | zero => exact h
  | succ K ih =>
    unfold cBag
    by_cases c : K < n
    · rw [if_pos c]
      by_cases d : cBag G n K (100 + 3 * K) 9 = 1
      · rw [if_pos d]
        unfold cComes
        rw [if_neg (by omega), if_neg (by omega)]
        by_cases e : i = K
        · subst e
          rw [if_pos rfl]
          simp only [upd, if_true]
          exact cmH_ok ih
        · rw [if_neg (by omega)]; exact ih
      · rw [if_neg d]; exact ih
    · rw [if_neg c]; exact ih
theorem cDay_row (g : sg) (n nc : Nat) {k : Nat} (h : k < 100) (h0 : k ≠ 0) (hn : n ≤ 30) : cDay g n nc k = g k := by
  unfold cDay
  rw [cEr_row _ _ (by omega), cBag_row _ _ (Or.inl h) hn, sU_row _ _ _ h0]
theorem cDays_row (g : sg) (n nc : Nat) {k : Nat} (h : k < 100) (h0 : k ≠ 0) (hn : n ≤ 30) (K : Nat) : cDays g n nc K k = g k := by
  induction K with
  | zero => rfl
  | succ K ih => unfold cDays; rw [cDay_row _ _ _ h h0 hn, ih]
theorem cDay_h {g : sg} {n nc i : Nat} (hi : i < 30) (h : ∃ h : Nat, h ≤ 12 ∧ g (100 + 3 * i) 7 = nI h) : ∃ h : Nat, h ≤ 12 ∧ cDay g n nc (100 + 3 * i) 7 = nI h := by
  unfold cDay
  rw [cEr_row _ _ (by omega)]
  exact cBag_h (by rw [sU_k _ _ _ _ (by omega)]; exact h) 30
theorem cDays_h {g : sg} {n nc i : Nat} (hi : i < 30) (h : ∃ h : Nat, h ≤ 12 ∧ g (100 + 3 * i) 7 = nI h) (K : Nat) : ∃ h : Nat, h ≤ 12 ∧ cDays g n nc K (100 + 3 * i) 7 = nI h := by
  induction K with
  | zero => exact h
  | succ K ih => unfold cDays; exact cDay_h hi ih
theorem inn_sB {x : Int32} (h : inn x 0 16777215 = true) : sB x := by
  obtain ⟨h1, h2⟩ := inn_toInt h
  have e : (16777215 : Int32).toInt = 16777215 := rfl
  have e0 : (0 : Int32).toInt = 0 := rfl
  have hv : vp_in x 16777216 := vp_in_iff.mpr ⟨by omega, by omega⟩
  obtain ⟨X, hX, rfl⟩ := vp_in_of hv (by decide)
  intro k hk
  show (nI X).toBitVec.toNat.testBit k = false
  rw [pk_tn (by omega)]
  exact Nat.testBit_lt_two_pow (Nat.lt_of_lt_of_le hX (show 16777216 ≤ 2 ^ k from Nat.pow_le_pow_right (n := 2) (by decide) hk))
theorem cc_7 (g : sg) (i : Nat) (r d : Int32) : cComes g i r d (100 + 3 * i) 7 = cmH (g (100 + 3 * i) 7) := by
  unfold cComes
  rw [if_neg (by omega), if_neg (by omega), if_pos rfl]
  rfl
/-- lose, audit, hand, of -/
abbrev lcB (g : sg) (room : Int32) (k : Nat) : Prop := g (100 + 3 * k) 9 = 1 ∧ g (100 + 3 * k) 10 = room
def lcN (g : sg) (room : Int32) (n : Nat) : Nat → Int32
  | 0 => 0
  | k + 1 => lcN g room n k + (if k < n ∧ lcB g room k then 1 else 0)
def lcS (g : sg) (room : Int32) (n K : Nat) : sg := fun k j => if j = 9 ∧ 100 ≤ k ∧ (k - 100) % 3 = 0 ∧ (k - 100) / 3 < K ∧ (k - 100) / 3 < n ∧ n ≤ 30 ∧ lcB g room ((k - 100) / 3) then 2 else g k j
theorem lcS_row (g : sg) (room : Int32) (n K : Nat) {k : Nat} (h : k < 100 ∨ 200 ≤ k) : lcS g room n K k = g k := by
  funext j
  unfold lcS
  rw [if_neg (by rintro ⟨-, h1, -, -, h2, h3, -⟩; omega)]
theorem lcS_0 (g : sg) (room : Int32) (n : Nat) : lcS g room n 0 = g := by
  funext k j
  unfold lcS
  rw [if_neg (by rintro ⟨-, h1, -, h2, -⟩; omega)]
theorem lcS_9 (g : sg) (room : Int32) (n k : Nat) : lcS g room n k (100 + 3 * k) 9 = g (100 + 3 * k) 9 := by
  unfold lcS
  rw [if_neg (by rintro ⟨-, h1, -, h2, -⟩; omega)]
theorem lcS_10 (g : sg) (room : Int32) (n K k : Nat) : lcS g room n K (100 + 3 * k) 10 = g (100 + 3 * k) 10 := by
  unfold lcS
  rw [if_neg (by rintro ⟨h1, -⟩; omega)]
theorem lcS_f {g : sg} {room : Int32} {n k : Nat} (h : ¬ lcB g room k) : lcS g room n k = lcS g room n (k + 1) := by
  funext a j
  unfold lcS
  by_cases c : (a - 100) / 3 = k
  · rw [if_neg (by rintro ⟨-, -, -, h2, -⟩; omega), if_neg (by rintro ⟨-, -, -, -, -, -, h2⟩; rw [c] at h2; exact h h2)]
  · have : ((a - 100) / 3 < k) ↔ ((a - 100) / 3 < k + 1) := by omega
    simp only [this]
theorem lcS_n {g : sg} {room : Int32} {n k : Nat} (h : n ≤ k) : lcS g room n k = lcS g room n (k + 1) := by
  funext a j
  unfold lcS
  have : ((a - 100) / 3 < k ∧ (a - 100) / 3 < n) ↔ ((a - 100) / 3 < k + 1 ∧ (a - 100) / 3 < n) := by omega
  by_cases c : (a - 100) / 3 < n
  · have e : ((a - 100) / 3 < k) ↔ ((a - 100) / 3 < k + 1) := by omega
    simp only [e]
  · rw [if_neg (by rintro ⟨-, -, -, -, h2, -⟩; omega), if_neg (by rintro ⟨-, -, -, -, h2, -⟩; omega)]
theorem lcS_y {g : sg} {room : Int32} {n k : Nat} (h : k < n) (hn : n ≤ 30) (h1 : g (100 + 3 * k) 9 = 1) (h2 : g (100 + 3 * k) 10 = room) : sU (lcS g room n k) (100 + 3 * k) 9 2 = lcS g room n (k + 1) := by
  funext a j
  unfold sU
  by_cases c : a = 100 + 3 * k ∧ j = 9
  · obtain ⟨rfl, rfl⟩ := c
    have e : (100 + 3 * k - 100) / 3 = k := by omega
    simp only [and_self, if_true]
    unfold lcS
    rw [if_pos]
    rw [e]
    exact ⟨rfl, by omega, by omega, by omega, h, hn, h1, h2⟩
  · rw [if_neg c]
    unfold lcS
    by_cases d : j = 9 ∧ 100 ≤ a ∧ (a - 100) % 3 = 0
    · have e : ((a - 100) / 3 < k) ↔ ((a - 100) / 3 < k + 1) := by
        have : (a - 100) / 3 ≠ k := fun q => c ⟨by omega, d.1⟩
        omega
      simp only [e]
    · rw [if_neg (fun q => d ⟨q.1, q.2.1, q.2.2.1⟩), if_neg (fun q => d ⟨q.1, q.2.1, q.2.2.1⟩)]
theorem lcN_n {g : sg} {room : Int32} {n k : Nat} (h : n ≤ k) : lcN g room n (k + 1) = lcN g room n k := by
  show lcN g room n k + (if k < n ∧ lcB g room k then 1 else 0) = _
  rw [if_neg (by omega)]
  exact Int32.add_zero _
theorem lcN_f {g : sg} {room : Int32} {n k : Nat} (h : ¬ lcB g room k) : lcN g room n (k + 1) = lcN g room n k := by
  show lcN g room n k + (if k < n ∧ lcB g room k then 1 else 0) = _
  rw [if_neg (fun q => h q.2)]
  exact Int32.add_zero _
theorem lcN_y {g : sg} {room : Int32} {n k : Nat} (h : k < n) (h1 : g (100 + 3 * k) 9 = 1) (h2 : g (100 + 3 * k) 10 = room) : lcN g room n (k + 1) = lcN g room n k + 1 := by
  show lcN g room n k + (if k < n ∧ lcB g room k then 1 else 0) = _
  rw [if_pos ⟨h, h1, h2⟩]
def auC (g : sg) (room : Int32) (n : Nat) : Nat → Int32
  | 0 => 0
  | k + 1 => if k < n then (if g (100 + 3 * k) 9 = 0 then (if g (100 + 3 * k) 10 = room then auC g room n k ||| ((1 : Int32) <<< (nI k &&& 31)) else auC g room n k) else auC g room n k) else auC g room n k
theorem hd_c {v y : Int32} {h : Nat} (c1 : ¬ v < 0) (c2 : ¬ y ≤ v) (hy : y = nI h) (h1 : h ≤ 12) : inn v 0 (y - 1) = true := by
  have hv : vp_in v h := ix_of c1 c2 hy (by omega)
  subst hy
  exact isF_v (L := h) (n := h) hv (by omega) (vp_lt hv) (by omega)
theorem hd_f1 {v y : Int32} {h : Nat} (c2 : y ≤ v) (hy : y = nI h) (h1 : h ≤ 12) : inn v 0 (y - 1) = false := by
  subst hy
  exact isF_f2 (n := h) (L := h) c2 rfl (Nat.le_refl _) (by omega)
theorem hd_f2 {v y : Int32} {h : Nat} (c2 : 12 ≤ v) (hy : y = nI h) (h1 : h ≤ 12) : inn v 0 (y - 1) = false := by
  subst hy
  exact isF_f2 (n := h) (L := 12) (M := 12) c2 rfl h1 (by omega)
theorem ofw_f {v M : Int32} (N : Nat) (hN : N < 30) (c : ∀ j, j ≤ N → ¬ v = nI j) (hM : M = nI N := by rfl) : inn v 0 M = false := by
  subst hM
  cases e : inn v 0 (nI N) with
  | false => rfl
  | true =>
    obtain ⟨h1, h2⟩ := inn_toInt e
    rw [nI_toInt (by omega)] at h2
    have h0 : (0 : Int32).toInt = 0 := rfl
    obtain ⟨j, hj, rfl⟩ := vp_in_of (vp_in_iff.mpr ⟨by omega, by omega⟩ : vp_in v (N + 1)) (by omega)
    exact absurd rfl (c j (by omega))
theorem lt_su {t k : Nat} (h : t < k + 1) : t < k ∨ t = k := by omega
theorem cQ_a {g : sg} {n w : Nat} {said many X : Int32} (h1 : (said &&& ((1 : Int32) <<< (nI w &&& 31))) = 0) (hX : X = cFar g n many w) (h : (cQ g n said many w).2 ≤ X) : cQ g n said many (w + 1) = cQ g n said many w := by
  subst hX
  show (if (said &&& ((1 : Int32) <<< (nI w &&& 31))) = 0 then (if (cQ g n said many w).2 ≤ cFar g n many w then cQ g n said many w else (nI w, cFar g n many w)) else cQ g n said many w) = _
  rw [if_pos h1, if_pos h]
theorem cQ_b {g : sg} {n w : Nat} {said many X : Int32} (h1 : (said &&& ((1 : Int32) <<< (nI w &&& 31))) = 0) (hX : X = cFar g n many w) (h : ¬ (cQ g n said many w).2 ≤ X) : cQ g n said many (w + 1) = (nI w, X) := by
  subst hX
  show (if (said &&& ((1 : Int32) <<< (nI w &&& 31))) = 0 then (if (cQ g n said many w).2 ≤ cFar g n many w then cQ g n said many w else (nI w, cFar g n many w)) else cQ g n said many w) = _
  rw [if_pos h1, if_neg h]
theorem cQ_c {g : sg} {n w : Nat} {said many : Int32} (h1 : ¬ (said &&& ((1 : Int32) <<< (nI w &&& 31))) = 0) : cQ g n said many (w + 1) = cQ g n said many w := by
  show (if (said &&& ((1 : Int32) <<< (nI w &&& 31))) = 0 then (if (cQ g n said many w).2 ≤ cFar g n many w then cQ g n said many w else (nI w, cFar g n many w)) else cQ g n said many w) = _
  rw [if_neg h1]
