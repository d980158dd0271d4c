/-! the class's side -/
theorem inn_ge {x M N : Int32} (h : M.toInt + 1 = N.toInt) : inn x 0 M = ((!(decide (x < 0))) && (!(decide (N ≤ x)))) := by
  rw [inn_lt]
  congr 1
  congr 1
  by_cases c : N ≤ x
  · rw [decide_eq_true c, decide_eq_true]
    rw [Int32.le_iff_toInt_le] at c
    rw [Int32.lt_iff_toInt_lt]; omega
  · rw [decide_eq_false c, decide_eq_false]
    rw [Int32.le_iff_toInt_le] at c
    rw [Int32.lt_iff_toInt_lt]; omega
theorem inn_24 (x : Int32) : inn x 0 23 = ((!(decide (x < 0))) && (!(decide (24 ≤ x)))) := inn_ge rfl
theorem inn_8 (x : Int32) : inn x 0 7 = ((!(decide (x < 0))) && (!(decide (8 ≤ x)))) := inn_ge rfl
theorem inn_4 (x : Int32) : inn x 0 3 = ((!(decide (x < 0))) && (!(decide (4 ≤ x)))) := inn_ge rfl
theorem vp_lt {x : Int32} {L : Nat} (h : vp_in x L) : x.toNatClampNeg < L := Nat.not_le.mp fun q => h (Or.inr q)
theorem isF_v {n L : Nat} {x : Int32} (h : vp_in x L) (hL : L ≤ 30) (hx : x.toNatClampNeg < n) (hn : n ≤ 30) : isF n x = true := by
  rw [← nI_cl h]
  exact isF_of hx hn
theorem isF_f1 {n : Nat} {x : Int32} (h : x < 0) : isF n x = false := by
  unfold isF
  rw [inn_lt, decide_eq_true h]
  rfl
theorem isF_f2 {n L : Nat} {x M : Int32} (h : M ≤ x) (hM : M = nI L) (hn : n ≤ L) (hL : L ≤ 30) : isF n x = false := by
  cases c : isF n x with
  | false => rfl
  | true =>
    obtain ⟨i, hi, rfl⟩ := isF_ex c (by omega)
    subst hM
    have := (nI_leI (by omega) (by omega)).mp h
    omega
theorem isF_f3 {n L : Nat} {x : Int32} (h : n ≤ x.toNatClampNeg) (hn : n ≤ 30) : isF n x = false := by
  cases c : isF n x with
  | false => rfl
  | true => exact absurd (isF_lt c hn) (by omega)
theorem rq_f {b : Bool} {k : Int32} (h : b = false) : rq b k = k := by rw [h]; rfl
theorem mask_ne (x r : Int32) {N : Nat} (h : vp_in r N) (hN : N ≤ 24) : (¬ (x &&& ((1 : Int32) <<< (r &&& 31))) = 0) ↔ ((x >>> (r &&& 31)) &&& 1) = 1 := by
  obtain ⟨k, hk, rfl⟩ := vp_in_of h (by omega)
  rw [mask_bq x (by omega)]
  exact decide_eq_true_iff
theorem mask_eq (x r : Int32) {N : Nat} (h : vp_in r N) (hN : N ≤ 24) : decide ((x &&& ((1 : Int32) <<< (r &&& 31))) = 0) = !decide (((x >>> (r &&& 31)) &&& 1) = 1) := by
  have e := mask_ne x r h hN
  by_cases c : (x &&& ((1 : Int32) <<< (r &&& 31))) = 0
  · rw [decide_eq_true c, decide_eq_false (fun q => (e.mpr q) c)]; rfl
  · rw [decide_eq_false c, decide_eq_true (e.mp c)]; rfl
/-- no bit from 24 on -/
def sB (x : Int32) : Prop := ∀ k, 24 ≤ k → bt x k = false
theorem sB_and {x y : Int32} (h : sB x) : sB (x &&& y) := fun k hk => by rw [b_and, h k hk]; rfl
theorem sB_or {x y : Int32} (h : sB x) (h2 : sB y) : sB (x ||| y) := fun k hk => by rw [b_or, h k hk, h2 k hk]; rfl
/-- a coming, on the class's side -/
def cComes (g : sg) (i : Nat) (room day : Int32) : sg := fun k => if k = 100 + 3 * i + 1 then cmR (g k) 0 (g (100 + 3 * i) 7) room else if k = 100 + 3 * i + 2 then cmR (g k) 0 (g (100 + 3 * i) 7) day else if k = 100 + 3 * i then upd (upd (upd (g k) 9 0) 10 room) 7 (cmH (g k 7)) else g k
def cdL (b : sg) (i q : Nat) : sg := fun k => if k = 100 + 3 * i + 1 then shR (b k) 0 (q - 1) else if k = 100 + 3 * i + 2 then shR (b k) 0 (q - 1) else b k
def cDrop (b : sg) (i : Nat) : sg := sU (cdL b i 12) (100 + 3 * i) 7 11
theorem cdL_0 (b : sg) (i : Nat) : cdL b i 2 = b := by
  funext k t
  unfold cdL shR
  by_cases h : k = 100 + 3 * i + 1
  · rw [if_pos h]; rw [if_neg (by omega)]
  · rw [if_neg h]
    by_cases h2 : k = 100 + 3 * i + 2
    · rw [if_pos h2]; rw [if_neg (by omega)]
    · rw [if_neg h2]
theorem cdL_s {b : sg} {i q : Nat} (h : 2 ≤ q) : sU (sU (cdL b i q) (100 + 3 * i + 1) (q - 1) (cdL b i q (100 + 3 * i + 1) q)) (100 + 3 * i + 2) (q - 1) (cdL b i q (100 + 3 * i + 2) q) = cdL b i (q + 1) := by
  have e1 : q = (q - 1) + 1 := by omega
  have key : ∀ (r : Nat → Int32) (t : Nat), (if t = q - 1 then shR r 0 (q - 1) q else shR r 0 (q - 1) t) = shR r 0 (q + 1 - 1) t := by
    intro r t
    have := shR_s (r := r) (o := 0) (q := q - 1) (by omega) t
    rw [← e1] at this
    rw [this, show q + 1 - 1 = q from by omega]
  funext k t
  by_cases h3 : k = 100 + 3 * i + 1
  · subst h3
    rw [sU_k _ _ _ _ (by omega)]
    show (if 100 + 3 * i + 1 = 100 + 3 * i + 1 ∧ t = q - 1 then cdL b i q (100 + 3 * i + 1) q else cdL b i q (100 + 3 * i + 1) t) = _
    simp only [cdL, true_and, if_true]
    exact key _ t
  · by_cases h4 : k = 100 + 3 * i + 2
    · subst h4
      show (if 100 + 3 * i + 2 = 100 + 3 * i + 2 ∧ t = q - 1 then cdL b i q (100 + 3 * i + 2) q else sU (cdL b i q) (100 + 3 * i + 1) (q - 1) (cdL b i q (100 + 3 * i + 1) q) (100 + 3 * i + 2) t) = _
      rw [sU_k _ _ _ _ h3]
      simp only [cdL, true_and, if_true, if_neg h3]
      exact key _ t
    · rw [sU_k _ _ _ _ h4, sU_k _ _ _ _ h3]
      simp only [cdL, if_neg h3, if_neg h4]
theorem cc_end {g : sg} {i h : Nat} {room day : Int32} (hh : g (100 + 3 * i) 7 = nI h) (hlt : h < 12) : cComes g i room day = sU (sU (sU (sU (sU g (100 + 3 * i) 9 0) (100 + 3 * i) 10 room) (100 + 3 * i + 1) h room) (100 + 3 * i + 2) h day) (100 + 3 * i) 7 (nI h + 1) := by
  have h12 : ¬ nI h = 12 := fun q => by
    have := (nI_eq (a := h) (b := 12) (by omega) (by omega)).mp q
    omega
  have hcl : (nI h).toNatClampNeg = h := nI_clamp (by omega)
  funext k t
  unfold cComes
  by_cases k1 : k = 100 + 3 * i + 1
  · subst k1; simp [cmR, hh, h12, hcl, sU]
  by_cases k2 : k = 100 + 3 * i + 2
  · subst k2; simp [cmR, hh, h12, hcl, sU]
  by_cases k3 : k = 100 + 3 * i
  · subst k3; simp [cmH, hh, h12, upd, sU]
  simp [k1, k2, k3, sU]
theorem cc_end12 {g : sg} {i : Nat} {room day : Int32} (hh : g (100 + 3 * i) 7 = nI 12) : cComes g i room day = sU (sU (sU (cDrop (sU (sU g (100 + 3 * i) 9 0) (100 + 3 * i) 10 room) i) (100 + 3 * i + 1) 11 room) (100 + 3 * i + 2) 11 day) (100 + 3 * i) 7 (11 + 1) := by
  have e1 : g (100 + 3 * i) 7 = 12 := hh
  have e2 : (11 + 1 : Int32) = 12 := by decide +kernel
  rw [e2]
  funext k t
  unfold cComes cDrop
  have key : ∀ (r : Nat → Int32) (v : Int32), cmR r 0 12 v t = if t = 11 then v else shR r 0 11 t := by
    intro r v
    unfold cmR shR
    simp only [if_true]
    by_cases a : t = 11
    · rw [if_neg (by omega), if_pos (by omega), if_pos a]
    · rw [if_neg a]
      by_cases b : 0 + 1 ≤ t ∧ t < 11
      · rw [if_pos (by omega), if_neg a, if_pos b]
      · rw [if_neg (by omega), if_neg (by omega), if_neg b]
  by_cases k1 : k = 100 + 3 * i + 1
  · subst k1
    have er : (sU (sU g (100 + 3 * i) 9 0) (100 + 3 * i) 10 room) (100 + 3 * i + 1) = g (100 + 3 * i + 1) := by rw [sU_row _ _ _ (by omega), sU_row _ _ _ (by omega)]
    simp [e1, key, sU, cdL, er]
  by_cases k2 : k = 100 + 3 * i + 2
  · subst k2
    have er : (sU (sU g (100 + 3 * i) 9 0) (100 + 3 * i) 10 room) (100 + 3 * i + 2) = g (100 + 3 * i + 2) := by rw [sU_row _ _ _ (by omega), sU_row _ _ _ (by omega)]
    simp [e1, key, sU, cdL, er]
  by_cases k3 : k = 100 + 3 * i
  · subst k3
    by_cases e : t = 7
    · subst e; simp [cmH, e1, upd, sU, cdL]
    · simp [cmH, e1, upd, sU, cdL, e]
      repeat' split
      all_goals first | rfl | omega | simp_all
  simp [k1, k2, k3, sU, cdL]
