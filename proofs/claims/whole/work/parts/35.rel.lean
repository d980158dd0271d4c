/-! The two sides held together: kRl n nc c m (the class's cells read off the store c, the reference's off m). -/
theorem sU_ne {g : sg} {k j k' j' : Nat} {v : Int32} (h : ¬ (k' = k ∧ j' = j)) : sU g k j v k' j' = g k' j' := if_neg h
def fk (f : Nat) : Nat := if f = 0 then 59 else if f = 1 then 60 else if f = 2 then 61 else if f = 3 then 63 else if f = 4 then 64 else if f = 7 then 72 else if f = 8 then 62 else if f = 9 then 65 else if f = 11 then 68 else if f = 12 then 69 else if f = 13 then 70 else if f = 14 then 71 else 0
def ck (f : Nat) : Nat := if f = 1 then 76 else if f = 2 then 77 else if f = 3 then 78 else if f = 4 then 79 else if f = 5 then 80 else if f = 6 then 81 else if f = 7 then 82 else if f = 8 then 84 else if f = 9 then 83 else 0
theorem fk_inj : ∀ a, a < 15 → ∀ b, b < 15 → fk a = fk b → fk a ≠ 0 → a = b := by decide +kernel
theorem ck_inj : ∀ a, a < 10 → ∀ b, b < 10 → ck a = ck b → ck a ≠ 0 → a = b := by decide +kernel
theorem fk_rg : ∀ a, a < 15 → fk a ≠ 0 → 59 ≤ fk a ∧ fk a ≤ 72 ∧ fk a ≠ 66 ∧ fk a ≠ 67 ∧ a ≠ 10 := by decide +kernel
theorem ck_rg : ∀ a, a < 10 → ck a ≠ 0 → 76 ≤ ck a ∧ ck a ≤ 84 ∧ 1 ≤ a := by decide +kernel
def rN (n nc : Nat) (c m : sg) : Prop := n ≤ 30 ∧ nc ≤ 20 ∧ c 0 8 = nI n ∧ m 9 8 = nI n ∧ c 0 9 = nI nc ∧ m 9 25 = nI nc ∧ (∀ j, c 6 j = if j < n then 1 else 0) ∧ (∀ j, c 7 j = if j < nc then 1 else 0)
def rS (c m : sg) : Prop := c 1 = m 52 ∧ c 2 = m 53 ∧ c 3 = m 56 ∧ c 4 = m 54 ∧ c 5 = m 55 ∧ c 0 10 = m 9 1 ∧ c 0 11 = m 9 7 ∧ c 0 12 = m 9 35 ∧ c 0 13 = m 9 36 ∧ c 0 14 = m 9 37
def rV (m : sg) : Prop := vp_in (m 9 1) 10000 ∧ 1 ≤ (m 9 7).toInt ∧ nSy (m 52) ∧ ∀ t, t < 4 → sB (m 56 t)
def rF (n : Nat) (c m : sg) : Prop := ∀ i, i < n → ∀ f, f < 15 → fk f ≠ 0 → c (100 + 3 * i) f = m (fk f) i
def rR (n : Nat) (c m : sg) : Prop := ∀ i, i < n → c (100 + 3 * i) 10 = if m 65 i = 1 ∨ m 65 i = 2 then m 67 i else m 66 i
def rH (n : Nat) (c m : sg) : Prop := ∀ i, i < n → ∃ h : Nat, h ≤ 12 ∧ m 72 i = nI h ∧ ∀ p, p < h → c (100 + 3 * i + 1) p = m 73 (12 * i + p) ∧ c (100 + 3 * i + 2) p = m 74 (12 * i + p)
def rW (n : Nat) (m : sg) : Prop := ∀ i, i < n → vp_in (m 59 i) 8 ∧ vp_in (m 60 i) 10 ∧ vp_in (m 61 i) 10000 ∧ sB (m 62 i) ∧ sB (m 63 i) ∧ (∃ t : Nat, t ≤ 6 ∧ m 65 i = nI t) ∧ (m 69 i = 0 ∨ m 69 i = 1)
def rC (nc : Nat) (c m : sg) : Prop := ∀ j, j < nc → c (200 + j) 0 = nI j ∧ ∀ f, f < 10 → ck f ≠ 0 → c (200 + j) f = m (ck f) j
def rY (nc : Nat) (m : sg) : Prop := ∀ j, j < nc → vp_in (m 76 j) 8 ∧ vp_in (m 77 j) 10 ∧ vp_in (m 79 j) 10000 ∧ sB (m 80 j) ∧ sB (m 81 j) ∧ (m 82 j = 0 → m 84 j = -1)
def rZ (n nc : Nat) (m : sg) : Prop := (∀ i, n ≤ i → m 72 i = 0 ∧ m 69 i = 0 ∧ m 70 i = 0 ∧ m 71 i = 0 ∧ m 65 i = 0) ∧ ∀ j, nc ≤ j → m 83 j = 0
def kRl (n nc : Nat) (c m : sg) : Prop := rN n nc c m ∧ rS c m ∧ rV m ∧ rF n c m ∧ rR n c m ∧ rH n c m ∧ rW n m ∧ rC nc c m ∧ rY nc m ∧ rZ n nc m
/-- the same class's cells; the same reference's cells -/
def cE (c c' : sg) : Prop := ∀ k, k < 8 ∨ 100 ≤ k → c' k = c k
def mE (m m' : sg) : Prop := ∀ k, 9 ≤ k → k < 100 → k ≠ 40 → m' k = m k
def cX (c c' : sg) : Prop := ∀ k, k < 8 ∨ k = 40 ∨ 100 ≤ k → c' k = c k
theorem cX.rf (c : sg) : cX c c := fun _ _ => rfl
theorem cX.tr {a b c : sg} (h : cX a b) (h2 : cX b c) : cX a c := fun k hk => (h2 k hk).trans (h k hk)
theorem cX.m {c c' : sg} (h : cX c c') {k j : Nat} {v : Int32} (hk : k = 8 ∨ 9 ≤ k ∧ k < 40 ∨ 40 < k ∧ k < 100) : cX c (sU c' k j v) := fun k' h' => (sU_row _ _ _ (by omega)).trans (h k' h')
theorem cE.rf (c : sg) : cE c c := fun _ _ => rfl
theorem mE.rf (m : sg) : mE m m := fun _ _ _ _ => rfl
theorem cE.tr {a b c : sg} (h : cE a b) (h2 : cE b c) : cE a c := fun k hk => (h2 k hk).trans (h k hk)
theorem mE.tr {a b c : sg} (h : mE a b) (h2 : mE b c) : mE a c := fun k h3 h4 h5 => (h2 k h3 h4 h5).trans (h k h3 h4 h5)
theorem cE.m {c c' : sg} (h : cE c c') {k j : Nat} {v : Int32} (hk : k = 8 ∨ 9 ≤ k ∧ k < 100) : cE c (sU c' k j v) := fun k' h' => (sU_row _ _ _ (by omega)).trans (h k' h')
theorem mE.c {m m' : sg} (h : mE m m') {k j : Nat} {v : Int32} (hk : k < 9 ∨ k = 40 ∨ 100 ≤ k) : mE m (sU m' k j v) := fun k' h1 h2 h3 => (sU_row _ _ _ (by omega)).trans (h k' h1 h2 h3)
theorem mE.u {m m' : sg} (h : mE m m') {k j : Nat} {v v' : Int32} (hv : v' = v) : mE (sU m k j v) (sU m' k j v') := by
  subst hv
  intro k' h1 h2 h3
  funext j'
  unfold sU
  rw [h k' h1 h2 h3]
theorem kRl.e {n nc : Nat} {c m c' m' : sg} (h : kRl n nc c m) (hc : cE c c') (hm : mE m m') : kRl n nc c' m' := by
  obtain ⟨⟨n1, n2, n3, n4, n5, n6, n7, n8⟩, ⟨s1, s2, s3, s4, s5, s6, s7, s8, s9, s0⟩, ⟨v1, v2, v3, v4⟩, hF, hR, hH, hW, hC, hY, hZ⟩ := h
  have e0 := hc 0 (by omega)
  have e9 := hm 9 (by omega) (by omega) (by omega)
  have e52 := hm 52 (by omega) (by omega) (by omega)
  have e56 := hm 56 (by omega) (by omega) (by omega)
  refine ⟨⟨n1, n2, ?_, ?_, ?_, ?_, ?_, ?_⟩, ⟨?_, ?_, ?_, ?_, ?_, ?_, ?_, ?_, ?_, ?_⟩, ⟨?_, ?_, ?_, ?_⟩, ?_, ?_, ?_, ?_, ?_, ?_, ?_⟩
  · rw [e0]; exact n3
  · rw [e9]; exact n4
  · rw [e0]; exact n5
  · rw [e9]; exact n6
  · rw [hc 6 (by omega)]; exact n7
  · rw [hc 7 (by omega)]; exact n8
  · rw [hc 1 (by omega), e52]; exact s1
  · rw [hc 2 (by omega), hm 53 (by omega) (by omega) (by omega)]; exact s2
  · rw [hc 3 (by omega), e56]; exact s3
  · rw [hc 4 (by omega), hm 54 (by omega) (by omega) (by omega)]; exact s4
  · rw [hc 5 (by omega), hm 55 (by omega) (by omega) (by omega)]; exact s5
  · rw [e0, e9]; exact s6
  · rw [e0, e9]; exact s7
  · rw [e0, e9]; exact s8
  · rw [e0, e9]; exact s9
  · rw [e0, e9]; exact s0
  · rw [e9]; exact v1
  · rw [e9]; exact v2
  · rw [e52]; exact v3
  · rw [e56]; exact v4
  · intro i hi f hf h0
    have := fk_rg f hf h0
    rw [hc _ (by omega), hm _ (by omega) (by omega) (by omega)]
    exact hF i hi f hf h0
  · intro i hi
    rw [hc _ (by omega), hm 65 (by omega) (by omega) (by omega), hm 66 (by omega) (by omega) (by omega), hm 67 (by omega) (by omega) (by omega)]
    exact hR i hi
  · intro i hi
    rw [hc _ (by omega), hc (100 + 3 * i + 2) (by omega), hm 72 (by omega) (by omega) (by omega), hm 73 (by omega) (by omega) (by omega), hm 74 (by omega) (by omega) (by omega)]
    exact hH i hi
  · intro i hi
    rw [hm 59 (by omega) (by omega) (by omega), hm 60 (by omega) (by omega) (by omega), hm 61 (by omega) (by omega) (by omega), hm 62 (by omega) (by omega) (by omega), hm 63 (by omega) (by omega) (by omega), hm 65 (by omega) (by omega) (by omega), hm 69 (by omega) (by omega) (by omega)]
    exact hW i hi
  · intro j hj
    rw [hc _ (by omega)]
    refine ⟨(hC j hj).1, fun f hf h0 => ?_⟩
    have := ck_rg f hf h0
    rw [hm _ (by omega) (by omega) (by omega)]
    exact (hC j hj).2 f hf h0
  · intro j hj
    rw [hm 76 (by omega) (by omega) (by omega), hm 77 (by omega) (by omega) (by omega), hm 79 (by omega) (by omega) (by omega), hm 80 (by omega) (by omega) (by omega), hm 81 (by omega) (by omega) (by omega), hm 82 (by omega) (by omega) (by omega), hm 84 (by omega) (by omega) (by omega)]
    exact hY j hj
  · unfold rZ
    rw [hm 72 (by omega) (by omega) (by omega), hm 69 (by omega) (by omega) (by omega), hm 70 (by omega) (by omega) (by omega), hm 71 (by omega) (by omega) (by omega), hm 65 (by omega) (by omega) (by omega), hm 83 (by omega) (by omega) (by omega)]
    exact hZ
/-! one cell written: what of kRl stays -/
theorem rN.c {n nc : Nat} {c m : sg} (h : rN n nc c m) {k j : Nat} {v : Int32} (hk : k ≠ 6 ∧ k ≠ 7 ∧ (k ≠ 0 ∨ j ≠ 8 ∧ j ≠ 9)) : rN n nc (sU c k j v) m := by
  obtain ⟨n1, n2, n3, n4, n5, n6, n7, n8⟩ := h
  refine ⟨n1, n2, (sU_ne (by omega)).trans n3, n4, (sU_ne (by omega)).trans n5, n6, fun j' => (sU_ne (by omega)).trans (n7 j'), fun j' => (sU_ne (by omega)).trans (n8 j')⟩
theorem rN.m {n nc : Nat} {c m : sg} (h : rN n nc c m) {k j : Nat} {v : Int32} (hk : k ≠ 9 ∨ j ≠ 8 ∧ j ≠ 25) : rN n nc c (sU m k j v) := by
  obtain ⟨n1, n2, n3, n4, n5, n6, n7, n8⟩ := h
  exact ⟨n1, n2, n3, (sU_ne (by omega)).trans n4, n5, (sU_ne (by omega)).trans n6, n7, n8⟩
theorem rS.c {c m : sg} (h : rS c m) {k j : Nat} {v : Int32} (hk : 6 ≤ k ∨ k = 0 ∧ (j < 10 ∨ 14 < j)) : rS (sU c k j v) m := by
  obtain ⟨s1, s2, s3, s4, s5, s6, s7, s8, s9, s0⟩ := h
  exact ⟨(sU_row _ _ _ (by omega)).trans s1, (sU_row _ _ _ (by omega)).trans s2, (sU_row _ _ _ (by omega)).trans s3, (sU_row _ _ _ (by omega)).trans s4, (sU_row _ _ _ (by omega)).trans s5, (sU_ne (by omega)).trans s6, (sU_ne (by omega)).trans s7, (sU_ne (by omega)).trans s8, (sU_ne (by omega)).trans s9, (sU_ne (by omega)).trans s0⟩
theorem rS.m {c m : sg} (h : rS c m) {k j : Nat} {v : Int32} (hk : k < 9 ∨ 56 < k ∨ k = 9 ∧ j ≠ 1 ∧ j ≠ 7 ∧ j ≠ 35 ∧ j ≠ 36 ∧ j ≠ 37) : rS c (sU m k j v) := by
  obtain ⟨s1, s2, s3, s4, s5, s6, s7, s8, s9, s0⟩ := h
  exact ⟨s1.trans (sU_row _ _ _ (by omega)).symm, s2.trans (sU_row _ _ _ (by omega)).symm, s3.trans (sU_row _ _ _ (by omega)).symm, s4.trans (sU_row _ _ _ (by omega)).symm, s5.trans (sU_row _ _ _ (by omega)).symm, s6.trans (sU_ne (by omega)).symm, s7.trans (sU_ne (by omega)).symm, s8.trans (sU_ne (by omega)).symm, s9.trans (sU_ne (by omega)).symm, s0.trans (sU_ne (by omega)).symm⟩
theorem rS.p {c m : sg} (h : rS c m) {j j' : Nat} {v : Int32} (hj : j = 10 ∧ j' = 1 ∨ j = 11 ∧ j' = 7 ∨ j = 12 ∧ j' = 35 ∨ j = 13 ∧ j' = 36 ∨ j = 14 ∧ j' = 37) : rS (sU c 0 j v) (sU m 9 j' v) := by
  obtain ⟨s1, s2, s3, s4, s5, s6, s7, s8, s9, s0⟩ := h
  have key : ∀ a b, (a = j ↔ b = j') → c 0 a = m 9 b → sU c 0 j v 0 a = sU m 9 j' v 9 b := by
    intro a b hab h
    by_cases e : a = j
    · have e2 := hab.mp e
      subst e; subst e2
      rw [sU_s, sU_s]
    · rw [sU_j _ _ _ _ e, sU_j _ _ _ _ (fun q => e (hab.mpr q)), h]
  exact ⟨(sU_row _ _ _ (by omega)).trans (s1.trans (sU_row _ _ _ (by omega)).symm), (sU_row _ _ _ (by omega)).trans (s2.trans (sU_row _ _ _ (by omega)).symm), (sU_row _ _ _ (by omega)).trans (s3.trans (sU_row _ _ _ (by omega)).symm), (sU_row _ _ _ (by omega)).trans (s4.trans (sU_row _ _ _ (by omega)).symm), (sU_row _ _ _ (by omega)).trans (s5.trans (sU_row _ _ _ (by omega)).symm), key _ _ (by omega) s6, key _ _ (by omega) s7, key _ _ (by omega) s8, key _ _ (by omega) s9, key _ _ (by omega) s0⟩
theorem rV.m {m : sg} (h : rV m) {k j : Nat} {v : Int32} (hk : k ≠ 52 ∧ k ≠ 56 ∧ (k ≠ 9 ∨ j ≠ 1 ∧ j ≠ 7)) : rV (sU m k j v) := by
  obtain ⟨v1, v2, v3, v4⟩ := h
  refine ⟨?_, ?_, ?_, ?_⟩
  · rw [sU_ne (by omega)]; exact v1
  · rw [sU_ne (by omega)]; exact v2
  · rw [sU_row _ _ _ (by omega)]; exact v3
  · rw [sU_row _ _ _ (by omega)]; exact v4
theorem rF.c {n : Nat} {c m : sg} (h : rF n c m) (hn : n ≤ 30) {k j : Nat} {v : Int32} (hk : k < 100 ∨ 200 ≤ k ∨ j = 10 ∨ (k - 100) % 3 ≠ 0) : rF n (sU c k j v) m := by
  intro i hi f hf h0
  have := fk_rg f hf h0
  rw [sU_ne (by omega)]
  exact h i hi f hf h0
theorem rF.m {n : Nat} {c m : sg} (h : rF n c m) {k j : Nat} {v : Int32} (hk : k < 59 ∨ 72 < k ∨ k = 66 ∨ k = 67) : rF n c (sU m k j v) := by
  intro i hi f hf h0
  have := fk_rg f hf h0
  rw [sU_row _ _ _ (by omega)]
  exact h i hi f hf h0
theorem rF.p {n : Nat} {c m : sg} (h : rF n c m) (x f : Nat) {v v' : Int32} {k : Nat} (hk : fk f = k) (hf : f < 15) (h0 : fk f ≠ 0) (hv : v = v') : rF n (sU c (100 + 3 * x) f v) (sU m k x v') := by
  subst hk; subst hv
  intro i hi f' hf' h0'
  by_cases e : i = x ∧ f' = f
  · obtain ⟨rfl, rfl⟩ := e
    rw [sU_s, sU_s]
  · rw [sU_ne (by omega), sU_ne (fun q => e ⟨q.2, fk_inj _ hf' _ hf q.1 h0'⟩)]
    exact h i hi f' hf' h0'
theorem rR.c {n : Nat} {c m : sg} (h : rR n c m) (hn : n ≤ 30) {k j : Nat} {v : Int32} (hk : k < 100 ∨ 200 ≤ k ∨ j ≠ 10 ∨ (k - 100) % 3 ≠ 0) : rR n (sU c k j v) m := by
  intro i hi
  rw [sU_ne (by omega)]
  exact h i hi
theorem rR.m {n : Nat} {c m : sg} (h : rR n c m) {k j : Nat} {v : Int32} (hk : k ≠ 65 ∧ k ≠ 66 ∧ k ≠ 67) : rR n c (sU m k j v) := by
  intro i hi
  rw [sU_row m j v (by omega : 65 ≠ k), sU_row m j v (by omega : 66 ≠ k), sU_row m j v (by omega : 67 ≠ k)]
  exact h i hi
theorem rR.st {n : Nat} {c m : sg} (h : rR n c m) {x : Nat} {v : Int32} (h1 : ¬ (m 65 x = 1 ∨ m 65 x = 2)) (h2 : ¬ (v = 1 ∨ v = 2)) : rR n c (sU m 65 x v) := by
  intro i hi
  rw [sU_row m x v (by omega : 66 ≠ 65), sU_row m x v (by omega : 67 ≠ 65)]
  by_cases e : i = x
  · subst e
    rw [sU_s, h i hi, if_neg h1, if_neg h2]
  · rw [sU_j _ _ _ _ e]
    exact h i hi
theorem rH.c {n : Nat} {c m : sg} (h : rH n c m) (hn : n ≤ 30) {k j : Nat} {v : Int32} (hk : k < 100 ∨ 200 ≤ k ∨ (k - 100) % 3 = 0) : rH n (sU c k j v) m := by
  intro i hi
  rw [sU_row _ _ _ (by omega), sU_row c j v (by omega : 100 + 3 * i + 2 ≠ k)]
  exact h i hi
theorem rH.m {n : Nat} {c m : sg} (h : rH n c m) {k j : Nat} {v : Int32} (hk : k < 72 ∨ 74 < k) : rH n c (sU m k j v) := by
  intro i hi
  rw [sU_row m j v (by omega : 72 ≠ k), sU_row m j v (by omega : 73 ≠ k), sU_row m j v (by omega : 74 ≠ k)]
  exact h i hi
theorem rW.m {n : Nat} {m : sg} (h : rW n m) {k j : Nat} {v : Int32} (hk : k < 59 ∨ 69 < k ∨ k = 64 ∨ k = 66 ∨ k = 67 ∨ k = 68) : rW n (sU m k j v) := by
  intro i hi
  rw [sU_row m j v (by omega : 59 ≠ k), sU_row m j v (by omega : 60 ≠ k), sU_row m j v (by omega : 61 ≠ k), sU_row m j v (by omega : 62 ≠ k), sU_row m j v (by omega : 63 ≠ k), sU_row m j v (by omega : 65 ≠ k), sU_row m j v (by omega : 69 ≠ k)]
  exact h i hi
/-- .. of a row whose cells keep a shape -/
theorem sU_all {P : Int32 → Prop} {m : sg} {k j i : Nat} {v : Int32} (h : P (m k i)) (hv : P v) : P (sU m k j v k i) := by
  by_cases e : i = j
  · subst e; rw [sU_s]; exact hv
  · rw [sU_j _ _ _ _ e]; exact h
theorem rW.w {n : Nat} {m : sg} (h : rW n m) {j : Nat} {v : Int32} (hv : sB v) : rW n (sU m 62 j v) := by
  intro i hi
  obtain ⟨a, b, c, d, e, f, g⟩ := h i hi
  rw [sU_row m j v (by omega : 59 ≠ 62), sU_row m j v (by omega : 60 ≠ 62), sU_row m j v (by omega : 61 ≠ 62), sU_row m j v (by omega : 63 ≠ 62), sU_row m j v (by omega : 65 ≠ 62), sU_row m j v (by omega : 69 ≠ 62)]
  exact ⟨a, b, c, sU_all (P := sB) d hv, e, f, g⟩
theorem rW.s {n : Nat} {m : sg} (h : rW n m) {j : Nat} {v : Int32} (hv : ∃ t : Nat, t ≤ 6 ∧ v = nI t) : rW n (sU m 65 j v) := by
  intro i hi
  obtain ⟨a, b, c, d, e, f, g⟩ := h i hi
  rw [sU_row m j v (by omega : 59 ≠ 65), sU_row m j v (by omega : 60 ≠ 65), sU_row m j v (by omega : 61 ≠ 65), sU_row m j v (by omega : 63 ≠ 65), sU_row m j v (by omega : 62 ≠ 65), sU_row m j v (by omega : 69 ≠ 65)]
  exact ⟨a, b, c, d, e, sU_all (P := fun x => ∃ t : Nat, t ≤ 6 ∧ x = nI t) f hv, g⟩
theorem rW.h {n : Nat} {m : sg} (h : rW n m) {j : Nat} {v : Int32} (hv : v = 0 ∨ v = 1) : rW n (sU m 69 j v) := by
  intro i hi
  obtain ⟨a, b, c, d, e, f, g⟩ := h i hi
  rw [sU_row m j v (by omega : 59 ≠ 69), sU_row m j v (by omega : 60 ≠ 69), sU_row m j v (by omega : 61 ≠ 69), sU_row m j v (by omega : 63 ≠ 69), sU_row m j v (by omega : 62 ≠ 69), sU_row m j v (by omega : 65 ≠ 69)]
  exact ⟨a, b, c, d, e, f, sU_all (P := fun x => x = 0 ∨ x = 1) g hv⟩
theorem rC.c {nc : Nat} {c m : sg} (h : rC nc c m) {k j : Nat} {v : Int32} (hk : k < 200) : rC nc (sU c k j v) m := by
  intro j' hj'
  rw [sU_row c j v (by omega : 200 + j' ≠ k)]
  exact h j' hj'
theorem rC.m {nc : Nat} {c m : sg} (h : rC nc c m) {k j : Nat} {v : Int32} (hk : k < 76 ∨ 84 < k) : rC nc c (sU m k j v) := by
  intro j' hj'
  refine ⟨(h j' hj').1, fun f hf h0 => ?_⟩
  have := ck_rg f hf h0
  rw [sU_row _ _ _ (by omega)]
  exact (h j' hj').2 f hf h0
theorem rC.p {nc : Nat} {c m : sg} (h : rC nc c m) (x f : Nat) {v v' : Int32} {k : Nat} (hk : ck f = k) (hf : f < 10) (h0 : ck f ≠ 0) (hv : v = v') : rC nc (sU c (200 + x) f v) (sU m k x v') := by
  subst hk; subst hv
  intro j hj
  have h1 := ck_rg f hf h0
  refine ⟨(sU_ne (by omega)).trans (h j hj).1, fun f' hf' h0' => ?_⟩
  by_cases e : j = x ∧ f' = f
  · obtain ⟨rfl, rfl⟩ := e
    rw [sU_s, sU_s]
  · rw [sU_ne (by omega), sU_ne (fun q => e ⟨q.2, ck_inj _ hf' _ hf q.1 h0'⟩)]
    exact (h j hj).2 f' hf' h0'
/-- a reference's row that already holds what the class keeps -/
theorem rC.k {nc : Nat} {c m : sg} (h : rC nc c m) {x k : Nat} {v : Int32} (hv : v = m k x) : rC nc c (sU m k x v) := by
  subst hv
  rw [show sU m k x (m k x) = m from by funext a b; unfold sU; by_cases e : a = k ∧ b = x; rw [if_pos e, e.1, e.2]; rw [if_neg e]]
  exact h
theorem rY.m {nc : Nat} {m : sg} (h : rY nc m) {k j : Nat} {v : Int32} (hk : k < 76 ∨ 84 < k ∨ k = 78 ∨ k = 83) : rY nc (sU m k j v) := by
  intro i hi
  rw [sU_row m j v (by omega : 76 ≠ k), sU_row m j v (by omega : 77 ≠ k), sU_row m j v (by omega : 79 ≠ k), sU_row m j v (by omega : 80 ≠ k), sU_row m j v (by omega : 81 ≠ k), sU_row m j v (by omega : 82 ≠ k), sU_row m j v (by omega : 84 ≠ k)]
  exact h i hi
theorem rY.w {nc : Nat} {m : sg} (h : rY nc m) {j : Nat} {v : Int32} (hv : sB v) : rY nc (sU m 80 j v) := by
  intro i hi
  obtain ⟨a, b, c, d, e, f⟩ := h i hi
  rw [sU_row m j v (by omega : 76 ≠ 80), sU_row m j v (by omega : 77 ≠ 80), sU_row m j v (by omega : 79 ≠ 80), sU_row m j v (by omega : 81 ≠ 80), sU_row m j v (by omega : 82 ≠ 80), sU_row m j v (by omega : 84 ≠ 80)]
  exact ⟨a, b, c, sU_all (P := sB) d hv, e, f⟩
theorem rY.t {nc : Nat} {m : sg} (h : rY nc m) {j : Nat} {v : Int32} (hv : sB v) : rY nc (sU m 81 j v) := by
  intro i hi
  obtain ⟨a, b, c, d, e, f⟩ := h i hi
  rw [sU_row m j v (by omega : 76 ≠ 81), sU_row m j v (by omega : 77 ≠ 81), sU_row m j v (by omega : 79 ≠ 81), sU_row m j v (by omega : 80 ≠ 81), sU_row m j v (by omega : 82 ≠ 81), sU_row m j v (by omega : 84 ≠ 81)]
  exact ⟨a, b, c, d, sU_all (P := sB) e hv, f⟩
/-- a claim's state that is not OPEN -/
theorem rY.s {nc : Nat} {m : sg} (h : rY nc m) {j : Nat} {v : Int32} (hv : ¬ v = 0) : rY nc (sU m 82 j v) := by
  intro i hi
  obtain ⟨a, b, c, d, e, f⟩ := h i hi
  rw [sU_row m j v (by omega : 76 ≠ 82), sU_row m j v (by omega : 77 ≠ 82), sU_row m j v (by omega : 79 ≠ 82), sU_row m j v (by omega : 80 ≠ 82), sU_row m j v (by omega : 81 ≠ 82), sU_row m j v (by omega : 84 ≠ 82)]
  refine ⟨a, b, c, d, e, ?_⟩
  by_cases q : i = j
  · subst q; rw [sU_s]; exact fun z => absurd z hv
  · rw [sU_j _ _ _ _ q]; exact f
/-- served by: of a claim that is not OPEN, or by none -/
theorem rY.f {nc : Nat} {m : sg} (h : rY nc m) {j : Nat} {v : Int32} (hv : ¬ m 82 j = 0 ∨ v = -1) : rY nc (sU m 84 j v) := by
  intro i hi
  obtain ⟨a, b, c, d, e, f⟩ := h i hi
  rw [sU_row m j v (by omega : 76 ≠ 84), sU_row m j v (by omega : 77 ≠ 84), sU_row m j v (by omega : 79 ≠ 84), sU_row m j v (by omega : 80 ≠ 84), sU_row m j v (by omega : 81 ≠ 84), sU_row m j v (by omega : 82 ≠ 84)]
  refine ⟨a, b, c, d, e, fun z => ?_⟩
  by_cases q : i = j
  · subst q; rw [sU_s]; exact hv.resolve_left (fun w => w z)
  · rw [sU_j _ _ _ _ q]; exact f z
theorem rZ.m {n nc : Nat} {m : sg} (h : rZ n nc m) {k j : Nat} {v : Int32} (hk : k < 65 ∨ k = 66 ∨ k = 67 ∨ k = 68 ∨ 72 < k ∧ k ≠ 83 ∨ k ≠ 83 ∧ j < n ∨ k = 83 ∧ j < nc) : rZ n nc (sU m k j v) := by
  refine ⟨fun i hi => ?_, fun i hi => (sU_ne (by omega)).trans (h.2 i hi)⟩
  obtain ⟨a, b, c, d, e⟩ := h.1 i hi
  exact ⟨(sU_ne (by omega)).trans a, (sU_ne (by omega)).trans b, (sU_ne (by omega)).trans c, (sU_ne (by omega)).trans d, (sU_ne (by omega)).trans e⟩
/-- what the rows of the globals alone change -/
theorem kRl.g {n nc : Nat} {c m c' m' : sg} (h : kRl n nc c m) (hc : ∀ k, 100 ≤ k → c' k = c k) (hm : ∀ k, 57 ≤ k → k < 100 → m' k = m k) (hN : rN n nc c' m') (hS : rS c' m') (hV : rV m') : kRl n nc c' m' := by
  obtain ⟨-, -, -, hF, hR, hH, hW, hC, hY, hZ⟩ := h
  refine ⟨hN, hS, hV, ?_, ?_, ?_, ?_, ?_, ?_, ?_⟩
  · intro i hi f hf h0
    have := fk_rg f hf h0
    rw [hc _ (by omega), hm _ (by omega) (by omega)]
    exact hF i hi f hf h0
  · intro i hi
    rw [hc _ (by omega), hm 65 (by omega) (by omega), hm 66 (by omega) (by omega), hm 67 (by omega) (by omega)]
    exact hR i hi
  · intro i hi
    rw [hc _ (by omega), hc (100 + 3 * i + 2) (by omega), hm 72 (by omega) (by omega), hm 73 (by omega) (by omega), hm 74 (by omega) (by omega)]
    exact hH i hi
  · intro i hi
    rw [hm 59 (by omega) (by omega), hm 60 (by omega) (by omega), hm 61 (by omega) (by omega), hm 62 (by omega) (by omega), hm 63 (by omega) (by omega), hm 65 (by omega) (by omega), hm 69 (by omega) (by omega)]
    exact hW i hi
  · intro j hj
    rw [hc _ (by omega)]
    refine ⟨(hC j hj).1, fun f hf h0 => ?_⟩
    have := ck_rg f hf h0
    rw [hm _ (by omega) (by omega)]
    exact (hC j hj).2 f hf h0
  · intro j hj
    rw [hm 76 (by omega) (by omega), hm 77 (by omega) (by omega), hm 79 (by omega) (by omega), hm 80 (by omega) (by omega), hm 81 (by omega) (by omega), hm 82 (by omega) (by omega), hm 84 (by omega) (by omega)]
    exact hY j hj
  · unfold rZ
    rw [hm 72 (by omega) (by omega), hm 69 (by omega) (by omega), hm 70 (by omega) (by omega), hm 71 (by omega) (by omega), hm 65 (by omega) (by omega), hm 83 (by omega) (by omega)]
    exact hZ
/-- what was thrown is no part of it -/
theorem kRl.t {n nc : Nat} {c m : sg} (h : kRl n nc c m) (v : Int32) : kRl n nc c (sU m 9 0 v) :=
  h.g (fun _ _ => rfl) (fun k h1 h2 => sU_row _ _ _ (by omega)) (h.1.m (by omega)) (h.2.1.m (by omega)) (h.2.2.1.m (by omega))
/-! the premises of either side's methods -/
section RelP
variable {n nc : Nat} {c m : sg}
theorem kRl.n30 (h : kRl n nc c m) : n ≤ 30 := h.1.1
theorem kRl.c20 (h : kRl n nc c m) : nc ≤ 20 := h.1.2.1
theorem kRl.fr (h : kRl n nc c m) : ∀ j, j < 30 → c 6 j = if j < n then 1 else 0 := fun j _ => h.1.2.2.2.2.2.2.1 j
theorem kRl.cr (h : kRl n nc c m) : ∀ j, j < 20 → c 7 j = if j < nc then 1 else 0 := fun j _ => h.1.2.2.2.2.2.2.2 j
theorem kRl.F (h : kRl n nc c m) {i : Nat} (hi : i < n) (f k : Nat) (hf : f < 15) (hk : fk f = k) (h0 : k ≠ 0) : c (100 + 3 * i) f = m k i := by
  subst hk
  exact h.2.2.2.1 i hi f hf h0
theorem kRl.C (h : kRl n nc c m) {j : Nat} (hj : j < nc) (f k : Nat) (hf : f < 10) (hk : ck f = k) (h0 : k ≠ 0) : c (200 + j) f = m k j := by
  subst hk
  exact (h.2.2.2.2.2.2.2.1 j hj).2 f hf h0
theorem kRl.hd (h : kRl n nc c m) : ∀ i, i < n → ∃ h : Nat, h ≤ 12 ∧ c (100 + 3 * i) 7 = nI h := fun i hi => by
  obtain ⟨k, h1, h2, -⟩ := h.2.2.2.2.2.1 i hi
  exact ⟨k, h1, by rw [h.F hi 7 72 (by decide) rfl (by decide)]; exact h2⟩
theorem kRl.hdm (h : kRl n nc c m) : ∀ i, i < n → ∃ h : Nat, h ≤ 12 ∧ m 72 i = nI h := fun i hi => by
  obtain ⟨k, h1, h2, -⟩ := h.2.2.2.2.2.1 i hi
  exact ⟨k, h1, h2⟩
theorem kRl.W (h : kRl n nc c m) : rW n m := h.2.2.2.2.2.2.1
theorem kRl.Y (h : kRl n nc c m) : rY nc m := h.2.2.2.2.2.2.2.2.1
theorem kRl.hz (h : kRl n nc c m) : ∀ i, i < n → c (100 + 3 * i) 12 = 0 ∨ c (100 + 3 * i) 12 = 1 := fun i hi => by
  rw [h.F hi 12 69 (by decide) rfl (by decide)]
  exact (h.W i hi).2.2.2.2.2.2
theorem kRl.cRr (h : kRl n nc c m) : cR n nc c := by
  refine ⟨fun i hi => ?_, fun j hj => ?_, ?_⟩
  · obtain ⟨h1, h2, h3, h4, h5, -⟩ := h.W i hi
    rw [h.F hi 0 59 (by decide) rfl (by decide), h.F hi 1 60 (by decide) rfl (by decide), h.F hi 2 61 (by decide) rfl (by decide), h.F hi 8 62 (by decide) rfl (by decide), h.F hi 3 63 (by decide) rfl (by decide)]
    exact ⟨h1, h2, h3, h4, h5⟩
  · obtain ⟨h1, h2, h3, h4, h5, -⟩ := h.Y j hj
    rw [h.C hj 1 76 (by decide) rfl (by decide), h.C hj 2 77 (by decide) rfl (by decide), h.C hj 4 79 (by decide) rfl (by decide), h.C hj 5 80 (by decide) rfl (by decide), h.C hj 6 81 (by decide) rfl (by decide)]
    exact ⟨h1, h2, h3, h4, h5, (h.2.2.2.2.2.2.2.1 j hj).1⟩
  · rw [h.2.1.1]; exact h.2.2.1.2.2.1
theorem kRl.mRr (h : kRl n nc c m) : mR n nc m := ⟨fun i hi => ⟨(h.W i hi).1, (h.W i hi).2.1⟩, fun j hj => (h.Y j hj).2.1⟩
/-- .. of the reference's, in a store that holds its cells -/
theorem kRl.mh {m' : sg} (h : kRl n nc c m) (e : mE m m') : m' 9 8 = nI n ∧ m' 9 25 = nI nc ∧ mR n nc m' ∧ (∀ i, i < n → ∃ h : Nat, h ≤ 12 ∧ m' 72 i = nI h) ∧ (∀ i, i < n → m' 69 i = 0 ∨ m' 69 i = 1) ∧ m' 72 n = 0 := by
  have h9 := h.e (cE.rf c) e
  exact ⟨h9.1.2.2.2.1, h9.1.2.2.2.2.2.1, h9.mRr, h9.hdm, fun i hi => (h9.W i hi).2.2.2.2.2.2, (h9.2.2.2.2.2.2.2.2.2.1 n (Nat.le_refl n)).1⟩
end RelP
/-- one call on either side -/
theorem op_gen {n nc n' nc' : Nat} {g gc : sg} {K r : Int32} {Km Am : sg → Int32} {Um : sg → sg} (h : kRl n nc g g) (hK : ∀ g', mE g g' → Km g' = K) (h1 : K = 0 → mE g gc) (h2 : K = 0 → ∀ g', mE g g' → Am g' = r)
    (h3 : K = 0 → ∀ g', mE g g' → mE (Um g) (Um g')) (h4 : K = 0 → ∀ g', cX g' (Um g')) (h5 : K = 0 → Um g 9 0 = 0) (h6 : K = 0 → kRl n' nc' gc (Um g)) {gB : sg} (hB : gB = if K = 0 then sU gc 40 0 r else g) :
    mE g gB ∧ Km gB = K ∧ (K = 0 → Am gB = r) ∧ mk (Km gB) (Um gB) gB 9 0 = K ∧ mk (Km gB) (Um gB) gB 40 0 = (if K = 0 then r else g 40 0) ∧ (K = 0 → kRl n' nc' (mk (Km gB) (Um gB) gB) (mk (Km gB) (Um gB) gB)) ∧ (¬ K = 0 → kRl n nc (mk (Km gB) (Um gB) gB) (mk (Km gB) (Um gB) gB)) := by
  by_cases c : K = 0
  · rw [if_pos c] at hB
    have e : mE g gB := by rw [hB]; exact (h1 c).c (by omega)
    have k := hK gB e
    have eU := h3 c gB e
    have r0 : kRl n' nc' (Um gB) (Um gB) := by
      refine (h6 c).e ?_ eU
      refine cE.tr ?_ (fun k9 h9 => h4 c gB k9 (by omega))
      rw [hB]
      exact (cE.rf gc).m (by omega)
    refine ⟨e, k, fun _ => h2 c gB e, ?_, ?_, fun _ => ?_, fun q => absurd c q⟩
    · rw [k, mk_0 c, eU 9 (by omega) (by omega) (by omega), h5 c, c]
    · rw [k, mk_0 c, if_pos c, h4 c gB 40 (by omega), hB, sU_s]
    · rw [k, mk_0 c]; exact r0
  · rw [if_neg c] at hB
    subst hB
    have e : mE gB gB := mE.rf gB
    have k := hK gB e
    refine ⟨e, k, fun q => absurd q c, ?_, ?_, fun q => absurd q c, fun _ => ?_⟩
    · rw [k, mk_n c, sU_s]
    · rw [k, mk_n c, if_neg c, sU_ne (by omega)]
    · rw [k, mk_n c]
      exact (h.e ((cE.rf gB).m (by omega)) (mE.rf gB)).t K
