/-! The world of a run: one object of the class (key 0), its rows (keys 1 to 8), the finds (keys 100 + 3 i, their two rows behind), the claims (keys 200 + j). What a cell holds is read off one store of numbers, sg. -/
abbrev kE : Type := (ClassId × vp_A) ⊕ (Nat × (Nat → Value))
abbrev sg : Type := Nat → Nat → Int32
def sU (g : sg) (k j : Nat) (v : Int32) : sg := fun k' j' => if k' = k ∧ j' = j then v else g k' j'
theorem sU_s (g : sg) (k j : Nat) (v : Int32) : sU g k j v k j = v := by simp [sU]
theorem sU_k (g : sg) {k k' : Nat} (j j' : Nat) (v : Int32) (h : k' ≠ k) : sU g k j v k' j' = g k' j' := by simp [sU, h]
theorem sU_j (g : sg) (k k' : Nat) {j j' : Nat} (v : Int32) (h : j' ≠ j) : sU g k j v k' j' = g k' j' := by simp [sU, h]
theorem sU_row (g : sg) {k k' : Nat} (j : Nat) (v : Int32) (h : k' ≠ k) : sU g k j v k' = g k' := by funext j'; simp [sU, h]
def kAt (D : va_G) (a : Nat) (e : kE) (H : Heap) : Prop := match e with
  | .inl x => H[a]? = some (vp_cell x.1 x.2)
  | .inr o => ∃ r : vw_C, vwCl[o.1]? = some r ∧ t_OB a (D.1 o.1) r.2.2 (D.2 o.1) H o.2
theorem kAt.kept {D : va_G} {a : Nat} {e : kE} {H H1 : Heap} (h : kAt D a e H) (hq : H1[a]? = H[a]?) : kAt D a e H1 := by
  cases e with
  | inl x => exact hq.trans h
  | inr o =>
    obtain ⟨r, h1, h2⟩ := h
    exact ⟨r, h1, h2.kept hq⟩
theorem kAt.lt {D : va_G} {a : Nat} {e : kE} {H : Heap} (h : kAt D a e H) : a < H.size := by
  cases e with
  | inl x => exact (Array.getElem?_eq_some_iff.mp h).1
  | inr o =>
    obtain ⟨r, h1, cell, h2, -⟩ := h
    exact (Array.getElem?_eq_some_iff.mp h2).1
def kInts (cA : ClassId) (L : Nat) (f : Nat → Int32) : kE := .inl (cA, L, .inl f)
def kRefs (cA : ClassId) (L : Nat) (f : Nat → Option Nat) : kE := .inl (cA, L, .inr (.inr (.inr (.inr f))))
/-- the fields: of the class's object, of a find, of a claim, of the reference -/
def fL (ad : Nat → Nat) (g : sg) : Nat → Value := fun j => if j < 8 then .ref (ad (j + 1)) else .int (g 0 j)
def fF (ad : Nat → Nat) (g : sg) (k : Nat) : Nat → Value := fun j => if j = 5 then .ref (ad (k + 1)) else if j = 6 then .ref (ad (k + 2)) else .int (g k j)
def fC (g : sg) (k : Nat) : Nat → Value := fun j => .int (g k j)
/-- the length of a row of ints at a key below 100 -/
def kLen (k : Nat) : Option Nat :=
  if k = 1 then some 24 else if k = 2 then some 8 else if k = 3 then some 4 else if k = 4 then some 8 else if k = 5 then some 8 else if k = 8 then some 30 else none
def kC (cy : Nat → ClassId) (ad : Nat → Nat) (n c : Nat) (g : sg) (k : Nat) : Option kE :=
  if k < 100 then
    (if k = 0 then some (.inr (2, fL ad g))
     else if k = 6 then some (kRefs (cy 1) 30 (fun j => if g 6 j = 1 then some (ad (100 + 3 * j)) else none))
     else if k = 7 then some (kRefs (cy 2) 20 (fun j => if g 7 j = 1 then some (ad (200 + j)) else none))
     else (kLen k).map fun L => kInts (cy 0) L (g k))
  else if k < 200 then (if k < 100 + 3 * n then (if (k - 100) % 3 = 0 then some (.inr (1, fF ad g k)) else some (kInts (cy 0) 12 (g k))) else none)
  else if k < 200 + c then some (.inr (0, fC g k)) else none
theorem kC_row {cy : Nat → ClassId} {ad : Nat → Nat} {n c : Nat} {g g' : sg} {k : Nat} (h : g k = g' k) : kC cy ad n c g k = kC cy ad n c g' k := by
  have eF : fF ad g k = fF ad g' k := by funext j; simp only [fF, h]
  have eC : fC g k = fC g' k := by funext j; simp only [fC, h]
  unfold kC
  by_cases h1 : k < 100
  · rw [if_pos h1, if_pos h1]
    by_cases h2 : k = 0
    · subst h2
      have e : fL ad g = fL ad g' := by funext j; simp only [fL, h]
      simp [e]
    by_cases h4 : k = 6
    · subst h4; simp [h]
    by_cases h5 : k = 7
    · subst h5; simp [h]
    simp [h2, h4, h5, h]
  · rw [if_neg h1, if_neg h1, eF, eC, h]
theorem kC_some {cy : Nat → ClassId} {ad ad' : Nat → Nat} {n c : Nat} {g g' : sg} {k : Nat} {e : kE} (h : kC cy ad n c g k = some e) : ∃ e', kC cy ad' n c g' k = some e' := by
  unfold kC at h ⊢
  by_cases h1 : k < 100
  · rw [if_pos h1] at h ⊢
    by_cases h2 : k = 0
    · rw [if_pos h2]; exact ⟨_, rfl⟩
    by_cases h4 : k = 6
    · rw [if_neg h2, if_pos h4]; exact ⟨_, rfl⟩
    by_cases h5 : k = 7
    · rw [if_neg h2, if_neg h4, if_pos h5]; exact ⟨_, rfl⟩
    rw [if_neg h2, if_neg h4, if_neg h5] at h ⊢
    cases hl : kLen k with
    | none => rw [hl] at h; cases h
    | some L => exact ⟨_, rfl⟩
  · rw [if_neg h1] at h ⊢
    by_cases h2 : k < 200
    · rw [if_pos h2] at h ⊢
      by_cases h3 : k < 100 + 3 * n
      · rw [if_pos h3]
        by_cases h4 : (k - 100) % 3 = 0
        · rw [if_pos h4]; exact ⟨_, rfl⟩
        · rw [if_neg h4]; exact ⟨_, rfl⟩
      · rw [if_neg h3] at h; cases h
    · rw [if_neg h2] at h ⊢
      by_cases h3 : k < 200 + c
      · rw [if_pos h3]; exact ⟨_, rfl⟩
      · rw [if_neg h3] at h; cases h
/-- what a key holds, by its kind -/
theorem kC_0 {cy ad n c g} : kC cy ad n c g 0 = some (.inr (2, fL ad g)) := rfl
theorem kC_6 {cy ad n c g} : kC cy ad n c g 6 = some (kRefs (cy 1) 30 (fun j => if g 6 j = 1 then some (ad (100 + 3 * j)) else none)) := rfl
theorem kC_7 {cy ad n c g} : kC cy ad n c g 7 = some (kRefs (cy 2) 20 (fun j => if g 7 j = 1 then some (ad (200 + j)) else none)) := rfl
theorem kC_I {cy ad n c g} {k L : Nat} (hk : kLen k = some L) : kC cy ad n c g k = some (kInts (cy 0) L (g k)) := by
  have h1 : k < 100 := by
    unfold kLen at hk
    by_cases h : k < 100
    · exact h
    · exfalso
      rw [if_neg (by omega), if_neg (by omega), if_neg (by omega), if_neg (by omega), if_neg (by omega), if_neg (by omega)] at hk
      cases hk
  have h0 : k ≠ 0 := by rintro rfl; simp [kLen] at hk
  have h6 : k ≠ 6 := by rintro rfl; simp [kLen] at hk
  have h7 : k ≠ 7 := by rintro rfl; simp [kLen] at hk
  unfold kC
  rw [if_pos h1, if_neg h0, if_neg h6, if_neg h7, hk]
  rfl
theorem kC_F {cy ad n c g} {i : Nat} (hi : i < n) (hn : n ≤ 30) : kC cy ad n c g (100 + 3 * i) = some (.inr (1, fF ad g (100 + 3 * i))) := by
  unfold kC
  rw [if_neg (by omega), if_pos (by omega), if_pos (by omega), if_pos (by omega)]
theorem kC_F1 {cy ad n c g} {i : Nat} (hi : i < n) (hn : n ≤ 30) : kC cy ad n c g (100 + 3 * i + 1) = some (kInts (cy 0) 12 (g (100 + 3 * i + 1))) := by
  unfold kC
  rw [if_neg (by omega), if_pos (by omega), if_pos (by omega), if_neg (by omega)]
theorem kC_F2 {cy ad n c g} {i : Nat} (hi : i < n) (hn : n ≤ 30) : kC cy ad n c g (100 + 3 * i + 2) = some (kInts (cy 0) 12 (g (100 + 3 * i + 2))) := by
  unfold kC
  rw [if_neg (by omega), if_pos (by omega), if_pos (by omega), if_neg (by omega)]
theorem kC_C {cy ad n c g} {j : Nat} (hj : j < c) : kC cy ad n c g (200 + j) = some (.inr (0, fC g (200 + j))) := by
  unfold kC
  rw [if_neg (by omega), if_neg (by omega), if_pos (by omega)]
/-- the world: each key's cell lies in the heap, at addresses that are apart and new since base -/
def kW (D : va_G) (cy : Nat → ClassId) (base : Nat → Prop) (ad : Nat → Nat) (n c : Nat) (g : sg) (H : Heap) : Prop :=
  (∀ (k : Nat) (e : kE), kC cy ad n c g k = some e → kAt D (ad k) e H ∧ base (ad k)) ∧
  (∀ (j k : Nat) (ej ek : kE), kC cy ad n c g j = some ej → kC cy ad n c g k = some ek → ad j = ad k → j = k) ∧ n ≤ 30 ∧ c ≤ 20
abbrev kS : Type := (Nat → Nat) × Nat × Nat × sg
def kWt (D : va_G) (cy : Nat → ClassId) (base : Nat → Prop) (u : kS) (H : Heap) : Prop := kW D cy base u.1 u.2.1 u.2.2.1 u.2.2.2 H
def kA (base : Nat → Prop) : Nat → Prop := base
theorem kW.kept {D cy base ad n c g} {H H1 : Heap} (h : kW D cy base ad n c g H) (hq : ∀ q : Nat, q < H.size → H1[q]? = H[q]?) : kW D cy base ad n c g H1 :=
  ⟨fun k e hk => ⟨(h.1 k e hk).1.kept (hq _ (h.1 k e hk).1.lt), (h.1 k e hk).2⟩, h.2⟩
/-- one cell is written: the store changes at its key -/
theorem kW.put {D cy base ad n c} {g g' : sg} {H H1 : Heap} {k : Nat} {e0 e : kE} (h : kW D cy base ad n c g H) (hk : kC cy ad n c g k = some e0) (ho : ∀ k', k' ≠ k → g' k' = g k') (he : kC cy ad n c g' k = some e) (hat : kAt D (ad k) e H1) (oq : ∀ q : Nat, q ≠ ad k → H1[q]? = H[q]?) : kW D cy base ad n c g' H1 := by
  refine ⟨fun k' e' hk' => ?_, fun i j ei ej hi hj hij => ?_, h.2.2⟩
  · by_cases hkk : k' = k
    · subst hkk
      rw [he] at hk'
      cases hk'
      exact ⟨hat, (h.1 k' e0 hk).2⟩
    · have h1 : kC cy ad n c g k' = some e' := by rw [← hk']; exact kC_row (ho k' hkk).symm
      obtain ⟨h2, h3⟩ := h.1 k' e' h1
      exact ⟨h2.kept (oq _ (fun q => hkk (h.2.1 k' k e' e0 h1 hk q))), h3⟩
  · obtain ⟨ei', hi'⟩ := kC_some (ad' := ad) (g' := g) hi
    obtain ⟨ej', hj'⟩ := kC_some (ad' := ad) (g' := g) hj
    exact h.2.1 i j ei' ej' hi' hj' hij
theorem sU_o (g : sg) (k j : Nat) (v : Int32) : ∀ k', k' ≠ k → sU g k j v k' = g k' := fun _ h => sU_row g j v h
theorem fL_up (ad : Nat → Nat) (g : sg) {j : Nat} (v : Int32) (hj : 8 ≤ j) (i : Nat) : updV (fL ad g) j (.int v) i = fL ad (sU g 0 j v) i := by
  unfold updV fL sU
  by_cases h : i = j
  · subst h
    simp [show ¬ i < 8 by omega]
  · simp [h]
theorem fF_up (ad : Nat → Nat) (g : sg) (k : Nat) {j : Nat} (v : Int32) (h5 : j ≠ 5) (h6 : j ≠ 6) (i : Nat) : updV (fF ad g k) j (.int v) i = fF ad (sU g k j v) k i := by
  unfold updV fF sU
  by_cases h : i = j
  · subst h
    simp [h5, h6]
  · simp [h]
theorem fC_up (g : sg) (k : Nat) (j : Nat) (v : Int32) (i : Nat) : updV (fC g k) j (.int v) i = fC (sU g k j v) k i := by
  unfold updV fC sU
  by_cases h : i = j
  · subst h
    simp
  · simp [h]
theorem kInts_up {D cA L} {f : Nat → Int32} {a k : Nat} {v : Int32} {H1 : Heap} (e : H1[a]? = some ((vp_cell cA (L, .inl f)).setSlot k (.int v))) : kAt D a (kInts cA L (upd f k v)) H1 := by
  show H1[a]? = some (vp_cell cA (L, .inl (upd f k v)))
  rw [e, vp_cell_i, vp_cell_i, arrV_store]
  congr 2
  funext q
  by_cases hq : q = k
  · subst hq
    simp [updV, upd]
  · simp [updV, upd, hq]
theorem upd_sU (g : sg) (k j : Nat) (v : Int32) : upd (g k) j v = sU g k j v k := by
  funext i
  simp [upd, sU]
