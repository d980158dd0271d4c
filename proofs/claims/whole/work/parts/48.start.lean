/-! the world at the loop's head: laid by wip/whole/endgen.py -/
def g0 : sg := fun k j => if k = 0 then (if j = 11 then 50 else 0) else if k = 9 then (if j = 7 then 50 else 0) else if k = 4 then (if j < 8 then 60 else 0) else if k = 54 then (if j < 8 then 60 else 0) else 0
def kIx (k : Nat) : Nat := if k ≤ 9 then k else if k = 40 then 40 else if k ≤ 56 then k - 42 else if k ≤ 74 then k - 44 else k - 45
def kKeys : List Nat := [0, 1, 2, 3, 4, 5, 6, 7, 8, 9, 52, 53, 54, 55, 56, 59, 60, 61, 62, 63, 64, 65, 66, 67, 68, 69, 70, 71, 72, 73, 74, 76, 77, 78, 79, 80, 81, 82, 83, 84, 40]
theorem kIx_inj : ∀ j ∈ kKeys, ∀ k ∈ kKeys, kIx j = kIx k → j = k := by decide +kernel
theorem kIx_lt : ∀ k ∈ kKeys, kIx k < 41 := by decide +kernel
theorem kKeys_no : ∀ k, k < 100 → k ∉ kKeys → k ≠ 0 ∧ k ≠ 9 ∧ k ≠ 6 ∧ k ≠ 7 ∧ k ≠ 40 ∧ k ≠ 69 ∧ kLen k = none := by decide +kernel
def adW (ws : va_W) : Nat → Nat := fun k => match ws[kIx k]? with | some q => q.1 | none => 0
theorem adW_of {ws : va_W} (hw : ws.length = 41) {k : Nat} (hk : k ∈ kKeys) : ∃ q, ws[kIx k]? = some q ∧ q.1 = adW ws k := by
  have h := kIx_lt k hk
  refine ⟨ws[kIx k]'(by omega), List.getElem?_eq_getElem (by omega), ?_⟩
  unfold adW
  rw [List.getElem?_eq_getElem (by omega)]
theorem kKeys_of {cy : Nat → ClassId} {ad : Nat → Nat} {g : sg} {k : Nat} {e : kE} (h : kC cy ad 0 0 g k = some e) : k ∈ kKeys := by
  refine Decidable.byContradiction fun hk => ?_
  unfold kC at h
  by_cases h1 : k < 100
  · obtain ⟨a, b, c, d, e, f, i⟩ := kKeys_no k h1 hk
    rw [if_pos h1, if_neg a, if_neg b, if_neg c, if_neg d, if_neg e, if_neg f, i] at h
    cases h
  · rw [if_neg h1] at h
    by_cases h2 : k < 200
    · rw [if_pos h2, if_neg (by omega)] at h
      cases h
    · rw [if_neg h2, if_neg (by omega)] at h
      cases h
theorem st_I {D : va_G} {cy : Nat → ClassId} {ad : Nat → Nat} {g : sg} {k L : Nat} {e : kE} {H : Heap} (hk : kLen k = some L) (ha : H[ad k]? = some (vp_cell (cy 0) (L, .inl (g k)))) (h : kC cy ad 0 0 g k = some e) : kAt D (ad k) e H := by
  have he := Option.some.inj ((kC_I hk).symm.trans h)
  subst he
  exact ha
theorem st_E {D : va_G} {a : Nat} {e e' : kE} {o : Option kE} {H : Heap} (h1 : o = some e') (ha : kAt D a e' H) (h : o = some e) : kAt D a e H := by
  have he := Option.some.inj (h1.symm.trans h)
  subst he
  exact ha
theorem st_O {D : va_G} {a ci N : Nat} {C : String} {T : u_T} {fs : List Value} {V : Nat → Value} {H : Heap} (hc : vwCl[ci]? = some (C, T, N)) (hV : ∀ j, j < N → vp_V fs j = V j) (h : va_at D vwCl (a, .inr (ci, fs)) H) : kAt D a (.inr (ci, V)) H := by
  obtain ⟨r, h1, h2⟩ := h
  have hr : r = (C, T, N) := Option.some.inj (h1.symm.trans hc)
  subst hr
  exact ⟨_, hc, h2.to hV⟩
/-- the cells, in the order in which the start makes them -/
def stW (cy : Nat → ClassId) (a0 a1 a2 a3 a4 a5 a6 a7 a8 a9 a10 a11 a12 a13 a14 a15 a16 a17 a18 a19 a20 a21 a22 a23 a24 a25 a26 a27 a28 a29 a30 a31 a32 a33 a34 a35 a36 a37 a38 a39 a40 : Nat) : va_W := [(a0, .inr (2, [.ref a1, .ref a2, .ref a3, .ref a4, .ref a5, .ref a6, .ref a7, .ref a8, .int 0, .int 0, .int 0, .int 50, .int 0, .int 0, .int 0])), (a1, .inl (cy 0, 24, .inl (fun _ => 0))), (a2, .inl (cy 0, 8, .inl (fun _ => 0))), (a3, .inl (cy 0, 4, .inl (fun _ => 0))), (a4, .inl (cy 0, 8, .inl (fun j => if j < 8 then 60 else 0))), (a5, .inl (cy 0, 8, .inl (fun _ => 0))), (a6, .inl (cy 3, 30, .inr (.inr (.inr (.inr (fun _ => none)))))), (a7, .inl (cy 4, 20, .inr (.inr (.inr (.inr (fun _ => none)))))), (a8, .inl (cy 0, 30, .inl (fun _ => 0))), (a9, .inr (3, [.int 0, .int 0, .ref a10, .ref a11, .ref a12, .ref a13, .ref a14, .int 50, .int 0, .ref a15, .ref a16, .ref a17, .ref a18, .ref a19, .ref a20, .ref a21, .ref a22, .ref a23, .ref a24, .ref a25, .ref a26, .ref a27, .ref a28, .ref a29, .ref a30, .int 0, .ref a31, .ref a32, .ref a33, .ref a34, .ref a35, .ref a36, .ref a37, .ref a38, .ref a39, .int 0, .int 0, .int 0])), (a10, .inl (cy 0, 24, .inl (fun _ => 0))), (a11, .inl (cy 0, 8, .inl (fun _ => 0))), (a12, .inl (cy 0, 8, .inl (fun j => if j < 8 then 60 else 0))), (a13, .inl (cy 0, 8, .inl (fun _ => 0))), (a14, .inl (cy 0, 4, .inl (fun _ => 0))), (a15, .inl (cy 0, 30, .inl (fun _ => 0))), (a16, .inl (cy 0, 30, .inl (fun _ => 0))), (a17, .inl (cy 0, 30, .inl (fun _ => 0))), (a18, .inl (cy 0, 30, .inl (fun _ => 0))), (a19, .inl (cy 0, 30, .inl (fun _ => 0))), (a20, .inl (cy 0, 30, .inl (fun _ => 0))), (a21, .inl (cy 0, 30, .inl (fun _ => 0))), (a22, .inl (cy 0, 30, .inl (fun _ => 0))), (a23, .inl (cy 0, 30, .inl (fun _ => 0))), (a24, .inl (cy 0, 30, .inl (fun _ => 0))), (a25, .inl (cy 1, 30, .inl (fun _ => 0))), (a26, .inl (cy 0, 30, .inl (fun _ => 0))), (a27, .inl (cy 0, 30, .inl (fun _ => 0))), (a28, .inl (cy 0, 30, .inl (fun _ => 0))), (a29, .inl (cy 0, 360, .inl (fun _ => 0))), (a30, .inl (cy 0, 360, .inl (fun _ => 0))), (a31, .inl (cy 0, 20, .inl (fun _ => 0))), (a32, .inl (cy 0, 20, .inl (fun _ => 0))), (a33, .inl (cy 0, 20, .inl (fun _ => 0))), (a34, .inl (cy 0, 20, .inl (fun _ => 0))), (a35, .inl (cy 0, 20, .inl (fun _ => 0))), (a36, .inl (cy 0, 20, .inl (fun _ => 0))), (a37, .inl (cy 0, 20, .inl (fun _ => 0))), (a38, .inl (cy 0, 20, .inl (fun _ => 0))), (a39, .inl (cy 0, 20, .inl (fun _ => 0))), (a40, .inl (cy 2, 1, .inr (.inl (fun _ => 0))))]
theorem g0_fin {cy3 : ClassId} {ad : Nat → Nat} : kRefs cy3 30 (fun j => if g0 6 j = 1 then some (ad (100 + 3 * j)) else none) = kRefs cy3 30 (fun _ => none) := by
  have h : (fun j => if g0 6 j = 1 then some (ad (100 + 3 * j)) else none) = fun _ : Nat => (none : Option Nat) := funext fun j => if_neg (show ¬ (0 : Int32) = 1 by decide)
  rw [h]
theorem g0_cla {cy3 : ClassId} {ad : Nat → Nat} : kRefs cy3 20 (fun j => if g0 7 j = 1 then some (ad (200 + j)) else none) = kRefs cy3 20 (fun _ => none) := by
  have h : (fun j => if g0 7 j = 1 then some (ad (200 + j)) else none) = fun _ : Nat => (none : Option Nat) := funext fun j => if_neg (show ¬ (0 : Int32) = 1 by decide)
  rw [h]
theorem g0_row {k : Nat} (h : k ≠ 0 ∧ k ≠ 9 ∧ k ≠ 4 ∧ k ≠ 54) : g0 k = fun _ => 0 := by
  funext j
  unfold g0
  rw [if_neg h.1, if_neg h.2.1, if_neg h.2.2.1, if_neg h.2.2.2]
theorem g0_4 : g0 4 = fun j => if j < 8 then 60 else 0 := rfl
theorem g0_54 : g0 54 = fun j => if j < 8 then 60 else 0 := rfl
theorem g0_long : (fun j => (g0 40 j).toInt64) = fun _ : Nat => (0 : Int64) := by
  rw [g0_row (by decide)]
  rfl
set_option maxHeartbeats 4000000 in
set_option maxRecDepth 100000 in
theorem st_at {D : va_G} {cy : Nat → ClassId} {a0 a1 a2 a3 a4 a5 a6 a7 a8 a9 a10 a11 a12 a13 a14 a15 a16 a17 a18 a19 a20 a21 a22 a23 a24 a25 a26 a27 a28 a29 a30 a31 a32 a33 a34 a35 a36 a37 a38 a39 a40 : Nat} {H : Heap} (hP : va_P D vwCl (stW cy a0 a1 a2 a3 a4 a5 a6 a7 a8 a9 a10 a11 a12 a13 a14 a15 a16 a17 a18 a19 a20 a21 a22 a23 a24 a25 a26 a27 a28 a29 a30 a31 a32 a33 a34 a35 a36 a37 a38 a39 a40) H) : ∀ k ∈ kKeys, ∀ e, kC cy (adW (stW cy a0 a1 a2 a3 a4 a5 a6 a7 a8 a9 a10 a11 a12 a13 a14 a15 a16 a17 a18 a19 a20 a21 a22 a23 a24 a25 a26 a27 a28 a29 a30 a31 a32 a33 a34 a35 a36 a37 a38 a39 a40)) 0 0 g0 k = some e → kAt D (adW (stW cy a0 a1 a2 a3 a4 a5 a6 a7 a8 a9 a10 a11 a12 a13 a14 a15 a16 a17 a18 a19 a20 a21 a22 a23 a24 a25 a26 a27 a28 a29 a30 a31 a32 a33 a34 a35 a36 a37 a38 a39 a40) k) e H := by
  have h0 := hP 0 _ rfl
  have h1 := hP 1 _ rfl
  have h2 := hP 2 _ rfl
  have h3 := hP 3 _ rfl
  have h4 := hP 4 _ rfl
  have h5 := hP 5 _ rfl
  have h6 := hP 6 _ rfl
  have h7 := hP 7 _ rfl
  have h8 := hP 8 _ rfl
  have h9 := hP 9 _ rfl
  have h52 := hP 10 _ rfl
  have h53 := hP 11 _ rfl
  have h54 := hP 12 _ rfl
  have h55 := hP 13 _ rfl
  have h56 := hP 14 _ rfl
  have h59 := hP 15 _ rfl
  have h60 := hP 16 _ rfl
  have h61 := hP 17 _ rfl
  have h62 := hP 18 _ rfl
  have h63 := hP 19 _ rfl
  have h64 := hP 20 _ rfl
  have h65 := hP 21 _ rfl
  have h66 := hP 22 _ rfl
  have h67 := hP 23 _ rfl
  have h68 := hP 24 _ rfl
  have h69 := hP 25 _ rfl
  have h70 := hP 26 _ rfl
  have h71 := hP 27 _ rfl
  have h72 := hP 28 _ rfl
  have h73 := hP 29 _ rfl
  have h74 := hP 30 _ rfl
  have h76 := hP 31 _ rfl
  have h77 := hP 32 _ rfl
  have h78 := hP 33 _ rfl
  have h79 := hP 34 _ rfl
  have h80 := hP 35 _ rfl
  have h81 := hP 36 _ rfl
  have h82 := hP 37 _ rfl
  have h83 := hP 38 _ rfl
  have h84 := hP 39 _ rfl
  have h40 := hP 40 _ rfl
  generalize hZ : stW cy a0 a1 a2 a3 a4 a5 a6 a7 a8 a9 a10 a11 a12 a13 a14 a15 a16 a17 a18 a19 a20 a21 a22 a23 a24 a25 a26 a27 a28 a29 a30 a31 a32 a33 a34 a35 a36 a37 a38 a39 a40 = ZZ at hP ⊢
  have d0 : adW ZZ 0 = a0 := by rw [← hZ]; rfl
  have d1 : adW ZZ 1 = a1 := by rw [← hZ]; rfl
  have d2 : adW ZZ 2 = a2 := by rw [← hZ]; rfl
  have d3 : adW ZZ 3 = a3 := by rw [← hZ]; rfl
  have d4 : adW ZZ 4 = a4 := by rw [← hZ]; rfl
  have d5 : adW ZZ 5 = a5 := by rw [← hZ]; rfl
  have d6 : adW ZZ 6 = a6 := by rw [← hZ]; rfl
  have d7 : adW ZZ 7 = a7 := by rw [← hZ]; rfl
  have d8 : adW ZZ 8 = a8 := by rw [← hZ]; rfl
  have d9 : adW ZZ 9 = a9 := by rw [← hZ]; rfl
  have d52 : adW ZZ 52 = a10 := by rw [← hZ]; rfl
  have d53 : adW ZZ 53 = a11 := by rw [← hZ]; rfl
  have d54 : adW ZZ 54 = a12 := by rw [← hZ]; rfl
  have d55 : adW ZZ 55 = a13 := by rw [← hZ]; rfl
  have d56 : adW ZZ 56 = a14 := by rw [← hZ]; rfl
  have d59 : adW ZZ 59 = a15 := by rw [← hZ]; rfl
  have d60 : adW ZZ 60 = a16 := by rw [← hZ]; rfl
  have d61 : adW ZZ 61 = a17 := by rw [← hZ]; rfl
  have d62 : adW ZZ 62 = a18 := by rw [← hZ]; rfl
  have d63 : adW ZZ 63 = a19 := by rw [← hZ]; rfl
  have d64 : adW ZZ 64 = a20 := by rw [← hZ]; rfl
  have d65 : adW ZZ 65 = a21 := by rw [← hZ]; rfl
  have d66 : adW ZZ 66 = a22 := by rw [← hZ]; rfl
  have d67 : adW ZZ 67 = a23 := by rw [← hZ]; rfl
  have d68 : adW ZZ 68 = a24 := by rw [← hZ]; rfl
  have d69 : adW ZZ 69 = a25 := by rw [← hZ]; rfl
  have d70 : adW ZZ 70 = a26 := by rw [← hZ]; rfl
  have d71 : adW ZZ 71 = a27 := by rw [← hZ]; rfl
  have d72 : adW ZZ 72 = a28 := by rw [← hZ]; rfl
  have d73 : adW ZZ 73 = a29 := by rw [← hZ]; rfl
  have d74 : adW ZZ 74 = a30 := by rw [← hZ]; rfl
  have d76 : adW ZZ 76 = a31 := by rw [← hZ]; rfl
  have d77 : adW ZZ 77 = a32 := by rw [← hZ]; rfl
  have d78 : adW ZZ 78 = a33 := by rw [← hZ]; rfl
  have d79 : adW ZZ 79 = a34 := by rw [← hZ]; rfl
  have d80 : adW ZZ 80 = a35 := by rw [← hZ]; rfl
  have d81 : adW ZZ 81 = a36 := by rw [← hZ]; rfl
  have d82 : adW ZZ 82 = a37 := by rw [← hZ]; rfl
  have d83 : adW ZZ 83 = a38 := by rw [← hZ]; rfl
  have d84 : adW ZZ 84 = a39 := by rw [← hZ]; rfl
  have d40 : adW ZZ 40 = a40 := by rw [← hZ]; rfl
  clear hP hZ
  have t0 : ∀ e, kC cy (adW ZZ) 0 0 g0 0 = some e → kAt D (adW ZZ 0) e H := fun e h => st_E kC_0 (by rw [d0]; exact st_O (ci := 2) rfl (fun j hj => by rcases (show j = 0 ∨ j = 1 ∨ j = 2 ∨ j = 3 ∨ j = 4 ∨ j = 5 ∨ j = 6 ∨ j = 7 ∨ j = 8 ∨ j = 9 ∨ j = 10 ∨ j = 11 ∨ j = 12 ∨ j = 13 ∨ j = 14 by omega) with rfl | rfl | rfl | rfl | rfl | rfl | rfl | rfl | rfl | rfl | rfl | rfl | rfl | rfl | rfl <;> first | rfl | (unfold fL; simp only [d1, d2, d3, d4, d5, d6, d7, d8]; rfl)) h0) h
  have t1 : ∀ e, kC cy (adW ZZ) 0 0 g0 1 = some e → kAt D (adW ZZ 1) e H := fun e h => st_I (L := 24) rfl (by rw [d1, g0_row (by decide)]; exact h1) h
  have t2 : ∀ e, kC cy (adW ZZ) 0 0 g0 2 = some e → kAt D (adW ZZ 2) e H := fun e h => st_I (L := 8) rfl (by rw [d2, g0_row (by decide)]; exact h2) h
  have t3 : ∀ e, kC cy (adW ZZ) 0 0 g0 3 = some e → kAt D (adW ZZ 3) e H := fun e h => st_I (L := 4) rfl (by rw [d3, g0_row (by decide)]; exact h3) h
  have t4 : ∀ e, kC cy (adW ZZ) 0 0 g0 4 = some e → kAt D (adW ZZ 4) e H := fun e h => st_I (L := 8) rfl (by rw [d4, g0_4]; exact h4) h
  have t5 : ∀ e, kC cy (adW ZZ) 0 0 g0 5 = some e → kAt D (adW ZZ 5) e H := fun e h => st_I (L := 8) rfl (by rw [d5, g0_row (by decide)]; exact h5) h
  have t6 : ∀ e, kC cy (adW ZZ) 0 0 g0 6 = some e → kAt D (adW ZZ 6) e H := fun e h => st_E kC_6 (by rw [g0_fin, d6]; exact h6) h
  have t7 : ∀ e, kC cy (adW ZZ) 0 0 g0 7 = some e → kAt D (adW ZZ 7) e H := fun e h => st_E kC_7 (by rw [g0_cla, d7]; exact h7) h
  have t8 : ∀ e, kC cy (adW ZZ) 0 0 g0 8 = some e → kAt D (adW ZZ 8) e H := fun e h => st_I (L := 30) rfl (by rw [d8, g0_row (by decide)]; exact h8) h
  have t9 : ∀ e, kC cy (adW ZZ) 0 0 g0 9 = some e → kAt D (adW ZZ 9) e H := fun e h => st_E kC_9 (by rw [d9]; exact st_O (ci := 3) rfl (fun j hj => by rcases (show j = 0 ∨ j = 1 ∨ j = 2 ∨ j = 3 ∨ j = 4 ∨ j = 5 ∨ j = 6 ∨ j = 7 ∨ j = 8 ∨ j = 9 ∨ j = 10 ∨ j = 11 ∨ j = 12 ∨ j = 13 ∨ j = 14 ∨ j = 15 ∨ j = 16 ∨ j = 17 ∨ j = 18 ∨ j = 19 ∨ j = 20 ∨ j = 21 ∨ j = 22 ∨ j = 23 ∨ j = 24 ∨ j = 25 ∨ j = 26 ∨ j = 27 ∨ j = 28 ∨ j = 29 ∨ j = 30 ∨ j = 31 ∨ j = 32 ∨ j = 33 ∨ j = 34 ∨ j = 35 ∨ j = 36 ∨ j = 37 by omega) with rfl | rfl | rfl | rfl | rfl | rfl | rfl | rfl | rfl | rfl | rfl | rfl | rfl | rfl | rfl | rfl | rfl | rfl | rfl | rfl | rfl | rfl | rfl | rfl | rfl | rfl | rfl | rfl | rfl | rfl | rfl | rfl | rfl | rfl | rfl | rfl | rfl | rfl <;> first | rfl | (show Value.ref _ = Value.ref (adW ZZ _); simp only [d52, d53, d54, d55, d56, d59, d60, d61, d62, d63, d64, d65, d66, d67, d68, d69, d70, d71, d72, d73, d74, d76, d77, d78, d79, d80, d81, d82, d83, d84])) h9) h
  have t52 : ∀ e, kC cy (adW ZZ) 0 0 g0 52 = some e → kAt D (adW ZZ 52) e H := fun e h => st_I (L := 24) rfl (by rw [d52, g0_row (by decide)]; exact h52) h
  have t53 : ∀ e, kC cy (adW ZZ) 0 0 g0 53 = some e → kAt D (adW ZZ 53) e H := fun e h => st_I (L := 8) rfl (by rw [d53, g0_row (by decide)]; exact h53) h
  have t54 : ∀ e, kC cy (adW ZZ) 0 0 g0 54 = some e → kAt D (adW ZZ 54) e H := fun e h => st_I (L := 8) rfl (by rw [d54, g0_54]; exact h54) h
  have t55 : ∀ e, kC cy (adW ZZ) 0 0 g0 55 = some e → kAt D (adW ZZ 55) e H := fun e h => st_I (L := 8) rfl (by rw [d55, g0_row (by decide)]; exact h55) h
  have t56 : ∀ e, kC cy (adW ZZ) 0 0 g0 56 = some e → kAt D (adW ZZ 56) e H := fun e h => st_I (L := 4) rfl (by rw [d56, g0_row (by decide)]; exact h56) h
  have t59 : ∀ e, kC cy (adW ZZ) 0 0 g0 59 = some e → kAt D (adW ZZ 59) e H := fun e h => st_I (L := 30) rfl (by rw [d59, g0_row (by decide)]; exact h59) h
  have t60 : ∀ e, kC cy (adW ZZ) 0 0 g0 60 = some e → kAt D (adW ZZ 60) e H := fun e h => st_I (L := 30) rfl (by rw [d60, g0_row (by decide)]; exact h60) h
  have t61 : ∀ e, kC cy (adW ZZ) 0 0 g0 61 = some e → kAt D (adW ZZ 61) e H := fun e h => st_I (L := 30) rfl (by rw [d61, g0_row (by decide)]; exact h61) h
  have t62 : ∀ e, kC cy (adW ZZ) 0 0 g0 62 = some e → kAt D (adW ZZ 62) e H := fun e h => st_I (L := 30) rfl (by rw [d62, g0_row (by decide)]; exact h62) h
  have t63 : ∀ e, kC cy (adW ZZ) 0 0 g0 63 = some e → kAt D (adW ZZ 63) e H := fun e h => st_I (L := 30) rfl (by rw [d63, g0_row (by decide)]; exact h63) h
  have t64 : ∀ e, kC cy (adW ZZ) 0 0 g0 64 = some e → kAt D (adW ZZ 64) e H := fun e h => st_I (L := 30) rfl (by rw [d64, g0_row (by decide)]; exact h64) h
  have t65 : ∀ e, kC cy (adW ZZ) 0 0 g0 65 = some e → kAt D (adW ZZ 65) e H := fun e h => st_I (L := 30) rfl (by rw [d65, g0_row (by decide)]; exact h65) h
  have t66 : ∀ e, kC cy (adW ZZ) 0 0 g0 66 = some e → kAt D (adW ZZ 66) e H := fun e h => st_I (L := 30) rfl (by rw [d66, g0_row (by decide)]; exact h66) h
  have t67 : ∀ e, kC cy (adW ZZ) 0 0 g0 67 = some e → kAt D (adW ZZ 67) e H := fun e h => st_I (L := 30) rfl (by rw [d67, g0_row (by decide)]; exact h67) h
  have t68 : ∀ e, kC cy (adW ZZ) 0 0 g0 68 = some e → kAt D (adW ZZ 68) e H := fun e h => st_I (L := 30) rfl (by rw [d68, g0_row (by decide)]; exact h68) h
  have t69 : ∀ e, kC cy (adW ZZ) 0 0 g0 69 = some e → kAt D (adW ZZ 69) e H := fun e h => st_E kC_69 (by rw [g0_row (by decide), d69]; exact h69) h
  have t70 : ∀ e, kC cy (adW ZZ) 0 0 g0 70 = some e → kAt D (adW ZZ 70) e H := fun e h => st_I (L := 30) rfl (by rw [d70, g0_row (by decide)]; exact h70) h
  have t71 : ∀ e, kC cy (adW ZZ) 0 0 g0 71 = some e → kAt D (adW ZZ 71) e H := fun e h => st_I (L := 30) rfl (by rw [d71, g0_row (by decide)]; exact h71) h
  have t72 : ∀ e, kC cy (adW ZZ) 0 0 g0 72 = some e → kAt D (adW ZZ 72) e H := fun e h => st_I (L := 30) rfl (by rw [d72, g0_row (by decide)]; exact h72) h
  have t73 : ∀ e, kC cy (adW ZZ) 0 0 g0 73 = some e → kAt D (adW ZZ 73) e H := fun e h => st_I (L := 360) rfl (by rw [d73, g0_row (by decide)]; exact h73) h
  have t74 : ∀ e, kC cy (adW ZZ) 0 0 g0 74 = some e → kAt D (adW ZZ 74) e H := fun e h => st_I (L := 360) rfl (by rw [d74, g0_row (by decide)]; exact h74) h
  have t76 : ∀ e, kC cy (adW ZZ) 0 0 g0 76 = some e → kAt D (adW ZZ 76) e H := fun e h => st_I (L := 20) rfl (by rw [d76, g0_row (by decide)]; exact h76) h
  have t77 : ∀ e, kC cy (adW ZZ) 0 0 g0 77 = some e → kAt D (adW ZZ 77) e H := fun e h => st_I (L := 20) rfl (by rw [d77, g0_row (by decide)]; exact h77) h
  have t78 : ∀ e, kC cy (adW ZZ) 0 0 g0 78 = some e → kAt D (adW ZZ 78) e H := fun e h => st_I (L := 20) rfl (by rw [d78, g0_row (by decide)]; exact h78) h
  have t79 : ∀ e, kC cy (adW ZZ) 0 0 g0 79 = some e → kAt D (adW ZZ 79) e H := fun e h => st_I (L := 20) rfl (by rw [d79, g0_row (by decide)]; exact h79) h
  have t80 : ∀ e, kC cy (adW ZZ) 0 0 g0 80 = some e → kAt D (adW ZZ 80) e H := fun e h => st_I (L := 20) rfl (by rw [d80, g0_row (by decide)]; exact h80) h
  have t81 : ∀ e, kC cy (adW ZZ) 0 0 g0 81 = some e → kAt D (adW ZZ 81) e H := fun e h => st_I (L := 20) rfl (by rw [d81, g0_row (by decide)]; exact h81) h
  have t82 : ∀ e, kC cy (adW ZZ) 0 0 g0 82 = some e → kAt D (adW ZZ 82) e H := fun e h => st_I (L := 20) rfl (by rw [d82, g0_row (by decide)]; exact h82) h
  have t83 : ∀ e, kC cy (adW ZZ) 0 0 g0 83 = some e → kAt D (adW ZZ 83) e H := fun e h => st_I (L := 20) rfl (by rw [d83, g0_row (by decide)]; exact h83) h
  have t84 : ∀ e, kC cy (adW ZZ) 0 0 g0 84 = some e → kAt D (adW ZZ 84) e H := fun e h => st_I (L := 20) rfl (by rw [d84, g0_row (by decide)]; exact h84) h
  have t40 : ∀ e, kC cy (adW ZZ) 0 0 g0 40 = some e → kAt D (adW ZZ 40) e H := fun e h => st_E kC_40 (by rw [g0_long, d40]; exact h40) h
  unfold kKeys
  exact List.forall_mem_cons.mpr ⟨t0, List.forall_mem_cons.mpr ⟨t1, List.forall_mem_cons.mpr ⟨t2, List.forall_mem_cons.mpr ⟨t3, List.forall_mem_cons.mpr ⟨t4, List.forall_mem_cons.mpr ⟨t5, List.forall_mem_cons.mpr ⟨t6, List.forall_mem_cons.mpr ⟨t7, List.forall_mem_cons.mpr ⟨t8, List.forall_mem_cons.mpr ⟨t9, List.forall_mem_cons.mpr ⟨t52, List.forall_mem_cons.mpr ⟨t53, List.forall_mem_cons.mpr ⟨t54, List.forall_mem_cons.mpr ⟨t55, List.forall_mem_cons.mpr ⟨t56, List.forall_mem_cons.mpr ⟨t59, List.forall_mem_cons.mpr ⟨t60, List.forall_mem_cons.mpr ⟨t61, List.forall_mem_cons.mpr ⟨t62, List.forall_mem_cons.mpr ⟨t63, List.forall_mem_cons.mpr ⟨t64, List.forall_mem_cons.mpr ⟨t65, List.forall_mem_cons.mpr ⟨t66, List.forall_mem_cons.mpr ⟨t67, List.forall_mem_cons.mpr ⟨t68, List.forall_mem_cons.mpr ⟨t69, List.forall_mem_cons.mpr ⟨t70, List.forall_mem_cons.mpr ⟨t71, List.forall_mem_cons.mpr ⟨t72, List.forall_mem_cons.mpr ⟨t73, List.forall_mem_cons.mpr ⟨t74, List.forall_mem_cons.mpr ⟨t76, List.forall_mem_cons.mpr ⟨t77, List.forall_mem_cons.mpr ⟨t78, List.forall_mem_cons.mpr ⟨t79, List.forall_mem_cons.mpr ⟨t80, List.forall_mem_cons.mpr ⟨t81, List.forall_mem_cons.mpr ⟨t82, List.forall_mem_cons.mpr ⟨t83, List.forall_mem_cons.mpr ⟨t84, List.forall_mem_cons.mpr ⟨t40, fun _ h => absurd h List.not_mem_nil⟩⟩⟩⟩⟩⟩⟩⟩⟩⟩⟩⟩⟩⟩⟩⟩⟩⟩⟩⟩⟩⟩⟩⟩⟩⟩⟩⟩⟩⟩⟩⟩⟩⟩⟩⟩⟩⟩⟩⟩⟩
theorem st_kW {D : va_G} {cy : Nat → ClassId} {base : Nat} {a0 a1 a2 a3 a4 a5 a6 a7 a8 a9 a10 a11 a12 a13 a14 a15 a16 a17 a18 a19 a20 a21 a22 a23 a24 a25 a26 a27 a28 a29 a30 a31 a32 a33 a34 a35 a36 a37 a38 a39 a40 : Nat} {H : Heap} (hP : va_P D vwCl (stW cy a0 a1 a2 a3 a4 a5 a6 a7 a8 a9 a10 a11 a12 a13 a14 a15 a16 a17 a18 a19 a20 a21 a22 a23 a24 a25 a26 a27 a28 a29 a30 a31 a32 a33 a34 a35 a36 a37 a38 a39 a40) H) (hD : va_D (kA base) (stW cy a0 a1 a2 a3 a4 a5 a6 a7 a8 a9 a10 a11 a12 a13 a14 a15 a16 a17 a18 a19 a20 a21 a22 a23 a24 a25 a26 a27 a28 a29 a30 a31 a32 a33 a34 a35 a36 a37 a38 a39 a40)) : kW D cy base (adW (stW cy a0 a1 a2 a3 a4 a5 a6 a7 a8 a9 a10 a11 a12 a13 a14 a15 a16 a17 a18 a19 a20 a21 a22 a23 a24 a25 a26 a27 a28 a29 a30 a31 a32 a33 a34 a35 a36 a37 a38 a39 a40)) 0 0 g0 H := by
  have hat := st_at hP
  have hlen : (stW cy a0 a1 a2 a3 a4 a5 a6 a7 a8 a9 a10 a11 a12 a13 a14 a15 a16 a17 a18 a19 a20 a21 a22 a23 a24 a25 a26 a27 a28 a29 a30 a31 a32 a33 a34 a35 a36 a37 a38 a39 a40).length = 41 := rfl
  generalize stW cy a0 a1 a2 a3 a4 a5 a6 a7 a8 a9 a10 a11 a12 a13 a14 a15 a16 a17 a18 a19 a20 a21 a22 a23 a24 a25 a26 a27 a28 a29 a30 a31 a32 a33 a34 a35 a36 a37 a38 a39 a40 = ZZ at hD hat hlen ⊢
  refine ⟨fun k e h => ⟨hat k (kKeys_of h) e h, ?_⟩, fun j k ej ek hj hk hjk => ?_, by omega, by omega⟩
  · obtain ⟨q, h1, h2⟩ := adW_of hlen (kKeys_of h)
    rw [← h2]
    exact hD.2 _ q h1
  · obtain ⟨p, h1, h2⟩ := adW_of hlen (kKeys_of hj)
    obtain ⟨q, h3, h4⟩ := adW_of hlen (kKeys_of hk)
    exact kIx_inj j (kKeys_of hj) k (kKeys_of hk) (hD.1 _ _ p q h1 h3 (h2.trans (hjk.trans h4.symm)))
theorem st_rel : kRl 0 0 g0 g0 := by
  have z (k : Nat) (h : k ≠ 0 ∧ k ≠ 9 ∧ k ≠ 4 ∧ k ≠ 54) (j : Nat) : g0 k j = 0 := by rw [g0_row h]
  have b0 : ∀ k, bt 0 k = false := fun k => by unfold bt; simp
  refine ⟨⟨by omega, by omega, by decide, by decide, by decide, by decide, fun j => (z 6 (by decide) j).trans (if_neg (by omega)).symm, fun j => (z 7 (by decide) j).trans (if_neg (by omega)).symm⟩, ⟨(g0_row (by decide)).trans (g0_row (by decide)).symm, (g0_row (by decide)).trans (g0_row (by decide)).symm, (g0_row (by decide)).trans (g0_row (by decide)).symm, rfl, (g0_row (by decide)).trans (g0_row (by decide)).symm, rfl, rfl, rfl, rfl, rfl⟩, ⟨?_, by decide, ?_, ?_⟩, ?_, ?_, ?_, ?_, ?_, ?_, ?_⟩
  · exact vp_in_nI (n := 0) (N := 10000) (by omega) (by omega)
  · intro a b _ _
    rw [z 52 (by decide), z 52 (by decide), b0, b0]
  · intro t _ k _
    rw [z 56 (by decide), b0]
  · intro i hi; omega
  · intro i hi; omega
  · intro i hi; omega
  · intro i hi; omega
  · intro i hi; omega
  · intro i hi; omega
  · exact ⟨fun i _ => ⟨z 72 (by decide) i, z 69 (by decide) i, z 70 (by decide) i, z 71 (by decide) i, z 65 (by decide) i⟩, fun j _ => z 83 (by decide) j⟩
