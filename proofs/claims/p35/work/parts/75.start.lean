/-! The world at the loop's head: two new objects (laid by wip/p35/mk_start.py). -/
def g0 : sg := fun k j => if k = 0 then (if j = 11 then 50 else 0) else if k = 4 then (if j < 8 then 60 else 0) else 0
theorem kKeys_of {cy : Nat → ClassId} {ad : Nat → Nat} {g : sg} {k : Nat} {e : kE} (h : kC cy ad 0 0 g k = some e) : k < 9 := by
  apply Classical.byContradiction
  intro hk
  unfold kC at h
  by_cases h1 : k < 100
  · rw [if_pos h1, if_neg (by omega), if_neg (by omega), if_neg (by omega)] at h
    unfold kLen at h
    rw [if_neg (by omega), if_neg (by omega), if_neg (by omega), if_neg (by omega), if_neg (by omega), if_neg (by omega)] at h
    cases h
  · rw [if_neg h1] at h
    by_cases h2 : k < 200
    · rw [if_pos h2, if_neg (by omega)] at h
      cases h
    · rw [if_neg h2, if_neg (by omega)] at h
      cases h
def adW (ws : va_W) : Nat → Nat := fun k => match ws[k]? with | some q => q.1 | none => 0
theorem adW_of {ws : va_W} {N k : Nat} (hw : ws.length = N) (hk : k < N) : ∃ q, ws[k]? = some q ∧ q.1 = adW ws k := by
  refine ⟨ws[k]'(by omega), List.getElem?_eq_getElem (by omega), ?_⟩
  unfold adW
  rw [List.getElem?_eq_getElem (by omega)]
theorem st_I {D : va_G} {cy : Nat → ClassId} {ad : Nat → Nat} {g : sg} {k L : Nat} {e : kE} {H : Heap} (hk : kLen k = some L) (ha : H[ad k]? = some (vp_cell (cy 0) (L, .inl (g k)))) (h : kC cy ad 0 0 g k = some e) : kAt D (ad k) e H := by
  have he := Option.some.inj ((kC_I hk).symm.trans h)
  subst he
  exact ha
theorem st_E {D : va_G} {a : Nat} {e e' : kE} {o : Option kE} {H : Heap} (h1 : o = some e') (ha : kAt D a e' H) (h : o = some e) : kAt D a e H := by
  have he := Option.some.inj (h1.symm.trans h)
  subst he
  exact ha
theorem st_O {D : va_G} {a ci N : Nat} {C : String} {T : u_T} {fs : List Value} {V : Nat → Value} {H : Heap} (hc : vwCl[ci]? = some (C, T, N)) (hV : ∀ j, j < N → vp_V fs j = V j) (h : va_at D vwCl (a, .inr (ci, fs)) H) : kAt D a (.inr (ci, V)) H := by
  obtain ⟨r, h1, h2⟩ := h
  have hr : r = (C, T, N) := Option.some.inj (h1.symm.trans hc)
  subst hr
  exact ⟨_, hc, h2.to hV⟩
def w9 (a0 a1 a2 a3 a4 a5 a6 a7 a8 : Nat) (c1 c2 c3 c4 c5 c6 c7 c8 : ClassId) : va_W := [(a0, .inr (2, [.ref a1, .ref a2, .ref a3, .ref a4, .ref a5, .ref a6, .ref a7, .ref a8, .int (0 : Int32), .int (0 : Int32), .int (0 : Int32), .int (50 : Int32), .int (0 : Int32), .int (0 : Int32), .int (0 : Int32)])), (a1, .inl (c1, 24, .inl (fun _ => 0))), (a2, .inl (c2, 8, .inl (fun _ => 0))), (a3, .inl (c3, 4, .inl (fun _ => 0))), (a4, .inl (c4, 8, .inl (fun j => if j < 8 then 60 else 0))), (a5, .inl (c5, 8, .inl (fun _ => 0))), (a6, .inl (c6, 30, .inr (.inr (.inr (.inr (fun _ => none)))))), (a7, .inl (c7, 20, .inr (.inr (.inr (.inr (fun _ => none)))))), (a8, .inl (c8, 30, .inl (fun _ => 0)))]
def t8 (c1 c2 c3 c4 c5 c6 c7 c8 : ClassId) : List (ClassId × FieldType) := [(c1, .int), (c2, .int), (c3, .int), (c4, .int), (c5, .int), (c6, .object RX1), (c7, .object RX0), (c8, .int)]
def stW (cy : Nat → ClassId) (a0 a1 a2 a3 a4 a5 a6 a7 a8 : Nat) : va_W := w9 a0 a1 a2 a3 a4 a5 a6 a7 a8 (cy 0) (cy 0) (cy 0) (cy 0) (cy 0) (cy 1) (cy 2) (cy 0)
theorem g0_fin {cy3 : ClassId} {ad : Nat → Nat} : kRefs cy3 30 (fun j => if g0 6 j = 1 then some (ad (100 + 3 * j)) else none) = kRefs cy3 30 (fun _ => none) := by
  have h : (fun j => if g0 6 j = 1 then some (ad (100 + 3 * j)) else none) = fun _ : Nat => (none : Option Nat) := funext fun j => if_neg (show ¬ (0 : Int32) = 1 by decide)
  rw [h]
theorem g0_cla {cy3 : ClassId} {ad : Nat → Nat} : kRefs cy3 20 (fun j => if g0 7 j = 1 then some (ad (200 + j)) else none) = kRefs cy3 20 (fun _ => none) := by
  have h : (fun j => if g0 7 j = 1 then some (ad (200 + j)) else none) = fun _ : Nat => (none : Option Nat) := funext fun j => if_neg (show ¬ (0 : Int32) = 1 by decide)
  rw [h]
theorem g0_row {k : Nat} (h : k ≠ 0 ∧ k ≠ 4) : g0 k = fun _ => 0 := by
  funext j
  unfold g0
  rw [if_neg h.1, if_neg h.2]
theorem g0_4 : g0 4 = fun j => if j < 8 then 60 else 0 := rfl
set_option maxHeartbeats 4000000 in
set_option maxRecDepth 100000 in
theorem st_at {D : va_G} {cy : Nat → ClassId} {a0 a1 a2 a3 a4 a5 a6 a7 a8 : Nat} {H : Heap} (hP : va_P D vwCl (stW cy a0 a1 a2 a3 a4 a5 a6 a7 a8) H) : ∀ k, k < 9 → ∀ e, kC cy (adW (stW cy a0 a1 a2 a3 a4 a5 a6 a7 a8)) 0 0 g0 k = some e → kAt D (adW (stW cy a0 a1 a2 a3 a4 a5 a6 a7 a8) k) e H := by
  have h0 := hP 0 _ rfl
  have h1 := hP 1 _ rfl
  have h2 := hP 2 _ rfl
  have h3 := hP 3 _ rfl
  have h4 := hP 4 _ rfl
  have h5 := hP 5 _ rfl
  have h6 := hP 6 _ rfl
  have h7 := hP 7 _ rfl
  have h8 := hP 8 _ rfl
  generalize hZ : stW cy a0 a1 a2 a3 a4 a5 a6 a7 a8 = ZZ at hP ⊢
  have d0 : adW ZZ 0 = a0 := by rw [← hZ]; rfl
  have d1 : adW ZZ 1 = a1 := by rw [← hZ]; rfl
  have d2 : adW ZZ 2 = a2 := by rw [← hZ]; rfl
  have d3 : adW ZZ 3 = a3 := by rw [← hZ]; rfl
  have d4 : adW ZZ 4 = a4 := by rw [← hZ]; rfl
  have d5 : adW ZZ 5 = a5 := by rw [← hZ]; rfl
  have d6 : adW ZZ 6 = a6 := by rw [← hZ]; rfl
  have d7 : adW ZZ 7 = a7 := by rw [← hZ]; rfl
  have d8 : adW ZZ 8 = a8 := by rw [← hZ]; rfl
  clear hP hZ
  have u0 : ∀ e, kC cy (adW ZZ) 0 0 g0 0 = some e → kAt D (adW ZZ 0) e H := fun e h => st_E kC_0 (by rw [d0]; exact st_O (ci := 2) rfl (fun j hj => by rcases (show j = 0 ∨ j = 1 ∨ j = 2 ∨ j = 3 ∨ j = 4 ∨ j = 5 ∨ j = 6 ∨ j = 7 ∨ j = 8 ∨ j = 9 ∨ j = 10 ∨ j = 11 ∨ j = 12 ∨ j = 13 ∨ j = 14 by omega) with rfl | rfl | rfl | rfl | rfl | rfl | rfl | rfl | rfl | rfl | rfl | rfl | rfl | rfl | rfl <;> first | rfl | (unfold fL; simp only [d1, d2, d3, d4, d5, d6, d7, d8]; rfl)) h0) h
  have u1 : ∀ e, kC cy (adW ZZ) 0 0 g0 1 = some e → kAt D (adW ZZ 1) e H := fun e h => st_I (L := 24) rfl (by rw [d1, g0_row (by decide)]; exact h1) h
  have u2 : ∀ e, kC cy (adW ZZ) 0 0 g0 2 = some e → kAt D (adW ZZ 2) e H := fun e h => st_I (L := 8) rfl (by rw [d2, g0_row (by decide)]; exact h2) h
  have u3 : ∀ e, kC cy (adW ZZ) 0 0 g0 3 = some e → kAt D (adW ZZ 3) e H := fun e h => st_I (L := 4) rfl (by rw [d3, g0_row (by decide)]; exact h3) h
  have u4 : ∀ e, kC cy (adW ZZ) 0 0 g0 4 = some e → kAt D (adW ZZ 4) e H := fun e h => st_I (L := 8) rfl (by rw [d4, g0_4]; exact h4) h
  have u5 : ∀ e, kC cy (adW ZZ) 0 0 g0 5 = some e → kAt D (adW ZZ 5) e H := fun e h => st_I (L := 8) rfl (by rw [d5, g0_row (by decide)]; exact h5) h
  have u6 : ∀ e, kC cy (adW ZZ) 0 0 g0 6 = some e → kAt D (adW ZZ 6) e H := fun e h => st_E kC_6 (by rw [g0_fin, d6]; exact h6) h
  have u7 : ∀ e, kC cy (adW ZZ) 0 0 g0 7 = some e → kAt D (adW ZZ 7) e H := fun e h => st_E kC_7 (by rw [g0_cla, d7]; exact h7) h
  have u8 : ∀ e, kC cy (adW ZZ) 0 0 g0 8 = some e → kAt D (adW ZZ 8) e H := fun e h => st_I (L := 30) rfl (by rw [d8, g0_row (by decide)]; exact h8) h
  intro k hk
  rcases (show k = 0 ∨ k = 1 ∨ k = 2 ∨ k = 3 ∨ k = 4 ∨ k = 5 ∨ k = 6 ∨ k = 7 ∨ k = 8 by omega) with rfl | rfl | rfl | rfl | rfl | rfl | rfl | rfl | rfl
  · exact u0
  · exact u1
  · exact u2
  · exact u3
  · exact u4
  · exact u5
  · exact u6
  · exact u7
  · exact u8
theorem st_kW {D : va_G} {cy : Nat → ClassId} {base : Nat → Prop} {a0 a1 a2 a3 a4 a5 a6 a7 a8 : Nat} {H : Heap} (hP : va_P D vwCl (stW cy a0 a1 a2 a3 a4 a5 a6 a7 a8) H) (hD : va_D (kA base) (stW cy a0 a1 a2 a3 a4 a5 a6 a7 a8)) : kW D cy base (adW (stW cy a0 a1 a2 a3 a4 a5 a6 a7 a8)) 0 0 g0 H := by
  have hat := st_at hP
  have hlen : (stW cy a0 a1 a2 a3 a4 a5 a6 a7 a8).length = 9 := rfl
  generalize stW cy a0 a1 a2 a3 a4 a5 a6 a7 a8 = ZZ at hD hat hlen ⊢
  refine ⟨fun k e h => ⟨hat k (kKeys_of h) e h, ?_⟩, fun j k ej ek hj hk hjk => ?_, by omega, by omega⟩
  · obtain ⟨q, h1, h2⟩ := adW_of hlen (kKeys_of h)
    rw [← h2]
    exact hD.2 _ q h1
  · obtain ⟨p, h1, h2⟩ := adW_of hlen (kKeys_of hj)
    obtain ⟨q, h3, h4⟩ := adW_of hlen (kKeys_of hk)
    exact hD.1 _ _ p q h1 h3 (h2.trans (hjk.trans h4.symm))
theorem st_D2 {cy : Nat → ClassId} {A : Nat → Prop} {X Y : va_W} (hX : X.length = 9) (hY : Y.length = 9) (hD : va_D A (X ++ Y)) : kD2 cy (adW X, 0, 0, g0) (adW Y, 0, 0, g0) := by
  intro j k ej ek hj hk q
  obtain ⟨x, h1, h2⟩ := adW_of hX (kKeys_of hj)
  obtain ⟨y, h3, h4⟩ := adW_of hY (kKeys_of hk)
  have hj9 := kKeys_of hj
  have e1 : (X ++ Y)[j]? = some x := by rw [List.getElem?_append_left (by omega)]; exact h1
  have e2 : (X ++ Y)[9 + k]? = some y := by rw [List.getElem?_append_right (by omega), hX, show 9 + k - 9 = k by omega]; exact h3
  have := hD.1 _ _ x y e1 e2 (h2.trans (q.trans h4.symm))
  omega
theorem kG.rF {D : va_G} {cy : Nat → ClassId} {base : Nat → Prop} {s : State} {tys : List (ClassId × FieldType)} {k : Nat} {cA : ClassId} (hG : kG D cy base s) (h : va_K D vwCl tys s) (hk : tys[k]? = some (cA, .object RX1)) : cA = cy 1 := by
  obtain ⟨_, _, -, -, -, h1⟩ := (h.2 k _ hk).2
  obtain ⟨_, _, -, -, -, h2⟩ := (hG.1.2 1 (cy 1, .object "Lostroom$Found") rfl).2
  exact Option.some.inj (h1.symm.trans h2)
theorem kG.rC {D : va_G} {cy : Nat → ClassId} {base : Nat → Prop} {s : State} {tys : List (ClassId × FieldType)} {k : Nat} {cA : ClassId} (hG : kG D cy base s) (h : va_K D vwCl tys s) (hk : tys[k]? = some (cA, .object RX0)) : cA = cy 2 := by
  obtain ⟨_, _, -, -, -, h1⟩ := (h.2 k _ hk).2
  obtain ⟨_, _, -, -, -, h2⟩ := (hG.1.2 2 (cy 2, .object "Lostroom$Claim") rfl).2
  exact Option.some.inj (h1.symm.trans h2)
theorem st_inv : Inv 0 0 g0 := by
  have z (k : Nat) (h : k ≠ 0 ∧ k ≠ 4) (j : Nat) : g0 k j = 0 := by rw [g0_row h]
  refine ⟨⟨by omega, by omega, by decide, by decide, fun j => (z 6 (by decide) j).trans (if_neg (by omega)).symm, fun j => (z 7 (by decide) j).trans (if_neg (by omega)).symm, ?_, ?_, ?_, ?_, ?_, ?_⟩, fun i hi => by omega, fun j hj => by omega, rfl, 0, 0, 0, by decide, by decide, by decide, by omega, by omega, rfl⟩
  · intro a b _ _
    rw [z 1 (by decide), z 1 (by decide), b_0, b_0]
  · intro t _ k _
    rw [z 3 (by decide), b_0]
  · intro k hk
    rw [g0_4]
    show vp_in (if k < 8 then 60 else 0) 401
    rw [if_pos hk]
    exact vp_in_nI (n := 60) (N := 401) (by omega) (by omega)
  · intro k _
    rw [z 5 (by decide)]
    exact vp_in_nI (n := 0) (N := 51) (by omega) (by omega)
  · exact vp_in_nI (n := 0) (N := 10000) (by omega) (by omega)
  · exact vp_in_nI (n := 50) (N := 201) (by omega) (by omega)
set_option maxHeartbeats 8000000 in
set_option maxRecDepth 100000 in
theorem start1 {p : Program} {l : Launch} {e : Env} {s : State} {m : MethodId} {below : List Frame} {meth : Method} {c : Code} {Q : State → Prop} {D : va_G} {b : Addr} (hF : CallFix p m c cL_law 7 s #[Value.ref b] wsL_law RL) (htX : ∀ w ∈ wsX20, w.before #[Value.ref b] s = true) (hw1 : (Cond.classLink RL 15 RX2).before #[Value.ref b] s = true) (hw2 : (Cond.instantiable RX2 15).before #[Value.ref b] s = true) (hw3 : (Cond.initialized RX2).before #[Value.ref b] s = true) (hw4 : (Cond.methodLink RL 148 yX2_init).before #[Value.ref b] s = true) (hw5 : (Cond.instanceMethod yX2_init).before #[Value.ref b] s = true) (hao : va_AO RX1 s ∧ va_AO RX0 s) (hK : va_K D vwCl [] s) {ls : Array Slot} (hl : lv_has ls 7 [(0, .ref b)]) (kk : ∀ (H : Heap) (locs : List Loc) (ls : Array Slot) (a0 a1 a2 a3 a4 a5 a6 a7 a8 : Nat) (c1 c2 c3 c4 c5 c6 c7 c8 : ClassId), va_P D vwCl (w9 a0 a1 a2 a3 a4 a5 a6 a7 a8 c1 c2 c3 c4 c5 c6 c7 c8) H → va_D (kA (fun q => s.heap.size ≤ q)) (w9 a0 a1 a2 a3 a4 a5 a6 a7 a8 c1 c2 c3 c4 c5 c6 c7 c8) → va_K D vwCl (t8 c1 c2 c3 c4 c5 c6 c7 c8) s → va_S (kA (fun q => s.heap.size ≤ q)) s.heap H locs → lv_has ls 7 [(1, .ref a0), (0, .ref b)] → W p l e room_1 s m #[Value.ref b] below meth c H locs 9 147 Q (F0 m 8 ls [])) : W p l e room_1 s m #[Value.ref b] below meth c s.heap [] 0 0 Q (F0 m 0 ls []) := by
  have hx := hF.1
  have hb := hF.2.1
  have hown := hF.2.2.2.1
  have hts := hF.2.2.2.2
  have hA : ∀ q : Nat, s.heap.size ≤ q → (kA (fun q => s.heap.size ≤ q)) q := fun _ h => h
  have hS : va_S (kA (fun q => s.heap.size ≤ q)) s.heap s.heap [] := va_S.rf
  have hP : va_P D vwCl [] s.heap := fun k q h => by simp at h
  have hD : va_D (kA (fun q => s.heap.size ≤ q)) [] := ⟨fun i j p q h => by simp at h, fun k q h => by simp at h⟩
  refine va_new (own := RL) (ci := 2) (fs := [.null, .null, .null, .null, .null, .null, .null, .null, .int 0, .int 0, .int 0, .int 0, .int 0, .int 0, .int 0]) (C := RX2) (T := TX2) (N := 15) hx hb htX (fun _ h => h) tyX2 tyX2_ok hown hw1 hw2 hw3 hK hP hD hS hA rfl (fun j hj => by rcases (show j = 0 ∨ j = 1 ∨ j = 2 ∨ j = 3 ∨ j = 4 ∨ j = 5 ∨ j = 6 ∨ j = 7 ∨ j = 8 ∨ j = 9 ∨ j = 10 ∨ j = 11 ∨ j = 12 ∨ j = 13 ∨ j = 14 by omega) with rfl | rfl | rfl | rfl | rfl | rfl | rfl | rfl | rfl | rfl | rfl | rfl | rfl | rfl | rfl <;> rfl) (Nat.le_of_ble_eq_true rfl) (Nat.le_of_ble_eq_true rfl) dL_law_0 (fun a0 H hP hD hS => ?_)
  have hP : va_P D vwCl [(a0, .inr (2, [.null, .null, .null, .null, .null, .null, .null, .null, .int 0, .int 0, .int 0, .int 0, .int 0, .int 0, .int 0]))] H := hP
  have hD : va_D (kA (fun q => s.heap.size ≤ q)) [(a0, .inr (2, [.null, .null, .null, .null, .null, .null, .null, .null, .int 0, .int 0, .int 0, .int 0, .int 0, .int 0, .int 0]))] := hD
  refine lv_dup hx hb dL_law_3 rfl ?_
  have hKc := hK
  have hFc := va_free (wc := [(a0, .inr (2, [.null, .null, .null, .null, .null, .null, .null, .null, .int 0, .int 0, .int 0, .int 0, .int 0, .int 0, .int 0]))]) hD hS hA [0] rfl
  refine va_callv (va_runI (As := []) (rest := [.ref a0]) hF (c_X2_init l D a0 H.size) (cwI 0 hts gL_law_X2_init rfl rfl rfl hw3 hw4 hw5 rfl (by decide +kernel) ⟨Nat.le_of_ble_eq_true rfl, Nat.le_of_ble_eq_true rfl⟩) ⟨fun a U g mk q => by obtain ⟨q0, q1, qP, qK, qD, qA, qB⟩ := q; exact ⟨q0, q1, qP, va_K.moved (u := U) (U := U.calling g mk a) (Vm.Alike.refl U.vm) qK, qD, va_AO.moved (u := U) (U := U.calling g mk a) (Vm.Alike.refl U.vm) qA, va_AO.moved (u := U) (U := U.calling g mk a) (Vm.Alike.refl U.vm) qB⟩, fun U hU hW => ⟨rfl, by rw [hU], by rw [hU]; exact hP, va_K.moved hW.alike hKc, va_D1 _ _, va_AO.moved hW.alike hao.1, va_AO.moved hW.alike hao.2⟩⟩ rfl rfl hl.1 rfl (lv_room (Nat.le_of_ble_eq_true rfl)) dL_law_4 ⟨Nat.le_of_ble_eq_true rfl, Nat.le_of_ble_eq_true rfl⟩) hS (fun q _ h => hFc q h) hFc (fun u t H1 locs ht hvm hw hB hz1 hk1 hS => ?_)
  clear hw hz1
  obtain ⟨a1, c1, a2, c2, a3, c3, a4, c4, a5, c5, a6, c6, a7, c7, a8, c8, hP1, hK1, hD1⟩ := hB
  rw [ht] at hP1
  have hK1 : va_K D vwCl (t8 c1 c2 c3 c4 c5 c6 c7 c8) s := va_K.moved hvm.symm hK1
  have hP1 : va_P D vwCl (w9 a0 a1 a2 a3 a4 a5 a6 a7 a8 c1 c2 c3 c4 c5 c6 c7 c8) H1 := hP1
  have hD1 : va_D _ (w9 a0 a1 a2 a3 a4 a5 a6 a7 a8 c1 c2 c3 c4 c5 c6 c7 c8) := hD1
  obtain ⟨hP, hD⟩ := va_join (wr := []) hP hD [0] [] rfl rfl (by decide) (by decide) hk1 hFc hP1 hD1
  refine lv_astore_n (lv' := [(1, .ref a0), (0, .ref b)]) hx hb dL_law_7 rfl hl (by decide) rfl (fun ls hl => ?_)
  exact W.widen (Nat.le_of_ble_eq_true rfl) (Nat.le_of_ble_eq_true rfl) (kk H1 locs ls a0 a1 a2 a3 a4 a5 a6 a7 a8 c1 c2 c3 c4 c5 c6 c7 c8 hP hD hK1 hS hl)
set_option maxHeartbeats 8000000 in
set_option maxRecDepth 100000 in
theorem start2 {p : Program} {l : Launch} {e : Env} {s : State} {m : MethodId} {below : List Frame} {meth : Method} {c : Code} {Q : State → Prop} {D : va_G} {b : Addr} (hF : CallFix p m c cL_law 7 s #[Value.ref b] wsL_law RL) (htX : ∀ w ∈ wsX20, w.before #[Value.ref b] s = true) (hw1 : (Cond.classLink RL 15 RX2).before #[Value.ref b] s = true) (hw2 : (Cond.instantiable RX2 15).before #[Value.ref b] s = true) (hw3 : (Cond.initialized RX2).before #[Value.ref b] s = true) (hw4 : (Cond.methodLink RL 148 yX2_init).before #[Value.ref b] s = true) (hw5 : (Cond.instanceMethod yX2_init).before #[Value.ref b] s = true) (hao : va_AO RX1 s ∧ va_AO RX0 s) {tys : List (ClassId × FieldType)} {x0 x1 x2 x3 x4 x5 x6 x7 x8 : Nat × va_E} {H : Heap} {locs : List Loc} {ls : Array Slot} {z0 : Nat} (hP : va_P D vwCl [x0, x1, x2, x3, x4, x5, x6, x7, x8] H) (hD : va_D (kA (fun q => s.heap.size ≤ q)) [x0, x1, x2, x3, x4, x5, x6, x7, x8]) (hK : va_K D vwCl tys s) (hS : va_S (kA (fun q => s.heap.size ≤ q)) s.heap H locs) (hl : lv_has ls 7 [(1, .ref z0), (0, .ref b)]) (kk : ∀ (H : Heap) (locs : List Loc) (ls : Array Slot) (a0 a1 a2 a3 a4 a5 a6 a7 a8 : Nat) (c1 c2 c3 c4 c5 c6 c7 c8 : ClassId), va_P D vwCl ([x0, x1, x2, x3, x4, x5, x6, x7, x8] ++ w9 a0 a1 a2 a3 a4 a5 a6 a7 a8 c1 c2 c3 c4 c5 c6 c7 c8) H → va_D (kA (fun q => s.heap.size ≤ q)) ([x0, x1, x2, x3, x4, x5, x6, x7, x8] ++ w9 a0 a1 a2 a3 a4 a5 a6 a7 a8 c1 c2 c3 c4 c5 c6 c7 c8) → va_K D vwCl (tys ++ t8 c1 c2 c3 c4 c5 c6 c7 c8) s → va_S (kA (fun q => s.heap.size ≤ q)) s.heap H locs → lv_has ls 7 [(3, .int 1), (4, .int (nI 0)), (0, .ref b), (1, .ref z0), (2, .ref a0)] → W p l e room_1 s m #[Value.ref b] below meth c H locs 18 400 Q (F0 m 21 ls [])) : W p l e room_1 s m #[Value.ref b] below meth c H locs 9 147 Q (F0 m 8 ls []) := by
  have hx := hF.1
  have hb := hF.2.1
  have hown := hF.2.2.2.1
  have hts := hF.2.2.2.2
  have hA : ∀ q : Nat, s.heap.size ≤ q → (kA (fun q => s.heap.size ≤ q)) q := fun _ h => h
  refine va_new (own := RL) (ci := 2) (fs := [.null, .null, .null, .null, .null, .null, .null, .null, .int 0, .int 0, .int 0, .int 0, .int 0, .int 0, .int 0]) (C := RX2) (T := TX2) (N := 15) hx hb htX (fun _ h => h) tyX2 tyX2_ok hown hw1 hw2 hw3 hK hP hD hS hA rfl (fun j hj => by rcases (show j = 0 ∨ j = 1 ∨ j = 2 ∨ j = 3 ∨ j = 4 ∨ j = 5 ∨ j = 6 ∨ j = 7 ∨ j = 8 ∨ j = 9 ∨ j = 10 ∨ j = 11 ∨ j = 12 ∨ j = 13 ∨ j = 14 by omega) with rfl | rfl | rfl | rfl | rfl | rfl | rfl | rfl | rfl | rfl | rfl | rfl | rfl | rfl | rfl <;> rfl) (Nat.le_of_ble_eq_true rfl) (Nat.le_of_ble_eq_true rfl) dL_law_8 (fun a0 H hP hD hS => ?_)
  have hP : va_P D vwCl [x0, x1, x2, x3, x4, x5, x6, x7, x8, (a0, .inr (2, [.null, .null, .null, .null, .null, .null, .null, .null, .int 0, .int 0, .int 0, .int 0, .int 0, .int 0, .int 0]))] H := hP
  have hD : va_D (kA (fun q => s.heap.size ≤ q)) [x0, x1, x2, x3, x4, x5, x6, x7, x8, (a0, .inr (2, [.null, .null, .null, .null, .null, .null, .null, .null, .int 0, .int 0, .int 0, .int 0, .int 0, .int 0, .int 0]))] := hD
  refine lv_dup hx hb dL_law_11 rfl ?_
  have hPc := hP.sub (ws' := [(a0, .inr (2, [.null, .null, .null, .null, .null, .null, .null, .null, .int 0, .int 0, .int 0, .int 0, .int 0, .int 0, .int 0]))]) [9] rfl
  have hKc := hK.sub (tys' := []) [] rfl
  have hFc := va_free (wc := [(a0, .inr (2, [.null, .null, .null, .null, .null, .null, .null, .null, .int 0, .int 0, .int 0, .int 0, .int 0, .int 0, .int 0]))]) hD hS hA [9] rfl
  refine va_callv (va_runI (As := []) (rest := [.ref a0]) hF (c_X2_init l D a0 H.size) (cwI 0 hts gL_law_X2_init rfl rfl rfl hw3 hw4 hw5 rfl (by decide +kernel) ⟨Nat.le_of_ble_eq_true rfl, Nat.le_of_ble_eq_true rfl⟩) ⟨fun a U g mk q => by obtain ⟨q0, q1, qP, qK, qD, qA, qB⟩ := q; exact ⟨q0, q1, qP, va_K.moved (u := U) (U := U.calling g mk a) (Vm.Alike.refl U.vm) qK, qD, va_AO.moved (u := U) (U := U.calling g mk a) (Vm.Alike.refl U.vm) qA, va_AO.moved (u := U) (U := U.calling g mk a) (Vm.Alike.refl U.vm) qB⟩, fun U hU hW => ⟨rfl, by rw [hU], by rw [hU]; exact hPc, va_K.moved hW.alike hKc, va_D1 _ _, va_AO.moved hW.alike hao.1, va_AO.moved hW.alike hao.2⟩⟩ rfl rfl hl.1 rfl (lv_room (Nat.le_of_ble_eq_true rfl)) dL_law_12 ⟨Nat.le_of_ble_eq_true rfl, Nat.le_of_ble_eq_true rfl⟩) hS (fun q _ h => hFc q h) hFc (fun u t H1 locs ht hvm hw hB hz1 hk1 hS => ?_)
  clear hw hz1
  obtain ⟨a1, c1, a2, c2, a3, c3, a4, c4, a5, c5, a6, c6, a7, c7, a8, c8, hP1, hK1, hD1⟩ := hB
  rw [ht] at hP1
  have hK1 : va_K D vwCl (t8 c1 c2 c3 c4 c5 c6 c7 c8) s := va_K.moved hvm.symm hK1
  have hP1 : va_P D vwCl (w9 a0 a1 a2 a3 a4 a5 a6 a7 a8 c1 c2 c3 c4 c5 c6 c7 c8) H1 := hP1
  have hD1 : va_D _ (w9 a0 a1 a2 a3 a4 a5 a6 a7 a8 c1 c2 c3 c4 c5 c6 c7 c8) := hD1
  obtain ⟨hP, hD⟩ := va_join (wr := [x0, x1, x2, x3, x4, x5, x6, x7, x8]) hP hD [9] [0, 1, 2, 3, 4, 5, 6, 7, 8] rfl rfl (by decide) (by decide) hk1 hFc hP1 hD1
  refine lv_astore_n (lv' := [(2, .ref a0), (1, .ref z0), (0, .ref b)]) hx hb dL_law_15 rfl hl (by decide) rfl (fun ls hl => ?_)
  refine lv_iconst (v := 1) hx hb dL_law_16 (by decide) ?_
  refine lv_istore_n (lv' := [(3, .int 1), (2, .ref a0), (1, .ref z0), (0, .ref b)]) hx hb dL_law_17 rfl hl (by decide) rfl (fun ls hl => ?_)
  refine lv_iconst (v := nI 0) hx hb dL_law_18 (by decide) ?_
  refine lv_istore (lv' := [(4, .int (nI 0)), (3, .int 1), (2, .ref a0), (1, .ref z0), (0, .ref b)]) hx hb dL_law_19 hl (by decide) rfl (fun ls hl => ?_)
  exact W.widen (Nat.le_of_ble_eq_true rfl) (Nat.le_of_ble_eq_true rfl) (kk H1 locs ls a0 a1 a2 a3 a4 a5 a6 a7 a8 c1 c2 c3 c4 c5 c6 c7 c8 hP hD (hK.app hK1) hS (lv_sub hl [1, 0, 4, 3, 2] rfl))
set_option maxHeartbeats 8000000 in
set_option maxRecDepth 100000 in
theorem fin_k2 {D : va_G} {cy : Nat → ClassId} {base : Nat → Prop} {s : State} {H : Heap} {a0 a1 a2 a3 a4 a5 a6 a7 a8 b0 b1 b2 b3 b4 b5 b6 b7 b8 : Nat} {c1 c2 c3 c4 c5 c6 c7 c8 d1 d2 d3 d4 d5 d6 d7 d8 : ClassId} (hG : kG D cy base s) (hK : va_K D vwCl (t8 c1 c2 c3 c4 c5 c6 c7 c8 ++ t8 d1 d2 d3 d4 d5 d6 d7 d8) s) (hP : va_P D vwCl (w9 a0 a1 a2 a3 a4 a5 a6 a7 a8 c1 c2 c3 c4 c5 c6 c7 c8 ++ w9 b0 b1 b2 b3 b4 b5 b6 b7 b8 d1 d2 d3 d4 d5 d6 d7 d8) H) (hD : va_D (kA base) (w9 a0 a1 a2 a3 a4 a5 a6 a7 a8 c1 c2 c3 c4 c5 c6 c7 c8 ++ w9 b0 b1 b2 b3 b4 b5 b6 b7 b8 d1 d2 d3 d4 d5 d6 d7 d8)) : ∃ ad ae : Nat → Nat, ad 0 = a0 ∧ ae 0 = b0 ∧ k2 D cy base ad 0 0 g0 ae 0 0 g0 H := by
  have ec1 : c1 = cy 0 := hG.int hK (k := 0) rfl
  have ec2 : c2 = cy 0 := hG.int hK (k := 1) rfl
  have ec3 : c3 = cy 0 := hG.int hK (k := 2) rfl
  have ec4 : c4 = cy 0 := hG.int hK (k := 3) rfl
  have ec5 : c5 = cy 0 := hG.int hK (k := 4) rfl
  have ec6 : c6 = cy 1 := hG.rF hK (k := 5) rfl
  have ec7 : c7 = cy 2 := hG.rC hK (k := 6) rfl
  have ec8 : c8 = cy 0 := hG.int hK (k := 7) rfl
  have ed1 : d1 = cy 0 := hG.int hK (k := 8) rfl
  have ed2 : d2 = cy 0 := hG.int hK (k := 9) rfl
  have ed3 : d3 = cy 0 := hG.int hK (k := 10) rfl
  have ed4 : d4 = cy 0 := hG.int hK (k := 11) rfl
  have ed5 : d5 = cy 0 := hG.int hK (k := 12) rfl
  have ed6 : d6 = cy 1 := hG.rF hK (k := 13) rfl
  have ed7 : d7 = cy 2 := hG.rC hK (k := 14) rfl
  have ed8 : d8 = cy 0 := hG.int hK (k := 15) rfl
  clear hK hG
  rw [ec1, ec2, ec3, ec4, ec5, ec6, ec7, ec8, ed1, ed2, ed3, ed4, ed5, ed6, ed7, ed8] at hP hD
  have hP1 : va_P D vwCl (stW cy a0 a1 a2 a3 a4 a5 a6 a7 a8) H := hP.sub [0, 1, 2, 3, 4, 5, 6, 7, 8] rfl
  have hP2 : va_P D vwCl (stW cy b0 b1 b2 b3 b4 b5 b6 b7 b8) H := hP.sub [9, 10, 11, 12, 13, 14, 15, 16, 17] rfl
  have hD1 : va_D (kA base) (stW cy a0 a1 a2 a3 a4 a5 a6 a7 a8) := hD.sub [0, 1, 2, 3, 4, 5, 6, 7, 8] (by decide) rfl
  have hD2 : va_D (kA base) (stW cy b0 b1 b2 b3 b4 b5 b6 b7 b8) := hD.sub [9, 10, 11, 12, 13, 14, 15, 16, 17] (by decide) rfl
  exact ⟨adW (stW cy a0 a1 a2 a3 a4 a5 a6 a7 a8), adW (stW cy b0 b1 b2 b3 b4 b5 b6 b7 b8), rfl, rfl, g0, g0, E8.rf _, E8.rf _, st_kW hP1 hD1, st_kW hP2 hD2, st_D2 (X := stW cy a0 a1 a2 a3 a4 a5 a6 a7 a8) (Y := stW cy b0 b1 b2 b3 b4 b5 b6 b7 b8) rfl rfl hD⟩
set_option maxHeartbeats 8000000 in
set_option maxRecDepth 100000 in
/-- the law, from its first step -/
theorem law_all {p : Program} {e : Env} {s : State} {m : MethodId} {below : List Frame} {meth : Method} {c : Code} {Q : State → Prop} {D : va_G} {b : Addr} (l : Launch) (hfl : l.stackTraces = false) (hF : CallFix p m c cL_law 7 s #[Value.ref b] wsL_law RL) (htX : ∀ w ∈ wsX20, w.before #[Value.ref b] s = true) (hw1 : (Cond.classLink RL 15 RX2).before #[Value.ref b] s = true) (hw2 : (Cond.instantiable RX2 15).before #[Value.ref b] s = true) (hw3 : (Cond.initialized RX2).before #[Value.ref b] s = true) (hw4 : (Cond.methodLink RL 148 yX2_init).before #[Value.ref b] s = true) (hw5 : (Cond.instanceMethod yX2_init).before #[Value.ref b] s = true) (hao : va_AO RX1 s ∧ va_AO RX0 s) (hK : va_K D vwCl [] s) (hG9 : ∀ cy : Nat → ClassId, va_K D vwCl (kTys cy) s → kG D cy (fun q => s.heap.size ≤ q) s) {L : Nat} {xs : Nat → Int32} (hX : va_X b L xs s s.heap) (hbl : b < s.heap.size) (hL : L ≤ 260) {ls : Array Slot} (hl : lv_has ls 7 [(0, .ref b)])
    (hend : ∀ (H : Heap) (locs : List Loc) (ls : Array Slot) (cells slots : Nat), va_S (kA (fun q => s.heap.size ≤ q)) s.heap H locs → cells ≤ 709830 → slots ≤ 6972341 → W p l e room_1 s m #[Value.ref b] below meth c H locs cells slots Q (F0 m 215 ls [.int 1])) : W p l e room_1 s m #[Value.ref b] below meth c s.heap [] 0 0 Q (F0 m 0 ls []) := by
  have hbA : ¬ (kA (fun q => s.heap.size ≤ q)) b := Nat.not_le.mpr hbl
  refine start1 hF htX hw1 hw2 hw3 hw4 hw5 hao hK hl (fun H locs ls a0 a1 a2 a3 a4 a5 a6 a7 a8 c1 c2 c3 c4 c5 c6 c7 c8 hP hD hK hS hl => ?_)
  refine start2 hF htX hw1 hw2 hw3 hw4 hw5 hao hP hD hK hS hl (fun H locs ls b0 b1 b2 b3 b4 b5 b6 b7 b8 d1 d2 d3 d4 d5 d6 d7 d8 hP hD hK hS hl => ?_)
  obtain ⟨cy, e1, e6, e7⟩ : ∃ cy : Nat → ClassId, cy 0 = c1 ∧ cy 1 = c6 ∧ cy 2 = c7 := ⟨fun k => match k with | 0 => c1 | 1 => c6 | _ => c7, rfl, rfl, rfl⟩
  have hKT : va_K D vwCl (kTys cy) s := by
    have h := hK.sub (tys' := [(c1, .int), (c6, .object RX1), (c7, .object RX0)]) [0, 5, 6] rfl
    rw [← e1, ← e6, ← e7] at h
    exact h
  have hG := hG9 cy hKT
  obtain ⟨ad, ae, h0, h9, hw⟩ := fin_k2 hG hK hP hD
  rw [← h0, ← h9] at hl
  exact law_loop l hfl hF hG hX hbl hbA hL hend 161 0 (by omega) (by omega) H locs ls ad ae 0 0 g0 st_inv hw hS hl
