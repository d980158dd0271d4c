/-! the start's steps: laid by wip/whole/endgen.py -/
def w9 (a0 a1 a2 a3 a4 a5 a6 a7 a8 : Nat) (c1 c2 c3 c4 c5 c6 c7 c8 : ClassId) : va_W := [(a0, .inr (2, [.ref a1, .ref a2, .ref a3, .ref a4, .ref a5, .ref a6, .ref a7, .ref a8, .int (0 : Int32), .int (0 : Int32), .int (0 : Int32), .int (50 : Int32), .int (0 : Int32), .int (0 : Int32), .int (0 : Int32)])), (a1, .inl (c1, 24, .inl (fun _ => 0))), (a2, .inl (c2, 8, .inl (fun _ => 0))), (a3, .inl (c3, 4, .inl (fun _ => 0))), (a4, .inl (c4, 8, .inl (fun j => if j < 8 then 60 else 0))), (a5, .inl (c5, 8, .inl (fun _ => 0))), (a6, .inl (c6, 30, .inr (.inr (.inr (.inr (fun _ => none)))))), (a7, .inl (c7, 20, .inr (.inr (.inr (.inr (fun _ => none)))))), (a8, .inl (c8, 30, .inl (fun _ => 0)))]
def w31 (a9 a10 a11 a12 a13 a14 a15 a16 a17 a18 a19 a20 a21 a22 a23 a24 a25 a26 a27 a28 a29 a30 a31 a32 a33 a34 a35 a36 a37 a38 a39 : Nat) (c10 c11 c12 c13 c14 c15 c16 c17 c18 c19 c20 c21 c22 c23 c24 c25 c26 c27 c28 c29 c30 c31 c32 c33 c34 c35 c36 c37 c38 c39 : ClassId) : va_W := [(a9, .inr (3, [.int 0, .int 0, .ref a10, .ref a11, .ref a12, .ref a13, .ref a14, .int (50 : Int32), .int 0, .ref a15, .ref a16, .ref a17, .ref a18, .ref a19, .ref a20, .ref a21, .ref a22, .ref a23, .ref a24, .ref a25, .ref a26, .ref a27, .ref a28, .ref a29, .ref a30, .int 0, .ref a31, .ref a32, .ref a33, .ref a34, .ref a35, .ref a36, .ref a37, .ref a38, .ref a39, .int 0, .int 0, .int 0])), (a10, .inl (c10, 24, .inl (fun _ => 0))), (a11, .inl (c11, 8, .inl (fun _ => 0))), (a12, .inl (c12, 8, .inl (fun j => if j < 8 then 60 else 0))), (a13, .inl (c13, 8, .inl (fun _ => 0))), (a14, .inl (c14, 4, .inl (fun _ => 0))), (a15, .inl (c15, 30, .inl (fun _ => 0))), (a16, .inl (c16, 30, .inl (fun _ => 0))), (a17, .inl (c17, 30, .inl (fun _ => 0))), (a18, .inl (c18, 30, .inl (fun _ => 0))), (a19, .inl (c19, 30, .inl (fun _ => 0))), (a20, .inl (c20, 30, .inl (fun _ => 0))), (a21, .inl (c21, 30, .inl (fun _ => 0))), (a22, .inl (c22, 30, .inl (fun _ => 0))), (a23, .inl (c23, 30, .inl (fun _ => 0))), (a24, .inl (c24, 30, .inl (fun _ => 0))), (a25, .inl (c25, 30, .inl (fun _ => 0))), (a26, .inl (c26, 30, .inl (fun _ => 0))), (a27, .inl (c27, 30, .inl (fun _ => 0))), (a28, .inl (c28, 30, .inl (fun _ => 0))), (a29, .inl (c29, 360, .inl (fun _ => 0))), (a30, .inl (c30, 360, .inl (fun _ => 0))), (a31, .inl (c31, 20, .inl (fun _ => 0))), (a32, .inl (c32, 20, .inl (fun _ => 0))), (a33, .inl (c33, 20, .inl (fun _ => 0))), (a34, .inl (c34, 20, .inl (fun _ => 0))), (a35, .inl (c35, 20, .inl (fun _ => 0))), (a36, .inl (c36, 20, .inl (fun _ => 0))), (a37, .inl (c37, 20, .inl (fun _ => 0))), (a38, .inl (c38, 20, .inl (fun _ => 0))), (a39, .inl (c39, 20, .inl (fun _ => 0)))]
def t8 (c1 c2 c3 c4 c5 c6 c7 c8 : ClassId) : List (ClassId × FieldType) := [(c1, .int), (c2, .int), (c3, .int), (c4, .int), (c5, .int), (c6, .object RX1), (c7, .object RX0), (c8, .int)]
def t30 (c10 c11 c12 c13 c14 c15 c16 c17 c18 c19 c20 c21 c22 c23 c24 c25 c26 c27 c28 c29 c30 c31 c32 c33 c34 c35 c36 c37 c38 c39 : ClassId) : List (ClassId × FieldType) := [(c10, .int), (c11, .int), (c12, .int), (c13, .int), (c14, .int), (c15, .int), (c16, .int), (c17, .int), (c18, .int), (c19, .int), (c20, .int), (c21, .int), (c22, .int), (c23, .int), (c24, .int), (c25, .boolean), (c26, .int), (c27, .int), (c28, .int), (c29, .int), (c30, .int), (c31, .int), (c32, .int), (c33, .int), (c34, .int), (c35, .int), (c36, .int), (c37, .int), (c38, .int), (c39, .int)]
set_option maxHeartbeats 8000000 in
set_option maxRecDepth 100000 in
theorem start1 {p : Program} {l : Launch} {e : Env} {s : State} {m : MethodId} {below : List Frame} {meth : Method} {c : Code} {Q : State → Prop} {D : va_G} {b : Addr} (hF : CallFix p m c cL_law 7 s #[Value.ref b] wsL_law RL) (htl : ∀ w ∈ lw_tbl, w.before #[Value.ref b] s = true) (hK : va_K D vwCl [] s) {ls : Array Slot} (hl : lv_has ls 7 [(0, .ref b)]) (kk : ∀ (H : Heap) (locs : List Loc) (ls : Array Slot) (a0 a1 a2 a3 a4 a5 a6 a7 a8 : Nat) (c1 c2 c3 c4 c5 c6 c7 c8 : ClassId), va_P D vwCl (w9 a0 a1 a2 a3 a4 a5 a6 a7 a8 c1 c2 c3 c4 c5 c6 c7 c8) H → va_D (kA s.heap.size) (w9 a0 a1 a2 a3 a4 a5 a6 a7 a8 c1 c2 c3 c4 c5 c6 c7 c8) → va_K D vwCl (t8 c1 c2 c3 c4 c5 c6 c7 c8) s → va_S (kA s.heap.size) s.heap H locs → lv_has ls 7 [(1, .ref a0), (0, .ref b)] → W p l e room_1 s m #[Value.ref b] below meth c H locs 9 147 Q (F0 m 8 ls [])) : W p l e room_1 s m #[Value.ref b] below meth c s.heap [] 0 0 Q (F0 m 0 ls []) := by
  have hx := hF.1
  have hb := hF.2.1
  have hown := hF.2.2.2.1
  have hts := hF.2.2.2.2
  have hA : ∀ q : Nat, s.heap.size ≤ q → kA s.heap.size q := fun _ h => h
  have hS : va_S (kA s.heap.size) s.heap s.heap [] := va_S.rf
  have hP : va_P D vwCl [] s.heap := fun k q h => by simp at h
  have hD : va_D (kA s.heap.size) [] := ⟨fun i j p q h => by simp at h, fun k q h => by simp at h⟩
  refine va_new (own := RL) (ci := 2) (fs := [.null, .null, .null, .null, .null, .null, .null, .null, .int 0, .int 0, .int 0, .int 0, .int 0, .int 0, .int 0]) (C := RX2) (T := TX2) (N := 15) hx hb htl inX2 tyX2 tyX2_ok hown (htl _ (List.mem_of_getElem? (i := 53) (by decide +kernel))) (htl _ (List.mem_of_getElem? (i := 54) (by decide +kernel))) (htl _ (List.mem_of_getElem? (i := 41) (by decide +kernel))) hK hP hD hS hA rfl (fun j hj => by rcases (show j = 0 ∨ j = 1 ∨ j = 2 ∨ j = 3 ∨ j = 4 ∨ j = 5 ∨ j = 6 ∨ j = 7 ∨ j = 8 ∨ j = 9 ∨ j = 10 ∨ j = 11 ∨ j = 12 ∨ j = 13 ∨ j = 14 by omega) with rfl | rfl | rfl | rfl | rfl | rfl | rfl | rfl | rfl | rfl | rfl | rfl | rfl | rfl | rfl <;> rfl) (Nat.le_of_ble_eq_true rfl) (Nat.le_of_ble_eq_true rfl) dL_law_0 (fun a0 H hP hD hS => ?_)
  have hP : va_P D vwCl [(a0, .inr (2, [.null, .null, .null, .null, .null, .null, .null, .null, .int 0, .int 0, .int 0, .int 0, .int 0, .int 0, .int 0]))] H := hP
  have hD : va_D (kA s.heap.size) [(a0, .inr (2, [.null, .null, .null, .null, .null, .null, .null, .null, .int 0, .int 0, .int 0, .int 0, .int 0, .int 0, .int 0]))] := hD
  refine lv_dup hx hb dL_law_3 rfl ?_
  have hKc := hK
  have hFc := va_free (wc := [(a0, .inr (2, [.null, .null, .null, .null, .null, .null, .null, .null, .int 0, .int 0, .int 0, .int 0, .int 0, .int 0, .int 0]))]) hD hS hA [0] rfl
  refine va_callv (va_runI (As := []) (rest := [.ref a0]) hF (c_X2_init l D a0 H.size) (cwI 0 hts gL_law_X2_init rfl rfl rfl (htl _ (List.mem_of_getElem? (i := 41) (by decide +kernel))) (htl _ (List.mem_of_getElem? (i := 55) (by decide +kernel))) (htl _ (List.mem_of_getElem? (i := 56) (by decide +kernel))) rfl (by decide +kernel) ⟨Nat.le_of_ble_eq_true rfl, Nat.le_of_ble_eq_true rfl⟩) ⟨fun a U g mk q => by obtain ⟨q0, q1, qP, qK, qD, qA, qB⟩ := q; exact ⟨q0, q1, qP, va_K.moved (u := U) (U := U.calling g mk a) (Vm.Alike.refl U.vm) qK, qD, va_AO.moved (u := U) (U := U.calling g mk a) (Vm.Alike.refl U.vm) qA, va_AO.moved (u := U) (U := U.calling g mk a) (Vm.Alike.refl U.vm) qB⟩, fun U hU hW => ⟨rfl, by rw [hU], by rw [hU]; exact hP, va_K.moved hW.alike hKc, va_D1 _ _, va_AO.moved hW.alike (ao_ok htl).1, va_AO.moved hW.alike (ao_ok htl).2⟩⟩ rfl rfl hl.1 rfl (lv_room (Nat.le_of_ble_eq_true rfl)) dL_law_4 ⟨Nat.le_of_ble_eq_true rfl, Nat.le_of_ble_eq_true rfl⟩) hS (fun q _ h => hFc q h) hFc (fun u t H1 locs ht hvm hw hB hz1 hk1 hS => ?_)
  clear hw hz1
  obtain ⟨a1, c1, a2, c2, a3, c3, a4, c4, a5, c5, a6, c6, a7, c7, a8, c8, hP1, hK1, hD1⟩ := hB
  rw [ht] at hP1
  have hK1 : va_K D vwCl (t8 c1 c2 c3 c4 c5 c6 c7 c8) s := va_K.moved hvm.symm hK1
  have hP1 : va_P D vwCl (w9 a0 a1 a2 a3 a4 a5 a6 a7 a8 c1 c2 c3 c4 c5 c6 c7 c8) H1 := hP1
  have hD1 : va_D _ (w9 a0 a1 a2 a3 a4 a5 a6 a7 a8 c1 c2 c3 c4 c5 c6 c7 c8) := hD1
  obtain ⟨hP, hD⟩ := va_join (wr := []) hP hD [0] [] rfl rfl (by decide) (by decide) hk1 hFc hP1 hD1
  refine lv_astore_n (lv' := [(1, .ref a0), (0, .ref b)]) hx hb dL_law_7 rfl hl (by decide) rfl (fun ls hl => ?_)
  exact W.widen (Nat.le_of_ble_eq_true rfl) (Nat.le_of_ble_eq_true rfl) (kk H1 locs ls a0 a1 a2 a3 a4 a5 a6 a7 a8 c1 c2 c3 c4 c5 c6 c7 c8 hP hD hK1 hS hl)
set_option maxHeartbeats 8000000 in
set_option maxRecDepth 100000 in
theorem start2 {p : Program} {l : Launch} {e : Env} {s : State} {m : MethodId} {below : List Frame} {meth : Method} {c : Code} {Q : State → Prop} {D : va_G} {b : Addr} (hF : CallFix p m c cL_law 7 s #[Value.ref b] wsL_law RL) (htl : ∀ w ∈ lw_tbl, w.before #[Value.ref b] s = true) {tys : List (ClassId × FieldType)} {x0 x1 x2 x3 x4 x5 x6 x7 x8 : Nat × va_E} {H : Heap} {locs : List Loc} {ls : Array Slot} {a0 : Nat} (hP : va_P D vwCl [x0, x1, x2, x3, x4, x5, x6, x7, x8] H) (hD : va_D (kA s.heap.size) [x0, x1, x2, x3, x4, x5, x6, x7, x8]) (hK : va_K D vwCl tys s) (hS : va_S (kA s.heap.size) s.heap H locs) (hl : lv_has ls 7 [(1, .ref a0), (0, .ref b)]) (kk : ∀ (H : Heap) (locs : List Loc) (ls : Array Slot) (a9 a10 a11 a12 a13 a14 a15 a16 a17 a18 a19 a20 a21 a22 a23 a24 a25 a26 a27 a28 a29 a30 a31 a32 a33 a34 a35 a36 a37 a38 a39 : Nat) (c10 c11 c12 c13 c14 c15 c16 c17 c18 c19 c20 c21 c22 c23 c24 c25 c26 c27 c28 c29 c30 c31 c32 c33 c34 c35 c36 c37 c38 c39 : ClassId), va_P D vwCl ([x0, x1, x2, x3, x4, x5, x6, x7, x8] ++ w31 a9 a10 a11 a12 a13 a14 a15 a16 a17 a18 a19 a20 a21 a22 a23 a24 a25 a26 a27 a28 a29 a30 a31 a32 a33 a34 a35 a36 a37 a38 a39 c10 c11 c12 c13 c14 c15 c16 c17 c18 c19 c20 c21 c22 c23 c24 c25 c26 c27 c28 c29 c30 c31 c32 c33 c34 c35 c36 c37 c38 c39) H → va_D (kA s.heap.size) ([x0, x1, x2, x3, x4, x5, x6, x7, x8] ++ w31 a9 a10 a11 a12 a13 a14 a15 a16 a17 a18 a19 a20 a21 a22 a23 a24 a25 a26 a27 a28 a29 a30 a31 a32 a33 a34 a35 a36 a37 a38 a39 c10 c11 c12 c13 c14 c15 c16 c17 c18 c19 c20 c21 c22 c23 c24 c25 c26 c27 c28 c29 c30 c31 c32 c33 c34 c35 c36 c37 c38 c39) → va_K D vwCl (tys ++ t30 c10 c11 c12 c13 c14 c15 c16 c17 c18 c19 c20 c21 c22 c23 c24 c25 c26 c27 c28 c29 c30 c31 c32 c33 c34 c35 c36 c37 c38 c39) s → va_S (kA s.heap.size) s.heap H locs → lv_has ls 7 [(2, .ref a9), (1, .ref a0), (0, .ref b)] → W p l e room_1 s m #[Value.ref b] below meth c H locs 40 1557 Q (F0 m 16 ls [])) : W p l e room_1 s m #[Value.ref b] below meth c H locs 9 147 Q (F0 m 8 ls []) := by
  have hx := hF.1
  have hb := hF.2.1
  have hown := hF.2.2.2.1
  have hts := hF.2.2.2.2
  have hA : ∀ q : Nat, s.heap.size ≤ q → kA s.heap.size q := fun _ h => h
  refine va_new (own := RL) (ci := 3) (fs := [.int 0, .int 0, .null, .null, .null, .null, .null, .int 0, .int 0, .null, .null, .null, .null, .null, .null, .null, .null, .null, .null, .null, .null, .null, .null, .null, .null, .int 0, .null, .null, .null, .null, .null, .null, .null, .null, .null, .int 0, .int 0, .int 0]) (C := RX3) (T := TX3) (N := 38) hx hb htl inX3 tyX3 tyX3_ok hown (htl _ (List.mem_of_getElem? (i := 735) (by decide +kernel))) (htl _ (List.mem_of_getElem? (i := 736) (by decide +kernel))) (htl _ (List.mem_of_getElem? (i := 42) (by decide +kernel))) hK hP hD hS hA rfl (fun j hj => by rcases (show j = 0 ∨ j = 1 ∨ j = 2 ∨ j = 3 ∨ j = 4 ∨ j = 5 ∨ j = 6 ∨ j = 7 ∨ j = 8 ∨ j = 9 ∨ j = 10 ∨ j = 11 ∨ j = 12 ∨ j = 13 ∨ j = 14 ∨ j = 15 ∨ j = 16 ∨ j = 17 ∨ j = 18 ∨ j = 19 ∨ j = 20 ∨ j = 21 ∨ j = 22 ∨ j = 23 ∨ j = 24 ∨ j = 25 ∨ j = 26 ∨ j = 27 ∨ j = 28 ∨ j = 29 ∨ j = 30 ∨ j = 31 ∨ j = 32 ∨ j = 33 ∨ j = 34 ∨ j = 35 ∨ j = 36 ∨ j = 37 by omega) with rfl | rfl | rfl | rfl | rfl | rfl | rfl | rfl | rfl | rfl | rfl | rfl | rfl | rfl | rfl | rfl | rfl | rfl | rfl | rfl | rfl | rfl | rfl | rfl | rfl | rfl | rfl | rfl | rfl | rfl | rfl | rfl | rfl | rfl | rfl | rfl | rfl | rfl <;> rfl) (Nat.le_of_ble_eq_true rfl) (Nat.le_of_ble_eq_true rfl) dL_law_8 (fun a9 H hP hD hS => ?_)
  have hP : va_P D vwCl [x0, x1, x2, x3, x4, x5, x6, x7, x8, (a9, .inr (3, [.int 0, .int 0, .null, .null, .null, .null, .null, .int 0, .int 0, .null, .null, .null, .null, .null, .null, .null, .null, .null, .null, .null, .null, .null, .null, .null, .null, .int 0, .null, .null, .null, .null, .null, .null, .null, .null, .null, .int 0, .int 0, .int 0]))] H := hP
  have hD : va_D (kA s.heap.size) [x0, x1, x2, x3, x4, x5, x6, x7, x8, (a9, .inr (3, [.int 0, .int 0, .null, .null, .null, .null, .null, .int 0, .int 0, .null, .null, .null, .null, .null, .null, .null, .null, .null, .null, .null, .null, .null, .null, .null, .null, .int 0, .null, .null, .null, .null, .null, .null, .null, .null, .null, .int 0, .int 0, .int 0]))] := hD
  refine lv_dup hx hb dL_law_11 rfl ?_
  have hPc := hP.sub (ws' := [(a9, .inr (3, [.int 0, .int 0, .null, .null, .null, .null, .null, .int 0, .int 0, .null, .null, .null, .null, .null, .null, .null, .null, .null, .null, .null, .null, .null, .null, .null, .null, .int 0, .null, .null, .null, .null, .null, .null, .null, .null, .null, .int 0, .int 0, .int 0]))]) [9] rfl
  have hKc := hK.sub (tys' := []) [] rfl
  have hFc := va_free (wc := [(a9, .inr (3, [.int 0, .int 0, .null, .null, .null, .null, .null, .int 0, .int 0, .null, .null, .null, .null, .null, .null, .null, .null, .null, .null, .null, .null, .null, .null, .null, .null, .int 0, .null, .null, .null, .null, .null, .null, .null, .null, .null, .int 0, .int 0, .int 0]))]) hD hS hA [9] rfl
  refine va_callv (va_runI (As := []) (rest := [.ref a9]) hF (c_X3_init l D a9 H.size) (cwI 0 hts gL_law_X3_init rfl rfl rfl (htl _ (List.mem_of_getElem? (i := 42) (by decide +kernel))) (htl _ (List.mem_of_getElem? (i := 737) (by decide +kernel))) (htl _ (List.mem_of_getElem? (i := 738) (by decide +kernel))) rfl (by decide +kernel) ⟨Nat.le_of_ble_eq_true rfl, Nat.le_of_ble_eq_true rfl⟩) ⟨fun a U g mk q => by obtain ⟨q0, q1, qP, qK, qD⟩ := q; exact ⟨q0, q1, qP, va_K.moved (u := U) (U := U.calling g mk a) (Vm.Alike.refl U.vm) qK, qD⟩, fun U hU hW => ⟨rfl, by rw [hU], by rw [hU]; exact hPc, va_K.moved hW.alike hKc, va_D1 _ _⟩⟩ rfl rfl hl.1 rfl (lv_room (Nat.le_of_ble_eq_true rfl)) dL_law_12 ⟨Nat.le_of_ble_eq_true rfl, Nat.le_of_ble_eq_true rfl⟩) hS (fun q _ h => hFc q h) hFc (fun u t H1 locs ht hvm hw hB hz1 hk1 hS => ?_)
  clear hw hz1
  obtain ⟨a10, c10, a11, c11, a12, c12, a13, c13, a14, c14, a15, c15, a16, c16, a17, c17, a18, c18, a19, c19, a20, c20, a21, c21, a22, c22, a23, c23, a24, c24, a25, c25, a26, c26, a27, c27, a28, c28, a29, c29, a30, c30, a31, c31, a32, c32, a33, c33, a34, c34, a35, c35, a36, c36, a37, c37, a38, c38, a39, c39, hP1, hK1, hD1⟩ := hB
  rw [ht] at hP1
  have hK1 : va_K D vwCl (t30 c10 c11 c12 c13 c14 c15 c16 c17 c18 c19 c20 c21 c22 c23 c24 c25 c26 c27 c28 c29 c30 c31 c32 c33 c34 c35 c36 c37 c38 c39) s := va_K.moved hvm.symm hK1
  have hP1 : va_P D vwCl (w31 a9 a10 a11 a12 a13 a14 a15 a16 a17 a18 a19 a20 a21 a22 a23 a24 a25 a26 a27 a28 a29 a30 a31 a32 a33 a34 a35 a36 a37 a38 a39 c10 c11 c12 c13 c14 c15 c16 c17 c18 c19 c20 c21 c22 c23 c24 c25 c26 c27 c28 c29 c30 c31 c32 c33 c34 c35 c36 c37 c38 c39) H1 := hP1
  have hD1 : va_D _ (w31 a9 a10 a11 a12 a13 a14 a15 a16 a17 a18 a19 a20 a21 a22 a23 a24 a25 a26 a27 a28 a29 a30 a31 a32 a33 a34 a35 a36 a37 a38 a39 c10 c11 c12 c13 c14 c15 c16 c17 c18 c19 c20 c21 c22 c23 c24 c25 c26 c27 c28 c29 c30 c31 c32 c33 c34 c35 c36 c37 c38 c39) := hD1
  obtain ⟨hP, hD⟩ := va_join (wr := [x0, x1, x2, x3, x4, x5, x6, x7, x8]) hP hD [9] [0, 1, 2, 3, 4, 5, 6, 7, 8] rfl rfl (by decide) (by decide) hk1 hFc hP1 hD1
  refine lv_astore_n (lv' := [(2, .ref a9), (1, .ref a0), (0, .ref b)]) hx hb dL_law_15 rfl hl (by decide) rfl (fun ls hl => ?_)
  exact W.widen (Nat.le_of_ble_eq_true rfl) (Nat.le_of_ble_eq_true rfl) (kk H1 locs ls a9 a10 a11 a12 a13 a14 a15 a16 a17 a18 a19 a20 a21 a22 a23 a24 a25 a26 a27 a28 a29 a30 a31 a32 a33 a34 a35 a36 a37 a38 a39 c10 c11 c12 c13 c14 c15 c16 c17 c18 c19 c20 c21 c22 c23 c24 c25 c26 c27 c28 c29 c30 c31 c32 c33 c34 c35 c36 c37 c38 c39 hP hD (hK.app hK1) hS hl)
set_option maxHeartbeats 8000000 in
set_option maxRecDepth 100000 in
theorem start3 {p : Program} {l : Launch} {e : Env} {s : State} {m : MethodId} {below : List Frame} {meth : Method} {c : Code} {Q : State → Prop} {D : va_G} {b : Addr} (hF : CallFix p m c cL_law 7 s #[Value.ref b] wsL_law RL) (htl : ∀ w ∈ lw_tbl, w.before #[Value.ref b] s = true) {tys : List (ClassId × FieldType)} {ws : va_W} {H : Heap} {locs : List Loc} {ls : Array Slot} {a0 a9 : Nat} (hP : va_P D vwCl ws H) (hD : va_D (kA s.heap.size) ws) (hK : va_K D vwCl tys s) (hS : va_S (kA s.heap.size) s.heap H locs) (hl : lv_has ls 7 [(2, .ref a9), (1, .ref a0), (0, .ref b)]) (kk : ∀ (H : Heap) (ls : Array Slot) (a40 : Nat) (c40 : ClassId), va_P D vwCl (ws ++ [(a40, .inl (c40, 1, .inr (.inl (fun _ => 0))))]) H → va_D (kA s.heap.size) (ws ++ [(a40, .inl (c40, 1, .inr (.inl (fun _ => 0))))]) → va_K D vwCl (tys ++ [(c40, .long)]) s → va_S (kA s.heap.size) s.heap H locs → lv_has ls 7 [(4, .int (nI (8 * 0))), (0, .ref b), (1, .ref a0), (2, .ref a9), (3, .ref a40)] → W p l e room_1 s m #[Value.ref b] below meth c H locs 41 1558 Q (F0 m 23 ls [])) : W p l e room_1 s m #[Value.ref b] below meth c H locs 40 1557 Q (F0 m 16 ls []) := by
  have hx := hF.1
  have hb := hF.2.1
  have hown := hF.2.2.2.1
  have hts := hF.2.2.2.2
  have hA : ∀ q : Nat, s.heap.size ≤ q → kA s.heap.size q := fun _ h => h
  refine lv_iconst (v := 1) hx hb dL_law_16 (by decide) ?_
  refine va_newa (atype := .long) (ty := .long) (a0 := (1, .inr (.inl (fun _ => 0)))) (N' := 1) hx hb (htl _ (List.mem_of_getElem? (i := 1079) (by decide +kernel))) rfl hK hP hD hS hA (fun _ => rfl) (by decide) (by decide) (Nat.le_of_ble_eq_true rfl) (Nat.le_of_ble_eq_true rfl) (Nat.le_of_ble_eq_true rfl) dL_law_17 (fun a40 c40 H hK hP hD hS => ?_)
  refine lv_astore_n (lv' := [(3, .ref a40), (2, .ref a9), (1, .ref a0), (0, .ref b)]) hx hb dL_law_19 rfl hl (by decide) rfl (fun ls hl => ?_)
  refine lv_iconst (v := nI (8 * 0)) hx hb dL_law_20 (by decide) ?_
  refine lv_istore (lv' := [(4, .int (nI (8 * 0))), (3, .ref a40), (2, .ref a9), (1, .ref a0), (0, .ref b)]) hx hb dL_law_21 hl (by decide) rfl (fun ls hl => ?_)
  exact W.widen (Nat.le_of_ble_eq_true rfl) (Nat.le_of_ble_eq_true rfl) (kk H ls a40 c40 hP hD hK hS (lv_sub hl [0, 4, 3, 2, 1] rfl))
set_option maxRecDepth 100000 in
theorem stW_eq {cy : Nat → ClassId} {a0 a1 a2 a3 a4 a5 a6 a7 a8 a9 a10 a11 a12 a13 a14 a15 a16 a17 a18 a19 a20 a21 a22 a23 a24 a25 a26 a27 a28 a29 a30 a31 a32 a33 a34 a35 a36 a37 a38 a39 a40 : Nat} : (w9 a0 a1 a2 a3 a4 a5 a6 a7 a8 (cy 0) (cy 0) (cy 0) (cy 0) (cy 0) (cy 3) (cy 4) (cy 0) ++ w31 a9 a10 a11 a12 a13 a14 a15 a16 a17 a18 a19 a20 a21 a22 a23 a24 a25 a26 a27 a28 a29 a30 a31 a32 a33 a34 a35 a36 a37 a38 a39 (cy 0) (cy 0) (cy 0) (cy 0) (cy 0) (cy 0) (cy 0) (cy 0) (cy 0) (cy 0) (cy 0) (cy 0) (cy 0) (cy 0) (cy 0) (cy 1) (cy 0) (cy 0) (cy 0) (cy 0) (cy 0) (cy 0) (cy 0) (cy 0) (cy 0) (cy 0) (cy 0) (cy 0) (cy 0) (cy 0)) ++ [(a40, .inl (cy 2, 1, .inr (.inl (fun _ => 0))))] = stW cy a0 a1 a2 a3 a4 a5 a6 a7 a8 a9 a10 a11 a12 a13 a14 a15 a16 a17 a18 a19 a20 a21 a22 a23 a24 a25 a26 a27 a28 a29 a30 a31 a32 a33 a34 a35 a36 a37 a38 a39 a40 := rfl
set_option maxHeartbeats 8000000 in
set_option maxRecDepth 100000 in
theorem fin_kW {D : va_G} {cy : Nat → ClassId} {base : Nat} {s : State} {H : Heap} {a0 a1 a2 a3 a4 a5 a6 a7 a8 a9 a10 a11 a12 a13 a14 a15 a16 a17 a18 a19 a20 a21 a22 a23 a24 a25 a26 a27 a28 a29 a30 a31 a32 a33 a34 a35 a36 a37 a38 a39 a40 : Nat} {c1 c2 c3 c4 c5 c6 c7 c8 c10 c11 c12 c13 c14 c15 c16 c17 c18 c19 c20 c21 c22 c23 c24 c25 c26 c27 c28 c29 c30 c31 c32 c33 c34 c35 c36 c37 c38 c39 c40 : ClassId} (hG : kG D cy base s) (hK : va_K D vwCl ((t8 c1 c2 c3 c4 c5 c6 c7 c8 ++ t30 c10 c11 c12 c13 c14 c15 c16 c17 c18 c19 c20 c21 c22 c23 c24 c25 c26 c27 c28 c29 c30 c31 c32 c33 c34 c35 c36 c37 c38 c39) ++ [(c40, .long)]) s) (e25 : c25 = cy 1) (e40 : c40 = cy 2) (e6 : c6 = cy 3) (e7 : c7 = cy 4) (hP : va_P D vwCl ((w9 a0 a1 a2 a3 a4 a5 a6 a7 a8 c1 c2 c3 c4 c5 c6 c7 c8 ++ w31 a9 a10 a11 a12 a13 a14 a15 a16 a17 a18 a19 a20 a21 a22 a23 a24 a25 a26 a27 a28 a29 a30 a31 a32 a33 a34 a35 a36 a37 a38 a39 c10 c11 c12 c13 c14 c15 c16 c17 c18 c19 c20 c21 c22 c23 c24 c25 c26 c27 c28 c29 c30 c31 c32 c33 c34 c35 c36 c37 c38 c39) ++ [(a40, .inl (c40, 1, .inr (.inl (fun _ => 0))))]) H) (hD : va_D (kA base) ((w9 a0 a1 a2 a3 a4 a5 a6 a7 a8 c1 c2 c3 c4 c5 c6 c7 c8 ++ w31 a9 a10 a11 a12 a13 a14 a15 a16 a17 a18 a19 a20 a21 a22 a23 a24 a25 a26 a27 a28 a29 a30 a31 a32 a33 a34 a35 a36 a37 a38 a39 c10 c11 c12 c13 c14 c15 c16 c17 c18 c19 c20 c21 c22 c23 c24 c25 c26 c27 c28 c29 c30 c31 c32 c33 c34 c35 c36 c37 c38 c39) ++ [(a40, .inl (c40, 1, .inr (.inl (fun _ => 0))))])) : ∃ ad : Nat → Nat, ad 0 = a0 ∧ ad 9 = a9 ∧ ad 40 = a40 ∧ kW D cy base ad 0 0 g0 H := by
  have e1 : c1 = cy 0 := hG.int hK (k := 0) rfl
  have e2 : c2 = cy 0 := hG.int hK (k := 1) rfl
  have e3 : c3 = cy 0 := hG.int hK (k := 2) rfl
  have e4 : c4 = cy 0 := hG.int hK (k := 3) rfl
  have e5 : c5 = cy 0 := hG.int hK (k := 4) rfl
  have e8 : c8 = cy 0 := hG.int hK (k := 7) rfl
  have e10 : c10 = cy 0 := hG.int hK (k := 8) rfl
  have e11 : c11 = cy 0 := hG.int hK (k := 9) rfl
  have e12 : c12 = cy 0 := hG.int hK (k := 10) rfl
  have e13 : c13 = cy 0 := hG.int hK (k := 11) rfl
  have e14 : c14 = cy 0 := hG.int hK (k := 12) rfl
  have e15 : c15 = cy 0 := hG.int hK (k := 13) rfl
  have e16 : c16 = cy 0 := hG.int hK (k := 14) rfl
  have e17 : c17 = cy 0 := hG.int hK (k := 15) rfl
  have e18 : c18 = cy 0 := hG.int hK (k := 16) rfl
  have e19 : c19 = cy 0 := hG.int hK (k := 17) rfl
  have e20 : c20 = cy 0 := hG.int hK (k := 18) rfl
  have e21 : c21 = cy 0 := hG.int hK (k := 19) rfl
  have e22 : c22 = cy 0 := hG.int hK (k := 20) rfl
  have e23 : c23 = cy 0 := hG.int hK (k := 21) rfl
  have e24 : c24 = cy 0 := hG.int hK (k := 22) rfl
  have e26 : c26 = cy 0 := hG.int hK (k := 24) rfl
  have e27 : c27 = cy 0 := hG.int hK (k := 25) rfl
  have e28 : c28 = cy 0 := hG.int hK (k := 26) rfl
  have e29 : c29 = cy 0 := hG.int hK (k := 27) rfl
  have e30 : c30 = cy 0 := hG.int hK (k := 28) rfl
  have e31 : c31 = cy 0 := hG.int hK (k := 29) rfl
  have e32 : c32 = cy 0 := hG.int hK (k := 30) rfl
  have e33 : c33 = cy 0 := hG.int hK (k := 31) rfl
  have e34 : c34 = cy 0 := hG.int hK (k := 32) rfl
  have e35 : c35 = cy 0 := hG.int hK (k := 33) rfl
  have e36 : c36 = cy 0 := hG.int hK (k := 34) rfl
  have e37 : c37 = cy 0 := hG.int hK (k := 35) rfl
  have e38 : c38 = cy 0 := hG.int hK (k := 36) rfl
  have e39 : c39 = cy 0 := hG.int hK (k := 37) rfl
  clear hK hG
  rw [e1, e2, e3, e4, e5, e6, e7, e8, e10, e11, e12, e13, e14, e15, e16, e17, e18, e19, e20, e21, e22, e23, e24, e25, e26, e27, e28, e29, e30, e31, e32, e33, e34, e35, e36, e37, e38, e39, e40, stW_eq] at hP hD
  exact ⟨adW (stW cy a0 a1 a2 a3 a4 a5 a6 a7 a8 a9 a10 a11 a12 a13 a14 a15 a16 a17 a18 a19 a20 a21 a22 a23 a24 a25 a26 a27 a28 a29 a30 a31 a32 a33 a34 a35 a36 a37 a38 a39 a40), rfl, rfl, rfl, st_kW hP hD⟩
