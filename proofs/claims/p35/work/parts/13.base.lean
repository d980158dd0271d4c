/-! Truth values as numbers; branches; ends; what the program lays around every walk. -/
def b2 (b : Bool) : Int32 := if b = true then 1 else 0
theorem b2_t : b2 true = 1 := rfl
theorem b2_f : b2 false = 0 := rfl
theorem b2_0 {b : Bool} : b2 b = 0 ↔ b = false := by cases b <;> simp [b2]
theorem b2_1 {b : Bool} : b2 b = 1 ↔ b = true := by cases b <;> simp [b2]
theorem nar_b2 (b : Bool) : narrow .boolean (.int (b2 b)) = .int (b2 b) := by cases b <;> rfl
theorem fit_b2 (b : Bool) : fits .boolean (.int (b2 b)) = true := by cases b <;> rfl
def inn (v a b : Int32) : Bool := decide (a ≤ v) && decide (v ≤ b)
theorem kd_i {ok : Prop} {ad : Nat → Nat} {n nc : Nat} {R r : Int32} {G G' : sg} (h1 : ok) (h2 : R = r) (h3 : G' = G) : kD ok (some (.int R)) ad n nc G' (some (.int r)) (ad, n, nc, G) := ⟨h1, by rw [h2], by rw [h3]⟩
theorem kd_v {ok : Prop} {ad : Nat → Nat} {n nc : Nat} {G G' : sg} (h1 : ok) (h3 : G' = G) : kD ok none ad n nc G' none (ad, n, nc, G) := ⟨h1, rfl, by rw [h3]⟩
theorem kd_a {ok : Prop} {ad : Nat → Nat} {n nc A a : Nat} {G G' : sg} (h1 : ok) (h2 : A = a) (h3 : G' = G) : kD ok (some (.ref A)) ad n nc G' (some (.ref a)) (ad, n, nc, G) := ⟨h1, by rw [h2], by rw [h3]⟩
def kEx (k : Int32) : String → Prop := fun E => (E = kIO ∧ k = 1) ∨ (E = kIA ∧ k = 2) ∨ (E = kIS ∧ k = 3)
theorem kEx_1 {k : Int32} (h : k = 1) : kEx k kIO := Or.inl ⟨rfl, h⟩
theorem kEx_2 {k : Int32} (h : k = 2) : kEx k kIA := Or.inr (Or.inl ⟨rfl, h⟩)
theorem kEx_3 {k : Int32} (h : k = 3) : kEx k kIS := Or.inr (Or.inr ⟨rfl, h⟩)
theorem ix_of {x N : Int32} {L : Nat} (h0 : ¬ x < 0) (h1 : ¬ N ≤ x) (hN : N = nI L) (hL : L < 2 ^ 31) : vp_in x L := by
  subst hN
  rw [vp_in_iff]
  rw [Int32.le_iff_toInt_le, nI_toInt hL] at h1
  rw [Int32.lt_iff_toInt_lt, Int32.toInt_zero] at h0
  omega
theorem le_nI {a b : Nat} (h : nI a ≤ nI b) (ha : a < 2 ^ 31) (hb : b < 2 ^ 31) : a ≤ b := (nI_leI ha hb).mp h
theorem lt_nI {a b : Nat} (h : ¬ nI a ≤ nI b) (ha : a < 2 ^ 31) (hb : b < 2 ^ 31) : b < a := Nat.not_le.mp (fun q => h ((nI_leI ha hb).mpr q))
theorem kx_lv {ls : Array Slot} {nL : Nat} {l l' : List (Nat × Value)} (h : lv_has ls nL l) (e : l = l') : lv_has ls nL l' := e ▸ h
section KB
variable {p : Program} {l : Launch} {e : Env} {R : Room} {s : State} {m : MethodId} {args : Array Value} {below : List Frame} {meth : Method} {c : Code} {H : Heap} {locs : List Loc} {cells slots : Nat} {Q : State → Prop}
variable {cc : ByteArray} {pc : Nat} {ls : Array Slot} {rest : List Value}
theorem kx_top {v v' : Int32} (h : v = v') (k : W p l e R s m args below meth c H locs cells slots Q (F0 m pc ls (.int v :: rest))) : W p l e R s m args below meth c H locs cells slots Q (F0 m pc ls (.int v' :: rest)) := h ▸ k
theorem kb_eq (hexec : p.tables.exec = Jvm.exec) (hb : c.code = cc) {b : Bool} {off : Int} {tgt : Nat} (hdg : decode cc pc = .ok (.ifCond .eq off, 3)) (ht : (pc : Int) + off = (tgt : Int))
    (kt : b = false → W p l e R s m args below meth c H locs cells slots Q (F0 m tgt ls rest)) (kf : b = true → W p l e R s m args below meth c H locs cells slots Q (F0 m (pc + 3) ls rest)) : W p l e R s m args below meth c H locs cells slots Q (F0 m pc ls (.int (b2 b) :: rest)) :=
  lv_if_eq hexec hb hdg ht (fun h => kt (b2_0.mp h)) (fun h => kf (by cases b with | false => exact absurd rfl h | true => rfl))
theorem kb_ne (hexec : p.tables.exec = Jvm.exec) (hb : c.code = cc) {b : Bool} {off : Int} {tgt : Nat} (hdg : decode cc pc = .ok (.ifCond .ne off, 3)) (ht : (pc : Int) + off = (tgt : Int))
    (kt : b = true → W p l e R s m args below meth c H locs cells slots Q (F0 m tgt ls rest)) (kf : b = false → W p l e R s m args below meth c H locs cells slots Q (F0 m (pc + 3) ls rest)) : W p l e R s m args below meth c H locs cells slots Q (F0 m pc ls (.int (b2 b) :: rest)) :=
  lv_if_ne hexec hb hdg ht (fun h => kt (by cases b with | false => exact absurd rfl h | true => rfl)) (fun h => kf (b2_0.mp h))
/-- a tableswitch from 0 on -/
theorem kx_sw (hexec : p.tables.exec = Jvm.exec) (hb : c.code = cc) {dflt hi : Int} {offs : Array Int} {len N tgt : Nat} {x : Int32} (hdg : decode cc pc = .ok (.tableswitch dflt 0 hi offs, len)) (hN : hi = (N : Int)) (ht : (pc : Int) + dflt = (tgt : Int)) (hL : N < 2 ^ 30)
    (kd : (∀ j, j ≤ N → ¬ x = nI j) → W p l e R s m args below meth c H locs cells slots Q (F0 m tgt ls rest)) (kt : ∀ j, j ≤ N → x = nI j → ∃ (off : Int) (tg : Nat), offs[j]? = some off ∧ (pc : Int) + off = (tg : Int) ∧ W p l e R s m args below meth c H locs cells slots Q (F0 m tg ls rest)) : W p l e R s m args below meth c H locs cells slots Q (F0 m pc ls (.int x :: rest)) := by
  subst hN
  by_cases h : x.toInt < 0 ∨ (N : Int) < x.toInt
  · refine lv_tableOut hexec hb hdg h ht (kd fun j hj e => ?_)
    subst e
    rw [nI_toInt (by omega)] at h
    omega
  · have h1 : ¬ x.toInt < 0 := fun q => h (Or.inl q)
    have h2 : ¬ (N : Int) < x.toInt := fun q => h (Or.inr q)
    have hv : vp_in x (N + 1) := vp_in_iff.mpr ⟨by omega, by omega⟩
    obtain ⟨j, hj, rfl⟩ := vp_in_of hv (by omega)
    obtain ⟨off, tg, h3, h4, k⟩ := kt j (by omega) rfl
    refine lv_tableIn hexec hb hdg h1 h2 ?_ h4 k
    rw [nI_toInt (by omega), ← h3]
    congr 1
end KB
theorem xb_IO : ∀ w ∈ (vx_atS "Lostroom" 70 kIO kNm).filter (fun w => !goodWord w), w ∈ kBad kIO := by decide +kernel
theorem xg_IO : ∀ w ∈ Cond.classLink "Lostroom" 66 kIO :: Cond.initialized kIO :: vx_atS "Lostroom" 70 kIO kNm, vx_ot w = true := by decide +kernel
theorem xf_IO : Bundle.fit kIO = true := by decide +kernel
theorem xb_IA : ∀ w ∈ (vx_atS "Lostroom" 81 kIA kNm).filter (fun w => !goodWord w), w ∈ kBad kIA := by decide +kernel
theorem xg_IA : ∀ w ∈ Cond.classLink "Lostroom" 77 kIA :: Cond.initialized kIA :: vx_atS "Lostroom" 81 kIA kNm, vx_ot w = true := by decide +kernel
theorem xf_IA : Bundle.fit kIA = true := by decide +kernel
theorem xb_IS : ∀ w ∈ (vx_atS "Lostroom" 94 kIS kNm).filter (fun w => !goodWord w), w ∈ kBad kIS := by decide +kernel
theorem xg_IS : ∀ w ∈ Cond.classLink "Lostroom" 90 kIS :: Cond.initialized kIS :: vx_atS "Lostroom" 94 kIS kNm, vx_ot w = true := by decide +kernel
theorem xf_IS : Bundle.fit kIS = true := by decide +kernel
section KT
variable {p : Program} {l : Launch} {e : Env} {R : Room} {s : State} {m : MethodId} {args : Array Value} {below : List Frame} {meth : Method} {c : Code} {H : Heap} {locs : List Loc} {cells slots : Nat} {Q : State → Prop}
variable {cc : ByteArray} {pc : Nat} {ls : Array Slot} {rest : List Value} {D : va_G} {cy : Nat → ClassId} {base : Nat → Prop} {ad : Nat → Nat} {n nc : Nat} {g : sg} {post : Option Value → kS → Prop} {X : String → Prop} {mc ms : Nat}
theorem kx_throwIO (hQ : Q = kMQ D cy base ad n nc g below post X args s mc ms) (hexec : p.tables.exec = Jvm.exec) (hb : c.code = cc) (hl : l.stackTraces = false) (hown : s.vm.findClass "Lostroom" = some m.cls) (hG : kG D cy base s) (hw : kW D cy base ad n nc g H) (hS : va_S (kA base) s.heap H locs) {text : String} {is : Nat} (wide : Bool)
    (hstr : (is, text) ∈ kStr) (hk : (Cond.classLink "Lostroom" 66 kIO).before args s = true) (hini : (Cond.initialized kIO).before args s = true) (hat : ∀ w ∈ (vx_atS "Lostroom" 70 kIO kNm).filter goodWord, w.before args s = true) (hX : X kIO) (hsize : ls.size = c.maxLocals) (hT : ∀ x ∈ c.exceptionTable.toList, False) {w : Nat} (hwd : w = if wide = true then 3 else 2)
    (d0 : decode cc pc = .ok (.new 66, 3)) (d3 : decode cc (pc + 3) = .ok (.dup, 1)) (d4 : decode cc (pc + 4) = .ok (if wide = true then .ldc_w is else .ldc is, w)) (d6 : decode cc (pc + 4 + w) = .ok (.invokespecial 70, 3)) (d9 : decode cc (pc + 4 + w + 3) = .ok (.athrow, 1))
    (hR : 5 < R.frames ∧ (rest.map fun v => v.category).sum + 82 ≤ R.locals ∧ cells + 1 ≤ R.cells ∧ slots + 6 ≤ R.slots) (hlocks : meth.locks = false) (hc : cells + 1 ≤ mc) (hs : slots + 6 ≤ ms) :
    W p l e R s m args below meth c H locs cells slots Q (F0 m pc ls rest) :=
  kx_throw hQ hexec hb hl hown hG hw hS wide (List.mem_cons_self) hstr xf_IO hk hini hat xb_IO xg_IO hX hsize hT hwd d0 d3 d4 d6 d9 hR hlocks hc hs
theorem kx_throwIA (hQ : Q = kMQ D cy base ad n nc g below post X args s mc ms) (hexec : p.tables.exec = Jvm.exec) (hb : c.code = cc) (hl : l.stackTraces = false) (hown : s.vm.findClass "Lostroom" = some m.cls) (hG : kG D cy base s) (hw : kW D cy base ad n nc g H) (hS : va_S (kA base) s.heap H locs) {text : String} {is : Nat} (wide : Bool)
    (hstr : (is, text) ∈ kStr) (hk : (Cond.classLink "Lostroom" 77 kIA).before args s = true) (hini : (Cond.initialized kIA).before args s = true) (hat : ∀ w ∈ (vx_atS "Lostroom" 81 kIA kNm).filter goodWord, w.before args s = true) (hX : X kIA) (hsize : ls.size = c.maxLocals) (hT : ∀ x ∈ c.exceptionTable.toList, False) {w : Nat} (hwd : w = if wide = true then 3 else 2)
    (d0 : decode cc pc = .ok (.new 77, 3)) (d3 : decode cc (pc + 3) = .ok (.dup, 1)) (d4 : decode cc (pc + 4) = .ok (if wide = true then .ldc_w is else .ldc is, w)) (d6 : decode cc (pc + 4 + w) = .ok (.invokespecial 81, 3)) (d9 : decode cc (pc + 4 + w + 3) = .ok (.athrow, 1))
    (hR : 5 < R.frames ∧ (rest.map fun v => v.category).sum + 82 ≤ R.locals ∧ cells + 1 ≤ R.cells ∧ slots + 6 ≤ R.slots) (hlocks : meth.locks = false) (hc : cells + 1 ≤ mc) (hs : slots + 6 ≤ ms) :
    W p l e R s m args below meth c H locs cells slots Q (F0 m pc ls rest) :=
  kx_throw hQ hexec hb hl hown hG hw hS wide (List.mem_cons_of_mem _ List.mem_cons_self) hstr xf_IA hk hini hat xb_IA xg_IA hX hsize hT hwd d0 d3 d4 d6 d9 hR hlocks hc hs
theorem kx_throwIS (hQ : Q = kMQ D cy base ad n nc g below post X args s mc ms) (hexec : p.tables.exec = Jvm.exec) (hb : c.code = cc) (hl : l.stackTraces = false) (hown : s.vm.findClass "Lostroom" = some m.cls) (hG : kG D cy base s) (hw : kW D cy base ad n nc g H) (hS : va_S (kA base) s.heap H locs) {text : String} {is : Nat} (wide : Bool)
    (hstr : (is, text) ∈ kStr) (hk : (Cond.classLink "Lostroom" 90 kIS).before args s = true) (hini : (Cond.initialized kIS).before args s = true) (hat : ∀ w ∈ (vx_atS "Lostroom" 94 kIS kNm).filter goodWord, w.before args s = true) (hX : X kIS) (hsize : ls.size = c.maxLocals) (hT : ∀ x ∈ c.exceptionTable.toList, False) {w : Nat} (hwd : w = if wide = true then 3 else 2)
    (d0 : decode cc pc = .ok (.new 90, 3)) (d3 : decode cc (pc + 3) = .ok (.dup, 1)) (d4 : decode cc (pc + 4) = .ok (if wide = true then .ldc_w is else .ldc is, w)) (d6 : decode cc (pc + 4 + w) = .ok (.invokespecial 94, 3)) (d9 : decode cc (pc + 4 + w + 3) = .ok (.athrow, 1))
    (hR : 5 < R.frames ∧ (rest.map fun v => v.category).sum + 82 ≤ R.locals ∧ cells + 1 ≤ R.cells ∧ slots + 6 ≤ R.slots) (hlocks : meth.locks = false) (hc : cells + 1 ≤ mc) (hs : slots + 6 ≤ ms) :
    W p l e R s m args below meth c H locs cells slots Q (F0 m pc ls rest) :=
  kx_throw hQ hexec hb hl hown hG hw hS wide (List.mem_cons_of_mem _ (List.mem_cons_of_mem _ List.mem_cons_self)) hstr xf_IS hk hini hat xb_IS xg_IS hX hsize hT hwd d0 d3 d4 d6 d9 hR hlocks hc hs
end KT
