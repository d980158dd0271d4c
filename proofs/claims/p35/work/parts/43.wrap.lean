/-! Methods with a table: begun, called, catching; tests as numbers. -/
theorem kx_methH {l : Launch} {y : MethodName} {ws ws' : List Cond} {rm : Room} {cc : ByteArray} {maxL : Nat} {ret : Option FieldType} {hh : List (Nat × Nat × Nat × Nat)} {D : va_G} {cy : Nat → ClassId} {base : Nat → Prop} {ad : Nat → Nat} {n nc : Nat} {g : sg} {as : List Value} {post : Option Value → kS → Prop} {X : String → Prop} {mc ms : Nat}
    (hy : plainName y.cls = true) (hwd : ws = Cond.codeWith y cc maxL ret hh :: ws') (has : (lg_sl as).length ≤ maxL)
    (body : ∀ (p : Program) (e : Env) (s : State) (m : MethodId) (args : Array Value) (below : List Frame) (meth : Method) (c : Code) (ls : Array Slot), p.tables.exec = Jvm.exec → c.code = cc → meth.sig.returnType = ret → c.maxLocals = maxL → s.vm.findClass y.cls = some m.cls → (∀ w ∈ ws, w.before args s = true) → meth.locks = false → c.exceptionTable.toList = tableOf hh → kG D cy base s → lv_has ls maxL (lv_args 0 as) →
      ∀ (Q : State → Prop) (H : Heap) (locs : List Loc), Q = kMQ D cy base ad n nc g below post X args s mc ms → kW D cy base ad n nc g H → va_S (kA base) s.heap H locs → W p l e rm s m args below meth c H locs 0 0 Q (F0 m 0 ls [])) : kM l y ws rm D cy base ad n nc g as post X mc ms := by
  refine vx_ofWH (cc := cc) (maxL := maxL) (ret := ret) (hh := hh) hy hwd ?_
  intro p e s m args below meth c s₁ B hml hv
  obtain ⟨rfl, hw, hG⟩ := hv
  have hl := lv_entry as (n := maxL) has
  have hts := atoms_spec (ws := ws) B.pre
  have ht := vx_table (x := y) B (hts _ (by rw [hwd]; exact List.mem_cons_self))
  rw [lg_entry_eq]
  exact body p e s m _ below meth c _ B.exec B.bytes B.returns hml (findClass_of_methodNamed B.named) hts B.notSynchronized ht hG hl _ _ _ rfl hw va_S.rf
theorem mIO : kIO ∈ [kIO, kIA, kIS] := List.mem_cons_self
theorem mIA : kIA ∈ [kIO, kIA, kIS] := List.mem_cons_of_mem _ List.mem_cons_self
theorem mIS : kIS ∈ [kIO, kIA, kIS] := List.mem_cons_of_mem _ (List.mem_cons_of_mem _ List.mem_cons_self)
theorem nAO : kIA ≠ kIO := by decide +kernel
theorem nSO : kIS ≠ kIO := by decide +kernel
theorem nSA : kIS ≠ kIA := by decide +kernel
section KH
variable {p : Program} {l : Launch} {e : Env} {R : Room} {s : State} {m : MethodId} {args : Array Value} {below : List Frame} {meth : Method} {c : Code} {H : Heap} {locs : List Loc} {cells slots : Nat} {Q : State → Prop}
variable {cc : ByteArray} {pc : Nat} {ls : Array Slot} {rest : List Value} {D : va_G} {cy : Nat → ClassId} {base : Nat → Prop} {ad ad' : Nat → Nat} {n nc n' nc' : Nat} {g g' : sg} {post1 : Option Value → kS → Prop} {X1 : String → Prop} {mc1 ms1 : Nat}
theorem kx_csH {y : MethodName} {bytes : ByteArray} {maxL nL nA index : Nat} {ret : Option FieldType} {hh : List (Nat × Nat × Nat × Nat)} {ws ws' : List Cond} {rm : Room} {Ts : List Cond} {own : String} {st0 : List Value} {As : List Value} (hF : CallFix p m c cc nL s args Ts own) (hG : kG D cy base s) (hw : kW D cy base ad n nc g H) (hS : va_S (kA base) s.heap H locs) (hsz : ls.size = nL)
    (hM : kM l y ws rm D cy base ad n nc g As post1 X1 mc1 ms1) (hT : GoodIn Ts (va_wsS own index y ws)) (hwd : ws = Cond.codeWith y bytes maxL ret hh :: ws') (hrc : rm.cells = mc1) (hrs : rm.slots = ms1)
    (hd : y.cls ≠ "java/lang/invoke/MethodHandle" ∧ y.cls ≠ "java/lang/invoke/VarHandle" ∧ (parseMethodDescriptor y.desc).map (fun d => d.parameters.length) = some nA) (hR : rm.frames + 1 ≤ R.frames ∧ 8 + (maxL + 11) + rm.locals ≤ R.locals)
    (hn : As.length = nA) (hst : st0 = As.reverse ++ rest) (hcat : (rest.map fun v => v.category).sum ≤ 8) (hdg : decode cc pc = .ok (.invokestatic index, 3)) (hf : cells + mc1 ≤ R.cells ∧ slots + ms1 ≤ R.slots) :
    vx_Run p l e R s m args below meth c H locs cells slots mc1 ms1 (F0 m pc ls st0) rest (kQ D cy base post1 As.toArray) (kX D cy base ad n nc g X1) (kA base) :=
  vx_runSX (hh := hh) (As := As) (rest := rest) hF hM (vx_cwSW nA hF.2.2.2.2 hT hwd hrc hrs hd hR) ⟨kPre.blind, kPre.at hG hw hS⟩ rfl hn hsz hst (lv_room hcat) hdg hf
theorem kx_cat0 {own E : String} {ce : Cell} {q : Addr} {a b h t : Nat} {hh : List (Nat × Nat × Nat × Nat)} (hown : s.vm.findClass own = some m.cls) (hG : kG D cy base s) (ht : c.exceptionTable.toList = tableOf ((a, b, h, t) :: hh)) (hcv : a ≤ pc ∧ pc < b) (h0 : t ≠ 0) (hE : E ∈ [kIO, kIA, kIS]) (hlink : (Cond.classLink own t E).before args s = true)
    (hcell : H[q]? = some ce) (hv : ce.vm = .none) (hcl : s.vm.findClass E = some ce.cls) (kk : W p l e R s m args below meth c H locs cells slots Q (F0 m h ls [.ref q])) : vx_W p l e R s m args below meth c H locs cells slots Q (F0 m pc ls rest) q :=
  vx_catch hown [] ⟨a, b, h, t⟩ (tableOf hh) ht (fun z hz => nomatch hz) (by show (decide (a ≤ pc) && decide (pc < b)) = true; rw [decide_eq_true hcv.1, decide_eq_true hcv.2]; rfl) h0 hlink (va_Nw.use rfl (hG.2.2.2.2.1 E hE)) hcell hv hcl kk
theorem kx_cat1 {own E E0 : String} {ce : Cell} {q : Addr} {a b h t a0 b0 h0 t0 : Nat} {hh : List (Nat × Nat × Nat × Nat)} (hown : s.vm.findClass own = some m.cls) (hG : kG D cy base s) (ht : c.exceptionTable.toList = tableOf ((a0, b0, h0, t0) :: (a, b, h, t) :: hh)) (hcv : a ≤ pc ∧ pc < b) (ht0 : t ≠ 0) (hE : E ∈ [kIO, kIA, kIS]) (hlink : (Cond.classLink own t E).before args s = true)
    (hE0 : E0 ∈ [kIO, kIA, kIS]) (hne : E ≠ E0) (hz0 : t0 ≠ 0) (hl0 : (Cond.classLink own t0 E0).before args s = true) (hcell : H[q]? = some ce) (hv : ce.vm = .none) (hcl : s.vm.findClass E = some ce.cls) (kk : W p l e R s m args below meth c H locs cells slots Q (F0 m h ls [.ref q])) : vx_W p l e R s m args below meth c H locs cells slots Q (F0 m pc ls rest) q :=
  vx_catch hown [⟨a0, b0, h0, t0⟩] ⟨a, b, h, t⟩ (tableOf hh) ht (fun z hz => by rcases List.mem_singleton.mp hz with rfl; exact Or.inr ⟨hz0, E0, hl0, hG.2.2.2.2.2.1 E hE E0 hE0 hne⟩) (by show (decide (a ≤ pc) && decide (pc < b)) = true; rw [decide_eq_true hcv.1, decide_eq_true hcv.2]; rfl) ht0 hlink (va_Nw.use rfl (hG.2.2.2.2.1 E hE)) hcell hv hcl kk
theorem kx_cat2 {own E E0 E1 : String} {ce : Cell} {q : Addr} {a b h t a0 b0 h0 t0 a1 b1 h1 t1 : Nat} {hh : List (Nat × Nat × Nat × Nat)} (hown : s.vm.findClass own = some m.cls) (hG : kG D cy base s) (ht : c.exceptionTable.toList = tableOf ((a0, b0, h0, t0) :: (a1, b1, h1, t1) :: (a, b, h, t) :: hh)) (hcv : a ≤ pc ∧ pc < b) (ht0 : t ≠ 0) (hE : E ∈ [kIO, kIA, kIS]) (hlink : (Cond.classLink own t E).before args s = true)
    (hE0 : E0 ∈ [kIO, kIA, kIS]) (hne : E ≠ E0) (hz0 : t0 ≠ 0) (hl0 : (Cond.classLink own t0 E0).before args s = true) (hE1 : E1 ∈ [kIO, kIA, kIS]) (hne1 : E ≠ E1) (hz1 : t1 ≠ 0) (hl1 : (Cond.classLink own t1 E1).before args s = true) (hcell : H[q]? = some ce) (hv : ce.vm = .none) (hcl : s.vm.findClass E = some ce.cls) (kk : W p l e R s m args below meth c H locs cells slots Q (F0 m h ls [.ref q])) : vx_W p l e R s m args below meth c H locs cells slots Q (F0 m pc ls rest) q :=
  vx_catch hown [⟨a0, b0, h0, t0⟩, ⟨a1, b1, h1, t1⟩] ⟨a, b, h, t⟩ (tableOf hh) ht (fun z hz => by
    rcases List.mem_cons.mp hz with rfl | hz
    · exact Or.inr ⟨hz0, E0, hl0, hG.2.2.2.2.2.1 E hE E0 hE0 hne⟩
    · rcases List.mem_singleton.mp hz with rfl
      exact Or.inr ⟨hz1, E1, hl1, hG.2.2.2.2.2.1 E hE E1 hE1 hne1⟩) (by show (decide (a ≤ pc) && decide (pc < b)) = true; rw [decide_eq_true hcv.1, decide_eq_true hcv.2]; rfl) ht0 hlink (va_Nw.use rfl (hG.2.2.2.2.1 E hE)) hcell hv hcl kk
/-- x != 0 as a number; a truth value as a long; two longs that are the same -/
theorem kx_nz (hexec : p.tables.exec = Jvm.exec) (hb : c.code = cc) {x : Int32} (d0 : decode cc pc = .ok (.ifCond .eq 7, 3)) (d3 : decode cc (pc + 3) = .ok (.iconst 1, 1)) (d4 : decode cc (pc + 4) = .ok (.goto 4, 3)) (d7 : decode cc (pc + 7) = .ok (.iconst 0, 1))
    (kk : W p l e R s m args below meth c H locs cells slots Q (F0 m (pc + 8) ls (.int (b2 (!decide (x = 0))) :: rest))) : W p l e R s m args below meth c H locs cells slots Q (F0 m pc ls (.int x :: rest)) := by
  refine lv_if_eq (tgt := pc + 7) hexec hb d0 (by omega) (fun h => ?_) (fun h => ?_)
  · rw [decide_eq_true h] at kk
    exact lv_iconst (v := 0) hexec hb d7 (by decide) kk
  · rw [decide_eq_false h] at kk
    refine lv_iconst (v := 1) hexec hb d3 (by decide) ?_
    exact lv_goto (tgt := pc + 8) hexec hb d4 (by omega) kk
end KH
/-- what was thrown, by the code of refusal -/
theorem ex_1 {a : Bool} {E : String} (h : kEx (kd1 a) E) : E = kIO ∧ kd1 a = 1 := by
  rcases h with ⟨h1, h2⟩ | ⟨h1, h2⟩ | ⟨h1, h2⟩
  · exact ⟨h1, h2⟩
  · exfalso; revert h2; cases a <;> decide
  · exfalso; revert h2; cases a <;> decide
theorem ex_1e2 {a : Bool} {E : String} (h : kEx (e2 (kd1 a)) E) : E = kIA ∧ kd1 a = 1 := by
  rcases h with ⟨h1, h2⟩ | ⟨h1, h2⟩ | ⟨h1, h2⟩
  · exfalso; revert h2; cases a <;> decide
  · exact ⟨h1, by revert h2; cases a <;> decide⟩
  · exfalso; revert h2; cases a <;> decide
theorem ex_2 {a b : Bool} {E : String} (h : kEx (kd2 a b) E) : (E = kIO ∧ kd2 a b = 1) ∨ (E = kIA ∧ kd2 a b = 2) := by
  rcases h with ⟨h1, h2⟩ | ⟨h1, h2⟩ | ⟨h1, h2⟩
  · exact Or.inl ⟨h1, h2⟩
  · exact Or.inr ⟨h1, h2⟩
  · exfalso; revert h2; cases a <;> cases b <;> decide
theorem ex_2e13 {a b : Bool} {E : String} (h : kEx (e13 (kd2 a b)) E) : (E = kIO ∧ kd2 a b = 1) ∨ (E = kIS ∧ kd2 a b = 2) := by
  rcases h with ⟨h1, h2⟩ | ⟨h1, h2⟩ | ⟨h1, h2⟩
  · exact Or.inl ⟨h1, by revert h2; cases a <;> cases b <;> decide⟩
  · exfalso; revert h2; cases a <;> cases b <;> decide
  · exact Or.inr ⟨h1, by revert h2; cases a <;> cases b <;> decide⟩
theorem ex_2e23 {a b : Bool} {E : String} (h : kEx (e23 (kd2 a b)) E) : (E = kIA ∧ kd2 a b = 1) ∨ (E = kIS ∧ kd2 a b = 2) := by
  rcases h with ⟨h1, h2⟩ | ⟨h1, h2⟩ | ⟨h1, h2⟩
  · exfalso; revert h2; cases a <;> cases b <;> decide
  · exact Or.inl ⟨h1, by revert h2; cases a <;> cases b <;> decide⟩
  · exact Or.inr ⟨h1, by revert h2; cases a <;> cases b <;> decide⟩
theorem ex_3 {a b c : Bool} {E : String} (h : kEx (kd3 a b c) E) : (E = kIO ∧ kd3 a b c = 1) ∨ (E = kIA ∧ kd3 a b c = 2) ∨ (E = kIS ∧ kd3 a b c = 3) := h
/-! the law's own rows -/
theorem ex_kW {D : va_G} {cy : Nat → ClassId} {base : Nat → Prop} {ad : Nat → Nat} {n nc : Nat} {g : sg} {H : Heap} (h : kWt D cy base (ad, n, nc, g) H) : ∃ gB : sg, gB = g ∧ kW D cy base ad n nc gB H := ⟨g, rfl, h⟩
theorem ix_k {i k L : Nat} (h : i + k < L) (hL : L ≤ 4096) : vp_in (nI i + nI k) L := by
  rw [nI_add]
  exact vp_in_nI h (by omega)
theorem cl_k {i k : Nat} (h : i + k < 5000) : (nI i + nI k).toNatClampNeg = i + k := by
  rw [nI_add]
  exact cl_nI (by omega)
section KA
variable {p : Program} {l : Launch} {e : Env} {R : Room} {s : State} {m : MethodId} {args : Array Value} {below : List Frame} {meth : Method} {c : Code} {H : Heap} {locs : List Loc} {cells slots : Nat} {Q : State → Prop}
variable {cc : ByteArray} {pc : Nat} {ls : Array Slot} {rest : List Value} {D : va_G} {cy : Nat → ClassId} {base : Nat → Prop} {ad : Nat → Nat} {n nc : Nat} {g : sg} {mc1 ms1 : Nat} {st0 : List Value} {a : Array Value} {b i L : Nat} {xs : Nat → Int32}
/-- a wrapper's call: its answer by a name -/
theorem kx_callW {K : Int32} {B : kS → Prop} (hr : vx_Run p l e R s m args below meth c H locs cells slots mc1 ms1 (F0 m pc ls st0) rest (kQ D cy base (fun v u => v = some (.int K) ∧ B u) a) (kX D cy base ad n nc g kNo) (kA base)) (hS : va_S (kA base) s.heap H locs)
    (kk : ∀ (K' : Int32) (u : kS) (H1 : Heap) (locs1 : List Loc), K' = K → B u → kWt D cy base u H1 → va_S (kA base) s.heap H1 locs1 → W p l e R s m args below meth c H1 locs1 (cells + mc1) (slots + ms1) Q (F0 m (pc + 3) ls (.int K' :: rest))) : W p l e R s m args below meth c H locs cells slots Q (F0 m pc ls st0) :=
  kx_call hr hS (fun _ _ _ _ _ h => h.elim) (fun v u H1 locs1 hp hw hS1 => by
    obtain ⟨rfl, hB⟩ := hp
    exact kk K u H1 locs1 rfl hB hw hS1)
/-- a call of the reference: answer and store by names -/
theorem kx_doV {v0 : Int32} {g1 : sg} (hr : vx_Run p l e R s m args below meth c H locs cells slots 0 0 (F0 m pc ls st0) rest (kQ D cy base (kD True (some (.int v0)) ad n nc g1) a) (kX D cy base ad n nc g kNo) (kA base)) (hS : va_S (kA base) s.heap H locs)
    (kk : ∀ (v' : Int32) (g' : sg), v' = v0 → g' = g1 → ∀ (H1 : Heap) (locs1 : List Loc), kW D cy base ad n nc g' H1 → va_S (kA base) s.heap H1 locs1 → W p l e R s m args below meth c H1 locs1 cells slots Q (F0 m (pc + 3) ls (.int v' :: rest))) : W p l e R s m args below meth c H locs cells slots Q (F0 m pc ls st0) :=
  kx_do0 (st1 := .int v0 :: rest) hr hS rfl (fun H1 locs1 hw hS1 => kk v0 g1 rfl rfl H1 locs1 hw hS1)
end KA
