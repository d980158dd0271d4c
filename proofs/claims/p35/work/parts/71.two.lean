/-! Two objects side by side: a call of one leaves the other as it is. -/
def kD2 (cy : Nat → ClassId) (u1 u2 : kS) : Prop := ∀ (j k : Nat) (ej ek : kE), kC cy u1.1 u1.2.1 u1.2.2.1 u1.2.2.2 j = some ej → kC cy u2.1 u2.2.1 u2.2.2.1 u2.2.2.2 k = some ek → u1.1 j ≠ u2.1 k
theorem kD2.sy {cy : Nat → ClassId} {u1 u2 : kS} (h : kD2 cy u1 u2) : kD2 cy u2 u1 := fun j k ej ek h1 h2 q => h k j ek ej h2 h1 q.symm
/-- the cells of one, and what is new -/
def kOw (cy : Nat → ClassId) (u : kS) (z : Nat) : Nat → Prop := fun q => (∃ (k : Nat) (e : kE), kC cy u.1 u.2.1 u.2.2.1 u.2.2.2 k = some e ∧ q = u.1 k) ∨ z ≤ q
theorem kW.own {D cy base} {u : kS} {H : Heap} (h : kWt D cy base u H) : kWt D cy (kOw cy u H.size) u H := ⟨fun k e hk => ⟨(h.1 k e hk).1, Or.inl ⟨k, e, hk, rfl⟩⟩, h.2⟩
theorem kW.wide {D cy} {base base' : Nat → Prop} {u : kS} {H : Heap} (h : kWt D cy base u H) (hb : ∀ q, base q → base' q) : kWt D cy base' u H := ⟨fun k e hk => ⟨(h.1 k e hk).1, hb _ (h.1 k e hk).2⟩, h.2⟩
theorem kG.narrow {D : va_G} {cy : Nat → ClassId} {base base' : Nat → Prop} {U : State} (h : kG D cy base U) (hb : ∀ q, base' q → base q) (hz : ∀ q : Nat, U.heap.size ≤ q → base' q) : kG D cy base' U := by
  obtain ⟨h1, h2, h3, h4, h5, h6, h7, h8⟩ := h
  exact ⟨h1, h2.narrow hb, h3.narrow hb, h4, h5, h6, h7, hz⟩
/-- one in the store g, one in the store h, but for the scores' rows -/
def k2 (D : va_G) (cy : Nat → ClassId) (base : Nat → Prop) (ad : Nat → Nat) (n nc : Nat) (g : sg) (ae : Nat → Nat) (n2 nc2 : Nat) (h : sg) (H : Heap) : Prop := ∃ g1 g2 : sg, E8 g g1 ∧ E8 h g2 ∧ kWt D cy base (ad, n, nc, g1) H ∧ kWt D cy base (ae, n2, nc2, g2) H ∧ kD2 cy (ad, n, nc, g1) (ae, n2, nc2, g2)
theorem k2.sy {D cy base ad n nc g ae n2 nc2 h} {H : Heap} (w : k2 D cy base ad n nc g ae n2 nc2 h H) : k2 D cy base ae n2 nc2 h ad n nc g H := by
  obtain ⟨g1, g2, e1, e2, w1, w2, d⟩ := w
  exact ⟨g2, g1, e2, e1, w2, w1, d.sy⟩
theorem k2.to {D cy base ad n nc g ae n2 nc2 h} {H : Heap} {g' h' : sg} (w : k2 D cy base ad n nc g ae n2 nc2 h H) (e1 : E8 g' g) (e2 : E8 h' h) : k2 D cy base ad n nc g' ae n2 nc2 h' H := by
  obtain ⟨g1, g2, a, b, w1, w2, d⟩ := w
  exact ⟨g1, g2, e1.tr a, e2.tr b, w1, w2, d⟩
section K2
variable {p : Program} {l : Launch} {e : Env} {R : Room} {s : State} {m : MethodId} {args : Array Value} {below : List Frame} {meth : Method} {c : Code} {H : Heap} {locs : List Loc} {cells slots : Nat} {Q : State → Prop}
variable {cc : ByteArray} {pc : Nat} {ls : Array Slot} {rest : List Value} {D : va_G} {cy : Nat → ClassId} {base : Nat → Prop} {ad ae : Nat → Nat} {n nc n2 nc2 : Nat} {g h : sg}
variable {y : MethodName} {bytes : ByteArray} {maxL nL nA index mc1 ms1 : Nat} {ret : Option FieldType} {hh : List (Nat × Nat × Nat × Nat)} {ws ws' : List Cond} {rm : Room} {Ts : List Cond} {own : String} {st0 : List Value} {a : Array Value} {As : List Value} {P : sg → Option Value → kS → Prop}
theorem k2_core (hG : kG D cy base s) (hS : va_S (kA base) s.heap H locs) (hw : k2 D cy base ad n nc g ae n2 nc2 h H)
    (hrun : ∀ (b' : Nat → Prop) (g1 : sg), E8 g g1 → kW D cy b' ad n nc g1 H → (∀ U : State, U.heap = H → s.WarmedH U.vm → kG D cy b' U) → vx_Run p l e R s m args below meth c H locs cells slots mc1 ms1 (F0 m pc ls st0) rest (kQ D cy b' (P g1) a) (kX D cy b' ad n nc g1 kNo) (kA b'))
    (kk : ∀ (g1 : sg) (v : Option Value) (u : kS) (H1 : Heap) (locs1 : List Loc), E8 g g1 → P g1 v u → (∀ g' : sg, E8 g' u.2.2.2 → k2 D cy base u.1 u.2.1 u.2.2.1 g' ae n2 nc2 h H1) → va_S (kA base) s.heap H1 locs1 → W p l e R s m args below meth c H1 locs1 (cells + mc1) (slots + ms1) Q (F0 m (pc + 3) ls (v.toList ++ rest))) : W p l e R s m args below meth c H locs cells slots Q (F0 m pc ls st0) := by
  obtain ⟨g1, g2, e1, e2, w1, w2, d⟩ := hw
  have hsub : ∀ q, kOw cy (ad, n, nc, g1) H.size q → base q := by
    rintro q (⟨k, ek, hk, rfl⟩ | hq)
    · exact (w1.1 k ek hk).2
    · exact hG.2.2.2.2.2.2.2 q (Nat.le_trans hS.1 hq)
  have hr := hrun (kOw cy (ad, n, nc, g1) H.size) g1 e1 (kW.own w1) (fun U hU hW => (hG.warm hW hU hS).narrow hsub (fun q hq => Or.inr (by rw [← hU]; exact hq)))
  intro T hT X
  rcases hr T hT X with ⟨v, st₀, t, T', L, h0, X', hL, f1, f2, ⟨⟨v', u, hv, hp, hb⟩, hF⟩, st⟩ | ⟨q, st₀, t, T', L, E, ce, h0, X', hL, f1, f2, ⟨hp, -⟩, -⟩
  · cases hv
    obtain ⟨-, -, k3⟩ := vx_keep h0 f1 hS (fun q _ hq => hsub q hq) (fun q hq => hsub q hq) hL hF
    have keep : ∀ q : Nat, q < H.size → ¬ kOw cy (ad, n, nc, g1) H.size q → T'.heap[q]? = H[q]? := fun q h1 h2 => by
      rw [f1, ← h0]
      exact hF.2 q (by rw [h0]; exact h1) h2
    have w2' : kWt D cy base (ae, n2, nc2, g2) T'.heap := ⟨fun k ek hk => by
      obtain ⟨b1, b2⟩ := w2.1 k ek hk
      refine ⟨b1.kept (keep _ b1.lt ?_), b2⟩
      rintro (⟨j, ej, hj, q⟩ | q)
      · exact d j k ej ek hj hk q.symm
      · exact absurd b1.lt (Nat.not_lt.mpr q), w2.2⟩
    have w1' : kWt D cy base u T'.heap := by
      rw [f1]
      exact kW.wide hb hsub
    have d' : kD2 cy u (ae, n2, nc2, g2) := by
      intro j k ej ek hj hk q
      obtain ⟨b1, b2⟩ := w2.1 k ek hk
      rcases (hb.1 j ej hj).2 with ⟨i, ei, hi, z⟩ | z
      · exact d i k ei ek hi hk (z.symm.trans q)
      · rw [q] at z
        exact absurd b1.lt (Nat.not_lt.mpr z)
    obtain ⟨t2, a1, b1⟩ := kk g1 v u T'.heap (locs ++ L) e1 hp (fun g' hg' => ⟨u.2.2.2, g2, hg', e2, w1', w2', d'⟩) k3 T' rfl X'
    exact ⟨t2, st t2 a1, b1⟩
  · exact hp.elim
theorem k2_sT (hF : CallFix p m c cc nL s args Ts own) (hsz : ls.size = nL) (hM : ∀ (b' : Nat → Prop) (g1 : sg), E8 g g1 → kM l y ws rm D cy b' ad n nc g1 As (P g1) kNo mc1 ms1) (hT : GoodIn Ts (va_wsS own index y ws)) (hwd : ws = Cond.codeWith y bytes maxL ret hh :: ws') (hrc : rm.cells = mc1) (hrs : rm.slots = ms1)
    (hd : y.cls ≠ "java/lang/invoke/MethodHandle" ∧ y.cls ≠ "java/lang/invoke/VarHandle" ∧ (parseMethodDescriptor y.desc).map (fun d => d.parameters.length) = some nA) (hR : rm.frames + 1 ≤ R.frames ∧ 8 + (maxL + 11) + rm.locals ≤ R.locals)
    (hn : As.length = nA) (hst : st0 = As.reverse ++ rest) (hcat : (rest.map fun v => v.category).sum ≤ 8) (hdg : decode cc pc = .ok (.invokestatic index, 3)) (hf : cells + mc1 ≤ R.cells ∧ slots + ms1 ≤ R.slots) :
    ∀ (b' : Nat → Prop) (g1 : sg), E8 g g1 → kW D cy b' ad n nc g1 H → (∀ U : State, U.heap = H → s.WarmedH U.vm → kG D cy b' U) → vx_Run p l e R s m args below meth c H locs cells slots mc1 ms1 (F0 m pc ls st0) rest (kQ D cy b' (P g1) As.toArray) (kX D cy b' ad n nc g1 kNo) (kA b') :=
  fun b' g1 he hw' hG' => vx_runSX (hh := hh) (As := As) (rest := rest) hF (hM b' g1 he) (vx_cwSW nA hF.2.2.2.2 hT hwd hrc hrs hd hR) ⟨kPre.blind, fun U hU hW => ⟨rfl, by rw [hU]; exact hw', hG' U hU hW⟩⟩ rfl hn hsz hst (lv_room hcat) hdg hf
theorem k2_sN (hF : CallFix p m c cc nL s args Ts own) (hsz : ls.size = nL) (hM : ∀ (b' : Nat → Prop) (g1 : sg), E8 g g1 → kM l y ws rm D cy b' ad n nc g1 As (P g1) kNo mc1 ms1) (hT : GoodIn Ts (va_wsS own index y ws)) (hwd : ws = Cond.code y bytes maxL ret :: ws') (hrc : rm.cells = mc1) (hrs : rm.slots = ms1)
    (hd : y.cls ≠ "java/lang/invoke/MethodHandle" ∧ y.cls ≠ "java/lang/invoke/VarHandle" ∧ (parseMethodDescriptor y.desc).map (fun d => d.parameters.length) = some nA) (hR : rm.frames + 1 ≤ R.frames ∧ 8 + (maxL + 11) + rm.locals ≤ R.locals)
    (hn : As.length = nA) (hst : st0 = As.reverse ++ rest) (hcat : (rest.map fun v => v.category).sum ≤ 8) (hdg : decode cc pc = .ok (.invokestatic index, 3)) (hf : cells + mc1 ≤ R.cells ∧ slots + ms1 ≤ R.slots) :
    ∀ (b' : Nat → Prop) (g1 : sg), E8 g g1 → kW D cy b' ad n nc g1 H → (∀ U : State, U.heap = H → s.WarmedH U.vm → kG D cy b' U) → vx_Run p l e R s m args below meth c H locs cells slots mc1 ms1 (F0 m pc ls st0) rest (kQ D cy b' (P g1) As.toArray) (kX D cy b' ad n nc g1 kNo) (kA b') :=
  fun b' g1 he hw' hG' => vx_runS (As := As) (rest := rest) hF (hM b' g1 he) (va_cwS nA hF.2.2.2.2 hT hwd hrc hrs hd hR) ⟨kPre.blind, fun U hU hW => ⟨rfl, by rw [hU]; exact hw', hG' U hU hW⟩⟩ rfl hn hsz hst (lv_room hcat) hdg hf
theorem k2_v (hF : CallFix p m c cc nL s args Ts own) (hG : kG D cy base s) (hsz : ls.size = nL) (hM : ∀ (b' : Nat → Prop) (g1 : sg), E8 g g1 → kM l y ws rm D cy b' ad n nc g1 (.ref (ad 0) :: As) (P g1) kNo mc1 ms1) (hT : GoodIn Ts (wsV own index RX2 y ws)) (hwd : ws = Cond.code y bytes maxL ret :: ws') (hrc : rm.cells = mc1) (hrs : rm.slots = ms1)
    (hd : y.cls = RX2 ∧ y.cls ≠ "java/lang/invoke/MethodHandle" ∧ y.cls ≠ "java/lang/invoke/VarHandle" ∧ (parseMethodDescriptor y.desc).map (fun d => d.parameters.length) = some nA) (hR : rm.frames + 1 ≤ R.frames ∧ 8 + (maxL + 11) + rm.locals ≤ R.locals)
    (hn : As.length = nA) (hst : st0 = As.reverse ++ .ref (ad 0) :: rest) (hcat : (rest.map fun v => v.category).sum ≤ 8) (hdg : decode cc pc = .ok (.invokevirtual index, 3)) (hf : cells + mc1 ≤ R.cells ∧ slots + ms1 ≤ R.slots) :
    ∀ (b' : Nat → Prop) (g1 : sg), E8 g g1 → kW D cy b' ad n nc g1 H → (∀ U : State, U.heap = H → s.WarmedH U.vm → kG D cy b' U) → vx_Run p l e R s m args below meth c H locs cells slots mc1 ms1 (F0 m pc ls st0) rest (kQ D cy b' (P g1) (Value.ref (ad 0) :: As).toArray) (kX D cy b' ad n nc g1 kNo) (kA b') := by
  intro b' g1 he hw' hG'
  obtain ⟨⟨r, h1, cell, q1, q2, q3, q4⟩, -⟩ := hw'.1 0 _ kC_0
  have hr : r = (RX2, TX2, 15) := Option.some.inj (h1.symm.trans rfl)
  subst hr
  exact vx_runV (b := ad 0) (As := As) (rest := rest) hF (hM b' g1 he) (cwV nA hF.2.2.2.2 hT hwd hrc hrs hd hR) ⟨kPre.blind, ⟨cell, q1, by rw [q3]; rfl, by rw [q2]; exact (hG.1.1 2 _ rfl).2.1⟩, fun U hU hW => ⟨rfl, by rw [hU]; exact hw', hG' U hU hW⟩⟩ rfl hn hsz hst (lv_room hcat) hdg hf
/-- a question of the one, of the other -/
theorem k2_ask {V : sg → Int32} {G : sg → sg} {v1 : Int32} (hG : kG D cy base s) (hS : va_S (kA base) s.heap H locs) (hw : k2 D cy base ad n nc g ae n2 nc2 h H)
    (hrun : ∀ (b' : Nat → Prop) (g1 : sg), E8 g g1 → kW D cy b' ad n nc g1 H → (∀ U : State, U.heap = H → s.WarmedH U.vm → kG D cy b' U) → vx_Run p l e R s m args below meth c H locs cells slots mc1 ms1 (F0 m pc ls st0) rest (kQ D cy b' (kD True (some (.int (V g1))) ad n nc (G g1)) a) (kX D cy b' ad n nc g1 kNo) (kA b'))
    (hV : ∀ g1, E8 g g1 → V g1 = v1 ∧ E8 g (G g1))
    (kk : ∀ (H1 : Heap) (locs1 : List Loc), k2 D cy base ad n nc g ae n2 nc2 h H1 → va_S (kA base) s.heap H1 locs1 → W p l e R s m args below meth c H1 locs1 (cells + mc1) (slots + ms1) Q (F0 m (pc + 3) ls (.int v1 :: rest))) : W p l e R s m args below meth c H locs cells slots Q (F0 m pc ls st0) := by
  refine k2_core (P := fun g1 => kD True (some (.int (V g1))) ad n nc (G g1)) hG hS hw hrun (fun g1 v u H1 locs1 he hp hw1 hS1 => ?_)
  obtain ⟨-, rfl, rfl⟩ := hp
  obtain ⟨hv, hg⟩ := hV g1 he
  have k := kk H1 locs1 (hw1 g hg) hS1
  rw [← hv] at k
  exact k
theorem k2_ask2 {V : sg → Int32} {G : sg → sg} {v1 : Int32} (hG : kG D cy base s) (hS : va_S (kA base) s.heap H locs) (hw : k2 D cy base ad n nc g ae n2 nc2 h H)
    (hrun : ∀ (b' : Nat → Prop) (g1 : sg), E8 h g1 → kW D cy b' ae n2 nc2 g1 H → (∀ U : State, U.heap = H → s.WarmedH U.vm → kG D cy b' U) → vx_Run p l e R s m args below meth c H locs cells slots mc1 ms1 (F0 m pc ls st0) rest (kQ D cy b' (kD True (some (.int (V g1))) ae n2 nc2 (G g1)) a) (kX D cy b' ae n2 nc2 g1 kNo) (kA b'))
    (hV : ∀ g1, E8 h g1 → V g1 = v1 ∧ E8 h (G g1))
    (kk : ∀ (H1 : Heap) (locs1 : List Loc), k2 D cy base ad n nc g ae n2 nc2 h H1 → va_S (kA base) s.heap H1 locs1 → W p l e R s m args below meth c H1 locs1 (cells + mc1) (slots + ms1) Q (F0 m (pc + 3) ls (.int v1 :: rest))) : W p l e R s m args below meth c H locs cells slots Q (F0 m pc ls st0) :=
  k2_ask (ad := ae) (n := n2) (nc := nc2) (g := h) hG hS hw.sy hrun hV (fun H1 locs1 hw1 hS1 => kk H1 locs1 hw1.sy hS1)
end K2
/-! a method of two objects -/
def k2Pre (D : va_G) (cy : Nat → ClassId) (base : Nat → Prop) (ad : Nat → Nat) (n nc : Nat) (g : sg) (ae : Nat → Nat) (n2 nc2 : Nat) (h : sg) (U : State) : Prop := k2 D cy base ad n nc g ae n2 nc2 h U.heap ∧ kG D cy base U
def k2Q (D : va_G) (cy : Nat → ClassId) (base : Nat → Prop) (ad : Nat → Nat) (n nc : Nat) (g : sg) (ae : Nat → Nat) (n2 nc2 : Nat) (h : sg) (v : Option Value) : Array Value → State → Outcome → State → Prop := fun _ st oc t => (oc = .returned v ∧ k2 D cy base ad n nc g ae n2 nc2 h t.heap) ∧ va_F (kA base) st t
def k2X : String → State → State → Prop := fun _ _ _ => False
def k2MQ (D : va_G) (cy : Nat → ClassId) (base : Nat → Prop) (ad : Nat → Nat) (n nc : Nat) (g : sg) (ae : Nat → Nat) (n2 nc2 : Nat) (h : sg) (v : Option Value) (below : List Frame) (args : Array Value) (s : State) (mc ms : Nat) : State → Prop :=
  vx_MQ below (k2Q D cy base ad n nc g ae n2 nc2 h v) k2X args s mc ms (kA base)
def k2M (l : Launch) (y : MethodName) (ws : List Cond) (rm : Room) (D : va_G) (cy : Nat → ClassId) (base : Nat → Prop) (ad : Nat → Nat) (n nc : Nat) (g : sg) (ae : Nat → Nat) (n2 nc2 : Nat) (h : sg) (as : List Value) (v : Option Value) (mc ms : Nat) : Prop :=
  vx_Met l y ws rm (va_Pc as (k2Pre D cy base ad n nc g ae n2 nc2 h)) (k2Q D cy base ad n nc g ae n2 nc2 h v) k2X mc ms (kA base)
theorem k2Pre.blind {D cy base ad n nc g ae n2 nc2 h} {as : List Value} : FrameBlind (va_Pc as (k2Pre D cy base ad n nc g ae n2 nc2 h)) := fun _ _ _ _ q => ⟨q.1, q.2.1, q.2.2.same rfl rfl⟩
theorem k2_meth {l : Launch} {y : MethodName} {ws ws' : List Cond} {rm : Room} {cc : ByteArray} {maxL : Nat} {ret : Option FieldType} {D : va_G} {cy : Nat → ClassId} {base : Nat → Prop} {ad : Nat → Nat} {n nc : Nat} {g : sg} {ae : Nat → Nat} {n2 nc2 : Nat} {h : sg} {as : List Value} {v : Option Value} {mc ms : Nat}
    (hy : plainName y.cls = true) (hwd : ws = Cond.code y cc maxL ret :: ws') (has : (lg_sl as).length ≤ maxL)
    (body : ∀ (p : Program) (e : Env) (s : State) (m : MethodId) (args : Array Value) (below : List Frame) (meth : Method) (c : Code) (ls : Array Slot), p.tables.exec = Jvm.exec → c.code = cc → meth.sig.returnType = ret → c.maxLocals = maxL → s.vm.findClass y.cls = some m.cls → (∀ w ∈ ws, w.before args s = true) → meth.locks = false → kG D cy base s → lv_has ls maxL (lv_args 0 as) →
      ∀ (Q : State → Prop) (H : Heap) (locs : List Loc), Q = k2MQ D cy base ad n nc g ae n2 nc2 h v below args s mc ms → k2 D cy base ad n nc g ae n2 nc2 h H → va_S (kA base) s.heap H locs → W p l e rm s m args below meth c H locs 0 0 Q (F0 m 0 ls [])) : k2M l y ws rm D cy base ad n nc g ae n2 nc2 h as v mc ms := by
  refine vx_ofW (cc := cc) (maxL := maxL) (ret := ret) hy hwd ?_
  intro p e s m args below meth c s₁ B hml ht hv
  obtain ⟨rfl, hw, hG⟩ := hv
  have hl := lv_entry as (n := maxL) has
  rw [lg_entry_eq]
  exact body p e s m _ below meth c _ B.exec B.bytes B.returns hml (findClass_of_methodNamed B.named) (atoms_spec (ws := ws) B.pre) B.notSynchronized hG hl _ _ _ rfl hw va_S.rf
section K2R
variable {p : Program} {l : Launch} {e : Env} {R : Room} {s : State} {m : MethodId} {args : Array Value} {below : List Frame} {meth : Method} {c : Code} {H : Heap} {locs : List Loc} {cells slots : Nat} {Q : State → Prop}
variable {cc : ByteArray} {pc : Nat} {ls : Array Slot} {D : va_G} {cy : Nat → ClassId} {base : Nat → Prop} {ad ae : Nat → Nat} {n nc n2 nc2 : Nat} {g h : sg} {mc ms : Nat}
theorem k2_retZ {v : Int32} (hQ : Q = k2MQ D cy base ad n nc g ae n2 nc2 h (some (.int v)) below args s mc ms) (hexec : p.tables.exec = Jvm.exec) (hb : c.code = cc) (hr : meth.sig.returnType = some .boolean) (hlocks : meth.locks = false) (hw : k2 D cy base ad n nc g ae n2 nc2 h H) (hS : va_S (kA base) s.heap H locs) (hc : cells ≤ mc) (hs : slots ≤ ms) (hdg : decode cc pc = .ok (.ireturn, 1)) (hn : narrow .boolean (.int v) = .int v) :
    W p l e R s m args below meth c H locs cells slots Q (F0 m pc ls [.int v]) := by
  subst hQ
  exact W.widen hc hs (vx_ret (W.zret hexec hb hr hn (fun t ht _ => ⟨⟨rfl, by rw [ht]; exact hw⟩, hS.F ht⟩) hS.2.2 hdg hlocks))
end K2R
