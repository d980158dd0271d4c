/-! What holds of the tables and of the statics at every start of a method of the run; rows over the world. (kx_get .. kx_aast follow the proofs of va_get, va_put, va_iald, va_iast, va_zast, va_last, va_aldq, va_astq.) -/
def kIO : String := "java/lang/IndexOutOfBoundsException"
def kIA : String := "java/lang/IllegalArgumentException"
def kIS : String := "java/lang/IllegalStateException"
def kSup : List String := ["java/lang/RuntimeException", "java/lang/Exception", "java/lang/Throwable"]
def kBad (cls : String) : List Cond := [.castable cls cls, .declares (Bundle.initS "java/lang/RuntimeException"), .declares (Bundle.initS "java/lang/Exception"), .declares (Bundle.initS "java/lang/Throwable")]
def kStr : List (Nat × String) := [(68, "no such kind"), (79, "term out of range"), (82, "rate out of range"), (84, "no such train"), (92, "it stops there already"), (101, "score out of range"), (109, "daysAgo out of range"), (111, "value out of range"), (116, "a word is hidden and not"), (118, "no more finds"), (140, "a hidden word"), (145, "not kept"), (153, "it is there"), (155, "not missing"), (164, "not here"), (170, "from out of range"), (172, "to out of range"), (174, "no more claims"), (192, "not to be given away"), (210, "days out of range"), (212, "no term to extend"), (220, "price out of range"), (226, "not for sale"), (234, "its term is not over"), (236, "not sold"), (238, "sold too long ago"), (243, "beyond the last day"), (255, "no such place"), (273, "what out of range"), (281, "no such hand"), (284, "no such room"), (287, "no set of words"), (289, "not open"), (295, "no candidate"), (297, "not proven"), (302, "beaten by another claim"), (304, "no such find"), (306, "no such claim"), (308, "no such word or kind"), (310, "both are the same")]
def kTys (cy : Nat → ClassId) : List (ClassId × FieldType) := [(cy 0, .int), (cy 1, .object "Lostroom$Found"), (cy 2, .object "Lostroom$Claim")]
def kG (D : va_G) (cy : Nat → ClassId) (base : Nat → Prop) (U : State) : Prop :=
  va_K D vwCl (kTys cy) U ∧ vx_Zq Bundle.tN "UNASSIGNED_STACK" Bundle.steD (kA base) U U.heap ∧ vx_Zq Bundle.tN "SUPPRESSED_SENTINEL" Bundle.listD (kA base) U U.heap ∧
  (∀ q ∈ kStr, ∃ a, vk_R "Lostroom" q.1 q.2 a U) ∧ (∀ E ∈ [kIO, kIA, kIS], va_Nw (.castable E E) U) ∧ (∀ E ∈ [kIO, kIA, kIS], ∀ F ∈ [kIO, kIA, kIS], E ≠ F → va_Nc E F U) ∧ (∀ Y ∈ kSup, va_Nw (.declares (Bundle.initS Y)) U) ∧ (∀ q : Nat, U.heap.size ≤ q → kA base q)
theorem kG.warm {D : va_G} {cy : Nat → ClassId} {base : Nat → Prop} {s T : State} {H : Heap} {locs : List Loc} (h : kG D cy base s) (hW : s.WarmedH T.vm) (hT : T.heap = H) (hS : va_S (kA base) s.heap H locs) : kG D cy base T := by
  obtain ⟨h1, h2, h3, h4, h5, h6, h7, h8⟩ := h
  refine ⟨h1.moved hW.alike, ?_, ?_, fun q hq => ?_, fun E hE => va_Nw.warmC hW (h5 E hE), fun E hE F hF hne => (h6 E hE F hF hne).moved hW.alike, fun Y hY => va_Nw.warmD hW (h7 Y hY), fun q hq => h8 q (by rw [hT] at hq; exact Nat.le_trans hS.1 hq)⟩
  · rw [hT]; exact (h2.kept hS.2.1).moved hW.alike
  · rw [hT]; exact (h3.kept hS.2.1).moved hW.alike
  · obtain ⟨a, ha⟩ := h4 q hq
    exact ⟨a, vk_R.warm hW ha⟩
theorem kG.same {D : va_G} {cy : Nat → ClassId} {base : Nat → Prop} {s T : State} (h : kG D cy base s) (hv : T.vm = s.vm) (hT : T.heap = s.heap) : kG D cy base T :=
  h.warm (by rw [hv]; exact State.WarmedH.refl s) hT va_S.rf
/-- a method's start, its answer, its throw -/
def kPre (D : va_G) (cy : Nat → ClassId) (base : Nat → Prop) (ad : Nat → Nat) (n nc : Nat) (g : sg) (U : State) : Prop := kW D cy base ad n nc g U.heap ∧ kG D cy base U
def kQ (D : va_G) (cy : Nat → ClassId) (base : Nat → Prop) (post : Option Value → kS → Prop) : Array Value → State → Outcome → State → Prop := fun _ st oc t => (∃ (v : Option Value) (u : kS), oc = .returned v ∧ post v u ∧ kWt D cy base u t.heap) ∧ va_F (kA base) st t
def kX (D : va_G) (cy : Nat → ClassId) (base : Nat → Prop) (ad : Nat → Nat) (n nc : Nat) (g : sg) (X : String → Prop) : String → State → State → Prop := fun E st t => X E ∧ kW D cy base ad n nc g t.heap ∧ va_F (kA base) st t
def kM (l : Launch) (y : MethodName) (ws : List Cond) (rm : Room) (D : va_G) (cy : Nat → ClassId) (base : Nat → Prop) (ad : Nat → Nat) (n nc : Nat) (g : sg) (as : List Value) (post : Option Value → kS → Prop) (X : String → Prop) (mc ms : Nat) : Prop :=
  vx_Met l y ws rm (va_Pc as (kPre D cy base ad n nc g)) (kQ D cy base post) (kX D cy base ad n nc g X) mc ms (kA base)
def kMQ (D : va_G) (cy : Nat → ClassId) (base : Nat → Prop) (ad : Nat → Nat) (n nc : Nat) (g : sg) (below : List Frame) (post : Option Value → kS → Prop) (X : String → Prop) (args : Array Value) (s : State) (mc ms : Nat) : State → Prop :=
  vx_MQ below (kQ D cy base post) (kX D cy base ad n nc g X) args s mc ms (kA base)
/-- the room of a method k calls high -/
abbrev kR (k mc ms : Nat) : Room := { frames := k, cells := mc, slots := ms, locals := 37 * k }
theorem kPre.blind {D cy base ad n nc g} {as : List Value} : FrameBlind (va_Pc as (kPre D cy base ad n nc g)) := fun _ _ _ _ h => ⟨h.1, h.2.1, h.2.2.same rfl rfl⟩
theorem kPre.at {D cy base ad n nc g} {as : List Value} {s : State} {H : Heap} {locs : List Loc} (hG : kG D cy base s) (hw : kW D cy base ad n nc g H) (hS : va_S (kA base) s.heap H locs) : ∀ U : State, U.heap = H → s.WarmedH U.vm → va_Pc as (kPre D cy base ad n nc g) as.toArray U :=
  fun U hU hW => ⟨rfl, by rw [hU]; exact hw, hG.warm hW hU hS⟩
section KR
variable {p : Program} {l : Launch} {e : Env} {R : Room} {s : State} {m : MethodId} {args : Array Value} {below : List Frame} {meth : Method} {c : Code} {H : Heap} {locs : List Loc} {cells slots : Nat} {Q : State → Prop}
variable {cc : ByteArray} {pc : Nat} {ls : Array Slot} {rest : List Value} {D : va_G} {cy : Nat → ClassId} {base : Nat → Prop} {ad : Nat → Nat} {n nc : Nat} {g : sg}
theorem kx_get (hexec : p.tables.exec = Jvm.exec) (hb : c.code = cc) {own C : String} {T : u_T} {N ci index : Nat} {Ts : List Cond} (hts : ∀ w ∈ Ts, w.before args s = true) (hown : s.vm.findClass own = some m.cls) (hG : kG D cy base s) (hw : kW D cy base ad n nc g H)
    {k : Nat} {V : Nat → Value} (hk : kC cy ad n nc g k = some (.inr (ci, V))) (hc : vwCl[ci]? = some (C, T, N)) (hin : ∀ w ∈ u_ws C T N, w ∈ Ts) (j : Nat) (hj : j < N) (hlink : (Cond.fieldLink own index (T j).1 (T j).2.1 (T j).2.2.1).before args s = true) {v : Value} (hv : V j = v) (hdg : decode cc pc = .ok (.getfield index, 3))
    (kk : W p l e R s m args below meth c H locs cells slots Q (F0 m (pc + 3) ls (v :: rest))) : W p l e R s m args below meth c H locs cells slots Q (F0 m pc ls (.ref (ad k) :: rest)) := by
  obtain ⟨⟨r, h1, cell, q1, q2, q3, q4⟩, -⟩ := hw.1 k _ hk
  have hr : r = (C, T, N) := Option.some.inj (h1.symm.trans hc)
  subst hr
  obtain ⟨hS, hfc, kC9, hkC, hkind⟩ := hG.1.1 ci _ hc
  obtain ⟨cf, kf, fi, f, hi, hsl⟩ := hS j hj
  refine W.getf hexec hb hown hlink hi (u_facts hfc hkC (u_lays hts hin hj) hi).1 q1 (by rw [q3]; exact fun h => by cases h) (v := v) ?_ rfl rfl hdg kk
  rw [hsl, q4 j hj, ← hv]
theorem kx_put (hexec : p.tables.exec = Jvm.exec) (hb : c.code = cc) {own C : String} {T : u_T} {N ci index : Nat} {Ts : List Cond} (hts : ∀ w ∈ Ts, w.before args s = true) (hown : s.vm.findClass own = some m.cls) (hG : kG D cy base s) (hw : kW D cy base ad n nc g H) (hS0 : va_S (kA base) s.heap H locs)
    {k : Nat} {V V' : Nat → Value} {g' : sg} (hk : kC cy ad n nc g k = some (.inr (ci, V))) (hk' : kC cy ad n nc g' k = some (.inr (ci, V'))) (ho : ∀ k', k' ≠ k → g' k' = g k') (hc : vwCl[ci]? = some (C, T, N)) (hin : ∀ w ∈ u_ws C T N, w ∈ Ts) (ty0 : Nat → FieldType) (hty : ∀ k, k < N → parseFieldDescriptor (T k).2.2.1 = some (ty0 k)) (hnm : ∀ a, a < N → ∀ b, b < N → a ≠ b → (T a).2.1 ≠ (T b).2.1)
    (j : Nat) (hj : j < N) (hlink : (Cond.fieldLink own index (T j).1 (T j).2.1 (T j).2.2.1).before args s = true) (hfin : (T j).2.2.2 = false) {v : Value} (hV : ∀ i, updV V j v i = V' i) (hn : narrow (ty0 j) v = v) (hfit : fits (ty0 j) v = true) (hdg : decode cc pc = .ok (.putfield index, 3))
    (kk : ∀ (H1 : Heap) (locs1 : List Loc), kW D cy base ad n nc g' H1 → va_S (kA base) s.heap H1 locs1 → W p l e R s m args below meth c H1 locs1 cells slots Q (F0 m (pc + 3) ls rest)) : W p l e R s m args below meth c H locs cells slots Q (F0 m pc ls (v :: .ref (ad k) :: rest)) := by
  have hap := va_apart (own := own) hts hin ty0 hty hnm hG.1 hc
  obtain ⟨⟨r, h1, cell, q1, q2, q3, q4⟩, hbase⟩ := hw.1 k _ hk
  have hr : r = (C, T, N) := Option.some.inj (h1.symm.trans hc)
  subst hr
  obtain ⟨hS, hfc, kC9, hkC, hkind⟩ := hG.1.1 ci _ hc
  obtain ⟨cf, kf, fi, f, hi, hsl⟩ := hS j hj
  have hlay := hts _ (hin _ (u_in_lay hj))
  unfold u_lay at hlay
  rw [if_neg (by rw [hfin]; decide)] at hlay
  have hst := (u_facts hfc hkC (u_lays hts hin hj) hi).1
  have h6 := u_store hfc hkC hkind hlay hi (hty j hj) hn hfit
  refine W.putK hexec hb (f := f) ⟨hown, hlink, ⟨_, _, _, hi⟩, hst⟩ (by rw [q2]; exact h6) q1 q3 (by rw [hsl]; exact k2_hasslot (q4 j hj)) rfl rfl hdg fun H' e1 e2 e3 => ?_
  rw [hsl] at e1 ⊢
  exact kk H' _ (hw.put hk ho hk' ⟨_, hc, t_OB.to (V := updV V j v) ⟨_, e1, q2, q3, t_set q4 hap hj v⟩ (fun i _ => hV i)⟩ e3) (hS0.put e2 e3 hbase)
theorem kx_getL (hexec : p.tables.exec = Jvm.exec) (hb : c.code = cc) {own : String} {index : Nat} {Ts : List Cond} (hts : ∀ w ∈ Ts, w.before args s = true) (hown : s.vm.findClass own = some m.cls) (hG : kG D cy base s) (hw : kW D cy base ad n nc g H) (hin : ∀ w ∈ wsX20, w ∈ Ts) (j : Nat) (hj : j < 15) (hlink : (Cond.fieldLink own index (TX2 j).1 (TX2 j).2.1 (TX2 j).2.2.1).before args s = true) {v : Value} (hv : fL ad g j = v) (hdg : decode cc pc = .ok (.getfield index, 3))
    (kk : W p l e R s m args below meth c H locs cells slots Q (F0 m (pc + 3) ls (v :: rest))) : W p l e R s m args below meth c H locs cells slots Q (F0 m pc ls (.ref (ad 0) :: rest)) :=
  kx_get (T := TX2) hexec hb hts hown hG hw kC_0 rfl hin j hj hlink hv hdg kk
theorem kx_putL (hexec : p.tables.exec = Jvm.exec) (hb : c.code = cc) {own : String} {index : Nat} {Ts : List Cond} (hts : ∀ w ∈ Ts, w.before args s = true) (hown : s.vm.findClass own = some m.cls) (hG : kG D cy base s) (hw : kW D cy base ad n nc g H) (hS0 : va_S (kA base) s.heap H locs) (hin : ∀ w ∈ wsX20, w ∈ Ts) (j : Nat) (hj : j < 15) (hlink : (Cond.fieldLink own index (TX2 j).1 (TX2 j).2.1 (TX2 j).2.2.1).before args s = true) (h8 : 8 ≤ j) (hfin : (TX2 j).2.2.2 = false) {v : Int32} (hn : narrow (tyX2 j) (.int v) = .int v) (hfit : fits (tyX2 j) (.int v) = true) (hdg : decode cc pc = .ok (.putfield index, 3))
    (kk : ∀ (H1 : Heap) (locs1 : List Loc), kW D cy base ad n nc (sU g 0 j v) H1 → va_S (kA base) s.heap H1 locs1 → W p l e R s m args below meth c H1 locs1 cells slots Q (F0 m (pc + 3) ls rest)) : W p l e R s m args below meth c H locs cells slots Q (F0 m pc ls (.int v :: .ref (ad 0) :: rest)) :=
  kx_put (T := TX2) (V' := fL ad (sU g 0 j v)) hexec hb hts hown hG hw hS0 kC_0 kC_0 (sU_o g _ j v) rfl hin tyX2 tyX2_ok nmX2 j hj hlink hfin (fun i9 => fL_up ad g v h8 i9) hn hfit hdg kk
theorem kx_getF (hexec : p.tables.exec = Jvm.exec) (hb : c.code = cc) {own : String} {index : Nat} {Ts : List Cond} (hts : ∀ w ∈ Ts, w.before args s = true) (hown : s.vm.findClass own = some m.cls) (hG : kG D cy base s) (hw : kW D cy base ad n nc g H) (hin : ∀ w ∈ wsX10, w ∈ Ts) (i : Nat) (hi : i < n) (j : Nat) (hj : j < 15) (hlink : (Cond.fieldLink own index (TX1 j).1 (TX1 j).2.1 (TX1 j).2.2.1).before args s = true) {v : Value} (hv : fF ad g (100 + 3 * i) j = v) (hdg : decode cc pc = .ok (.getfield index, 3))
    (kk : W p l e R s m args below meth c H locs cells slots Q (F0 m (pc + 3) ls (v :: rest))) : W p l e R s m args below meth c H locs cells slots Q (F0 m pc ls (.ref (ad (100 + 3 * i)) :: rest)) :=
  kx_get (T := TX1) hexec hb hts hown hG hw (kC_F hi hw.2.2.1) rfl hin j hj hlink hv hdg kk
theorem kx_putF (hexec : p.tables.exec = Jvm.exec) (hb : c.code = cc) {own : String} {index : Nat} {Ts : List Cond} (hts : ∀ w ∈ Ts, w.before args s = true) (hown : s.vm.findClass own = some m.cls) (hG : kG D cy base s) (hw : kW D cy base ad n nc g H) (hS0 : va_S (kA base) s.heap H locs) (hin : ∀ w ∈ wsX10, w ∈ Ts) (i : Nat) (hi : i < n) (j : Nat) (hj : j < 15) (hlink : (Cond.fieldLink own index (TX1 j).1 (TX1 j).2.1 (TX1 j).2.2.1).before args s = true) (h5 : j ≠ 5) (h6 : j ≠ 6) (hfin : (TX1 j).2.2.2 = false) {v : Int32} (hn : narrow (tyX1 j) (.int v) = .int v) (hfit : fits (tyX1 j) (.int v) = true) (hdg : decode cc pc = .ok (.putfield index, 3))
    (kk : ∀ (H1 : Heap) (locs1 : List Loc), kW D cy base ad n nc (sU g (100 + 3 * i) j v) H1 → va_S (kA base) s.heap H1 locs1 → W p l e R s m args below meth c H1 locs1 cells slots Q (F0 m (pc + 3) ls rest)) : W p l e R s m args below meth c H locs cells slots Q (F0 m pc ls (.int v :: .ref (ad (100 + 3 * i)) :: rest)) :=
  kx_put (T := TX1) (V' := fF ad (sU g (100 + 3 * i) j v) (100 + 3 * i)) hexec hb hts hown hG hw hS0 (kC_F hi hw.2.2.1) (kC_F hi hw.2.2.1) (sU_o g _ j v) rfl hin tyX1 tyX1_ok nmX1 j hj hlink hfin (fun i9 => fF_up ad g _ v h5 h6 i9) hn hfit hdg kk
theorem kx_getC (hexec : p.tables.exec = Jvm.exec) (hb : c.code = cc) {own : String} {index : Nat} {Ts : List Cond} (hts : ∀ w ∈ Ts, w.before args s = true) (hown : s.vm.findClass own = some m.cls) (hG : kG D cy base s) (hw : kW D cy base ad n nc g H) (hin : ∀ w ∈ wsX00, w ∈ Ts) (i : Nat) (hi : i < nc) (j : Nat) (hj : j < 10) (hlink : (Cond.fieldLink own index (TX0 j).1 (TX0 j).2.1 (TX0 j).2.2.1).before args s = true) {v : Value} (hv : fC g (200 + i) j = v) (hdg : decode cc pc = .ok (.getfield index, 3))
    (kk : W p l e R s m args below meth c H locs cells slots Q (F0 m (pc + 3) ls (v :: rest))) : W p l e R s m args below meth c H locs cells slots Q (F0 m pc ls (.ref (ad (200 + i)) :: rest)) :=
  kx_get (T := TX0) hexec hb hts hown hG hw (kC_C hi) rfl hin j hj hlink hv hdg kk
theorem kx_putC (hexec : p.tables.exec = Jvm.exec) (hb : c.code = cc) {own : String} {index : Nat} {Ts : List Cond} (hts : ∀ w ∈ Ts, w.before args s = true) (hown : s.vm.findClass own = some m.cls) (hG : kG D cy base s) (hw : kW D cy base ad n nc g H) (hS0 : va_S (kA base) s.heap H locs) (hin : ∀ w ∈ wsX00, w ∈ Ts) (i : Nat) (hi : i < nc) (j : Nat) (hj : j < 10) (hlink : (Cond.fieldLink own index (TX0 j).1 (TX0 j).2.1 (TX0 j).2.2.1).before args s = true)  (hfin : (TX0 j).2.2.2 = false) {v : Int32} (hn : narrow (tyX0 j) (.int v) = .int v) (hfit : fits (tyX0 j) (.int v) = true) (hdg : decode cc pc = .ok (.putfield index, 3))
    (kk : ∀ (H1 : Heap) (locs1 : List Loc), kW D cy base ad n nc (sU g (200 + i) j v) H1 → va_S (kA base) s.heap H1 locs1 → W p l e R s m args below meth c H1 locs1 cells slots Q (F0 m (pc + 3) ls rest)) : W p l e R s m args below meth c H locs cells slots Q (F0 m pc ls (.int v :: .ref (ad (200 + i)) :: rest)) :=
  kx_put (T := TX0) (V' := fC (sU g (200 + i) j v) (200 + i)) hexec hb hts hown hG hw hS0 (kC_C hi) (kC_C hi) (sU_o g _ j v) rfl hin tyX0 tyX0_ok nmX0 j hj hlink hfin (fun i9 => fC_up g _ j v i9) hn hfit hdg kk
theorem kx_iald (hexec : p.tables.exec = Jvm.exec) (hb : c.code = cc) (hG : kG D cy base s) (hw : kW D cy base ad n nc g H) {k L : Nat} (hk : kC cy ad n nc g k = some (kInts (cy 0) L (g k))) {x : Int32} (j : Nat) (hj : x.toNatClampNeg = j) (hin : vp_in x L) {v : Int32} (hv : g k j = v) (hdg : decode cc pc = .ok (.iaload, 1))
    (kk : W p l e R s m args below meth c H locs cells slots Q (F0 m (pc + 1) ls (.int v :: rest))) : W p l e R s m args below meth c H locs cells slots Q (F0 m pc ls (.int x :: .ref (ad k) :: rest)) := by
  subst hj; subst hv
  have hlt : x.toNatClampNeg < L := Nat.not_le.mp fun q => hin (Or.inr q)
  exact W.iald (v := .int (g k x.toNatClampNeg)) hexec hb (hw.1 k _ hk).1 ((hG.1.2 0 _ rfl).1 L (fun j => .int (g k j))) (fun q => by cases q) (by show ¬ (x < 0 ∨ (arrV _ _ _).slots.size ≤ _); rw [arrV_size]; exact hin) (by show (arrV _ _ _).slots[_]? = _; rw [arrV_read _ _ hlt]) rfl rfl hdg kk
theorem kx_aaldk (hexec : p.tables.exec = Jvm.exec) (hb : c.code = cc) (hG : kG D cy base s) (hw : kW D cy base ad n nc g H) {k L t : Nat} {cA : ClassId} {C : String} {f : Nat → Option Nat} (hk : kC cy ad n nc g k = some (kRefs cA L f)) (ht : (kTys cy)[t]? = some (cA, .object C)) {x : Int32} (j : Nat) (hj : x.toNatClampNeg = j) (hin : vp_in x L) {v : Value} (hv : va_rf (f j) = v) (hdg : decode cc pc = .ok (.aaload, 1))
    (kk : W p l e R s m args below meth c H locs cells slots Q (F0 m (pc + 1) ls (v :: rest))) : W p l e R s m args below meth c H locs cells slots Q (F0 m pc ls (.int x :: .ref (ad k) :: rest)) := by
  subst hj; subst hv
  have hlt : x.toNatClampNeg < L := Nat.not_le.mp fun q => hin (Or.inr q)
  exact W.aald (v := va_rf (f x.toNatClampNeg)) (ty := .object C) hexec hb (hw.1 k _ hk).1 ((hG.1.2 t _ ht).1 L (fun j => va_rf (f j))) rfl (fun q => by cases q) (by show ¬ (x < 0 ∨ (arrV _ _ _).slots.size ≤ _); rw [arrV_size]; exact hin) (by show (arrV _ _ _).slots[_]? = _; rw [arrV_read _ _ hlt]) rfl rfl hdg kk
theorem kx_aaldF (hexec : p.tables.exec = Jvm.exec) (hb : c.code = cc) (hG : kG D cy base s) (hw : kW D cy base ad n nc g H) {x : Int32} (j : Nat) (hj : x.toNatClampNeg = j) (hin : vp_in x 30) {v : Value} (hv : va_rf (if g 6 j = 1 then some (ad (100 + 3 * j)) else none) = v) (hdg : decode cc pc = .ok (.aaload, 1))
    (kk : W p l e R s m args below meth c H locs cells slots Q (F0 m (pc + 1) ls (v :: rest))) : W p l e R s m args below meth c H locs cells slots Q (F0 m pc ls (.int x :: .ref (ad 6) :: rest)) :=
  kx_aaldk (t := 1) hexec hb hG hw kC_6 rfl j hj hin hv hdg kk
theorem kx_aaldC (hexec : p.tables.exec = Jvm.exec) (hb : c.code = cc) (hG : kG D cy base s) (hw : kW D cy base ad n nc g H) {x : Int32} (j : Nat) (hj : x.toNatClampNeg = j) (hin : vp_in x 20) {v : Value} (hv : va_rf (if g 7 j = 1 then some (ad (200 + j)) else none) = v) (hdg : decode cc pc = .ok (.aaload, 1))
    (kk : W p l e R s m args below meth c H locs cells slots Q (F0 m (pc + 1) ls (v :: rest))) : W p l e R s m args below meth c H locs cells slots Q (F0 m pc ls (.int x :: .ref (ad 7) :: rest)) :=
  kx_aaldk (t := 2) hexec hb hG hw kC_7 rfl j hj hin hv hdg kk
theorem kx_alen (hexec : p.tables.exec = Jvm.exec) (hb : c.code = cc) (hG : kG D cy base s) (hw : kW D cy base ad n nc g H) {k : Nat} {x : ClassId × vp_A} (hk : kC cy ad n nc g k = some (.inl x)) (t : Nat) {ty : FieldType} (ht : (kTys cy)[t]? = some (x.1, ty)) {v : Int32} (hv : Int32.ofNat x.2.1 = v) (hdg : decode cc pc = .ok (.arraylength, 1))
    (kk : W p l e R s m args below meth c H locs cells slots Q (F0 m (pc + 1) ls (.int v :: rest))) : W p l e R s m args below meth c H locs cells slots Q (F0 m pc ls (.ref (ad k) :: rest)) := by
  refine va_alen (D := D) (cl := vwCl) (ws := [(ad k, .inl x)]) (cA := x.1) (x := x.2) hexec hb hG.1 (fun i q hq => ?_) 0 t rfl ht hv hdg kk
  match i, hq with
  | 0, hq => cases hq; exact (hw.1 k _ hk).1
  | i + 1, hq => simp at hq
theorem kx_iast (hexec : p.tables.exec = Jvm.exec) (hb : c.code = cc) (hG : kG D cy base s) (hw : kW D cy base ad n nc g H) (hS : va_S (kA base) s.heap H locs) {k L : Nat} (hk : ∀ g : sg, kC cy ad n nc g k = some (kInts (cy 0) L (g k))) {x v : Int32} (j : Nat) (hj : x.toNatClampNeg = j) (hin : vp_in x L) (hdg : decode cc pc = .ok (.iastore, 1))
    (kk : ∀ (H1 : Heap) (locs1 : List Loc), kW D cy base ad n nc (sU g k j v) H1 → va_S (kA base) s.heap H1 locs1 → W p l e R s m args below meth c H1 locs1 cells slots Q (F0 m (pc + 1) ls rest)) : W p l e R s m args below meth c H locs cells slots Q (F0 m pc ls (.int v :: .int x :: .ref (ad k) :: rest)) := by
  subst hj
  refine W.iast hexec hb (hw.1 k _ (hk g)).1 ((hG.1.2 0 _ rfl).1 L (fun j => .int (g k j))) (fun q => by cases q) (by show ¬ (x < 0 ∨ (arrV _ _ _).slots.size ≤ _); rw [arrV_size]; exact hin) rfl rfl hdg fun H1 e1 z oq => ?_
  refine kk H1 _ (hw.put (hk g) (sU_o g k _ v) (hk _) ?_ oq) (hS.put z oq (hw.1 k _ (hk g)).2)
  rw [← upd_sU]
  exact kInts_up e1
theorem kRefs_up {D cA L} {f f' : Nat → Option Nat} {a k : Nat} {v : Nat} {H1 : Heap} (e : H1[a]? = some ((vp_cell cA (L, .inr (.inr (.inr (.inr f))))).setSlot k (.ref v))) (hf : ∀ q, (if q = k then some v else f q) = f' q) : kAt D a (kRefs cA L f') H1 := by
  show H1[a]? = some (vp_cell cA (L, .inr (.inr (.inr (.inr f')))))
  rw [e, vp_cell_q, vp_cell_q, arrV_store]
  congr 2
  funext q
  rw [← hf q]
  by_cases hq : q = k
  · subst hq
    simp [updV, va_rf]
  · simp [updV, hq]
theorem kx_aastk (hexec : p.tables.exec = Jvm.exec) (hb : c.code = cc) (hG : kG D cy base s) (hw : kW D cy base ad n nc g H) (hS : va_S (kA base) s.heap H locs) {k kv L t ci : Nat} {cA : ClassId} {r : vw_C} {V : Nat → Value} {f f' : Nat → Option Nat} {g' : sg} (hk : kC cy ad n nc g k = some (kRefs cA L f)) (hk' : kC cy ad n nc g' k = some (kRefs cA L f')) (ho : ∀ k', k' ≠ k → g' k' = g k') (ht : (kTys cy)[t]? = some (cA, .object r.1)) (hv : kC cy ad n nc g kv = some (.inr (ci, V))) (hc : vwCl[ci]? = some r)
    {x : Int32} (hf : ∀ q, (if q = x.toNatClampNeg then some (ad kv) else f q) = f' q) (hin : vp_in x L) (hdg : decode cc pc = .ok (.aastore, 1))
    (kk : ∀ (H1 : Heap) (locs1 : List Loc), kW D cy base ad n nc g' H1 → va_S (kA base) s.heap H1 locs1 → W p l e R s m args below meth c H1 locs1 cells slots Q (F0 m (pc + 1) ls rest)) : W p l e R s m args below meth c H locs cells slots Q (F0 m pc ls (.ref (ad kv) :: .int x :: .ref (ad k) :: rest)) := by
  have hlt : x.toNatClampNeg < L := Nat.not_le.mp fun q => hin (Or.inr q)
  have h0 : ¬ x < 0 := fun q => hin (Or.inl q)
  obtain ⟨⟨r', hr', cellV, g1, g2, g3, -⟩, -⟩ := hw.1 kv _ hv
  have hcls := (hG.1.1 ci r hc).2
  obtain ⟨kA9, comp, k1, k2, k3, -⟩ := (hG.1.2 t _ ht).2
  have hcomp : comp = D.1 ci := Option.some.inj (k3.symm.trans hcls.1)
  subst hcomp
  obtain ⟨kC9, hkC, -⟩ := hcls.2
  refine W.aast hexec hb (hw.1 k _ hk).1 (fun q h => by cases h) (fun h => by cases h) k1 k2 rfl hkC ⟨h0, by show _ < (arrV _ _ _).slots.size; rw [arrV_size]; exact hlt⟩ g1 (fun q h => by rw [g3] at h; cases h) (by rw [g2]; exact hkC) (by rw [g2]; exact va_assign hcls) rfl rfl hdg fun H1 e1 z oq => ?_
  exact kk H1 _ (hw.put hk ho hk' (kRefs_up e1 hf) oq) (hS.put z oq (hw.1 k _ hk).2)
/-- finds[j] = a find that lives: the row of references says so from now on -/
theorem kx_aastF (hexec : p.tables.exec = Jvm.exec) (hb : c.code = cc) (hG : kG D cy base s) (hw : kW D cy base ad n nc g H) (hS : va_S (kA base) s.heap H locs) {x : Int32} (j : Nat) (hj : x.toNatClampNeg = j) (hin : vp_in x 30) (hjn : j < n) (hdg : decode cc pc = .ok (.aastore, 1))
    (kk : ∀ (H1 : Heap) (locs1 : List Loc), kW D cy base ad n nc (sU g 6 j 1) H1 → va_S (kA base) s.heap H1 locs1 → W p l e R s m args below meth c H1 locs1 cells slots Q (F0 m (pc + 1) ls rest)) : W p l e R s m args below meth c H locs cells slots Q (F0 m pc ls (.ref (ad (100 + 3 * j)) :: .int x :: .ref (ad 6) :: rest)) := by
  subst hj
  refine kx_aastk (t := 1) (r := (RX1, TX1, 15)) hexec hb hG hw hS kC_6 kC_6 (sU_o g 6 _ 1) rfl (kC_F hjn hw.2.2.1) rfl (fun q => ?_) hin hdg kk
  by_cases hq : q = x.toNatClampNeg
  · subst hq
    simp [sU]
  · simp [sU, hq]
theorem kx_aastC (hexec : p.tables.exec = Jvm.exec) (hb : c.code = cc) (hG : kG D cy base s) (hw : kW D cy base ad n nc g H) (hS : va_S (kA base) s.heap H locs) {x : Int32} (j : Nat) (hj : x.toNatClampNeg = j) (hin : vp_in x 20) (hjn : j < nc) (hdg : decode cc pc = .ok (.aastore, 1))
    (kk : ∀ (H1 : Heap) (locs1 : List Loc), kW D cy base ad n nc (sU g 7 j 1) H1 → va_S (kA base) s.heap H1 locs1 → W p l e R s m args below meth c H1 locs1 cells slots Q (F0 m (pc + 1) ls rest)) : W p l e R s m args below meth c H locs cells slots Q (F0 m pc ls (.ref (ad (200 + j)) :: .int x :: .ref (ad 7) :: rest)) := by
  subst hj
  refine kx_aastk (t := 2) (r := (RX0, TX0, 10)) hexec hb hG hw hS kC_7 kC_7 (sU_o g 7 _ 1) rfl (kC_C hjn) rfl (fun q => ?_) hin hdg kk
  by_cases hq : q = x.toNatClampNeg
  · subst hq
    simp [sU]
  · simp [sU, hq]
end KR
