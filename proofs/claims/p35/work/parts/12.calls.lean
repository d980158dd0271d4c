/-! A method's body, its ends, its calls, over the world. -/
def kD (ok : Prop) (v0 : Option Value) (ad : Nat → Nat) (n nc : Nat) (g' : sg) : Option Value → kS → Prop := fun v u => ok ∧ v = v0 ∧ u = (ad, n, nc, g')
def kNo : String → Prop := fun _ => False
theorem kx_meth {l : Launch} {y : MethodName} {ws ws' : List Cond} {rm : Room} {cc : ByteArray} {maxL : Nat} {ret : Option FieldType} {D : va_G} {cy : Nat → ClassId} {base : Nat → Prop} {ad : Nat → Nat} {n nc : Nat} {g : sg} {as : List Value} {post : Option Value → kS → Prop} {X : String → Prop} {mc ms : Nat}
    (hy : plainName y.cls = true) (hwd : ws = Cond.code y cc maxL ret :: ws') (has : (lg_sl as).length ≤ maxL)
    (body : ∀ (p : Program) (e : Env) (s : State) (m : MethodId) (args : Array Value) (below : List Frame) (meth : Method) (c : Code) (ls : Array Slot), p.tables.exec = Jvm.exec → c.code = cc → meth.sig.returnType = ret → c.maxLocals = maxL → s.vm.findClass y.cls = some m.cls → (∀ w ∈ ws, w.before args s = true) → meth.locks = false → (∀ x ∈ c.exceptionTable.toList, False) → kG D cy base s → kW D cy base ad n nc g s.heap → va_S (kA base) s.heap s.heap [] → lv_has ls maxL (lv_args 0 as) →
      ∀ (Q : State → Prop) (H : Heap) (locs : List Loc), Q = kMQ D cy base ad n nc g below post X args s mc ms → kW D cy base ad n nc g H → va_S (kA base) s.heap H locs → H = s.heap → locs = [] → W p l e rm s m args below meth c H locs 0 0 Q (F0 m 0 ls [])) : kM l y ws rm D cy base ad n nc g as post X mc ms := by
  refine vx_ofW (cc := cc) (maxL := maxL) (ret := ret) hy hwd ?_
  intro p e s m args below meth c s₁ B hml ht hv
  obtain ⟨rfl, hw, hG⟩ := hv
  have hl := lv_entry as (n := maxL) has
  rw [lg_entry_eq]
  exact body p e s m _ below meth c _ B.exec B.bytes B.returns hml (findClass_of_methodNamed B.named) (atoms_spec (ws := ws) B.pre) B.notSynchronized ht hG hw va_S.rf hl _ _ _ rfl hw va_S.rf rfl rfl
section KC
variable {p : Program} {l : Launch} {e : Env} {R : Room} {s : State} {m : MethodId} {args : Array Value} {below : List Frame} {meth : Method} {c : Code} {H : Heap} {locs : List Loc} {cells slots : Nat} {Q : State → Prop}
variable {cc : ByteArray} {pc : Nat} {ls : Array Slot} {rest : List Value} {D : va_G} {cy : Nat → ClassId} {base : Nat → Prop} {ad ad' : Nat → Nat} {n nc n' nc' : Nat} {g g' : sg} {post : Option Value → kS → Prop} {X : String → Prop} {mc ms : Nat}
theorem kx_retI (hQ : Q = kMQ D cy base ad n nc g below post X args s mc ms) (hexec : p.tables.exec = Jvm.exec) (hb : c.code = cc) (hr : meth.sig.returnType = some .int) (hlocks : meth.locks = false) {v : Int32} (hw : kW D cy base ad' n' nc' g' H) (hS : va_S (kA base) s.heap H locs) (hc : cells ≤ mc) (hs : slots ≤ ms) (hdg : decode cc pc = .ok (.ireturn, 1)) (hp : post (some (.int v)) (ad', n', nc', g')) :
    W p l e R s m args below meth c H locs cells slots Q (F0 m pc ls [.int v]) := by
  subst hQ
  exact W.widen hc hs (vx_ret (W.iret hexec hb hr (fun t ht _ => ⟨⟨_, (ad', n', nc', g'), rfl, hp, by show kW D cy base ad' n' nc' g' t.heap; rw [ht]; exact hw⟩, hS.F ht⟩) hS.2.2 hdg hlocks))
theorem kx_retZ (hQ : Q = kMQ D cy base ad n nc g below post X args s mc ms) (hexec : p.tables.exec = Jvm.exec) (hb : c.code = cc) (hr : meth.sig.returnType = some .boolean) (hlocks : meth.locks = false) {v : Int32} (hw : kW D cy base ad' n' nc' g' H) (hS : va_S (kA base) s.heap H locs) (hc : cells ≤ mc) (hs : slots ≤ ms) (hdg : decode cc pc = .ok (.ireturn, 1)) (hn : narrow .boolean (.int v) = .int v) (hp : post (some (.int v)) (ad', n', nc', g')) :
    W p l e R s m args below meth c H locs cells slots Q (F0 m pc ls [.int v]) := by
  subst hQ
  exact W.widen hc hs (vx_ret (W.zret hexec hb hr hn (fun t ht _ => ⟨⟨_, (ad', n', nc', g'), rfl, hp, by show kW D cy base ad' n' nc' g' t.heap; rw [ht]; exact hw⟩, hS.F ht⟩) hS.2.2 hdg hlocks))
theorem kx_retV (hQ : Q = kMQ D cy base ad n nc g below post X args s mc ms) (hexec : p.tables.exec = Jvm.exec) (hb : c.code = cc) (hr : meth.sig.returnType = none) (hlocks : meth.locks = false) (hw : kW D cy base ad' n' nc' g' H) (hS : va_S (kA base) s.heap H locs) (hc : cells ≤ mc) (hs : slots ≤ ms) (hdg : decode cc pc = .ok (.return_, 1)) (hp : post none (ad', n', nc', g')) :
    W p l e R s m args below meth c H locs cells slots Q (F0 m pc ls []) := by
  subst hQ
  exact W.widen hc hs (vx_ret (W.vret hexec hb hr (fun t ht _ => ⟨⟨_, (ad', n', nc', g'), rfl, hp, by show kW D cy base ad' n' nc' g' t.heap; rw [ht]; exact hw⟩, hS.F ht⟩) hS.2.2 hdg hlocks))
theorem kx_retA (hQ : Q = kMQ D cy base ad n nc g below post X args s mc ms) (hexec : p.tables.exec = Jvm.exec) (hb : c.code = cc) {o : String} (hr : meth.sig.returnType = some (.object o)) (hlocks : meth.locks = false) {a : Nat} (hw : kW D cy base ad' n' nc' g' H) (hS : va_S (kA base) s.heap H locs) (hc : cells ≤ mc) (hs : slots ≤ ms) (hdg : decode cc pc = .ok (.areturn, 1)) (hp : post (some (.ref a)) (ad', n', nc', g')) :
    W p l e R s m args below meth c H locs cells slots Q (F0 m pc ls [.ref a]) := by
  subst hQ
  exact W.widen hc hs (vx_ret (W.aret hexec hb hr (Or.inl ⟨o, rfl⟩) (Or.inr ⟨a, rfl⟩) (fun t ht _ => ⟨⟨_, (ad', n', nc', g'), rfl, hp, by show kW D cy base ad' n' nc' g' t.heap; rw [ht]; exact hw⟩, hS.F ht⟩) hS.2.2 hdg hlocks))
/-- a throw of a callee goes on to the caller -/
theorem kx_out (hQ : Q = kMQ D cy base ad n nc g below post X args s mc ms) (hT : ∀ x ∈ c.exceptionTable.toList, False) (hlocks : meth.locks = false) (hw : kW D cy base ad n nc g H) (hS : va_S (kA base) s.heap H locs) {E : String} {ce : Cell} {q : Addr} (hX : X E) (hcell : H[q]? = some ce) (hv : ce.vm = .none) (hcl : s.vm.findClass E = some ce.cls) (hc : cells ≤ mc) (hs : slots ≤ ms) :
    vx_W p l e R s m args below meth c H locs cells slots Q (F0 m pc ls rest) q := by
  subst hQ
  exact vx_out (fun x hx => (hT x hx).elim) hlocks hcell hv hcl (fun t ht _ => ⟨hX, by rw [ht]; exact hw, hS.F ht⟩) hS.2.2 hc hs
abbrev kNm : List String := ["java/lang/RuntimeException", "java/lang/Exception"]
theorem kx_throw (hQ : Q = kMQ D cy base ad n nc g below post X args s mc ms) (hexec : p.tables.exec = Jvm.exec) (hb : c.code = cc) (hl : l.stackTraces = false) (hown : s.vm.findClass "Lostroom" = some m.cls) (hG : kG D cy base s) (hw : kW D cy base ad n nc g H) (hS : va_S (kA base) s.heap H locs) {cls text : String} {ik is ic : Nat} (wide : Bool)
    (hE : cls ∈ [kIO, kIA, kIS]) (hstr : (is, text) ∈ kStr) (hcls : Bundle.fit cls = true) (hk : (Cond.classLink "Lostroom" ik cls).before args s = true) (hini : (Cond.initialized cls).before args s = true) (hat : ∀ w ∈ (vx_atS "Lostroom" ic cls kNm).filter goodWord, w.before args s = true)
    (hbad : ∀ w ∈ (vx_atS "Lostroom" ic cls kNm).filter (fun w => !goodWord w), w ∈ kBad cls) (hgood : ∀ w ∈ Cond.classLink "Lostroom" ik cls :: Cond.initialized cls :: vx_atS "Lostroom" ic cls kNm, vx_ot w = true) (hX : X cls) (hsize : ls.size = c.maxLocals) (hT : ∀ x ∈ c.exceptionTable.toList, False) {w : Nat} (hwd : w = if wide = true then 3 else 2)
    (d0 : decode cc pc = .ok (.new ik, 3)) (d3 : decode cc (pc + 3) = .ok (.dup, 1)) (d4 : decode cc (pc + 4) = .ok (if wide = true then .ldc_w is else .ldc is, w)) (d6 : decode cc (pc + 4 + w) = .ok (.invokespecial ic, 3)) (d9 : decode cc (pc + 4 + w + 3) = .ok (.athrow, 1))
    (hR : 5 < R.frames ∧ (rest.map fun v => v.category).sum + 82 ≤ R.locals ∧ cells + 1 ≤ R.cells ∧ slots + 6 ≤ R.slots) (hlocks : meth.locks = false) (hc : cells + 1 ≤ mc) (hs : slots + 6 ≤ ms) :
    W p l e R s m args below meth c H locs cells slots Q (F0 m pc ls rest) := by
  subst hQ
  obtain ⟨sa, hsa⟩ := hG.2.2.2.1 _ hstr
  have hat' : ∀ w ∈ vx_atS "Lostroom" ic cls kNm, w.before args s = true := vx_hat hat hbad (vx_c (va_Nw.use rfl (hG.2.2.2.2.1 cls hE)) (vx_c (va_Nw.use rfl (hG.2.2.2.2.2.2.1 _ (by simp [kSup]))) (vx_c (va_Nw.use rfl (hG.2.2.2.2.2.2.1 _ (by simp [kSup]))) (vx_c (va_Nw.use rfl (hG.2.2.2.2.2.2.1 _ (by simp [kSup]))) vx_n))))
  have hnm : ∀ n ∈ kNm, Bundle.fit n = true := by decide +kernel
  have hxx : ∀ t : State, s.vm.Alike t.vm → H.size ≤ t.heap.size → (∀ q : Nat, q < H.size → t.heap[q]? = H[q]?) → kX D cy base ad n nc g X cls s t := fun t _ h1 h2 =>
    ⟨hX, hw.kept h2, Nat.le_trans hS.1 h1, fun q h3 h4 => (h2 q (Nat.lt_of_lt_of_le h3 hS.1)).trans (hS.2.1 q h3 h4)⟩
  cases wide with
  | false =>
    have e : w = 2 := hwd
    subst e
    exact vx_throwS (names := kNm) hexec hb hl hown hcls hnm hk hini hsa hat' hgood hG.2.1 hG.2.2.1 hS hsize d0 d3 d4 d6 d9 (fun x hx => (hT x hx).elim) hR.1 hR.2.1 hR.2.2.1 hR.2.2.2 hlocks hxx hS.2.2 hc hs
  | true =>
    have e : w = 3 := hwd
    subst e
    exact vx_throwSW (names := kNm) hexec hb hl hown hcls hnm hk hini hsa hat' hgood hG.2.1 hG.2.2.1 hS hsize d0 d3 d4 d6 d9 (fun x hx => (hT x hx).elim) hR.1 hR.2.1 hR.2.2.1 hR.2.2.2 hlocks hxx hS.2.2 hc hs
variable {y : MethodName} {bytes : ByteArray} {maxL nL nA index mc1 ms1 : Nat} {ret : Option FieldType} {ws ws' : List Cond} {rm : Room} {Ts : List Cond} {own : String} {st0 st1 : List Value} {a : Array Value} {As : List Value} {X1 : String → Prop} {post1 : Option Value → kS → Prop}
theorem kx_call (hr : vx_Run p l e R s m args below meth c H locs cells slots mc1 ms1 (F0 m pc ls st0) rest (kQ D cy base post1 a) (kX D cy base ad n nc g X1) (kA base)) (hS : va_S (kA base) s.heap H locs)
    (kx : ∀ (E : String) (ce : Cell) (q9 : Addr) (H1 : Heap) (locs1 : List Loc), X1 E → kW D cy base ad n nc g H1 → va_S (kA base) s.heap H1 locs1 → H1[q9]? = some ce → ce.vm = .none → s.vm.findClass E = some ce.cls → vx_W p l e R s m args below meth c H1 locs1 (cells + mc1) (slots + ms1) Q (F0 m pc ls rest) q9)
    (kk : ∀ (v : Option Value) (u : kS) (H1 : Heap) (locs1 : List Loc), post1 v u → kWt D cy base u H1 → va_S (kA base) s.heap H1 locs1 → W p l e R s m args below meth c H1 locs1 (cells + mc1) (slots + ms1) Q (F0 m (pc + 3) ls (v.toList ++ rest))) : W p l e R s m args below meth c H locs cells slots Q (F0 m pc ls st0) := by
  intro T hT X
  rcases hr T hT X with ⟨v, st₀, t, T', L, h0, X', hL, e1, e2, ⟨⟨v', u, hv, hp, hb⟩, hF⟩, st⟩ | ⟨q, st₀, t, T', L, E, ce, h0, X', hL, e1, e2, ⟨hp, hb, hF⟩, hce, hcv, hcl, st⟩
  · cases hv
    obtain ⟨k1, k2, k3⟩ := vx_keep h0 e1 hS (fun _ _ h => h) (fun _ h => h) hL hF
    obtain ⟨t2, a1, b1⟩ := kk v u T'.heap (locs ++ L) hp (by rw [e1]; exact hb) k3 T' rfl X'
    exact ⟨t2, st t2 a1, b1⟩
  · obtain ⟨k1, k2, k3⟩ := vx_keep h0 e1 hS (fun _ _ h => h) (fun _ h => h) hL hF
    obtain ⟨t2, a1, b1⟩ := kx E ce q T'.heap (locs ++ L) hp (by rw [e1]; exact hb) k3 (by rw [e1]; exact hce) hcv hcl T' rfl X'
    exact ⟨t2, st.trans a1, b1⟩
theorem kx_cv {C : String} {T : u_T} {N k ci : Nat} {V : Nat → Value} (hF : CallFix p m c cc nL s args Ts own) (hG : kG D cy base s) (hw : kW D cy base ad n nc g H) (hS : va_S (kA base) s.heap H locs) (hsz : ls.size = nL) (hk : kC cy ad n nc g k = some (.inr (ci, V))) (hc : vwCl[ci]? = some (C, T, N))
    (hM : kM l y ws rm D cy base ad n nc g (.ref (ad k) :: As) post1 X1 mc1 ms1) (hT : GoodIn Ts (wsV own index C y ws)) (hwd : ws = Cond.code y bytes maxL ret :: ws') (hrc : rm.cells = mc1) (hrs : rm.slots = ms1)
    (hd : y.cls = C ∧ y.cls ≠ "java/lang/invoke/MethodHandle" ∧ y.cls ≠ "java/lang/invoke/VarHandle" ∧ (parseMethodDescriptor y.desc).map (fun d => d.parameters.length) = some nA) (hR : rm.frames + 1 ≤ R.frames ∧ 8 + (maxL + 11) + rm.locals ≤ R.locals)
    (hn : As.length = nA) (hst : st0 = As.reverse ++ .ref (ad k) :: rest) (hcat : (rest.map fun v => v.category).sum ≤ 8) (hdg : decode cc pc = .ok (.invokevirtual index, 3)) (hf : cells + mc1 ≤ R.cells ∧ slots + ms1 ≤ R.slots) :
    vx_Run p l e R s m args below meth c H locs cells slots mc1 ms1 (F0 m pc ls st0) rest (kQ D cy base post1 (Value.ref (ad k) :: As).toArray) (kX D cy base ad n nc g X1) (kA base) := by
  obtain ⟨⟨r, h1, cell, q1, q2, q3, q4⟩, -⟩ := hw.1 k _ hk
  have hr : r = (C, T, N) := Option.some.inj (h1.symm.trans hc)
  subst hr
  exact vx_runV (b := ad k) (As := As) (rest := rest) hF hM (cwV nA hF.2.2.2.2 hT hwd hrc hrs hd hR) ⟨kPre.blind, ⟨cell, q1, by rw [q3]; rfl, by rw [q2]; exact (hG.1.1 ci _ hc).2.1⟩, kPre.at hG hw hS⟩ rfl hn hsz hst (lv_room hcat) hdg hf
theorem kx_cs (hF : CallFix p m c cc nL s args Ts own) (hG : kG D cy base s) (hw : kW D cy base ad n nc g H) (hS : va_S (kA base) s.heap H locs) (hsz : ls.size = nL)
    (hM : kM l y ws rm D cy base ad n nc g As post1 X1 mc1 ms1) (hT : GoodIn Ts (va_wsS own index y ws)) (hwd : ws = Cond.code y bytes maxL ret :: ws') (hrc : rm.cells = mc1) (hrs : rm.slots = ms1)
    (hd : y.cls ≠ "java/lang/invoke/MethodHandle" ∧ y.cls ≠ "java/lang/invoke/VarHandle" ∧ (parseMethodDescriptor y.desc).map (fun d => d.parameters.length) = some nA) (hR : rm.frames + 1 ≤ R.frames ∧ 8 + (maxL + 11) + rm.locals ≤ R.locals)
    (hn : As.length = nA) (hst : st0 = As.reverse ++ rest) (hcat : (rest.map fun v => v.category).sum ≤ 8) (hdg : decode cc pc = .ok (.invokestatic index, 3)) (hf : cells + mc1 ≤ R.cells ∧ slots + ms1 ≤ R.slots) :
    vx_Run p l e R s m args below meth c H locs cells slots mc1 ms1 (F0 m pc ls st0) rest (kQ D cy base post1 As.toArray) (kX D cy base ad n nc g X1) (kA base) :=
  vx_runS (As := As) (rest := rest) hF hM (va_cwS nA hF.2.2.2.2 hT hwd hrc hrs hd hR) ⟨kPre.blind, kPre.at hG hw hS⟩ rfl hn hsz hst (lv_room hcat) hdg hf
/-- a call whose answer and effect are told beforehand -/
theorem kx_do {ok : Prop} {v0 : Option Value} {g1 : sg} (hr : vx_Run p l e R s m args below meth c H locs cells slots mc1 ms1 (F0 m pc ls st0) rest (kQ D cy base (kD ok v0 ad n nc g1) a) (kX D cy base ad n nc g X1) (kA base)) (hS : va_S (kA base) s.heap H locs) (h1 : v0.toList ++ rest = st1)
    (kx : ∀ (E : String) (ce : Cell) (q9 : Addr) (H1 : Heap) (locs1 : List Loc), X1 E → kW D cy base ad n nc g H1 → va_S (kA base) s.heap H1 locs1 → H1[q9]? = some ce → ce.vm = .none → s.vm.findClass E = some ce.cls → vx_W p l e R s m args below meth c H1 locs1 (cells + mc1) (slots + ms1) Q (F0 m pc ls rest) q9)
    (kk : ok → ∀ (H1 : Heap) (locs1 : List Loc), kW D cy base ad n nc g1 H1 → va_S (kA base) s.heap H1 locs1 → W p l e R s m args below meth c H1 locs1 (cells + mc1) (slots + ms1) Q (F0 m (pc + 3) ls st1)) : W p l e R s m args below meth c H locs cells slots Q (F0 m pc ls st0) := by
  subst h1
  refine kx_call hr hS kx (fun v u H1 locs1 hp hw1 hS1 => ?_)
  obtain ⟨hok, rfl, rfl⟩ := hp
  exact kk hok H1 locs1 hw1 hS1
/-- .. of a method that doesn't throw and makes nothing -/
theorem kx_do0 {v0 : Option Value} {g1 : sg} (hr : vx_Run p l e R s m args below meth c H locs cells slots 0 0 (F0 m pc ls st0) rest (kQ D cy base (kD True v0 ad n nc g1) a) (kX D cy base ad n nc g kNo) (kA base)) (hS : va_S (kA base) s.heap H locs) (h1 : v0.toList ++ rest = st1)
    (kk : ∀ (H1 : Heap) (locs1 : List Loc), kW D cy base ad n nc g1 H1 → va_S (kA base) s.heap H1 locs1 → W p l e R s m args below meth c H1 locs1 cells slots Q (F0 m (pc + 3) ls st1)) : W p l e R s m args below meth c H locs cells slots Q (F0 m pc ls st0) :=
  kx_do hr hS h1 (fun _ _ _ _ _ h => h.elim) (fun _ H1 locs1 => kk H1 locs1)
end KC
