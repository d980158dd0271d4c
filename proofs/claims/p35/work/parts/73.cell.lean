/-! The script's numbers; an act, and calls of both objects, from the law. -/
theorem k2.kept {D cy base ad n nc g ae n2 nc2 h} {H H1 : Heap} (w : k2 D cy base ad n nc g ae n2 nc2 h H) (hq : ∀ q : Nat, q < H.size → H1[q]? = H[q]?) : k2 D cy base ad n nc g ae n2 nc2 h H1 := by
  obtain ⟨g1, g2, e1, e2, w1, w2, d⟩ := w
  exact ⟨g1, g2, e1, e2, kW.kept w1 hq, kW.kept w2 hq, d⟩
def cellQ : Array Value → State → Outcome → State → Prop := fun _ st oc t => (∃ v : Int32, oc = .returned (some (.int v))) ∧ va_F (fun _ => False) st t
def cellP (b L : Nat) (xs : Nat → Int32) (U : State) : Prop := va_X b L xs U U.heap ∧ b < U.heap.size
theorem hd_L_cell : yL_cell.cls ≠ "java/lang/invoke/MethodHandle" ∧ yL_cell.cls ≠ "java/lang/invoke/VarHandle" ∧ (parseMethodDescriptor yL_cell.desc).map (fun d => d.parameters.length) = some 2 := by decide +kernel
set_option maxHeartbeats 4000000 in
theorem c_L_cell (l : Launch) (b L : Nat) (xs : Nat → Int32) (hL : L < 2 ^ 31) (k : Nat) (hk : k < 100) : vx_Met l yL_cell wsL_cell (kR 0 0 0) (va_Pc [.ref b, .int (nI k)] (cellP b L xs)) cellQ k2X 0 0 (fun _ => False) := by
  refine vx_ofW (cc := cL_cell) (maxL := 2) (ret := (some .int)) (by decide) rfl ?_
  intro p e s m args below meth c s₁ B hml ht hv
  obtain ⟨rfl, hX, hbl⟩ := hv
  have hl := lv_entry ([.ref b, .int (nI k)]) (n := 2) (Nat.le_of_ble_eq_true rfl)
  rw [lg_entry_eq]
  have hx := B.exec
  have hb := B.bytes
  have hr := B.returns
  have hlk := B.notSynchronized
  generalize (lg_sl ([.ref b, .int (nI k)]) ++ List.replicate (2 - (lg_sl ([.ref b, .int (nI k)])).length) Slot.unset).toArray = ls at hl ⊢
  have hl : lv_has ls 2 [(0, .ref b), (1, .int (nI k))] := hl
  have hS : va_S (fun _ => False) s.heap s.heap [] := va_S.rf
  have hA : ¬ (fun _ : Nat => False) b := id
  refine lv_iload_n hx hb dL_cell_0 rfl (lv_at hl 1 rfl) ?_
  refine lv_aload_n hx hb dL_cell_1 rfl (lv_at hl 0 rfl) ?_
  refine va_slen hx hb hX hbl hA hS dL_cell_2 ?_
  refine lv_icmp_ge (tgt := 12) hx hb dL_cell_3 (by decide) (fun c_3 => ?_) (fun c_3 => ?_)
  · refine lv_sipush (v := 7919) hx hb dL_cell_12 (by decide) ?_
    refine lv_iload_n hx hb dL_cell_15 rfl (lv_at hl 1 rfl) ?_
    refine lv_sipush (v := 1733) hx hb dL_cell_16 (by decide) ?_
    refine lv_iadd hx hb dL_cell_19 ?_
    refine lv_imul hx hb dL_cell_20 ?_
    refine lv_iload_n hx hb dL_cell_21 rfl (lv_at hl 1 rfl) ?_
    refine lv_sipush (v := 4253) hx hb dL_cell_22 (by decide) ?_
    refine lv_iadd hx hb dL_cell_25 ?_
    refine lv_imul hx hb dL_cell_26 ?_
    exact vx_ret (W.iret hx hb hr (fun t ht _ => ⟨⟨_, rfl⟩, hS.F ht⟩) hS.2.2 dL_cell_27 hlk)
  · have hkL : k < L := lt_nI (a := L) (b := k) c_3 hL (by omega)
    refine lv_aload_n hx hb dL_cell_6 rfl (lv_at hl 0 rfl) ?_
    refine lv_iload_n hx hb dL_cell_7 rfl (lv_at hl 1 rfl) ?_
    refine va_sld hx hb hX hbl hA hS (vp_in_nI hkL hL) dL_cell_8 ?_
    refine lv_goto (tgt := 27) hx hb dL_cell_9 (by decide) ?_
    exact vx_ret (W.iret hx hb hr (fun t ht _ => ⟨⟨_, rfl⟩, hS.F ht⟩) hS.2.2 dL_cell_27 hlk)
section KLW
variable {p : Program} {l : Launch} {e : Env} {R : Room} {s : State} {m : MethodId} {args : Array Value} {below : List Frame} {meth : Method} {c : Code} {H : Heap} {locs : List Loc} {cells slots : Nat} {Q : State → Prop}
variable {cc : ByteArray} {pc : Nat} {ls : Array Slot} {rest : List Value} {D : va_G} {cy : Nat → ClassId} {base : Nat → Prop} {ad ae : Nat → Nat} {n nc n2 nc2 : Nat} {g h : sg}
variable {nL index : Nat} {Ts : List Cond} {own : String} {st0 : List Value} {a : Array Value} {mc1 ms1 : Nat}
theorem cellP.blind {b L : Nat} {xs : Nat → Int32} {as : List Value} : FrameBlind (va_Pc as (cellP b L xs)) := fun a U gg mk q => ⟨q.1, va_X.moved (u := U) (U := U.calling gg mk a) (Vm.Alike.refl U.vm) q.2.1, q.2.2⟩
theorem k2_cell {b L : Nat} {xs : Nat → Int32} {k : Nat} (hk : k < 100) (hL : L < 2 ^ 31) (hF : CallFix p m c cc nL s args Ts own) (hS : va_S (kA base) s.heap H locs) (hw : k2 D cy base ad n nc g ae n2 nc2 h H) (hX : va_X b L xs s s.heap) (hbl : b < s.heap.size) (hbA : ¬ kA base b) (hsz : ls.size = nL)
    (hT : GoodIn Ts (va_wsS own index yL_cell wsL_cell)) (hR : 1 ≤ R.frames ∧ 8 + (2 + 11) ≤ R.locals) (hst : st0 = [.int (nI k), .ref b] ++ rest) (hcat : (rest.map fun v => v.category).sum ≤ 8) (hdg : decode cc pc = .ok (.invokestatic index, 3)) (hf : cells ≤ R.cells ∧ slots ≤ R.slots)
    (kk : ∀ (v : Int32) (H1 : Heap) (locs1 : List Loc), k2 D cy base ad n nc g ae n2 nc2 h H1 → va_S (kA base) s.heap H1 locs1 → W p l e R s m args below meth c H1 locs1 cells slots Q (F0 m (pc + 3) ls (.int v :: rest))) : W p l e R s m args below meth c H locs cells slots Q (F0 m pc ls st0) := by
  have hr := vx_runS (e := e) (below := below) (meth := meth) (As := [.ref b, .int (nI k)]) (rest := rest) (g := F0 m pc ls st0) (cells := cells) (slots := slots) (locs := locs) hF (c_L_cell l b L xs hL k hk) (va_cwS (bytes := cL_cell) (maxL := 2) (ret := some .int) (rm := kR 0 0 0) 2 hF.2.2.2.2 hT rfl rfl rfl hd_L_cell hR) ⟨cellP.blind, fun U hU hW => ⟨rfl, by
    rw [hU]
    exact (hX.moved hW.alike).kept (hS.2.1 b hbl hbA), by rw [hU]; exact Nat.lt_of_lt_of_le hbl hS.1⟩⟩ rfl rfl hsz hst (lv_room hcat) hdg hf
  intro T hT2 X
  rcases hr T hT2 X with ⟨v, st₀, t, T', L9, h0, X', hL9, f1, f2, ⟨⟨v', hv⟩, hF9⟩, st⟩ | ⟨q, st₀, t, T', L9, E, ce, h0, X', hL9, f1, f2, hp, -⟩
  · cases hv
    obtain ⟨-, -, k3⟩ := vx_keep h0 f1 hS (fun _ _ (q : False) => q.elim) (fun _ (q : False) => q.elim) hL9 hF9
    have keep : ∀ q : Nat, q < H.size → T'.heap[q]? = H[q]? := fun q h1 => by
      rw [f1, ← h0]
      exact hF9.2 q (by rw [h0]; exact h1) id
    obtain ⟨t2, a1, b1⟩ := kk v' T'.heap (locs ++ L9) (hw.kept keep) k3 T' rfl X'
    exact ⟨t2, st t2 a1, b1⟩
  · exact hp.elim
/-- an act of the one -/
theorem k2_act {V : Int32} (hG : kG D cy base s) (hS : va_S (kA base) s.heap H locs) (hw : k2 D cy base ad n nc g ae n2 nc2 h H)
    (hrun : ∀ (b' : Nat → Prop) (g1 : sg), E8 g g1 → kW D cy b' ad n nc g1 H → (∀ U : State, U.heap = H → s.WarmedH U.vm → kG D cy b' U) → vx_Run p l e R s m args below meth c H locs cells slots mc1 ms1 (F0 m pc ls st0) rest (kQ D cy b' (kLP (ad 0) (actF n nc g1 V)) a) (kX D cy b' ad n nc g1 kNo) (kA b'))
    (kk : ∀ (ad' : Nat → Nat) (H1 : Heap) (locs1 : List Loc), ad' 0 = ad 0 → k2 D cy base ad' (actF n nc g V).2.1 (actF n nc g V).2.2.1 (actF n nc g V).2.2.2 ae n2 nc2 h H1 → va_S (kA base) s.heap H1 locs1 → W p l e R s m args below meth c H1 locs1 (cells + mc1) (slots + ms1) Q (F0 m (pc + 3) ls (.int (actF n nc g V).1 :: rest))) : W p l e R s m args below meth c H locs cells slots Q (F0 m pc ls st0) := by
  refine k2_core (P := fun g1 => kLP (ad 0) (actF n nc g1 V)) hG hS hw hrun (fun g1 v u H1 locs1 he hp hw1 hS1 => ?_)
  obtain ⟨rfl, h0, hu⟩ := hp
  obtain ⟨r1, r2, r3, r4⟩ := act_e (n := n) (nc := nc) he V
  have hw2 := hw1 (actF n nc g V).2.2.2 (by rw [hu]; exact r4)
  rw [hu] at hw2
  rw [← r2, ← r3] at hw2
  have k := kk u.1 H1 locs1 h0 hw2 hS1
  rw [r1] at k
  exact k
/-- a call of both -/
theorem k2_both {y : MethodName} {bytes : ByteArray} {maxL nA : Nat} {ret : Option FieldType} {ws ws' : List Cond} {rm : Room} {As : List Value} {v1 : Int32} (hF : CallFix p m c cc nL s args Ts own) (hG : kG D cy base s) (hS : va_S (kA base) s.heap H locs) (hw : k2 D cy base ad n nc g ae n2 nc2 h H) (hsz : ls.size = nL)
    (hM : k2M l y ws rm D cy base ad n nc g ae n2 nc2 h As (some (.int v1)) mc1 ms1) (hT : GoodIn Ts (va_wsS own index y ws)) (hwd : ws = Cond.code y bytes maxL ret :: ws') (hrc : rm.cells = mc1) (hrs : rm.slots = ms1)
    (hd : y.cls ≠ "java/lang/invoke/MethodHandle" ∧ y.cls ≠ "java/lang/invoke/VarHandle" ∧ (parseMethodDescriptor y.desc).map (fun d => d.parameters.length) = some nA) (hR : rm.frames + 1 ≤ R.frames ∧ 8 + (maxL + 11) + rm.locals ≤ R.locals)
    (hn : As.length = nA) (hst : st0 = As.reverse ++ rest) (hcat : (rest.map fun v => v.category).sum ≤ 8) (hdg : decode cc pc = .ok (.invokestatic index, 3)) (hf : cells + mc1 ≤ R.cells ∧ slots + ms1 ≤ R.slots)
    (kk : ∀ (H1 : Heap) (locs1 : List Loc), k2 D cy base ad n nc g ae n2 nc2 h H1 → va_S (kA base) s.heap H1 locs1 → W p l e R s m args below meth c H1 locs1 (cells + mc1) (slots + ms1) Q (F0 m (pc + 3) ls (.int v1 :: rest))) : W p l e R s m args below meth c H locs cells slots Q (F0 m pc ls st0) := by
  have hr := vx_runS (e := e) (below := below) (meth := meth) (As := As) (rest := rest) (g := F0 m pc ls st0) (cells := cells) (slots := slots) (locs := locs) hF hM (va_cwS nA hF.2.2.2.2 hT hwd hrc hrs hd hR) ⟨k2Pre.blind, fun U hU hW => ⟨rfl, by show k2 D cy base ad n nc g ae n2 nc2 h U.heap; rw [hU]; exact hw, hG.warm hW hU hS⟩⟩ rfl hn hsz hst (lv_room hcat) hdg hf
  intro T hT2 X
  rcases hr T hT2 X with ⟨v, st₀, t, T', L9, h0, X', hL9, f1, f2, ⟨⟨hv, hw9⟩, hF9⟩, st⟩ | ⟨q, st₀, t, T', L9, E, ce, h0, X', hL9, f1, f2, hp, -⟩
  · cases hv
    obtain ⟨-, -, k3⟩ := vx_keep h0 f1 hS (fun _ _ q => q) (fun _ q => q) hL9 hF9
    obtain ⟨t2, a1, b1⟩ := kk T'.heap (locs ++ L9) (by rw [f1]; exact hw9) k3 T' rfl X'
    exact ⟨t2, st t2 a1, b1⟩
  · exact hp.elim
end KLW
