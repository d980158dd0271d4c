/-! walks laid by wip/p35/kgen.py, kall.py -/
theorem hd_X2_termOf : yX2_termOf.cls = RX2 ∧ yX2_termOf.cls ≠ "java/lang/invoke/MethodHandle" ∧ yX2_termOf.cls ≠ "java/lang/invoke/VarHandle" ∧ (parseMethodDescriptor yX2_termOf.desc).map (fun d => d.parameters.length) = some 1 := by decide +kernel
set_option maxHeartbeats 4000000 in
set_option maxRecDepth 100000 in
theorem c_X2_termOf (l : Launch) (hfl : l.stackTraces = false) (D : va_G) (cy : Nat → ClassId) (base : Nat → Prop) (ad : Nat → Nat) (n nc : Nat) (g : sg) (k : Int32) (hv : vp_in k 8) : kM l yX2_termOf wsX2_termOf (kR 0 0 0) D cy base ad n nc g [.ref (ad 0), .int k] (kD True (some (.int (if k = 7 then 1 else g 4 k.toNatClampNeg))) ad n nc g) kNo 0 0 := by
  refine kx_meth (cc := cX2_termOf) (maxL := 2) (ret := (some .int)) (by decide) rfl (Nat.le_of_ble_eq_true rfl) ?_
  intro p e s m args below meth c ls hx hb hr hml hown hts hlk hT hG hw0 hS0 hl Q H locs hQ hw hS hH0 hlocs0
  have hl : lv_has ls 2 [(0, .ref (ad 0)), (1, .int k)] := hl
  have hown : s.vm.findClass RX2 = some m.cls := hown
  have hF : CallFix p m c cX2_termOf 2 s args wsX2_termOf RX2 := ⟨hx, hb, hml, hown, hts⟩
  have hn30 : n ≤ 30 := hw.2.2.1
  have hc20 : nc ≤ 20 := hw.2.2.2
  clear hw0 hS0 hH0 hlocs0
  have i2 : ∀ w ∈ wsX20, w ∈ wsX2_termOf := by decide +kernel
  have f_19 := hts (.fieldLink RX2 19 "Lostroom" "terms" "[I") (by decide +kernel)
  refine lv_iload_n hx hb dX2_termOf_0 rfl (lv_at hl 1 rfl) ?_
  refine lv_bipush (v := 7) hx hb dX2_termOf_1 (by decide) ?_
  refine lv_icmp_ne (tgt := 8) hx hb dX2_termOf_3 (by decide) (fun c_3 => ?_) (fun c_3 => ?_)
  · refine lv_iload_n hx hb dX2_termOf_8 rfl (lv_at hl 1 rfl) ?_
    refine lv_if_lt (tgt := 30) hx hb dX2_termOf_9 (by decide) (fun c_9 => ?_) (fun c_9 => ?_)
    · exact absurd c_9 (vp_n0 hv)
    · refine lv_iload_n hx hb dX2_termOf_12 rfl (lv_at hl 1 rfl) ?_
      refine lv_aload_n hx hb dX2_termOf_13 rfl (lv_at hl 0 rfl) ?_
      refine kx_getL (v := .ref (ad 4)) hx hb hts hown hG hw i2 3 (by decide) f_19 rfl dX2_termOf_14 ?_
      refine kx_alen (v := 8) hx hb hG hw (kC_I rfl) 0 rfl rfl dX2_termOf_17 ?_
      refine lv_icmp_ge (tgt := 30) hx hb dX2_termOf_18 (by decide) (fun c_18 => ?_) (fun c_18 => ?_)
      · exact absurd c_18 (vp_nge hv rfl)
      · refine lv_aload_n hx hb dX2_termOf_21 rfl (lv_at hl 0 rfl) ?_
        refine kx_getL (v := .ref (ad 4)) hx hb hts hown hG hw i2 3 (by decide) f_19 rfl dX2_termOf_22 ?_
        refine lv_iload_n hx hb dX2_termOf_25 rfl (lv_at hl 1 rfl) ?_
        refine kx_iald (v := (g 4 k.toNatClampNeg)) hx hb hG hw (kC_I rfl) k.toNatClampNeg rfl hv rfl dX2_termOf_26 ?_
        refine lv_goto (tgt := 32) hx hb dX2_termOf_27 (by decide) ?_
        exact kx_retI hQ hx hb hr hlk hw hS (Nat.le_of_ble_eq_true rfl) (Nat.le_of_ble_eq_true rfl) dX2_termOf_32 (kd_i (trivial) (by first | (simp only [decide_eq_false c_3, if_neg c_3, decide_eq_false c_9, if_neg c_9, decide_eq_false c_18, if_neg c_18]; done) | (simp only [decide_eq_false c_3, if_neg c_3, decide_eq_false c_9, if_neg c_9, decide_eq_false c_18, if_neg c_18]; rfl) | (simp [decide_eq_false c_3, if_neg c_3, decide_eq_false c_9, if_neg c_9, decide_eq_false c_18, if_neg c_18]; done)) (rfl))
  · refine lv_iconst (v := 1) hx hb dX2_termOf_6 (by decide) ?_
    exact kx_retI hQ hx hb hr hlk hw hS (Nat.le_of_ble_eq_true rfl) (Nat.le_of_ble_eq_true rfl) dX2_termOf_7 (kd_i (trivial) (by first | (simp only [decide_eq_true c_3, if_pos c_3]; done) | (simp only [decide_eq_true c_3, if_pos c_3]; rfl) | (simp [decide_eq_true c_3, if_pos c_3]; done)) (rfl))
theorem hd_X2_rateOf : yX2_rateOf.cls = RX2 ∧ yX2_rateOf.cls ≠ "java/lang/invoke/MethodHandle" ∧ yX2_rateOf.cls ≠ "java/lang/invoke/VarHandle" ∧ (parseMethodDescriptor yX2_rateOf.desc).map (fun d => d.parameters.length) = some 1 := by decide +kernel
set_option maxHeartbeats 4000000 in
set_option maxRecDepth 100000 in
theorem c_X2_rateOf (l : Launch) (hfl : l.stackTraces = false) (D : va_G) (cy : Nat → ClassId) (base : Nat → Prop) (ad : Nat → Nat) (n nc : Nat) (g : sg) (k : Int32) (hv : vp_in k 8) : kM l yX2_rateOf wsX2_rateOf (kR 0 0 0) D cy base ad n nc g [.ref (ad 0), .int k] (kD True (some (.int (g 5 k.toNatClampNeg))) ad n nc g) kNo 0 0 := by
  refine kx_meth (cc := cX2_rateOf) (maxL := 2) (ret := (some .int)) (by decide) rfl (Nat.le_of_ble_eq_true rfl) ?_
  intro p e s m args below meth c ls hx hb hr hml hown hts hlk hT hG hw0 hS0 hl Q H locs hQ hw hS hH0 hlocs0
  have hl : lv_has ls 2 [(0, .ref (ad 0)), (1, .int k)] := hl
  have hown : s.vm.findClass RX2 = some m.cls := hown
  have hF : CallFix p m c cX2_rateOf 2 s args wsX2_rateOf RX2 := ⟨hx, hb, hml, hown, hts⟩
  have hn30 : n ≤ 30 := hw.2.2.1
  have hc20 : nc ≤ 20 := hw.2.2.2
  clear hw0 hS0 hH0 hlocs0
  have i2 : ∀ w ∈ wsX20, w ∈ wsX2_rateOf := by decide +kernel
  have f_22 := hts (.fieldLink RX2 22 "Lostroom" "rates" "[I") (by decide +kernel)
  refine lv_iload_n hx hb dX2_rateOf_0 rfl (lv_at hl 1 rfl) ?_
  refine lv_if_lt (tgt := 22) hx hb dX2_rateOf_1 (by decide) (fun c_1 => ?_) (fun c_1 => ?_)
  · exact absurd c_1 (vp_n0 hv)
  · refine lv_iload_n hx hb dX2_rateOf_4 rfl (lv_at hl 1 rfl) ?_
    refine lv_aload_n hx hb dX2_rateOf_5 rfl (lv_at hl 0 rfl) ?_
    refine kx_getL (v := .ref (ad 5)) hx hb hts hown hG hw i2 4 (by decide) f_22 rfl dX2_rateOf_6 ?_
    refine kx_alen (v := 8) hx hb hG hw (kC_I rfl) 0 rfl rfl dX2_rateOf_9 ?_
    refine lv_icmp_ge (tgt := 22) hx hb dX2_rateOf_10 (by decide) (fun c_10 => ?_) (fun c_10 => ?_)
    · exact absurd c_10 (vp_nge hv rfl)
    · refine lv_aload_n hx hb dX2_rateOf_13 rfl (lv_at hl 0 rfl) ?_
      refine kx_getL (v := .ref (ad 5)) hx hb hts hown hG hw i2 4 (by decide) f_22 rfl dX2_rateOf_14 ?_
      refine lv_iload_n hx hb dX2_rateOf_17 rfl (lv_at hl 1 rfl) ?_
      refine kx_iald (v := (g 5 k.toNatClampNeg)) hx hb hG hw (kC_I rfl) k.toNatClampNeg rfl hv rfl dX2_rateOf_18 ?_
      refine lv_goto (tgt := 23) hx hb dX2_rateOf_19 (by decide) ?_
      exact kx_retI hQ hx hb hr hlk hw hS (Nat.le_of_ble_eq_true rfl) (Nat.le_of_ble_eq_true rfl) dX2_rateOf_23 (kd_i (trivial) (rfl) (rfl))
theorem hd_X2_areAlike : yX2_areAlike.cls = RX2 ∧ yX2_areAlike.cls ≠ "java/lang/invoke/MethodHandle" ∧ yX2_areAlike.cls ≠ "java/lang/invoke/VarHandle" ∧ (parseMethodDescriptor yX2_areAlike.desc).map (fun d => d.parameters.length) = some 2 := by decide +kernel
set_option maxHeartbeats 4000000 in
set_option maxRecDepth 100000 in
theorem c_X2_areAlike (l : Launch) (hfl : l.stackTraces = false) (D : va_G) (cy : Nat → ClassId) (base : Nat → Prop) (ad : Nat → Nat) (n nc : Nat) (g : sg) (k : Int32) (q : Int32) (hv : vp_in k 8) (ho : vp_in q 8) : kM l yX2_areAlike wsX2_areAlike (kR 0 0 0) D cy base ad n nc g [.ref (ad 0), .int k, .int q] (kD True (some (.int (b2 (bq (g 2 k.toNatClampNeg) q)))) ad n nc g) kNo 0 0 := by
  refine kx_meth (cc := cX2_areAlike) (maxL := 3) (ret := (some .boolean)) (by decide) rfl (Nat.le_of_ble_eq_true rfl) ?_
  intro p e s m args below meth c ls hx hb hr hml hown hts hlk hT hG hw0 hS0 hl Q H locs hQ hw hS hH0 hlocs0
  have hl : lv_has ls 3 [(0, .ref (ad 0)), (1, .int k), (2, .int q)] := hl
  have hown : s.vm.findClass RX2 = some m.cls := hown
  have hF : CallFix p m c cX2_areAlike 3 s args wsX2_areAlike RX2 := ⟨hx, hb, hml, hown, hts⟩
  have hn30 : n ≤ 30 := hw.2.2.1
  have hc20 : nc ≤ 20 := hw.2.2.2
  clear hw0 hS0 hH0 hlocs0
  have i2 : ∀ w ∈ wsX20, w ∈ wsX2_areAlike := by decide +kernel
  have f_13 := hts (.fieldLink RX2 13 "Lostroom" "alikeKinds" "[I") (by decide +kernel)
  refine lv_iload_n hx hb dX2_areAlike_0 rfl (lv_at hl 1 rfl) ?_
  refine lv_if_lt (tgt := 30) hx hb dX2_areAlike_1 (by decide) (fun c_1 => ?_) (fun c_1 => ?_)
  · exact absurd c_1 (vp_n0 hv)
  · refine lv_iload_n hx hb dX2_areAlike_4 rfl (lv_at hl 1 rfl) ?_
    refine lv_aload_n hx hb dX2_areAlike_5 rfl (lv_at hl 0 rfl) ?_
    refine kx_getL (v := .ref (ad 2)) hx hb hts hown hG hw i2 1 (by decide) f_13 rfl dX2_areAlike_6 ?_
    refine kx_alen (v := 8) hx hb hG hw (kC_I rfl) 0 rfl rfl dX2_areAlike_9 ?_
    refine lv_icmp_ge (tgt := 30) hx hb dX2_areAlike_10 (by decide) (fun c_10 => ?_) (fun c_10 => ?_)
    · exact absurd c_10 (vp_nge hv rfl)
    · refine lv_aload_n hx hb dX2_areAlike_13 rfl (lv_at hl 0 rfl) ?_
      refine kx_getL (v := .ref (ad 2)) hx hb hts hown hG hw i2 1 (by decide) f_13 rfl dX2_areAlike_14 ?_
      refine lv_iload_n hx hb dX2_areAlike_17 rfl (lv_at hl 1 rfl) ?_
      refine kx_iald (v := (g 2 k.toNatClampNeg)) hx hb hG hw (kC_I rfl) k.toNatClampNeg rfl hv rfl dX2_areAlike_18 ?_
      refine lv_iconst (v := 1) hx hb dX2_areAlike_19 (by decide) ?_
      refine lv_iload_n hx hb dX2_areAlike_20 rfl (lv_at hl 2 rfl) ?_
      refine lv_ishl hx hb dX2_areAlike_21 ?_
      refine lv_iand hx hb dX2_areAlike_22 ?_
      refine lv_if_eq (tgt := 30) hx hb dX2_areAlike_23 (by decide) (fun c_23 => ?_) (fun c_23 => ?_)
      · refine lv_iconst (v := 0) hx hb dX2_areAlike_30 (by decide) ?_
        exact kx_retZ hQ hx hb hr hlk hw hS (Nat.le_of_ble_eq_true rfl) (Nat.le_of_ble_eq_true rfl) dX2_areAlike_31 rfl (kd_i (trivial) (by rw [bq_t ho (by decide) c_23]; rfl) (rfl))
      · refine lv_iconst (v := 1) hx hb dX2_areAlike_26 (by decide) ?_
        refine lv_goto (tgt := 31) hx hb dX2_areAlike_27 (by decide) ?_
        exact kx_retZ hQ hx hb hr hlk hw hS (Nat.le_of_ble_eq_true rfl) (Nat.le_of_ble_eq_true rfl) dX2_areAlike_31 rfl (kd_i (trivial) (by rw [bq_f ho (by decide) c_23]; rfl) (rfl))
theorem hd_X2_wordsNear : yX2_wordsNear.cls = RX2 ∧ yX2_wordsNear.cls ≠ "java/lang/invoke/MethodHandle" ∧ yX2_wordsNear.cls ≠ "java/lang/invoke/VarHandle" ∧ (parseMethodDescriptor yX2_wordsNear.desc).map (fun d => d.parameters.length) = some 1 := by decide +kernel
set_option maxHeartbeats 4000000 in
set_option maxRecDepth 100000 in
theorem c_X2_wordsNear (l : Launch) (hfl : l.stackTraces = false) (D : va_G) (cy : Nat → ClassId) (base : Nat → Prop) (ad : Nat → Nat) (n nc : Nat) (g : sg) (x : Int32) : kM l yX2_wordsNear wsX2_wordsNear (kR 0 0 0) D cy base ad n nc g [.ref (ad 0), .int x] (kD True (some (.int (wn (g 1) x 24))) ad n nc g) kNo 0 0 := by
  refine kx_meth (cc := cX2_wordsNear) (maxL := 4) (ret := (some .int)) (by decide) rfl (Nat.le_of_ble_eq_true rfl) ?_
  intro p e s m args below meth c ls hx hb hr hml hown hts hlk hT hG hw0 hS0 hl Q H locs hQ hw hS hH0 hlocs0
  have hl : lv_has ls 4 [(0, .ref (ad 0)), (1, .int x)] := hl
  have hown : s.vm.findClass RX2 = some m.cls := hown
  have hF : CallFix p m c cX2_wordsNear 4 s args wsX2_wordsNear RX2 := ⟨hx, hb, hml, hown, hts⟩
  have hn30 : n ≤ 30 := hw.2.2.1
  have hc20 : nc ≤ 20 := hw.2.2.2
  clear hw0 hS0 hH0 hlocs0
  have i2 : ∀ w ∈ wsX20, w ∈ wsX2_wordsNear := by decide +kernel
  have f_9 := hts (.fieldLink RX2 9 "Lostroom" "nearWords" "[I") (by decide +kernel)
  refine lv_iconst (v := 0) hx hb dX2_wordsNear_0 (by decide) ?_
  refine lv_istore_n (lv' := [(2, .int (0 : Int32)), (0, .ref (ad 0)), (1, .int x)]) hx hb dX2_wordsNear_1 rfl hl (by decide) rfl (fun ls hl => ?_)
  refine lv_iconst (v := 0) hx hb dX2_wordsNear_2 (by decide) ?_
  refine lv_istore_n (lv' := [(3, .int (0 : Int32)), (2, .int (0 : Int32)), (0, .ref (ad 0)), (1, .int x)]) hx hb dX2_wordsNear_3 rfl hl (by decide) rfl (fun ls hl => ?_)
  have lp_4 : ∀ (nn k : Nat), k ≤ 24 → 24 < k + nn → ∀ (H : Heap) (locs : List Loc) (ls : Array Slot), kW D cy base ad n nc g H → va_S (kA base) s.heap H locs → lv_has ls 4 [(3, .int (nI k)), (2, .int (wn (g 1) x k)), (0, .ref (ad 0)), (1, .int x)] → W p l e (kR 0 0 0) s m args below meth c H locs 0 0 Q (F0 m 4 ls []) := by
    intro nn
    induction nn with
    | zero => intro k h1 h2; exact absurd h2 (by omega)
    | succ nn ih_4 =>
      intro k hk_k hkn_k H locs ls hw hS hl
      refine lv_iload_n hx hb dX2_wordsNear_4 rfl (lv_at hl 0 rfl) ?_
      refine lv_aload_n hx hb dX2_wordsNear_5 rfl (lv_at hl 2 rfl) ?_
      refine kx_getL (v := .ref (ad 1)) hx hb hts hown hG hw i2 0 (by decide) f_9 rfl dX2_wordsNear_6 ?_
      refine kx_alen (v := 24) hx hb hG hw (kC_I rfl) 0 rfl rfl dX2_wordsNear_9 ?_
      refine lv_icmp_ge (tgt := 36) hx hb dX2_wordsNear_10 (by decide) (fun c_10 => ?_) (fun c_10 => ?_)
      · have e_k : k = 24 := Nat.le_antisymm hk_k (le_nI (a := 24) (b := k) c_10 (by omega) (by omega))
        refine lv_iload_n hx hb dX2_wordsNear_36 rfl (lv_at hl 1 rfl) ?_
        exact kx_retI hQ hx hb hr hlk hw hS (Nat.le_of_ble_eq_true rfl) (Nat.le_of_ble_eq_true rfl) dX2_wordsNear_37 (kd_i (trivial) (by rw [e_k]) (rfl))
      · have hlt_k : k < 24 := lt_nI (a := 24) (b := k) c_10 (by omega) (by omega)
        refine lv_iload_n hx hb dX2_wordsNear_13 rfl (lv_at hl 3 rfl) ?_
        refine lv_iconst (v := 1) hx hb dX2_wordsNear_14 (by decide) ?_
        refine lv_iload_n hx hb dX2_wordsNear_15 rfl (lv_at hl 0 rfl) ?_
        refine lv_ishl hx hb dX2_wordsNear_16 ?_
        refine lv_iand hx hb dX2_wordsNear_17 ?_
        refine lv_if_eq (tgt := 30) hx hb dX2_wordsNear_18 (by decide) (fun c_18 => ?_) (fun c_18 => ?_)
        · refine lv_iinc (v := (nI k + (1 : Int32))) (lv' := [(3, .int (nI k + (1 : Int32))), (2, .int (wn (g 1) x k)), (0, .ref (ad 0)), (1, .int x)]) hx hb dX2_wordsNear_30 hl (k := 0) rfl rfl (by decide) rfl (fun ls hl => ?_)
          refine lv_goto (tgt := 4) hx hb dX2_wordsNear_33 (by decide) ?_
          exact ih_4 (k + 1) (by omega) (by omega) _ _ _ hw hS (kx_lv (l := [(3, .int (nI k + (1 : Int32))), (2, .int (wn (g 1) x k)), (0, .ref (ad 0)), (1, .int x)]) (l' := [(3, .int (nI (k + 1))), (2, .int (wn (g 1) x (k + 1))), (0, .ref (ad 0)), (1, .int x)]) (lv_sub hl [0, 1, 2, 3] rfl) (by first | (simp only [wn, nI_1, decide_eq_false c_10, if_neg c_10, decide_eq_true c_18, if_pos c_18]; done) | (simp only [wn, nI_1, decide_eq_false c_10, if_neg c_10, decide_eq_true c_18, if_pos c_18]; rfl) | (simp [wn, nI_1, decide_eq_false c_10, if_neg c_10, decide_eq_true c_18, if_pos c_18]; done))) 
        · refine lv_iload_n hx hb dX2_wordsNear_21 rfl (lv_at hl 1 rfl) ?_
          refine lv_aload_n hx hb dX2_wordsNear_22 rfl (lv_at hl 2 rfl) ?_
          refine kx_getL (v := .ref (ad 1)) hx hb hts hown hG hw i2 0 (by decide) f_9 rfl dX2_wordsNear_23 ?_
          refine lv_iload_n hx hb dX2_wordsNear_26 rfl (lv_at hl 0 rfl) ?_
          refine kx_iald (v := (g 1 k)) hx hb hG hw (kC_I rfl) k (nI_clamp (by omega)) (vp_in_nI (by omega) (by decide)) rfl dX2_wordsNear_27 ?_
          refine lv_ior hx hb dX2_wordsNear_28 ?_
          refine lv_istore_n (lv' := [(2, .int (wn (g 1) x k ||| (g 1 k))), (3, .int (nI k)), (0, .ref (ad 0)), (1, .int x)]) hx hb dX2_wordsNear_29 rfl hl (by decide) rfl (fun ls hl => ?_)
          refine lv_iinc (v := (nI k + (1 : Int32))) (lv' := [(3, .int (nI k + (1 : Int32))), (2, .int (wn (g 1) x k ||| (g 1 k))), (0, .ref (ad 0)), (1, .int x)]) hx hb dX2_wordsNear_30 hl (k := 1) rfl rfl (by decide) rfl (fun ls hl => ?_)
          refine lv_goto (tgt := 4) hx hb dX2_wordsNear_33 (by decide) ?_
          exact ih_4 (k + 1) (by omega) (by omega) _ _ _ hw hS (kx_lv (l := [(3, .int (nI k + (1 : Int32))), (2, .int (wn (g 1) x k ||| (g 1 k))), (0, .ref (ad 0)), (1, .int x)]) (l' := [(3, .int (nI (k + 1))), (2, .int (wn (g 1) x (k + 1))), (0, .ref (ad 0)), (1, .int x)]) (lv_sub hl [0, 1, 2, 3] rfl) (by first | (simp only [wn, nI_1, decide_eq_false c_10, if_neg c_10, decide_eq_false c_18, if_neg c_18]; done) | (simp only [wn, nI_1, decide_eq_false c_10, if_neg c_10, decide_eq_false c_18, if_neg c_18]; rfl) | (simp [wn, nI_1, decide_eq_false c_10, if_neg c_10, decide_eq_false c_18, if_neg c_18]; done))) 
  exact lp_4 (24 + 1) 0 (by omega) (by omega) _ _ _ hw hS (kx_lv (l := [(3, .int (0 : Int32)), (2, .int (0 : Int32)), (0, .ref (ad 0)), (1, .int x)]) (l' := [(3, .int (nI 0)), (2, .int (wn (g 1) x 0)), (0, .ref (ad 0)), (1, .int x)]) (lv_sub hl [0, 1, 2, 3] rfl) (rfl)) 
theorem hd_X2_roomsOf : yX2_roomsOf.cls = RX2 ∧ yX2_roomsOf.cls ≠ "java/lang/invoke/MethodHandle" ∧ yX2_roomsOf.cls ≠ "java/lang/invoke/VarHandle" ∧ (parseMethodDescriptor yX2_roomsOf.desc).map (fun d => d.parameters.length) = some 1 := by decide +kernel
set_option maxHeartbeats 4000000 in
set_option maxRecDepth 100000 in
theorem c_X2_roomsOf (l : Launch) (hfl : l.stackTraces = false) (D : va_G) (cy : Nat → ClassId) (base : Nat → Prop) (ad : Nat → Nat) (n nc : Nat) (g : sg) (q : Int32) (hv : vp_in q 10) : kM l yX2_roomsOf wsX2_roomsOf (kR 0 0 0) D cy base ad n nc g [.ref (ad 0), .int q] (kD True (some (.int (rmO (g 3) q))) ad n nc g) kNo 0 0 := by
  refine kx_meth (cc := cX2_roomsOf) (maxL := 3) (ret := (some .int)) (by decide) rfl (Nat.le_of_ble_eq_true rfl) ?_
  intro p e s m args below meth c ls hx hb hr hml hown hts hlk hT hG hw0 hS0 hl Q H locs hQ hw hS hH0 hlocs0
  have hl : lv_has ls 3 [(0, .ref (ad 0)), (1, .int q)] := hl
  have hown : s.vm.findClass RX2 = some m.cls := hown
  have hF : CallFix p m c cX2_roomsOf 3 s args wsX2_roomsOf RX2 := ⟨hx, hb, hml, hown, hts⟩
  have hn30 : n ≤ 30 := hw.2.2.1
  have hc20 : nc ≤ 20 := hw.2.2.2
  clear hw0 hS0 hH0 hlocs0
  have i2 : ∀ w ∈ wsX20, w ∈ wsX2_roomsOf := by decide +kernel
  have f_16 := hts (.fieldLink RX2 16 "Lostroom" "stops" "[I") (by decide +kernel)
  refine lv_iload_n hx hb dX2_roomsOf_0 rfl (lv_at hl 1 rfl) ?_
  refine lv_bipush (v := 6) hx hb dX2_roomsOf_1 (by decide) ?_
  refine lv_icmp_ge (tgt := 10) hx hb dX2_roomsOf_3 (by decide) (fun c_3 => ?_) (fun c_3 => ?_)
  · refine lv_iload_n hx hb dX2_roomsOf_10 rfl (lv_at hl 1 rfl) ?_
    refine lv_bipush (v := 6) hx hb dX2_roomsOf_11 (by decide) ?_
    refine lv_isub hx hb dX2_roomsOf_13 ?_
    refine lv_istore_n (lv' := [(2, .int (q - (6 : Int32))), (0, .ref (ad 0)), (1, .int q)]) hx hb dX2_roomsOf_14 rfl hl (by decide) rfl (fun ls hl => ?_)
    refine lv_iload_n hx hb dX2_roomsOf_15 rfl (lv_at hl 0 rfl) ?_
    refine lv_if_lt (tgt := 37) hx hb dX2_roomsOf_16 (by decide) (fun c_16 => ?_) (fun c_16 => ?_)
    · exact absurd c_16 (vp_n0 (vp_sub6 hv c_3))
    · refine lv_iload_n hx hb dX2_roomsOf_19 rfl (lv_at hl 0 rfl) ?_
      refine lv_aload_n hx hb dX2_roomsOf_20 rfl (lv_at hl 1 rfl) ?_
      refine kx_getL (v := .ref (ad 3)) hx hb hts hown hG hw i2 2 (by decide) f_16 rfl dX2_roomsOf_21 ?_
      refine kx_alen (v := 4) hx hb hG hw (kC_I rfl) 0 rfl rfl dX2_roomsOf_24 ?_
      refine lv_icmp_ge (tgt := 37) hx hb dX2_roomsOf_25 (by decide) (fun c_25 => ?_) (fun c_25 => ?_)
      · exact absurd c_25 (vp_nge (vp_sub6 hv c_3) rfl)
      · refine lv_aload_n hx hb dX2_roomsOf_28 rfl (lv_at hl 1 rfl) ?_
        refine kx_getL (v := .ref (ad 3)) hx hb hts hown hG hw i2 2 (by decide) f_16 rfl dX2_roomsOf_29 ?_
        refine lv_iload_n hx hb dX2_roomsOf_32 rfl (lv_at hl 0 rfl) ?_
        refine kx_iald (v := (g 3 ((q - (6 : Int32)).toNatClampNeg))) hx hb hG hw (kC_I rfl) ((q - (6 : Int32)).toNatClampNeg) rfl (vp_sub6 hv c_3) rfl dX2_roomsOf_33 ?_
        refine lv_goto (tgt := 38) hx hb dX2_roomsOf_34 (by decide) ?_
        exact kx_retI hQ hx hb hr hlk hw hS (Nat.le_of_ble_eq_true rfl) (Nat.le_of_ble_eq_true rfl) dX2_roomsOf_38 (kd_i (trivial) (by first | (simp only [rmO, decide_eq_true c_3, if_pos c_3, decide_eq_false c_16, if_neg c_16, decide_eq_false c_25, if_neg c_25]; done) | (simp only [rmO, decide_eq_true c_3, if_pos c_3, decide_eq_false c_16, if_neg c_16, decide_eq_false c_25, if_neg c_25]; rfl) | (simp [rmO, decide_eq_true c_3, if_pos c_3, decide_eq_false c_16, if_neg c_16, decide_eq_false c_25, if_neg c_25]; done)) (rfl))
  · refine lv_iconst (v := 1) hx hb dX2_roomsOf_6 (by decide) ?_
    refine lv_iload_n hx hb dX2_roomsOf_7 rfl (lv_at hl 1 rfl) ?_
    refine lv_ishl hx hb dX2_roomsOf_8 ?_
    exact kx_retI hQ hx hb hr hlk hw hS (Nat.le_of_ble_eq_true rfl) (Nat.le_of_ble_eq_true rfl) dX2_roomsOf_9 (kd_i (trivial) (by first | (simp only [rmO, decide_eq_false c_3, if_neg c_3]; done) | (simp only [rmO, decide_eq_false c_3, if_neg c_3]; rfl) | (simp [rmO, decide_eq_false c_3, if_neg c_3]; done)) (rfl))
theorem hd_X2_scoreOfKinds : yX2_scoreOfKinds.cls = RX2 ∧ yX2_scoreOfKinds.cls ≠ "java/lang/invoke/MethodHandle" ∧ yX2_scoreOfKinds.cls ≠ "java/lang/invoke/VarHandle" ∧ (parseMethodDescriptor yX2_scoreOfKinds.desc).map (fun d => d.parameters.length) = some 2 := by decide +kernel
set_option maxHeartbeats 4000000 in
set_option maxRecDepth 100000 in
theorem c_X2_scoreOfKinds (l : Launch) (hfl : l.stackTraces = false) (D : va_G) (cy : Nat → ClassId) (base : Nat → Prop) (ad : Nat → Nat) (n nc : Nat) (g : sg) (k : Int32) (q : Int32) (hv : vp_in k 8) (ho : vp_in q 8) : kM l yX2_scoreOfKinds wsX2_scoreOfKinds (kR 1 0 0) D cy base ad n nc g [.ref (ad 0), .int k, .int q] (kD True (some (.int (scK k q (g 2 k.toNatClampNeg)))) ad n nc g) kNo 0 0 := by
  refine kx_meth (cc := cX2_scoreOfKinds) (maxL := 3) (ret := (some .int)) (by decide) rfl (Nat.le_of_ble_eq_true rfl) ?_
  intro p e s m args below meth c ls hx hb hr hml hown hts hlk hT hG hw0 hS0 hl Q H locs hQ hw hS hH0 hlocs0
  have hl : lv_has ls 3 [(0, .ref (ad 0)), (1, .int k), (2, .int q)] := hl
  have hown : s.vm.findClass RX2 = some m.cls := hown
  have hF : CallFix p m c cX2_scoreOfKinds 3 s args wsX2_scoreOfKinds RX2 := ⟨hx, hb, hml, hown, hts⟩
  have hn30 : n ≤ 30 := hw.2.2.1
  have hc20 : nc ≤ 20 := hw.2.2.2
  clear hw0 hS0 hH0 hlocs0
  refine lv_iload_n hx hb dX2_scoreOfKinds_0 rfl (lv_at hl 1 rfl) ?_
  refine lv_iload_n hx hb dX2_scoreOfKinds_1 rfl (lv_at hl 2 rfl) ?_
  refine lv_icmp_ne (tgt := 8) hx hb dX2_scoreOfKinds_2 (by decide) (fun c_2 => ?_) (fun c_2 => ?_)
  · refine lv_aload_n hx hb dX2_scoreOfKinds_8 rfl (lv_at hl 0 rfl) ?_
    refine lv_iload_n hx hb dX2_scoreOfKinds_9 rfl (lv_at hl 1 rfl) ?_
    refine lv_iload_n hx hb dX2_scoreOfKinds_10 rfl (lv_at hl 2 rfl) ?_
    refine kx_do0 (st1 := [.int (b2 (bq (g 2 k.toNatClampNeg) q))]) (kx_cv (As := [.int k, .int q]) (rest := []) hF hG hw hS hl.1 kC_0 rfl (c_X2_areAlike l hfl D cy base ad n nc g k q (by first | assumption | omega | exact mR_9 (by assumption) _ _ | simp [sU, hv, ho]) (by first | assumption | omega | exact mR_9 (by assumption) _ _ | simp [sU, hv, ho])) gX2_scoreOfKinds_X2_areAlike rfl rfl rfl hd_X2_areAlike ⟨Nat.le_of_ble_eq_true rfl, Nat.le_of_ble_eq_true rfl⟩ rfl rfl (Nat.le_of_ble_eq_true rfl) dX2_scoreOfKinds_11 ⟨Nat.le_of_ble_eq_true rfl, Nat.le_of_ble_eq_true rfl⟩) hS rfl (fun H locs hw hS => ?_)
    have hj_23_0 : ∀ (H : Heap) (locs : List Loc) (ls : Array Slot), kW D cy base ad n nc g H → va_S (kA base) s.heap H locs → lv_has ls 3 [(0, .ref (ad 0)), (1, .int k), (2, .int q)] → W p l e (kR 1 0 0) s m args below meth c H locs 0 0 Q (F0 m 23 ls [.int (if (bq (g 2 k.toNatClampNeg) q) = true then (15 : Int32) else (-1 : Int32))]) := by
      intro H locs ls hw hS hl
      exact kx_retI hQ hx hb hr hlk hw hS (Nat.le_of_ble_eq_true rfl) (Nat.le_of_ble_eq_true rfl) dX2_scoreOfKinds_23 (kd_i (trivial) (by first | (simp only [scK, decide_eq_false c_2, if_neg c_2]; done) | (simp only [scK, decide_eq_false c_2, if_neg c_2]; rfl) | (simp [scK, decide_eq_false c_2, if_neg c_2]; done)) (rfl))
    refine kb_eq (tgt := 22) hx hb dX2_scoreOfKinds_14 (by decide) (fun c_14 => ?_) (fun c_14 => ?_)
    · refine lv_iconst (v := -1) hx hb dX2_scoreOfKinds_22 (by decide) ?_
      exact kx_top (v := (if (bq (g 2 k.toNatClampNeg) q) = true then (15 : Int32) else (-1 : Int32))) (by first | (simp only [c_14]; done) | (simp only [c_14]; rfl) | (simp [c_14]; done)) (hj_23_0 _ _ _ hw hS hl)
    · refine lv_bipush (v := 15) hx hb dX2_scoreOfKinds_17 (by decide) ?_
      refine lv_goto (tgt := 23) hx hb dX2_scoreOfKinds_19 (by decide) ?_
      exact kx_top (v := (if (bq (g 2 k.toNatClampNeg) q) = true then (15 : Int32) else (-1 : Int32))) (by first | (simp only [c_14]; done) | (simp only [c_14]; rfl) | (simp [c_14]; done)) (hj_23_0 _ _ _ hw hS hl)
  · refine lv_bipush (v := 40) hx hb dX2_scoreOfKinds_5 (by decide) ?_
    exact kx_retI hQ hx hb hr hlk hw hS (Nat.le_of_ble_eq_true rfl) (Nat.le_of_ble_eq_true rfl) dX2_scoreOfKinds_7 (kd_i (trivial) (by first | (simp only [scK, decide_eq_true c_2, if_pos c_2]; done) | (simp only [scK, decide_eq_true c_2, if_pos c_2]; rfl) | (simp [scK, decide_eq_true c_2, if_pos c_2]; done)) (rfl))
theorem hd_X2_scoreOfPlaces : yX2_scoreOfPlaces.cls = RX2 ∧ yX2_scoreOfPlaces.cls ≠ "java/lang/invoke/MethodHandle" ∧ yX2_scoreOfPlaces.cls ≠ "java/lang/invoke/VarHandle" ∧ (parseMethodDescriptor yX2_scoreOfPlaces.desc).map (fun d => d.parameters.length) = some 2 := by decide +kernel
set_option maxHeartbeats 4000000 in
set_option maxRecDepth 100000 in
theorem c_X2_scoreOfPlaces (l : Launch) (hfl : l.stackTraces = false) (D : va_G) (cy : Nat → ClassId) (base : Nat → Prop) (ad : Nat → Nat) (n nc : Nat) (g : sg) (k : Int32) (q : Int32) (hv : vp_in k 10) (ho : vp_in q 10) : kM l yX2_scoreOfPlaces wsX2_scoreOfPlaces (kR 1 0 0) D cy base ad n nc g [.ref (ad 0), .int k, .int q] (kD True (some (.int (scP (g 3) k q))) ad n nc g) kNo 0 0 := by
  refine kx_meth (cc := cX2_scoreOfPlaces) (maxL := 3) (ret := (some .int)) (by decide) rfl (Nat.le_of_ble_eq_true rfl) ?_
  intro p e s m args below meth c ls hx hb hr hml hown hts hlk hT hG hw0 hS0 hl Q H locs hQ hw hS hH0 hlocs0
  have hl : lv_has ls 3 [(0, .ref (ad 0)), (1, .int k), (2, .int q)] := hl
  have hown : s.vm.findClass RX2 = some m.cls := hown
  have hF : CallFix p m c cX2_scoreOfPlaces 3 s args wsX2_scoreOfPlaces RX2 := ⟨hx, hb, hml, hown, hts⟩
  have hn30 : n ≤ 30 := hw.2.2.1
  have hc20 : nc ≤ 20 := hw.2.2.2
  clear hw0 hS0 hH0 hlocs0
  refine lv_iload_n hx hb dX2_scoreOfPlaces_0 rfl (lv_at hl 1 rfl) ?_
  refine lv_iload_n hx hb dX2_scoreOfPlaces_1 rfl (lv_at hl 2 rfl) ?_
  refine lv_icmp_ne (tgt := 8) hx hb dX2_scoreOfPlaces_2 (by decide) (fun c_2 => ?_) (fun c_2 => ?_)
  · refine lv_aload_n hx hb dX2_scoreOfPlaces_8 rfl (lv_at hl 0 rfl) ?_
    refine lv_iload_n hx hb dX2_scoreOfPlaces_9 rfl (lv_at hl 1 rfl) ?_
    refine kx_do0 (st1 := [.int (rmO (g 3) k)]) (kx_cv (As := [.int k]) (rest := []) hF hG hw hS hl.1 kC_0 rfl (c_X2_roomsOf l hfl D cy base ad n nc g k (by first | assumption | omega | exact mR_9 (by assumption) _ _ | simp [sU, hv, ho])) gX2_scoreOfPlaces_X2_roomsOf rfl rfl rfl hd_X2_roomsOf ⟨Nat.le_of_ble_eq_true rfl, Nat.le_of_ble_eq_true rfl⟩ rfl rfl (Nat.le_of_ble_eq_true rfl) dX2_scoreOfPlaces_10 ⟨Nat.le_of_ble_eq_true rfl, Nat.le_of_ble_eq_true rfl⟩) hS rfl (fun H locs hw hS => ?_)
    refine lv_aload_n hx hb dX2_scoreOfPlaces_13 rfl (lv_at hl 0 rfl) ?_
    refine lv_iload_n hx hb dX2_scoreOfPlaces_14 rfl (lv_at hl 2 rfl) ?_
    refine kx_do0 (st1 := [.int (rmO (g 3) q), .int (rmO (g 3) k)]) (kx_cv (As := [.int q]) (rest := [.int (rmO (g 3) k)]) hF hG hw hS hl.1 kC_0 rfl (c_X2_roomsOf l hfl D cy base ad n nc g q (by first | assumption | omega | exact mR_9 (by assumption) _ _ | simp [sU, hv, ho])) gX2_scoreOfPlaces_X2_roomsOf rfl rfl rfl hd_X2_roomsOf ⟨Nat.le_of_ble_eq_true rfl, Nat.le_of_ble_eq_true rfl⟩ rfl rfl (Nat.le_of_ble_eq_true rfl) dX2_scoreOfPlaces_15 ⟨Nat.le_of_ble_eq_true rfl, Nat.le_of_ble_eq_true rfl⟩) hS rfl (fun H locs hw hS => ?_)
    refine lv_iand hx hb dX2_scoreOfPlaces_18 ?_
    have hj_28_0 : ∀ (H : Heap) (locs : List Loc) (ls : Array Slot), kW D cy base ad n nc g H → va_S (kA base) s.heap H locs → lv_has ls 3 [(0, .ref (ad 0)), (1, .int k), (2, .int q)] → W p l e (kR 1 0 0) s m args below meth c H locs 0 0 Q (F0 m 28 ls [.int (if ((rmO (g 3) k) &&& (rmO (g 3) q)) = (0 : Int32) then (0 : Int32) else (10 : Int32))]) := by
      intro H locs ls hw hS hl
      exact kx_retI hQ hx hb hr hlk hw hS (Nat.le_of_ble_eq_true rfl) (Nat.le_of_ble_eq_true rfl) dX2_scoreOfPlaces_28 (kd_i (trivial) (by first | (simp only [scP, decide_eq_false c_2, if_neg c_2]; done) | (simp only [scP, decide_eq_false c_2, if_neg c_2]; rfl) | (simp [scP, decide_eq_false c_2, if_neg c_2]; done)) (rfl))
    refine lv_if_eq (tgt := 27) hx hb dX2_scoreOfPlaces_19 (by decide) (fun c_19 => ?_) (fun c_19 => ?_)
    · refine lv_iconst (v := 0) hx hb dX2_scoreOfPlaces_27 (by decide) ?_
      exact kx_top (v := (if ((rmO (g 3) k) &&& (rmO (g 3) q)) = (0 : Int32) then (0 : Int32) else (10 : Int32))) (by first | (simp only [bq, decide_eq_true c_19, if_pos c_19]; done) | (simp only [bq, decide_eq_true c_19, if_pos c_19]; rfl) | (simp [bq, decide_eq_true c_19, if_pos c_19]; done)) (hj_28_0 _ _ _ hw hS hl)
    · refine lv_bipush (v := 10) hx hb dX2_scoreOfPlaces_22 (by decide) ?_
      refine lv_goto (tgt := 28) hx hb dX2_scoreOfPlaces_24 (by decide) ?_
      exact kx_top (v := (if ((rmO (g 3) k) &&& (rmO (g 3) q)) = (0 : Int32) then (0 : Int32) else (10 : Int32))) (by first | (simp only [bq, decide_eq_false c_19, if_neg c_19]; done) | (simp only [bq, decide_eq_false c_19, if_neg c_19]; rfl) | (simp [bq, decide_eq_false c_19, if_neg c_19]; done)) (hj_28_0 _ _ _ hw hS hl)
  · refine lv_bipush (v := 20) hx hb dX2_scoreOfPlaces_5 (by decide) ?_
    exact kx_retI hQ hx hb hr hlk hw hS (Nat.le_of_ble_eq_true rfl) (Nat.le_of_ble_eq_true rfl) dX2_scoreOfPlaces_7 (kd_i (trivial) (by first | (simp only [scP, decide_eq_true c_2, if_pos c_2]; done) | (simp only [scP, decide_eq_true c_2, if_pos c_2]; rfl) | (simp [scP, decide_eq_true c_2, if_pos c_2]; done)) (rfl))
theorem hd_X2_scoreOfDay : yX2_scoreOfDay.cls ≠ "java/lang/invoke/MethodHandle" ∧ yX2_scoreOfDay.cls ≠ "java/lang/invoke/VarHandle" ∧ (parseMethodDescriptor yX2_scoreOfDay.desc).map (fun d => d.parameters.length) = some 3 := by decide +kernel
set_option maxHeartbeats 4000000 in
set_option maxRecDepth 100000 in
theorem c_X2_scoreOfDay (l : Launch) (hfl : l.stackTraces = false) (D : va_G) (cy : Nat → ClassId) (base : Nat → Prop) (ad : Nat → Nat) (n nc : Nat) (g : sg) (k : Int32) (fr : Int32) (to : Int32) (hv : vp_in k 10000) (ho : vp_in to 10000) : kM l yX2_scoreOfDay wsX2_scoreOfDay (kR 1 0 0) D cy base ad n nc g [.int k, .int fr, .int to] (kD True (some (.int (scD k fr to))) ad n nc g) kNo 0 0 := by
  refine kx_meth (cc := cX2_scoreOfDay) (maxL := 4) (ret := (some .int)) (by decide) rfl (Nat.le_of_ble_eq_true rfl) ?_
  intro p e s m args below meth c ls hx hb hr hml hown hts hlk hT hG hw0 hS0 hl Q H locs hQ hw hS hH0 hlocs0
  have hl : lv_has ls 4 [(0, .int k), (1, .int fr), (2, .int to)] := hl
  have hown : s.vm.findClass RX2 = some m.cls := hown
  have hF : CallFix p m c cX2_scoreOfDay 4 s args wsX2_scoreOfDay RX2 := ⟨hx, hb, hml, hown, hts⟩
  have hn30 : n ≤ 30 := hw.2.2.1
  have hc20 : nc ≤ 20 := hw.2.2.2
  clear hw0 hS0 hH0 hlocs0
  have hmi := hts (.initialized "java/lang/Math") (by decide +kernel)
  have ms_max := hts (.static Lib.Math.max.name) (by decide +kernel)
  have mc_max := hts (.code Lib.Math.max.name Lib.Math.max.code 2 (some .int)) (by decide +kernel)
  have m_214 := hts (.methodLink RX2 214 Lib.Math.max.name) (by decide +kernel)
  refine lv_iload_n hx hb dX2_scoreOfDay_0 rfl (lv_at hl 0 rfl) ?_
  refine lv_iload_n hx hb dX2_scoreOfDay_1 rfl (lv_at hl 1 rfl) ?_
  refine lv_icmp_ge (tgt := 7) hx hb dX2_scoreOfDay_2 (by decide) (fun c_2 => ?_) (fun c_2 => ?_)
  · refine lv_iconst (v := 0) hx hb dX2_scoreOfDay_7 (by decide) ?_
    refine lv_iload_n hx hb dX2_scoreOfDay_8 rfl (lv_at hl 0 rfl) ?_
    refine lv_iload_n hx hb dX2_scoreOfDay_9 rfl (lv_at hl 2 rfl) ?_
    refine lv_isub hx hb dX2_scoreOfDay_10 ?_
    refine va_mmax hx hb (hml.trans hl.1.symm) hown m_214 ms_max hmi mc_max (by decide) (Nat.le_of_ble_eq_true rfl) (Nat.le_of_ble_eq_true rfl) (Nat.le_of_ble_eq_true rfl) dX2_scoreOfDay_11 ?_
    refine lv_istore_n (lv' := [(3, .int (if (0 : Int32) < (k - to) then (k - to) else (0 : Int32))), (0, .int k), (1, .int fr), (2, .int to)]) hx hb dX2_scoreOfDay_14 rfl hl (by decide) rfl (fun ls hl => ?_)
    refine lv_iconst (v := 0) hx hb dX2_scoreOfDay_15 (by decide) ?_
    refine lv_bipush (v := 20) hx hb dX2_scoreOfDay_16 (by decide) ?_
    refine lv_iconst (v := 2) hx hb dX2_scoreOfDay_18 (by decide) ?_
    refine lv_iload_n hx hb dX2_scoreOfDay_19 rfl (lv_at hl 0 rfl) ?_
    refine lv_imul hx hb dX2_scoreOfDay_20 ?_
    refine lv_isub hx hb dX2_scoreOfDay_21 ?_
    refine va_mmax hx hb (hml.trans hl.1.symm) hown m_214 ms_max hmi mc_max (by decide) (Nat.le_of_ble_eq_true rfl) (Nat.le_of_ble_eq_true rfl) (Nat.le_of_ble_eq_true rfl) dX2_scoreOfDay_22 ?_
    exact kx_retI hQ hx hb hr hlk hw hS (Nat.le_of_ble_eq_true rfl) (Nat.le_of_ble_eq_true rfl) dX2_scoreOfDay_25 (kd_i (trivial) (by rw [scD_c hv ho]; simp only [decide_eq_true c_2, if_pos c_2]) (rfl))
  · refine lv_iconst (v := 0) hx hb dX2_scoreOfDay_5 (by decide) ?_
    exact kx_retI hQ hx hb hr hlk hw hS (Nat.le_of_ble_eq_true rfl) (Nat.le_of_ble_eq_true rfl) dX2_scoreOfDay_6 (kd_i (trivial) (by rw [scD_c hv ho]; simp only [decide_eq_false c_2, if_neg c_2]) (rfl))
theorem hd_X2_scoreOfWords : yX2_scoreOfWords.cls = RX2 ∧ yX2_scoreOfWords.cls ≠ "java/lang/invoke/MethodHandle" ∧ yX2_scoreOfWords.cls ≠ "java/lang/invoke/VarHandle" ∧ (parseMethodDescriptor yX2_scoreOfWords.desc).map (fun d => d.parameters.length) = some 2 := by decide +kernel
set_option maxHeartbeats 4000000 in
set_option maxRecDepth 100000 in
theorem c_X2_scoreOfWords (l : Launch) (hfl : l.stackTraces = false) (D : va_G) (cy : Nat → ClassId) (base : Nat → Prop) (ad : Nat → Nat) (n nc : Nat) (g : sg) (i : Nat) (j : Nat) (hi : i < n) (hj : j < nc) (hR : cR n nc g) : kM l yX2_scoreOfWords wsX2_scoreOfWords (kR 1 0 0) D cy base ad n nc g [.ref (ad 0), .ref (ad (100 + 3 * i)), .ref (ad (200 + j))] (kD True (some (.int (scW (g (100 + 3 * i) 8 ||| (g (100 + 3 * i) 3 &&& g (200 + j) 6)) (g (200 + j) 5) (g 1) 24))) ad n nc g) kNo 0 0 := by
  refine kx_meth (cc := cX2_scoreOfWords) (maxL := 8) (ret := (some .int)) (by decide) rfl (Nat.le_of_ble_eq_true rfl) ?_
  intro p e s m args below meth c ls hx hb hr hml hown hts hlk hT hG hw0 hS0 hl Q H locs hQ hw hS hH0 hlocs0
  have hl : lv_has ls 8 [(0, .ref (ad 0)), (1, .ref (ad (100 + 3 * i))), (2, .ref (ad (200 + j)))] := hl
  have hown : s.vm.findClass RX2 = some m.cls := hown
  have hF : CallFix p m c cX2_scoreOfWords 8 s args wsX2_scoreOfWords RX2 := ⟨hx, hb, hml, hown, hts⟩
  have hn30 : n ≤ 30 := hw.2.2.1
  have hc20 : nc ≤ 20 := hw.2.2.2
  clear hw0 hS0 hH0 hlocs0
  have i0 : ∀ w ∈ wsX00, w ∈ wsX2_scoreOfWords := by decide +kernel
  have i1 : ∀ w ∈ wsX10, w ∈ wsX2_scoreOfWords := by decide +kernel
  have f_137 := hts (.fieldLink RX2 137 "Lostroom$Found" "secret" "I") (by decide +kernel)
  have f_147 := hts (.fieldLink RX2 147 "Lostroom$Found" "words" "I") (by decide +kernel)
  have f_185 := hts (.fieldLink RX2 185 "Lostroom$Claim" "words" "I") (by decide +kernel)
  have f_186 := hts (.fieldLink RX2 186 "Lostroom$Claim" "told" "I") (by decide +kernel)
  have hr1 := hR.1 i hi
  have hr2 := hR.2.1 j hj
  refine lv_aload_n hx hb dX2_scoreOfWords_0 rfl (lv_at hl 1 rfl) ?_
  refine kx_getF (v := .int (g (100 + 3 * i) 8)) hx hb hts hown hG hw i1 i (by first | assumption | omega) 8 (by decide) f_147 rfl dX2_scoreOfWords_1 ?_
  refine lv_aload_n hx hb dX2_scoreOfWords_4 rfl (lv_at hl 1 rfl) ?_
  refine kx_getF (v := .int (g (100 + 3 * i) 3)) hx hb hts hown hG hw i1 i (by first | assumption | omega) 3 (by decide) f_137 rfl dX2_scoreOfWords_5 ?_
  refine lv_aload_n hx hb dX2_scoreOfWords_8 rfl (lv_at hl 2 rfl) ?_
  refine kx_getC (v := .int (g (200 + j) 6)) hx hb hts hown hG hw i0 j (by first | assumption | omega) 6 (by decide) f_186 rfl dX2_scoreOfWords_9 ?_
  refine lv_iand hx hb dX2_scoreOfWords_12 ?_
  refine lv_ior hx hb dX2_scoreOfWords_13 ?_
  refine lv_istore_n (lv' := [(3, .int ((g (100 + 3 * i) 8) ||| ((g (100 + 3 * i) 3) &&& (g (200 + j) 6)))), (0, .ref (ad 0)), (1, .ref (ad (100 + 3 * i))), (2, .ref (ad (200 + j)))]) hx hb dX2_scoreOfWords_14 rfl hl (by decide) rfl (fun ls hl => ?_)
  refine lv_aload_n hx hb dX2_scoreOfWords_15 rfl (lv_at hl 3 rfl) ?_
  refine kx_getC (v := .int (g (200 + j) 5)) hx hb hts hown hG hw i0 j (by first | assumption | omega) 5 (by decide) f_185 rfl dX2_scoreOfWords_16 ?_
  refine lv_iload_n hx hb dX2_scoreOfWords_19 rfl (lv_at hl 0 rfl) ?_
  refine lv_iand hx hb dX2_scoreOfWords_20 ?_
  refine lv_istore (lv' := [(4, .int ((g (200 + j) 5) &&& ((g (100 + 3 * i) 8) ||| ((g (100 + 3 * i) 3) &&& (g (200 + j) 6))))), (3, .int ((g (100 + 3 * i) 8) ||| ((g (100 + 3 * i) 3) &&& (g (200 + j) 6)))), (0, .ref (ad 0)), (1, .ref (ad (100 + 3 * i))), (2, .ref (ad (200 + j)))]) hx hb dX2_scoreOfWords_21 hl (by decide) rfl (fun ls hl => ?_)
  refine lv_aload_n hx hb dX2_scoreOfWords_23 rfl (lv_at hl 4 rfl) ?_
  refine kx_getC (v := .int (g (200 + j) 5)) hx hb hts hown hG hw i0 j (by first | assumption | omega) 5 (by decide) f_185 rfl dX2_scoreOfWords_24 ?_
  refine lv_iload_n hx hb dX2_scoreOfWords_27 rfl (lv_at hl 1 rfl) ?_
  refine lv_iconst (v := -1) hx hb dX2_scoreOfWords_28 (by decide) ?_
  refine lv_ixor hx hb dX2_scoreOfWords_29 ?_
  refine lv_iand hx hb dX2_scoreOfWords_30 ?_
  refine lv_istore (lv' := [(5, .int ((g (200 + j) 5) &&& (((g (100 + 3 * i) 8) ||| ((g (100 + 3 * i) 3) &&& (g (200 + j) 6))) ^^^ (-1 : Int32)))), (4, .int ((g (200 + j) 5) &&& ((g (100 + 3 * i) 8) ||| ((g (100 + 3 * i) 3) &&& (g (200 + j) 6))))), (3, .int ((g (100 + 3 * i) 8) ||| ((g (100 + 3 * i) 3) &&& (g (200 + j) 6)))), (0, .ref (ad 0)), (1, .ref (ad (100 + 3 * i))), (2, .ref (ad (200 + j)))]) hx hb dX2_scoreOfWords_31 hl (by decide) rfl (fun ls hl => ?_)
  refine lv_iload hx hb dX2_scoreOfWords_33 (lv_at hl 0 rfl) ?_
  refine lv_aload_n hx hb dX2_scoreOfWords_35 rfl (lv_at hl 3 rfl) ?_
  refine lv_iload_n hx hb dX2_scoreOfWords_36 rfl (lv_at hl 2 rfl) ?_
  refine kx_do0 (st1 := [.int (wn (g 1) ((g (100 + 3 * i) 8) ||| ((g (100 + 3 * i) 3) &&& (g (200 + j) 6))) 24), .int ((g (200 + j) 5) &&& (((g (100 + 3 * i) 8) ||| ((g (100 + 3 * i) 3) &&& (g (200 + j) 6))) ^^^ (-1 : Int32)))]) (kx_cv (As := [.int ((g (100 + 3 * i) 8) ||| ((g (100 + 3 * i) 3) &&& (g (200 + j) 6)))]) (rest := [.int ((g (200 + j) 5) &&& (((g (100 + 3 * i) 8) ||| ((g (100 + 3 * i) 3) &&& (g (200 + j) 6))) ^^^ (-1 : Int32)))]) hF hG hw hS hl.1 kC_0 rfl (c_X2_wordsNear l hfl D cy base ad n nc g ((g (100 + 3 * i) 8) ||| ((g (100 + 3 * i) 3) &&& (g (200 + j) 6))) ) gX2_scoreOfWords_X2_wordsNear rfl rfl rfl hd_X2_wordsNear ⟨Nat.le_of_ble_eq_true rfl, Nat.le_of_ble_eq_true rfl⟩ rfl rfl (Nat.le_of_ble_eq_true rfl) dX2_scoreOfWords_37 ⟨Nat.le_of_ble_eq_true rfl, Nat.le_of_ble_eq_true rfl⟩) hS rfl (fun H locs hw hS => ?_)
  refine lv_iand hx hb dX2_scoreOfWords_40 ?_
  refine lv_istore (lv' := [(6, .int (((g (200 + j) 5) &&& (((g (100 + 3 * i) 8) ||| ((g (100 + 3 * i) 3) &&& (g (200 + j) 6))) ^^^ (-1 : Int32))) &&& (wn (g 1) ((g (100 + 3 * i) 8) ||| ((g (100 + 3 * i) 3) &&& (g (200 + j) 6))) 24))), (5, .int ((g (200 + j) 5) &&& (((g (100 + 3 * i) 8) ||| ((g (100 + 3 * i) 3) &&& (g (200 + j) 6))) ^^^ (-1 : Int32)))), (4, .int ((g (200 + j) 5) &&& ((g (100 + 3 * i) 8) ||| ((g (100 + 3 * i) 3) &&& (g (200 + j) 6))))), (3, .int ((g (100 + 3 * i) 8) ||| ((g (100 + 3 * i) 3) &&& (g (200 + j) 6)))), (0, .ref (ad 0)), (1, .ref (ad (100 + 3 * i))), (2, .ref (ad (200 + j)))]) hx hb dX2_scoreOfWords_41 hl (by decide) rfl (fun ls hl => ?_)
  refine lv_iload hx hb dX2_scoreOfWords_43 (lv_at hl 1 rfl) ?_
  refine lv_iload hx hb dX2_scoreOfWords_45 (lv_at hl 0 rfl) ?_
  refine lv_iconst (v := -1) hx hb dX2_scoreOfWords_47 (by decide) ?_
  refine lv_ixor hx hb dX2_scoreOfWords_48 ?_
  refine lv_iand hx hb dX2_scoreOfWords_49 ?_
  refine lv_istore (lv' := [(7, .int (((g (200 + j) 5) &&& (((g (100 + 3 * i) 8) ||| ((g (100 + 3 * i) 3) &&& (g (200 + j) 6))) ^^^ (-1 : Int32))) &&& ((((g (200 + j) 5) &&& (((g (100 + 3 * i) 8) ||| ((g (100 + 3 * i) 3) &&& (g (200 + j) 6))) ^^^ (-1 : Int32))) &&& (wn (g 1) ((g (100 + 3 * i) 8) ||| ((g (100 + 3 * i) 3) &&& (g (200 + j) 6))) 24)) ^^^ (-1 : Int32)))), (6, .int (((g (200 + j) 5) &&& (((g (100 + 3 * i) 8) ||| ((g (100 + 3 * i) 3) &&& (g (200 + j) 6))) ^^^ (-1 : Int32))) &&& (wn (g 1) ((g (100 + 3 * i) 8) ||| ((g (100 + 3 * i) 3) &&& (g (200 + j) 6))) 24))), (5, .int ((g (200 + j) 5) &&& (((g (100 + 3 * i) 8) ||| ((g (100 + 3 * i) 3) &&& (g (200 + j) 6))) ^^^ (-1 : Int32)))), (4, .int ((g (200 + j) 5) &&& ((g (100 + 3 * i) 8) ||| ((g (100 + 3 * i) 3) &&& (g (200 + j) 6))))), (3, .int ((g (100 + 3 * i) 8) ||| ((g (100 + 3 * i) 3) &&& (g (200 + j) 6)))), (0, .ref (ad 0)), (1, .ref (ad (100 + 3 * i))), (2, .ref (ad (200 + j)))]) hx hb dX2_scoreOfWords_50 hl (by decide) rfl (fun ls hl => ?_)
  refine lv_bipush (v := 6) hx hb dX2_scoreOfWords_52 (by decide) ?_
  refine lv_iload hx hb dX2_scoreOfWords_54 (lv_at hl 3 rfl) ?_
  refine kx_do0 (st1 := [.int (bits ((g (200 + j) 5) &&& ((g (100 + 3 * i) 8) ||| ((g (100 + 3 * i) 3) &&& (g (200 + j) 6))))), .int (6 : Int32)]) (kx_cs (As := [.int ((g (200 + j) 5) &&& ((g (100 + 3 * i) 8) ||| ((g (100 + 3 * i) 3) &&& (g (200 + j) 6))))]) (rest := [.int (6 : Int32)]) hF hG hw hS hl.1 (c_J6_bitCount_0f7a4 l hfl D cy base ad n nc g ((g (200 + j) 5) &&& ((g (100 + 3 * i) 8) ||| ((g (100 + 3 * i) 3) &&& (g (200 + j) 6)))) (by first | exact hr2.2.2.2.1 | exact hr1.2.2.2.2 | exact hr1.2.2.2.1 | exact sB_and hr2.2.2.2.1 | exact sB_and (sB_and hr2.2.2.2.1) | exact sB_and hr2.2.2.2.2.1)) gX2_scoreOfWords_J6_bitCount_0f7a4 rfl rfl rfl hd_J6_bitCount_0f7a4 ⟨Nat.le_of_ble_eq_true rfl, Nat.le_of_ble_eq_true rfl⟩ rfl rfl (Nat.le_of_ble_eq_true rfl) dX2_scoreOfWords_56 ⟨Nat.le_of_ble_eq_true rfl, Nat.le_of_ble_eq_true rfl⟩) hS rfl (fun H locs hw hS => ?_)
  refine lv_imul hx hb dX2_scoreOfWords_59 ?_
  refine lv_iconst (v := 3) hx hb dX2_scoreOfWords_60 (by decide) ?_
  refine lv_iload hx hb dX2_scoreOfWords_61 (lv_at hl 1 rfl) ?_
  refine kx_do0 (st1 := [.int (bits (((g (200 + j) 5) &&& (((g (100 + 3 * i) 8) ||| ((g (100 + 3 * i) 3) &&& (g (200 + j) 6))) ^^^ (-1 : Int32))) &&& (wn (g 1) ((g (100 + 3 * i) 8) ||| ((g (100 + 3 * i) 3) &&& (g (200 + j) 6))) 24))), .int (3 : Int32), .int ((6 : Int32) * (bits ((g (200 + j) 5) &&& ((g (100 + 3 * i) 8) ||| ((g (100 + 3 * i) 3) &&& (g (200 + j) 6))))))]) (kx_cs (As := [.int (((g (200 + j) 5) &&& (((g (100 + 3 * i) 8) ||| ((g (100 + 3 * i) 3) &&& (g (200 + j) 6))) ^^^ (-1 : Int32))) &&& (wn (g 1) ((g (100 + 3 * i) 8) ||| ((g (100 + 3 * i) 3) &&& (g (200 + j) 6))) 24))]) (rest := [.int (3 : Int32), .int ((6 : Int32) * (bits ((g (200 + j) 5) &&& ((g (100 + 3 * i) 8) ||| ((g (100 + 3 * i) 3) &&& (g (200 + j) 6))))))]) hF hG hw hS hl.1 (c_J6_bitCount_0f7a4 l hfl D cy base ad n nc g (((g (200 + j) 5) &&& (((g (100 + 3 * i) 8) ||| ((g (100 + 3 * i) 3) &&& (g (200 + j) 6))) ^^^ (-1 : Int32))) &&& (wn (g 1) ((g (100 + 3 * i) 8) ||| ((g (100 + 3 * i) 3) &&& (g (200 + j) 6))) 24)) (by first | exact hr2.2.2.2.1 | exact hr1.2.2.2.2 | exact hr1.2.2.2.1 | exact sB_and hr2.2.2.2.1 | exact sB_and (sB_and hr2.2.2.2.1) | exact sB_and hr2.2.2.2.2.1)) gX2_scoreOfWords_J6_bitCount_0f7a4 rfl rfl rfl hd_J6_bitCount_0f7a4 ⟨Nat.le_of_ble_eq_true rfl, Nat.le_of_ble_eq_true rfl⟩ rfl rfl (Nat.le_of_ble_eq_true rfl) dX2_scoreOfWords_63 ⟨Nat.le_of_ble_eq_true rfl, Nat.le_of_ble_eq_true rfl⟩) hS rfl (fun H locs hw hS => ?_)
  refine lv_imul hx hb dX2_scoreOfWords_66 ?_
  refine lv_iadd hx hb dX2_scoreOfWords_67 ?_
  refine lv_iconst (v := 1) hx hb dX2_scoreOfWords_68 (by decide) ?_
  refine lv_iload hx hb dX2_scoreOfWords_69 (lv_at hl 0 rfl) ?_
  refine kx_do0 (st1 := [.int (bits (((g (200 + j) 5) &&& (((g (100 + 3 * i) 8) ||| ((g (100 + 3 * i) 3) &&& (g (200 + j) 6))) ^^^ (-1 : Int32))) &&& ((((g (200 + j) 5) &&& (((g (100 + 3 * i) 8) ||| ((g (100 + 3 * i) 3) &&& (g (200 + j) 6))) ^^^ (-1 : Int32))) &&& (wn (g 1) ((g (100 + 3 * i) 8) ||| ((g (100 + 3 * i) 3) &&& (g (200 + j) 6))) 24)) ^^^ (-1 : Int32)))), .int (1 : Int32), .int (((6 : Int32) * (bits ((g (200 + j) 5) &&& ((g (100 + 3 * i) 8) ||| ((g (100 + 3 * i) 3) &&& (g (200 + j) 6)))))) + ((3 : Int32) * (bits (((g (200 + j) 5) &&& (((g (100 + 3 * i) 8) ||| ((g (100 + 3 * i) 3) &&& (g (200 + j) 6))) ^^^ (-1 : Int32))) &&& (wn (g 1) ((g (100 + 3 * i) 8) ||| ((g (100 + 3 * i) 3) &&& (g (200 + j) 6))) 24)))))]) (kx_cs (As := [.int (((g (200 + j) 5) &&& (((g (100 + 3 * i) 8) ||| ((g (100 + 3 * i) 3) &&& (g (200 + j) 6))) ^^^ (-1 : Int32))) &&& ((((g (200 + j) 5) &&& (((g (100 + 3 * i) 8) ||| ((g (100 + 3 * i) 3) &&& (g (200 + j) 6))) ^^^ (-1 : Int32))) &&& (wn (g 1) ((g (100 + 3 * i) 8) ||| ((g (100 + 3 * i) 3) &&& (g (200 + j) 6))) 24)) ^^^ (-1 : Int32)))]) (rest := [.int (1 : Int32), .int (((6 : Int32) * (bits ((g (200 + j) 5) &&& ((g (100 + 3 * i) 8) ||| ((g (100 + 3 * i) 3) &&& (g (200 + j) 6)))))) + ((3 : Int32) * (bits (((g (200 + j) 5) &&& (((g (100 + 3 * i) 8) ||| ((g (100 + 3 * i) 3) &&& (g (200 + j) 6))) ^^^ (-1 : Int32))) &&& (wn (g 1) ((g (100 + 3 * i) 8) ||| ((g (100 + 3 * i) 3) &&& (g (200 + j) 6))) 24)))))]) hF hG hw hS hl.1 (c_J6_bitCount_0f7a4 l hfl D cy base ad n nc g (((g (200 + j) 5) &&& (((g (100 + 3 * i) 8) ||| ((g (100 + 3 * i) 3) &&& (g (200 + j) 6))) ^^^ (-1 : Int32))) &&& ((((g (200 + j) 5) &&& (((g (100 + 3 * i) 8) ||| ((g (100 + 3 * i) 3) &&& (g (200 + j) 6))) ^^^ (-1 : Int32))) &&& (wn (g 1) ((g (100 + 3 * i) 8) ||| ((g (100 + 3 * i) 3) &&& (g (200 + j) 6))) 24)) ^^^ (-1 : Int32))) (by first | exact hr2.2.2.2.1 | exact hr1.2.2.2.2 | exact hr1.2.2.2.1 | exact sB_and hr2.2.2.2.1 | exact sB_and (sB_and hr2.2.2.2.1) | exact sB_and hr2.2.2.2.2.1)) gX2_scoreOfWords_J6_bitCount_0f7a4 rfl rfl rfl hd_J6_bitCount_0f7a4 ⟨Nat.le_of_ble_eq_true rfl, Nat.le_of_ble_eq_true rfl⟩ rfl rfl (Nat.le_of_ble_eq_true rfl) dX2_scoreOfWords_71 ⟨Nat.le_of_ble_eq_true rfl, Nat.le_of_ble_eq_true rfl⟩) hS rfl (fun H locs hw hS => ?_)
  refine lv_imul hx hb dX2_scoreOfWords_74 ?_
  refine lv_isub hx hb dX2_scoreOfWords_75 ?_
  exact kx_retI hQ hx hb hr hlk hw hS (Nat.le_of_ble_eq_true rfl) (Nat.le_of_ble_eq_true rfl) dX2_scoreOfWords_76 (kd_i (trivial) ((sw_eq (sB_or hr1.2.2.2.1 (sB_and hr1.2.2.2.2)) hR.2.2).symm) (rfl))
theorem hd_X2_scoreOf : yX2_scoreOf.cls = RX2 ∧ yX2_scoreOf.cls ≠ "java/lang/invoke/MethodHandle" ∧ yX2_scoreOf.cls ≠ "java/lang/invoke/VarHandle" ∧ (parseMethodDescriptor yX2_scoreOf.desc).map (fun d => d.parameters.length) = some 2 := by decide +kernel
set_option maxHeartbeats 4000000 in
set_option maxRecDepth 100000 in
theorem c_X2_scoreOf (l : Launch) (hfl : l.stackTraces = false) (D : va_G) (cy : Nat → ClassId) (base : Nat → Prop) (ad : Nat → Nat) (n nc : Nat) (g : sg) (i : Nat) (j : Nat) (hi : i < n) (hj : j < nc) (hR : cR n nc g) : kM l yX2_scoreOf wsX2_scoreOf (kR 2 0 0) D cy base ad n nc g [.ref (ad 0), .ref (ad (100 + 3 * i)), .ref (ad (200 + j))] (kD True (some (.int (cSc g i j))) ad n nc g) kNo 0 0 := by
  refine kx_meth (cc := cX2_scoreOf) (maxL := 6) (ret := (some .int)) (by decide) rfl (Nat.le_of_ble_eq_true rfl) ?_
  intro p e s m args below meth c ls hx hb hr hml hown hts hlk hT hG hw0 hS0 hl Q H locs hQ hw hS hH0 hlocs0
  have hl : lv_has ls 6 [(0, .ref (ad 0)), (1, .ref (ad (100 + 3 * i))), (2, .ref (ad (200 + j)))] := hl
  have hown : s.vm.findClass RX2 = some m.cls := hown
  have hF : CallFix p m c cX2_scoreOf 6 s args wsX2_scoreOf RX2 := ⟨hx, hb, hml, hown, hts⟩
  have hn30 : n ≤ 30 := hw.2.2.1
  have hc20 : nc ≤ 20 := hw.2.2.2
  clear hw0 hS0 hH0 hlocs0
  have i0 : ∀ w ∈ wsX00, w ∈ wsX2_scoreOf := by decide +kernel
  have i1 : ∀ w ∈ wsX10, w ∈ wsX2_scoreOf := by decide +kernel
  have f_201 := hts (.fieldLink RX2 201 "Lostroom$Found" "kind" "I") (by decide +kernel)
  have f_312 := hts (.fieldLink RX2 312 "Lostroom$Claim" "kind" "I") (by decide +kernel)
  have f_316 := hts (.fieldLink RX2 316 "Lostroom$Found" "place" "I") (by decide +kernel)
  have f_319 := hts (.fieldLink RX2 319 "Lostroom$Claim" "place" "I") (by decide +kernel)
  have f_323 := hts (.fieldLink RX2 323 "Lostroom$Found" "day" "I") (by decide +kernel)
  have f_324 := hts (.fieldLink RX2 324 "Lostroom$Claim" "from" "I") (by decide +kernel)
  have f_327 := hts (.fieldLink RX2 327 "Lostroom$Claim" "to" "I") (by decide +kernel)
  have hmi := hts (.initialized "java/lang/Math") (by decide +kernel)
  have ms_max := hts (.static Lib.Math.max.name) (by decide +kernel)
  have mc_max := hts (.code Lib.Math.max.name Lib.Math.max.code 2 (some .int)) (by decide +kernel)
  have m_214 := hts (.methodLink RX2 214 Lib.Math.max.name) (by decide +kernel)
  have hr1 := hR.1 i hi
  have hr2 := hR.2.1 j hj
  refine lv_aload_n hx hb dX2_scoreOf_0 rfl (lv_at hl 0 rfl) ?_
  refine lv_aload_n hx hb dX2_scoreOf_1 rfl (lv_at hl 1 rfl) ?_
  refine kx_getF (v := .int (g (100 + 3 * i) 0)) hx hb hts hown hG hw i1 i (by first | assumption | omega) 0 (by decide) f_201 rfl dX2_scoreOf_2 ?_
  refine lv_aload_n hx hb dX2_scoreOf_5 rfl (lv_at hl 2 rfl) ?_
  refine kx_getC (v := .int (g (200 + j) 1)) hx hb hts hown hG hw i0 j (by first | assumption | omega) 1 (by decide) f_312 rfl dX2_scoreOf_6 ?_
  refine kx_do0 (st1 := [.int (scK (g (100 + 3 * i) 0) (g (200 + j) 1) (g 2 (g (100 + 3 * i) 0).toNatClampNeg))]) (kx_cv (As := [.int (g (100 + 3 * i) 0), .int (g (200 + j) 1)]) (rest := []) hF hG hw hS hl.1 kC_0 rfl (c_X2_scoreOfKinds l hfl D cy base ad n nc g (g (100 + 3 * i) 0) (g (200 + j) 1) hr1.1 hr2.1) gX2_scoreOf_X2_scoreOfKinds rfl rfl rfl hd_X2_scoreOfKinds ⟨Nat.le_of_ble_eq_true rfl, Nat.le_of_ble_eq_true rfl⟩ rfl rfl (Nat.le_of_ble_eq_true rfl) dX2_scoreOf_9 ⟨Nat.le_of_ble_eq_true rfl, Nat.le_of_ble_eq_true rfl⟩) hS rfl (fun H locs hw hS => ?_)
  refine lv_istore_n (lv' := [(3, .int (scK (g (100 + 3 * i) 0) (g (200 + j) 1) (g 2 (g (100 + 3 * i) 0).toNatClampNeg))), (0, .ref (ad 0)), (1, .ref (ad (100 + 3 * i))), (2, .ref (ad (200 + j)))]) hx hb dX2_scoreOf_12 rfl hl (by decide) rfl (fun ls hl => ?_)
  refine lv_iload_n hx hb dX2_scoreOf_13 rfl (lv_at hl 0 rfl) ?_
  refine lv_iconst (v := -1) hx hb dX2_scoreOf_14 (by decide) ?_
  refine lv_icmp_ne (tgt := 20) hx hb dX2_scoreOf_15 (by decide) (fun c_15 => ?_) (fun c_15 => ?_)
  · refine lv_aload_n hx hb dX2_scoreOf_20 rfl (lv_at hl 1 rfl) ?_
    refine lv_aload_n hx hb dX2_scoreOf_21 rfl (lv_at hl 2 rfl) ?_
    refine kx_getF (v := .int (g (100 + 3 * i) 1)) hx hb hts hown hG hw i1 i (by first | assumption | omega) 1 (by decide) f_316 rfl dX2_scoreOf_22 ?_
    refine lv_aload_n hx hb dX2_scoreOf_25 rfl (lv_at hl 3 rfl) ?_
    refine kx_getC (v := .int (g (200 + j) 2)) hx hb hts hown hG hw i0 j (by first | assumption | omega) 2 (by decide) f_319 rfl dX2_scoreOf_26 ?_
    refine kx_do0 (st1 := [.int (scP (g 3) (g (100 + 3 * i) 1) (g (200 + j) 2))]) (kx_cv (As := [.int (g (100 + 3 * i) 1), .int (g (200 + j) 2)]) (rest := []) hF hG hw hS hl.1 kC_0 rfl (c_X2_scoreOfPlaces l hfl D cy base ad n nc g (g (100 + 3 * i) 1) (g (200 + j) 2) hr1.2.1 hr2.2.1) gX2_scoreOf_X2_scoreOfPlaces rfl rfl rfl hd_X2_scoreOfPlaces ⟨Nat.le_of_ble_eq_true rfl, Nat.le_of_ble_eq_true rfl⟩ rfl rfl (Nat.le_of_ble_eq_true rfl) dX2_scoreOf_29 ⟨Nat.le_of_ble_eq_true rfl, Nat.le_of_ble_eq_true rfl⟩) hS rfl (fun H locs hw hS => ?_)
    refine lv_istore (lv' := [(4, .int (scP (g 3) (g (100 + 3 * i) 1) (g (200 + j) 2))), (3, .int (scK (g (100 + 3 * i) 0) (g (200 + j) 1) (g 2 (g (100 + 3 * i) 0).toNatClampNeg))), (0, .ref (ad 0)), (1, .ref (ad (100 + 3 * i))), (2, .ref (ad (200 + j)))]) hx hb dX2_scoreOf_32 hl (by decide) rfl (fun ls hl => ?_)
    refine lv_aload_n hx hb dX2_scoreOf_34 rfl (lv_at hl 3 rfl) ?_
    refine kx_getF (v := .int (g (100 + 3 * i) 2)) hx hb hts hown hG hw i1 i (by first | assumption | omega) 2 (by decide) f_323 rfl dX2_scoreOf_35 ?_
    refine lv_aload_n hx hb dX2_scoreOf_38 rfl (lv_at hl 4 rfl) ?_
    refine kx_getC (v := .int (g (200 + j) 3)) hx hb hts hown hG hw i0 j (by first | assumption | omega) 3 (by decide) f_324 rfl dX2_scoreOf_39 ?_
    refine lv_aload_n hx hb dX2_scoreOf_42 rfl (lv_at hl 4 rfl) ?_
    refine kx_getC (v := .int (g (200 + j) 4)) hx hb hts hown hG hw i0 j (by first | assumption | omega) 4 (by decide) f_327 rfl dX2_scoreOf_43 ?_
    refine kx_do0 (st1 := [.int (scD (g (100 + 3 * i) 2) (g (200 + j) 3) (g (200 + j) 4))]) (kx_cs (As := [.int (g (100 + 3 * i) 2), .int (g (200 + j) 3), .int (g (200 + j) 4)]) (rest := []) hF hG hw hS hl.1 (c_X2_scoreOfDay l hfl D cy base ad n nc g (g (100 + 3 * i) 2) (g (200 + j) 3) (g (200 + j) 4) hr1.2.2.1 hr2.2.2.1) gX2_scoreOf_X2_scoreOfDay rfl rfl rfl hd_X2_scoreOfDay ⟨Nat.le_of_ble_eq_true rfl, Nat.le_of_ble_eq_true rfl⟩ rfl rfl (Nat.le_of_ble_eq_true rfl) dX2_scoreOf_46 ⟨Nat.le_of_ble_eq_true rfl, Nat.le_of_ble_eq_true rfl⟩) hS rfl (fun H locs hw hS => ?_)
    refine lv_istore (lv' := [(5, .int (scD (g (100 + 3 * i) 2) (g (200 + j) 3) (g (200 + j) 4))), (4, .int (scP (g 3) (g (100 + 3 * i) 1) (g (200 + j) 2))), (3, .int (scK (g (100 + 3 * i) 0) (g (200 + j) 1) (g 2 (g (100 + 3 * i) 0).toNatClampNeg))), (0, .ref (ad 0)), (1, .ref (ad (100 + 3 * i))), (2, .ref (ad (200 + j)))]) hx hb dX2_scoreOf_49 hl (by decide) rfl (fun ls hl => ?_)
    refine lv_iconst (v := 0) hx hb dX2_scoreOf_51 (by decide) ?_
    refine lv_iload_n hx hb dX2_scoreOf_52 rfl (lv_at hl 2 rfl) ?_
    refine lv_iload hx hb dX2_scoreOf_53 (lv_at hl 1 rfl) ?_
    refine lv_iadd hx hb dX2_scoreOf_55 ?_
    refine lv_iload hx hb dX2_scoreOf_56 (lv_at hl 0 rfl) ?_
    refine lv_iadd hx hb dX2_scoreOf_58 ?_
    refine lv_aload_n hx hb dX2_scoreOf_59 rfl (lv_at hl 3 rfl) ?_
    refine lv_aload_n hx hb dX2_scoreOf_60 rfl (lv_at hl 4 rfl) ?_
    refine lv_aload_n hx hb dX2_scoreOf_61 rfl (lv_at hl 5 rfl) ?_
    refine kx_do0 (st1 := [.int (scW (g (100 + 3 * i) 8 ||| (g (100 + 3 * i) 3 &&& g (200 + j) 6)) (g (200 + j) 5) (g 1) 24), .int (((scK (g (100 + 3 * i) 0) (g (200 + j) 1) (g 2 (g (100 + 3 * i) 0).toNatClampNeg)) + (scP (g 3) (g (100 + 3 * i) 1) (g (200 + j) 2))) + (scD (g (100 + 3 * i) 2) (g (200 + j) 3) (g (200 + j) 4))), .int (0 : Int32)]) (kx_cv (As := [.ref (ad (100 + 3 * i)), .ref (ad (200 + j))]) (rest := [.int (((scK (g (100 + 3 * i) 0) (g (200 + j) 1) (g 2 (g (100 + 3 * i) 0).toNatClampNeg)) + (scP (g 3) (g (100 + 3 * i) 1) (g (200 + j) 2))) + (scD (g (100 + 3 * i) 2) (g (200 + j) 3) (g (200 + j) 4))), .int (0 : Int32)]) hF hG hw hS hl.1 kC_0 rfl (c_X2_scoreOfWords l hfl D cy base ad n nc g i j (by first | assumption | omega | exact mR_9 (by assumption) _ _ | simp [sU, hi, hj, hR]) (by first | assumption | omega | exact mR_9 (by assumption) _ _ | simp [sU, hi, hj, hR]) (by first | assumption | omega | exact mR_9 (by assumption) _ _ | simp [sU, hi, hj, hR])) gX2_scoreOf_X2_scoreOfWords rfl rfl rfl hd_X2_scoreOfWords ⟨Nat.le_of_ble_eq_true rfl, Nat.le_of_ble_eq_true rfl⟩ rfl rfl (Nat.le_of_ble_eq_true rfl) dX2_scoreOf_62 ⟨Nat.le_of_ble_eq_true rfl, Nat.le_of_ble_eq_true rfl⟩) hS rfl (fun H locs hw hS => ?_)
    refine lv_iadd hx hb dX2_scoreOf_65 ?_
    refine va_mmax hx hb (hml.trans hl.1.symm) hown m_214 ms_max hmi mc_max (by decide) (Nat.le_of_ble_eq_true rfl) (Nat.le_of_ble_eq_true rfl) (Nat.le_of_ble_eq_true rfl) dX2_scoreOf_66 ?_
    exact kx_retI hQ hx hb hr hlk hw hS (Nat.le_of_ble_eq_true rfl) (Nat.le_of_ble_eq_true rfl) dX2_scoreOf_69 (kd_i (trivial) (by simp only [cSc, score, decide_eq_false c_15, if_neg c_15]; exact (mx0 _).symm) (rfl))
  · refine lv_iconst (v := -1) hx hb dX2_scoreOf_18 (by decide) ?_
    exact kx_retI hQ hx hb hr hlk hw hS (Nat.le_of_ble_eq_true rfl) (Nat.le_of_ble_eq_true rfl) dX2_scoreOf_19 (kd_i (trivial) (by first | (simp only [cSc, score, decide_eq_true c_15, if_pos c_15]; done) | (simp only [cSc, score, decide_eq_true c_15, if_pos c_15]; rfl) | (simp [cSc, score, decide_eq_true c_15, if_pos c_15]; done)) (rfl))
theorem hd_X0_end : yX0_end.cls = RX0 ∧ yX0_end.cls ≠ "java/lang/invoke/MethodHandle" ∧ yX0_end.cls ≠ "java/lang/invoke/VarHandle" ∧ (parseMethodDescriptor yX0_end.desc).map (fun d => d.parameters.length) = some 2 := by decide +kernel
set_option maxHeartbeats 4000000 in
set_option maxRecDepth 100000 in
theorem c_X0_end (l : Launch) (hfl : l.stackTraces = false) (D : va_G) (cy : Nat → ClassId) (base : Nat → Prop) (ad : Nat → Nat) (n nc : Nat) (g : sg) (j : Nat) (st : Int32) (d : Int32) (hj : j < nc) : kM l yX0_end wsX0_end (kR 0 0 0) D cy base ad n nc g [.ref (ad (200 + j)), .int st, .int d] (kD True none ad n nc (sU (sU g (200 + j) 7 st) (200 + j) 9 d)) kNo 0 0 := by
  refine kx_meth (cc := cX0_end) (maxL := 3) (ret := none) (by decide) rfl (Nat.le_of_ble_eq_true rfl) ?_
  intro p e s m args below meth c ls hx hb hr hml hown hts hlk hT hG hw0 hS0 hl Q H locs hQ hw hS hH0 hlocs0
  have hl : lv_has ls 3 [(0, .ref (ad (200 + j))), (1, .int st), (2, .int d)] := hl
  have hown : s.vm.findClass RX0 = some m.cls := hown
  have hF : CallFix p m c cX0_end 3 s args wsX0_end RX0 := ⟨hx, hb, hml, hown, hts⟩
  have hn30 : n ≤ 30 := hw.2.2.1
  have hc20 : nc ≤ 20 := hw.2.2.2
  clear hw0 hS0 hH0 hlocs0
  have i0 : ∀ w ∈ wsX00, w ∈ wsX0_end := by decide +kernel
  have f_15 := hts (.fieldLink RX0 15 "Lostroom$Claim" "state" "I") (by decide +kernel)
  have f_21 := hts (.fieldLink RX0 21 "Lostroom$Claim" "endedOn" "I") (by decide +kernel)
  refine lv_aload_n hx hb dX0_end_0 rfl (lv_at hl 0 rfl) ?_
  refine lv_iload_n hx hb dX0_end_1 rfl (lv_at hl 1 rfl) ?_
  refine kx_putC (v := st) hx hb hts hown hG hw hS i0 j (by first | assumption | omega) 7 (by decide) f_15 rfl rfl rfl dX0_end_2 (fun H locs hw hS => ?_)
  refine lv_aload_n hx hb dX0_end_5 rfl (lv_at hl 0 rfl) ?_
  refine lv_iload_n hx hb dX0_end_6 rfl (lv_at hl 2 rfl) ?_
  refine kx_putC (v := d) hx hb hts hown hG hw hS i0 j (by first | assumption | omega) 9 (by decide) f_21 rfl rfl rfl dX0_end_7 (fun H locs hw hS => ?_)
  exact kx_retV hQ hx hb hr hlk hw hS (Nat.le_of_ble_eq_true rfl) (Nat.le_of_ble_eq_true rfl) dX0_end_10 (kd_v (trivial) (rfl))
theorem hd_X0_proves : yX0_proves.cls = RX0 ∧ yX0_proves.cls ≠ "java/lang/invoke/MethodHandle" ∧ yX0_proves.cls ≠ "java/lang/invoke/VarHandle" ∧ (parseMethodDescriptor yX0_proves.desc).map (fun d => d.parameters.length) = some 1 := by decide +kernel
set_option maxHeartbeats 4000000 in
set_option maxRecDepth 100000 in
theorem c_X0_proves (l : Launch) (hfl : l.stackTraces = false) (D : va_G) (cy : Nat → ClassId) (base : Nat → Prop) (ad : Nat → Nat) (n nc : Nat) (g : sg) (j : Nat) (i : Nat) (hi : i < n) (hj : j < nc) (hR : cR n nc g) : kM l yX0_proves wsX0_proves (kR 1 0 0) D cy base ad n nc g [.ref (ad (200 + j)), .ref (ad (100 + 3 * i))] (kD True (some (.int (b2 (cPrv g i j)))) ad n nc g) kNo 0 0 := by
  refine kx_meth (cc := cX0_proves) (maxL := 3) (ret := (some .boolean)) (by decide) rfl (Nat.le_of_ble_eq_true rfl) ?_
  intro p e s m args below meth c ls hx hb hr hml hown hts hlk hT hG hw0 hS0 hl Q H locs hQ hw hS hH0 hlocs0
  have hl : lv_has ls 3 [(0, .ref (ad (200 + j))), (1, .ref (ad (100 + 3 * i)))] := hl
  have hown : s.vm.findClass RX0 = some m.cls := hown
  have hF : CallFix p m c cX0_proves 3 s args wsX0_proves RX0 := ⟨hx, hb, hml, hown, hts⟩
  have hn30 : n ≤ 30 := hw.2.2.1
  have hc20 : nc ≤ 20 := hw.2.2.2
  clear hw0 hS0 hH0 hlocs0
  have i0 : ∀ w ∈ wsX00, w ∈ wsX0_proves := by decide +kernel
  have i1 : ∀ w ∈ wsX10, w ∈ wsX0_proves := by decide +kernel
  have f_9 := hts (.fieldLink RX0 9 "Lostroom$Claim" "told" "I") (by decide +kernel)
  have f_42 := hts (.fieldLink RX0 42 "Lostroom$Found" "secret" "I") (by decide +kernel)
  have hmi := hts (.initialized "java/lang/Math") (by decide +kernel)
  have ms_min := hts (.static Lib.Math.min.name) (by decide +kernel)
  have mc_min := hts (.code Lib.Math.min.name Lib.Math.min.code 2 (some .int)) (by decide +kernel)
  have m_53 := hts (.methodLink RX0 53 Lib.Math.min.name) (by decide +kernel)
  have hr1 := hR.1 i hi
  have hr2 := hR.2.1 j hj
  refine lv_iconst (v := 2) hx hb dX0_proves_0 (by decide) ?_
  refine lv_aload_n hx hb dX0_proves_1 rfl (lv_at hl 1 rfl) ?_
  refine kx_getF (v := .int (g (100 + 3 * i) 3)) hx hb hts hown hG hw i1 i (by first | assumption | omega) 3 (by decide) f_42 rfl dX0_proves_2 ?_
  refine kx_do0 (st1 := [.int (bits (g (100 + 3 * i) 3)), .int (2 : Int32)]) (kx_cs (As := [.int (g (100 + 3 * i) 3)]) (rest := [.int (2 : Int32)]) hF hG hw hS hl.1 (c_J6_bitCount_0f7a4 l hfl D cy base ad n nc g (g (100 + 3 * i) 3) (by first | exact hr2.2.2.2.1 | exact hr1.2.2.2.2 | exact hr1.2.2.2.1 | exact sB_and hr2.2.2.2.1 | exact sB_and (sB_and hr2.2.2.2.1) | exact sB_and hr2.2.2.2.2.1)) gX0_proves_J6_bitCount_0f7a4 rfl rfl rfl hd_J6_bitCount_0f7a4 ⟨Nat.le_of_ble_eq_true rfl, Nat.le_of_ble_eq_true rfl⟩ rfl rfl (Nat.le_of_ble_eq_true rfl) dX0_proves_5 ⟨Nat.le_of_ble_eq_true rfl, Nat.le_of_ble_eq_true rfl⟩) hS rfl (fun H locs hw hS => ?_)
  refine va_mmin hx hb (hml.trans hl.1.symm) hown m_53 ms_min hmi mc_min (by decide) (Nat.le_of_ble_eq_true rfl) (Nat.le_of_ble_eq_true rfl) (Nat.le_of_ble_eq_true rfl) dX0_proves_8 ?_
  refine lv_istore_n (lv' := [(2, .int (if (bits (g (100 + 3 * i) 3)) < (2 : Int32) then (bits (g (100 + 3 * i) 3)) else (2 : Int32))), (0, .ref (ad (200 + j))), (1, .ref (ad (100 + 3 * i)))]) hx hb dX0_proves_11 rfl hl (by decide) rfl (fun ls hl => ?_)
  refine lv_aload_n hx hb dX0_proves_12 rfl (lv_at hl 1 rfl) ?_
  refine kx_getC (v := .int (g (200 + j) 6)) hx hb hts hown hG hw i0 j (by first | assumption | omega) 6 (by decide) f_9 rfl dX0_proves_13 ?_
  refine lv_aload_n hx hb dX0_proves_16 rfl (lv_at hl 2 rfl) ?_
  refine kx_getF (v := .int (g (100 + 3 * i) 3)) hx hb hts hown hG hw i1 i (by first | assumption | omega) 3 (by decide) f_42 rfl dX0_proves_17 ?_
  refine lv_iand hx hb dX0_proves_20 ?_
  refine kx_do0 (st1 := [.int (bits ((g (200 + j) 6) &&& (g (100 + 3 * i) 3)))]) (kx_cs (As := [.int ((g (200 + j) 6) &&& (g (100 + 3 * i) 3))]) (rest := []) hF hG hw hS hl.1 (c_J6_bitCount_0f7a4 l hfl D cy base ad n nc g ((g (200 + j) 6) &&& (g (100 + 3 * i) 3)) (by first | exact hr2.2.2.2.1 | exact hr1.2.2.2.2 | exact hr1.2.2.2.1 | exact sB_and hr2.2.2.2.1 | exact sB_and (sB_and hr2.2.2.2.1) | exact sB_and hr2.2.2.2.2.1)) gX0_proves_J6_bitCount_0f7a4 rfl rfl rfl hd_J6_bitCount_0f7a4 ⟨Nat.le_of_ble_eq_true rfl, Nat.le_of_ble_eq_true rfl⟩ rfl rfl (Nat.le_of_ble_eq_true rfl) dX0_proves_21 ⟨Nat.le_of_ble_eq_true rfl, Nat.le_of_ble_eq_true rfl⟩) hS rfl (fun H locs hw hS => ?_)
  refine lv_iload_n hx hb dX0_proves_24 rfl (lv_at hl 0 rfl) ?_
  have hj_51_0 : ∀ (H : Heap) (locs : List Loc) (ls : Array Slot), kW D cy base ad n nc g H → va_S (kA base) s.heap H locs → lv_has ls 3 [(2, .int (if (bits (g (100 + 3 * i) 3)) < (2 : Int32) then (bits (g (100 + 3 * i) 3)) else (2 : Int32))), (0, .ref (ad (200 + j))), (1, .ref (ad (100 + 3 * i)))] → W p l e (kR 1 0 0) s m args below meth c H locs 0 0 Q (F0 m 51 ls [.int (b2 ((!(decide ((bits ((g (200 + j) 6) &&& (g (100 + 3 * i) 3))) < (if (bits (g (100 + 3 * i) 3)) < (2 : Int32) then (bits (g (100 + 3 * i) 3)) else (2 : Int32))))) && (!(decide ((1 : Int32) < (bits ((g (200 + j) 6) &&& ((g (100 + 3 * i) 3) ^^^ (-1 : Int32)))))))))]) := by
    intro H locs ls hw hS hl
    exact kx_retZ hQ hx hb hr hlk hw hS (Nat.le_of_ble_eq_true rfl) (Nat.le_of_ble_eq_true rfl) dX0_proves_51 (nar_b2 _) (kd_i (trivial) (congrArg b2 (prv_c _ _)) (rfl))
  refine lv_icmp_lt (tgt := 50) hx hb dX0_proves_25 (by decide) (fun c_25 => ?_) (fun c_25 => ?_)
  · refine lv_iconst (v := 0) hx hb dX0_proves_50 (by decide) ?_
    exact kx_top (v := (b2 ((!(decide ((bits ((g (200 + j) 6) &&& (g (100 + 3 * i) 3))) < (if (bits (g (100 + 3 * i) 3)) < (2 : Int32) then (bits (g (100 + 3 * i) 3)) else (2 : Int32))))) && (!(decide ((1 : Int32) < (bits ((g (200 + j) 6) &&& ((g (100 + 3 * i) 3) ^^^ (-1 : Int32)))))))))) (by first | (simp only [bq, decide_eq_true c_25, if_pos c_25]; done) | (simp only [bq, decide_eq_true c_25, if_pos c_25]; rfl) | (simp [bq, decide_eq_true c_25, if_pos c_25]; done)) (hj_51_0 _ _ _ hw hS hl)
  · refine lv_aload_n hx hb dX0_proves_28 rfl (lv_at hl 1 rfl) ?_
    refine kx_getC (v := .int (g (200 + j) 6)) hx hb hts hown hG hw i0 j (by first | assumption | omega) 6 (by decide) f_9 rfl dX0_proves_29 ?_
    refine lv_aload_n hx hb dX0_proves_32 rfl (lv_at hl 2 rfl) ?_
    refine kx_getF (v := .int (g (100 + 3 * i) 3)) hx hb hts hown hG hw i1 i (by first | assumption | omega) 3 (by decide) f_42 rfl dX0_proves_33 ?_
    refine lv_iconst (v := -1) hx hb dX0_proves_36 (by decide) ?_
    refine lv_ixor hx hb dX0_proves_37 ?_
    refine lv_iand hx hb dX0_proves_38 ?_
    refine kx_do0 (st1 := [.int (bits ((g (200 + j) 6) &&& ((g (100 + 3 * i) 3) ^^^ (-1 : Int32))))]) (kx_cs (As := [.int ((g (200 + j) 6) &&& ((g (100 + 3 * i) 3) ^^^ (-1 : Int32)))]) (rest := []) hF hG hw hS hl.1 (c_J6_bitCount_0f7a4 l hfl D cy base ad n nc g ((g (200 + j) 6) &&& ((g (100 + 3 * i) 3) ^^^ (-1 : Int32))) (by first | exact hr2.2.2.2.1 | exact hr1.2.2.2.2 | exact hr1.2.2.2.1 | exact sB_and hr2.2.2.2.1 | exact sB_and (sB_and hr2.2.2.2.1) | exact sB_and hr2.2.2.2.2.1)) gX0_proves_J6_bitCount_0f7a4 rfl rfl rfl hd_J6_bitCount_0f7a4 ⟨Nat.le_of_ble_eq_true rfl, Nat.le_of_ble_eq_true rfl⟩ rfl rfl (Nat.le_of_ble_eq_true rfl) dX0_proves_39 ⟨Nat.le_of_ble_eq_true rfl, Nat.le_of_ble_eq_true rfl⟩) hS rfl (fun H locs hw hS => ?_)
    refine lv_iconst (v := 1) hx hb dX0_proves_42 (by decide) ?_
    refine lv_icmp_gt (tgt := 50) hx hb dX0_proves_43 (by decide) (fun c_43 => ?_) (fun c_43 => ?_)
    · refine lv_iconst (v := 0) hx hb dX0_proves_50 (by decide) ?_
      exact kx_top (v := (b2 ((!(decide ((bits ((g (200 + j) 6) &&& (g (100 + 3 * i) 3))) < (if (bits (g (100 + 3 * i) 3)) < (2 : Int32) then (bits (g (100 + 3 * i) 3)) else (2 : Int32))))) && (!(decide ((1 : Int32) < (bits ((g (200 + j) 6) &&& ((g (100 + 3 * i) 3) ^^^ (-1 : Int32)))))))))) (by first | (simp only [bq, decide_eq_false c_25, if_neg c_25, decide_eq_true c_43, if_pos c_43]; done) | (simp only [bq, decide_eq_false c_25, if_neg c_25, decide_eq_true c_43, if_pos c_43]; rfl) | (simp [bq, decide_eq_false c_25, if_neg c_25, decide_eq_true c_43, if_pos c_43]; done)) (hj_51_0 _ _ _ hw hS hl)
    · refine lv_iconst (v := 1) hx hb dX0_proves_46 (by decide) ?_
      refine lv_goto (tgt := 51) hx hb dX0_proves_47 (by decide) ?_
      exact kx_top (v := (b2 ((!(decide ((bits ((g (200 + j) 6) &&& (g (100 + 3 * i) 3))) < (if (bits (g (100 + 3 * i) 3)) < (2 : Int32) then (bits (g (100 + 3 * i) 3)) else (2 : Int32))))) && (!(decide ((1 : Int32) < (bits ((g (200 + j) 6) &&& ((g (100 + 3 * i) 3) ^^^ (-1 : Int32)))))))))) (by first | (simp only [bq, decide_eq_false c_25, if_neg c_25, decide_eq_false c_43, if_neg c_43]; done) | (simp only [bq, decide_eq_false c_25, if_neg c_25, decide_eq_false c_43, if_neg c_43]; rfl) | (simp [bq, decide_eq_false c_25, if_neg c_25, decide_eq_false c_43, if_neg c_43]; done)) (hj_51_0 _ _ _ hw hS hl)
theorem hd_X0_eraseIfOld : yX0_eraseIfOld.cls = RX0 ∧ yX0_eraseIfOld.cls ≠ "java/lang/invoke/MethodHandle" ∧ yX0_eraseIfOld.cls ≠ "java/lang/invoke/VarHandle" ∧ (parseMethodDescriptor yX0_eraseIfOld.desc).map (fun d => d.parameters.length) = some 1 := by decide +kernel
set_option maxHeartbeats 4000000 in
set_option maxRecDepth 100000 in
theorem c_X0_eraseIfOld (l : Launch) (hfl : l.stackTraces = false) (D : va_G) (cy : Nat → ClassId) (base : Nat → Prop) (ad : Nat → Nat) (n nc : Nat) (g : sg) (j : Nat) (d : Int32) (hj : j < nc) : kM l yX0_eraseIfOld wsX0_eraseIfOld (kR 0 0 0) D cy base ad n nc g [.ref (ad (200 + j)), .int d] (kD True none ad n nc (cErs g j d)) kNo 0 0 := by
  refine kx_meth (cc := cX0_eraseIfOld) (maxL := 3) (ret := none) (by decide) rfl (Nat.le_of_ble_eq_true rfl) ?_
  intro p e s m args below meth c ls hx hb hr hml hown hts hlk hT hG hw0 hS0 hl Q H locs hQ hw hS hH0 hlocs0
  have hl : lv_has ls 3 [(0, .ref (ad (200 + j))), (1, .int d)] := hl
  have hown : s.vm.findClass RX0 = some m.cls := hown
  have hF : CallFix p m c cX0_eraseIfOld 3 s args wsX0_eraseIfOld RX0 := ⟨hx, hb, hml, hown, hts⟩
  have hn30 : n ≤ 30 := hw.2.2.1
  have hc20 : nc ≤ 20 := hw.2.2.2
  clear hw0 hS0 hH0 hlocs0
  have i0 : ∀ w ∈ wsX00, w ∈ wsX0_eraseIfOld := by decide +kernel
  have f_9 := hts (.fieldLink RX0 9 "Lostroom$Claim" "told" "I") (by decide +kernel)
  have f_15 := hts (.fieldLink RX0 15 "Lostroom$Claim" "state" "I") (by decide +kernel)
  have f_21 := hts (.fieldLink RX0 21 "Lostroom$Claim" "endedOn" "I") (by decide +kernel)
  have f_39 := hts (.fieldLink RX0 39 "Lostroom$Claim" "words" "I") (by decide +kernel)
  refine lv_aload_n hx hb dX0_eraseIfOld_0 rfl (lv_at hl 0 rfl) ?_
  refine kx_getC (v := .int (g (200 + j) 7)) hx hb hts hown hG hw i0 j (by first | assumption | omega) 7 (by decide) f_15 rfl dX0_eraseIfOld_1 ?_
  refine lv_iconst (v := 1) hx hb dX0_eraseIfOld_4 (by decide) ?_
  have hj_21_0 : ∀ (H : Heap) (locs : List Loc) (ls : Array Slot), kW D cy base ad n nc g H → va_S (kA base) s.heap H locs → lv_has ls 3 [(0, .ref (ad (200 + j))), (1, .int d)] → W p l e (kR 0 0 0) s m args below meth c H locs 0 0 Q (F0 m 21 ls [.int (b2 ((decide ((g (200 + j) 7) = (1 : Int32))) || (decide ((g (200 + j) 7) = (2 : Int32)))))]) := by
    intro H locs ls hw hS hl
    refine lv_istore_n (lv' := [(2, .int (b2 ((decide ((g (200 + j) 7) = (1 : Int32))) || (decide ((g (200 + j) 7) = (2 : Int32)))))), (0, .ref (ad (200 + j))), (1, .int d)]) hx hb dX0_eraseIfOld_21 rfl hl (by decide) rfl (fun ls hl => ?_)
    refine lv_iload_n hx hb dX0_eraseIfOld_22 rfl (lv_at hl 0 rfl) ?_
    refine kb_eq (tgt := 52) hx hb dX0_eraseIfOld_23 (by decide) (fun c_23 => ?_) (fun c_23 => ?_)
    · exact kx_retV hQ hx hb hr hlk hw hS (Nat.le_of_ble_eq_true rfl) (Nat.le_of_ble_eq_true rfl) dX0_eraseIfOld_52 (kd_v (trivial) (by first | (simp only [cErs, erC, c_23]; done) | (simp only [cErs, erC, c_23]; rfl) | (simp [cErs, erC, c_23]; done)))
    · refine lv_iload_n hx hb dX0_eraseIfOld_26 rfl (lv_at hl 2 rfl) ?_
      refine lv_aload_n hx hb dX0_eraseIfOld_27 rfl (lv_at hl 1 rfl) ?_
      refine kx_getC (v := .int (g (200 + j) 9)) hx hb hts hown hG hw i0 j (by first | assumption | omega) 9 (by decide) f_21 rfl dX0_eraseIfOld_28 ?_
      refine lv_isub hx hb dX0_eraseIfOld_31 ?_
      refine lv_bipush (v := 90) hx hb dX0_eraseIfOld_32 (by decide) ?_
      refine lv_icmp_lt (tgt := 52) hx hb dX0_eraseIfOld_34 (by decide) (fun c_34 => ?_) (fun c_34 => ?_)
      · exact kx_retV hQ hx hb hr hlk hw hS (Nat.le_of_ble_eq_true rfl) (Nat.le_of_ble_eq_true rfl) dX0_eraseIfOld_52 (kd_v (trivial) (by first | (simp only [cErs, erC, c_23, decide_eq_true c_34, if_pos c_34]; done) | (simp only [cErs, erC, c_23, decide_eq_true c_34, if_pos c_34]; rfl) | (simp [cErs, erC, c_23, decide_eq_true c_34, if_pos c_34]; done)))
      · refine lv_aload_n hx hb dX0_eraseIfOld_37 rfl (lv_at hl 1 rfl) ?_
        refine lv_iconst (v := 3) hx hb dX0_eraseIfOld_38 (by decide) ?_
        refine kx_putC (v := (3 : Int32)) hx hb hts hown hG hw hS i0 j (by first | assumption | omega) 7 (by decide) f_15 rfl rfl rfl dX0_eraseIfOld_39 (fun H locs hw hS => ?_)
        refine lv_aload_n hx hb dX0_eraseIfOld_42 rfl (lv_at hl 1 rfl) ?_
        refine lv_iconst (v := 0) hx hb dX0_eraseIfOld_43 (by decide) ?_
        refine kx_putC (v := (0 : Int32)) hx hb hts hown hG hw hS i0 j (by first | assumption | omega) 5 (by decide) f_39 rfl rfl rfl dX0_eraseIfOld_44 (fun H locs hw hS => ?_)
        refine lv_aload_n hx hb dX0_eraseIfOld_47 rfl (lv_at hl 1 rfl) ?_
        refine lv_iconst (v := 0) hx hb dX0_eraseIfOld_48 (by decide) ?_
        refine kx_putC (v := (0 : Int32)) hx hb hts hown hG hw hS i0 j (by first | assumption | omega) 6 (by decide) f_9 rfl rfl rfl dX0_eraseIfOld_49 (fun H locs hw hS => ?_)
        exact kx_retV hQ hx hb hr hlk hw hS (Nat.le_of_ble_eq_true rfl) (Nat.le_of_ble_eq_true rfl) dX0_eraseIfOld_52 (kd_v (trivial) (by first | (simp only [cErs, erC, c_23, decide_eq_false c_34, if_neg c_34]; done) | (simp only [cErs, erC, c_23, decide_eq_false c_34, if_neg c_34]; rfl) | (simp [cErs, erC, c_23, decide_eq_false c_34, if_neg c_34]; done)))
  refine lv_icmp_eq (tgt := 16) hx hb dX0_eraseIfOld_5 (by decide) (fun c_5 => ?_) (fun c_5 => ?_)
  · refine lv_iconst (v := 1) hx hb dX0_eraseIfOld_16 (by decide) ?_
    refine lv_goto (tgt := 21) hx hb dX0_eraseIfOld_17 (by decide) ?_
    exact kx_top (v := (b2 ((decide ((g (200 + j) 7) = (1 : Int32))) || (decide ((g (200 + j) 7) = (2 : Int32)))))) (by first | (simp only [bq, decide_eq_true c_5, if_pos c_5]; done) | (simp only [bq, decide_eq_true c_5, if_pos c_5]; rfl) | (simp [bq, decide_eq_true c_5, if_pos c_5]; done)) (hj_21_0 _ _ _ hw hS hl)
  · refine lv_aload_n hx hb dX0_eraseIfOld_8 rfl (lv_at hl 0 rfl) ?_
    refine kx_getC (v := .int (g (200 + j) 7)) hx hb hts hown hG hw i0 j (by first | assumption | omega) 7 (by decide) f_15 rfl dX0_eraseIfOld_9 ?_
    refine lv_iconst (v := 2) hx hb dX0_eraseIfOld_12 (by decide) ?_
    refine lv_icmp_ne (tgt := 20) hx hb dX0_eraseIfOld_13 (by decide) (fun c_13 => ?_) (fun c_13 => ?_)
    · refine lv_iconst (v := 0) hx hb dX0_eraseIfOld_20 (by decide) ?_
      exact kx_top (v := (b2 ((decide ((g (200 + j) 7) = (1 : Int32))) || (decide ((g (200 + j) 7) = (2 : Int32)))))) (by first | (simp only [bq, decide_eq_false c_5, if_neg c_5, decide_eq_false c_13, if_neg c_13]; done) | (simp only [bq, decide_eq_false c_5, if_neg c_5, decide_eq_false c_13, if_neg c_13]; rfl) | (simp [bq, decide_eq_false c_5, if_neg c_5, decide_eq_false c_13, if_neg c_13]; done)) (hj_21_0 _ _ _ hw hS hl)
    · refine lv_iconst (v := 1) hx hb dX0_eraseIfOld_16 (by decide) ?_
      refine lv_goto (tgt := 21) hx hb dX0_eraseIfOld_17 (by decide) ?_
      exact kx_top (v := (b2 ((decide ((g (200 + j) 7) = (1 : Int32))) || (decide ((g (200 + j) 7) = (2 : Int32)))))) (by first | (simp only [bq, decide_eq_false c_5, if_neg c_5, decide_eq_true c_13, if_pos c_13]; done) | (simp only [bq, decide_eq_false c_5, if_neg c_5, decide_eq_true c_13, if_pos c_13]; rfl) | (simp [bq, decide_eq_false c_5, if_neg c_5, decide_eq_true c_13, if_pos c_13]; done)) (hj_21_0 _ _ _ hw hS hl)
theorem hd_X2_requireOpen : yX2_requireOpen.cls ≠ "java/lang/invoke/MethodHandle" ∧ yX2_requireOpen.cls ≠ "java/lang/invoke/VarHandle" ∧ (parseMethodDescriptor yX2_requireOpen.desc).map (fun d => d.parameters.length) = some 1 := by decide +kernel
set_option maxHeartbeats 4000000 in
set_option maxRecDepth 100000 in
theorem c_X2_requireOpen (l : Launch) (hfl : l.stackTraces = false) (D : va_G) (cy : Nat → ClassId) (base : Nat → Prop) (ad : Nat → Nat) (n nc : Nat) (g : sg) (j : Nat) (hj : j < nc) : kM l yX2_requireOpen wsX2_requireOpen (kR 6 1 6) D cy base ad n nc g [.ref (ad (200 + j))] (kD (g (200 + j) 7 = 0) none ad n nc g) (kEx (rq (decide (g (200 + j) 7 = 0)) 3)) 1 6 := by
  refine kx_meth (cc := cX2_requireOpen) (maxL := 1) (ret := none) (by decide) rfl (Nat.le_of_ble_eq_true rfl) ?_
  intro p e s m args below meth c ls hx hb hr hml hown hts hlk hT hG hw0 hS0 hl Q H locs hQ hw hS hH0 hlocs0
  have hl : lv_has ls 1 [(0, .ref (ad (200 + j)))] := hl
  have hown : s.vm.findClass RX2 = some m.cls := hown
  have hF : CallFix p m c cX2_requireOpen 1 s args wsX2_requireOpen RX2 := ⟨hx, hb, hml, hown, hts⟩
  have hn30 : n ≤ 30 := hw.2.2.1
  have hc20 : nc ≤ 20 := hw.2.2.2
  clear hw0 hS0 hH0 hlocs0
  have i0 : ∀ w ∈ wsX00, w ∈ wsX2_requireOpen := by decide +kernel
  have f_283 := hts (.fieldLink RX2 283 "Lostroom$Claim" "state" "I") (by decide +kernel)
  have xk_IS := hts (.classLink RX2 90 "java/lang/IllegalStateException") (by decide +kernel)
  have xi_IS := hts (.initialized "java/lang/IllegalStateException") (by decide +kernel)
  have xa_IS : ∀ w ∈ (vx_atS RX2 94 "java/lang/IllegalStateException" kNm).filter goodWord, w.before args s = true := fun w h => hts w ((by decide +kernel : ∀ w ∈ (vx_atS RX2 94 "java/lang/IllegalStateException" kNm).filter goodWord, w ∈ wsX2_requireOpen) w h)
  refine lv_aload_n hx hb dX2_requireOpen_0 rfl (lv_at hl 0 rfl) ?_
  refine kx_getC (v := .int (g (200 + j) 7)) hx hb hts hown hG hw i0 j (by first | assumption | omega) 7 (by decide) f_283 rfl dX2_requireOpen_1 ?_
  refine lv_if_eq (tgt := 18) hx hb dX2_requireOpen_4 (by decide) (fun c_4 => ?_) (fun c_4 => ?_)
  · exact kx_retV hQ hx hb hr hlk hw hS (Nat.le_of_ble_eq_true rfl) (Nat.le_of_ble_eq_true rfl) dX2_requireOpen_18 (kd_v (c_4) (rfl))
  · exact kx_throwIS (text := "not open") (is := 289) hQ hx hb hfl hown hG hw hS true (by decide +kernel) xk_IS xi_IS xa_IS (kEx_3 (by first | (simp only [rq, decide_eq_false c_4, if_neg c_4]; done) | (simp only [rq, decide_eq_false c_4, if_neg c_4]; rfl) | (simp [rq, decide_eq_false c_4, if_neg c_4]; done))) (hl.1.trans hml.symm) hT rfl dX2_requireOpen_7 dX2_requireOpen_10 dX2_requireOpen_11 dX2_requireOpen_14 dX2_requireOpen_17 ⟨by decide, Nat.le_of_ble_eq_true rfl, Nat.le_of_ble_eq_true rfl, Nat.le_of_ble_eq_true rfl⟩ hlk (Nat.le_of_ble_eq_true rfl) (Nat.le_of_ble_eq_true rfl)
theorem hd_X2_isCandidate : yX2_isCandidate.cls = RX2 ∧ yX2_isCandidate.cls ≠ "java/lang/invoke/MethodHandle" ∧ yX2_isCandidate.cls ≠ "java/lang/invoke/VarHandle" ∧ (parseMethodDescriptor yX2_isCandidate.desc).map (fun d => d.parameters.length) = some 2 := by decide +kernel
set_option maxHeartbeats 4000000 in
set_option maxRecDepth 100000 in
theorem c_X2_isCandidate (l : Launch) (hfl : l.stackTraces = false) (D : va_G) (cy : Nat → ClassId) (base : Nat → Prop) (ad : Nat → Nat) (n nc : Nat) (g : sg) (i : Nat) (j : Nat) (hi : i < n) (hj : j < nc) (hR : cR n nc g) : kM l yX2_isCandidate wsX2_isCandidate (kR 3 0 0) D cy base ad n nc g [.ref (ad 0), .ref (ad (100 + 3 * i)), .ref (ad (200 + j))] (kD True (some (.int (b2 (cCnd g i j)))) ad n nc g) kNo 0 0 := by
  refine kx_meth (cc := cX2_isCandidate) (maxL := 3) (ret := (some .boolean)) (by decide) rfl (Nat.le_of_ble_eq_true rfl) ?_
  intro p e s m args below meth c ls hx hb hr hml hown hts hlk hT hG hw0 hS0 hl Q H locs hQ hw hS hH0 hlocs0
  have hl : lv_has ls 3 [(0, .ref (ad 0)), (1, .ref (ad (100 + 3 * i))), (2, .ref (ad (200 + j)))] := hl
  have hown : s.vm.findClass RX2 = some m.cls := hown
  have hF : CallFix p m c cX2_isCandidate 3 s args wsX2_isCandidate RX2 := ⟨hx, hb, hml, hown, hts⟩
  have hn30 : n ≤ 30 := hw.2.2.1
  have hc20 : nc ≤ 20 := hw.2.2.2
  clear hw0 hS0 hH0 hlocs0
  have i0 : ∀ w ∈ wsX00, w ∈ wsX2_isCandidate := by decide +kernel
  have i2 : ∀ w ∈ wsX20, w ∈ wsX2_isCandidate := by decide +kernel
  have f_50 := hts (.fieldLink RX2 50 "Lostroom" "leastScore" "I") (by decide +kernel)
  have f_283 := hts (.fieldLink RX2 283 "Lostroom$Claim" "state" "I") (by decide +kernel)
  refine lv_aload_n hx hb dX2_isCandidate_0 rfl (lv_at hl 2 rfl) ?_
  refine kx_getC (v := .int (g (200 + j) 7)) hx hb hts hown hG hw i0 j (by first | assumption | omega) 7 (by decide) f_283 rfl dX2_isCandidate_1 ?_
  have hj_25_0 : ∀ (H : Heap) (locs : List Loc) (ls : Array Slot), kW D cy base ad n nc g H → va_S (kA base) s.heap H locs → lv_has ls 3 [(0, .ref (ad 0)), (1, .ref (ad (100 + 3 * i))), (2, .ref (ad (200 + j)))] → W p l e (kR 3 0 0) s m args below meth c H locs 0 0 Q (F0 m 25 ls [.int (b2 ((decide ((g (200 + j) 7) = (0 : Int32))) && (!(decide ((cSc g i j) < (g 0 11))))))]) := by
    intro H locs ls hw hS hl
    exact kx_retZ hQ hx hb hr hlk hw hS (Nat.le_of_ble_eq_true rfl) (Nat.le_of_ble_eq_true rfl) dX2_isCandidate_25 (nar_b2 _) (kd_i (trivial) (rfl) (rfl))
  refine lv_if_ne (tgt := 24) hx hb dX2_isCandidate_4 (by decide) (fun c_4 => ?_) (fun c_4 => ?_)
  · refine lv_iconst (v := 0) hx hb dX2_isCandidate_24 (by decide) ?_
    exact kx_top (v := (b2 ((decide ((g (200 + j) 7) = (0 : Int32))) && (!(decide ((cSc g i j) < (g 0 11))))))) (by first | (simp only [bq, decide_eq_false c_4, if_neg c_4]; done) | (simp only [bq, decide_eq_false c_4, if_neg c_4]; rfl) | (simp [bq, decide_eq_false c_4, if_neg c_4]; done)) (hj_25_0 _ _ _ hw hS hl)
  · refine lv_aload_n hx hb dX2_isCandidate_7 rfl (lv_at hl 0 rfl) ?_
    refine lv_aload_n hx hb dX2_isCandidate_8 rfl (lv_at hl 1 rfl) ?_
    refine lv_aload_n hx hb dX2_isCandidate_9 rfl (lv_at hl 2 rfl) ?_
    refine kx_do0 (st1 := [.int (cSc g i j)]) (kx_cv (As := [.ref (ad (100 + 3 * i)), .ref (ad (200 + j))]) (rest := []) hF hG hw hS hl.1 kC_0 rfl (c_X2_scoreOf l hfl D cy base ad n nc g i j (by first | assumption | omega | exact mR_9 (by assumption) _ _ | simp [sU, hi, hj, hR]) (by first | assumption | omega | exact mR_9 (by assumption) _ _ | simp [sU, hi, hj, hR]) (by first | assumption | omega | exact mR_9 (by assumption) _ _ | simp [sU, hi, hj, hR])) gX2_isCandidate_X2_scoreOf rfl rfl rfl hd_X2_scoreOf ⟨Nat.le_of_ble_eq_true rfl, Nat.le_of_ble_eq_true rfl⟩ rfl rfl (Nat.le_of_ble_eq_true rfl) dX2_isCandidate_10 ⟨Nat.le_of_ble_eq_true rfl, Nat.le_of_ble_eq_true rfl⟩) hS rfl (fun H locs hw hS => ?_)
    refine lv_aload_n hx hb dX2_isCandidate_13 rfl (lv_at hl 0 rfl) ?_
    refine kx_getL (v := .int (g 0 11)) hx hb hts hown hG hw i2 11 (by decide) f_50 rfl dX2_isCandidate_14 ?_
    refine lv_icmp_lt (tgt := 24) hx hb dX2_isCandidate_17 (by decide) (fun c_17 => ?_) (fun c_17 => ?_)
    · refine lv_iconst (v := 0) hx hb dX2_isCandidate_24 (by decide) ?_
      exact kx_top (v := (b2 ((decide ((g (200 + j) 7) = (0 : Int32))) && (!(decide ((cSc g i j) < (g 0 11))))))) (by first | (simp only [bq, decide_eq_true c_4, if_pos c_4, decide_eq_true c_17, if_pos c_17]; done) | (simp only [bq, decide_eq_true c_4, if_pos c_4, decide_eq_true c_17, if_pos c_17]; rfl) | (simp [bq, decide_eq_true c_4, if_pos c_4, decide_eq_true c_17, if_pos c_17]; done)) (hj_25_0 _ _ _ hw hS hl)
    · refine lv_iconst (v := 1) hx hb dX2_isCandidate_20 (by decide) ?_
      refine lv_goto (tgt := 25) hx hb dX2_isCandidate_21 (by decide) ?_
      exact kx_top (v := (b2 ((decide ((g (200 + j) 7) = (0 : Int32))) && (!(decide ((cSc g i j) < (g 0 11))))))) (by first | (simp only [bq, decide_eq_true c_4, if_pos c_4, decide_eq_false c_17, if_neg c_17]; done) | (simp only [bq, decide_eq_true c_4, if_pos c_4, decide_eq_false c_17, if_neg c_17]; rfl) | (simp [bq, decide_eq_true c_4, if_pos c_4, decide_eq_false c_17, if_neg c_17]; done)) (hj_25_0 _ _ _ hw hS hl)
theorem hd_X2_isCandidateOfAny : yX2_isCandidateOfAny.cls = RX2 ∧ yX2_isCandidateOfAny.cls ≠ "java/lang/invoke/MethodHandle" ∧ yX2_isCandidateOfAny.cls ≠ "java/lang/invoke/VarHandle" ∧ (parseMethodDescriptor yX2_isCandidateOfAny.desc).map (fun d => d.parameters.length) = some 1 := by decide +kernel
set_option maxHeartbeats 4000000 in
set_option maxRecDepth 100000 in
theorem c_X2_isCandidateOfAny (l : Launch) (hfl : l.stackTraces = false) (D : va_G) (cy : Nat → ClassId) (base : Nat → Prop) (ad : Nat → Nat) (n nc : Nat) (g : sg) (i : Nat) (hcr : ∀ j, j < 20 → g 7 j = if j < nc then 1 else 0) (hi : i < n) (hR : cR n nc g) : kM l yX2_isCandidateOfAny wsX2_isCandidateOfAny (kR 4 0 0) D cy base ad n nc g [.ref (ad 0), .ref (ad (100 + 3 * i))] (kD True (some (.int (b2 (anyB (fun j => cCnd g i j) nc)))) ad n nc g) kNo 0 0 := by
  refine kx_meth (cc := cX2_isCandidateOfAny) (maxL := 6) (ret := (some .boolean)) (by decide) rfl (Nat.le_of_ble_eq_true rfl) ?_
  intro p e s m args below meth c ls hx hb hr hml hown hts hlk hT hG hw0 hS0 hl Q H locs hQ hw hS hH0 hlocs0
  have hl : lv_has ls 6 [(0, .ref (ad 0)), (1, .ref (ad (100 + 3 * i)))] := hl
  have hown : s.vm.findClass RX2 = some m.cls := hown
  have hF : CallFix p m c cX2_isCandidateOfAny 6 s args wsX2_isCandidateOfAny RX2 := ⟨hx, hb, hml, hown, hts⟩
  have hn30 : n ≤ 30 := hw.2.2.1
  have hc20 : nc ≤ 20 := hw.2.2.2
  clear hw0 hS0 hH0 hlocs0
  have i2 : ∀ w ∈ wsX20, w ∈ wsX2_isCandidateOfAny := by decide +kernel
  have f_33 := hts (.fieldLink RX2 33 "Lostroom" "claims" "[LLostroom$Claim;") (by decide +kernel)
  refine lv_aload_n hx hb dX2_isCandidateOfAny_0 rfl (lv_at hl 0 rfl) ?_
  refine kx_getL (v := .ref (ad 7)) hx hb hts hown hG hw i2 6 (by decide) f_33 rfl dX2_isCandidateOfAny_1 ?_
  refine lv_astore_n (lv' := [(2, .ref (ad 7)), (0, .ref (ad 0)), (1, .ref (ad (100 + 3 * i)))]) hx hb dX2_isCandidateOfAny_4 rfl hl (by decide) rfl (fun ls hl => ?_)
  refine lv_aload_n hx hb dX2_isCandidateOfAny_5 rfl (lv_at hl 0 rfl) ?_
  refine kx_alen (v := 20) hx hb hG hw kC_7 2 rfl rfl dX2_isCandidateOfAny_6 ?_
  refine lv_istore_n (lv' := [(3, .int (20 : Int32)), (2, .ref (ad 7)), (0, .ref (ad 0)), (1, .ref (ad (100 + 3 * i)))]) hx hb dX2_isCandidateOfAny_7 rfl hl (by decide) rfl (fun ls hl => ?_)
  refine lv_iconst (v := 0) hx hb dX2_isCandidateOfAny_8 (by decide) ?_
  refine lv_istore (lv' := [(4, .int (0 : Int32)), (3, .int (20 : Int32)), (2, .ref (ad 7)), (0, .ref (ad 0)), (1, .ref (ad (100 + 3 * i)))]) hx hb dX2_isCandidateOfAny_9 hl (by decide) rfl (fun ls hl => ?_)
  have lp_11 : ∀ (nn k : Nat), k ≤ 20 → 20 < k + nn → ∀ (H : Heap) (locs : List Loc) (ls : Array Slot), kW D cy base ad n nc g H → va_S (kA base) s.heap H locs → lv_has ls 6 [(4, .int (nI k)), (3, .int (20 : Int32)), (2, .ref (ad 7)), (0, .ref (ad 0)), (1, .ref (ad (100 + 3 * i)))] → (∀ t, t < k → t < nc → cCnd g i t = false) → W p l e (kR 4 0 0) s m args below meth c H locs 0 0 Q (F0 m 11 ls []) := by
    intro nn
    induction nn with
    | zero => intro k h1 h2; exact absurd h2 (by omega)
    | succ nn ih_11 =>
      intro k hk_k hkn_k H locs ls hw hS hl hnf
      refine lv_iload hx hb dX2_isCandidateOfAny_11 (lv_at hl 0 rfl) ?_
      refine lv_iload_n hx hb dX2_isCandidateOfAny_13 rfl (lv_at hl 1 rfl) ?_
      refine lv_icmp_ge (tgt := 46) hx hb dX2_isCandidateOfAny_14 (by decide) (fun c_14 => ?_) (fun c_14 => ?_)
      · have e_k : k = 20 := Nat.le_antisymm hk_k (le_nI (a := 20) (b := k) c_14 (by omega) (by omega))
        refine lv_iconst (v := 0) hx hb dX2_isCandidateOfAny_46 (by decide) ?_
        exact kx_retZ hQ hx hb hr hlk hw hS (Nat.le_of_ble_eq_true rfl) (Nat.le_of_ble_eq_true rfl) dX2_isCandidateOfAny_47 rfl (kd_i (trivial) ((congrArg b2 (anyB_f (f := fun j => cCnd g i j) (fun t ht => hnf t (by omega) ht))).trans rfl) (rfl))
      · have hlt_k : k < 20 := lt_nI (a := 20) (b := k) c_14 (by omega) (by omega)
        refine lv_aload_n hx hb dX2_isCandidateOfAny_17 rfl (lv_at hl 2 rfl) ?_
        refine lv_iload hx hb dX2_isCandidateOfAny_18 (lv_at hl 0 rfl) ?_
        have hq2 : k < 20 := by omega
        rcases Nat.lt_or_ge k nc with ha1 | ha1
        · refine kx_aaldC (v := .ref (ad (200 + k))) hx hb hG hw k (nI_clamp (by omega)) (vp_in_nI (by omega) (by decide)) (by rw [hcr k hq2, if_pos ha1]; rfl) dX2_isCandidateOfAny_20 ?_
          refine lv_astore (lv' := [(5, .ref (ad (200 + k))), (4, .int (nI k)), (3, .int (20 : Int32)), (2, .ref (ad 7)), (0, .ref (ad 0)), (1, .ref (ad (100 + 3 * i)))]) hx hb dX2_isCandidateOfAny_21 hl (by decide) rfl (fun ls hl => ?_)
          refine lv_aload hx hb dX2_isCandidateOfAny_23 (lv_at hl 0 rfl) ?_
          refine lv_ifnull hx hb dX2_isCandidateOfAny_25 ?_
          refine lv_aload_n hx hb dX2_isCandidateOfAny_28 rfl (lv_at hl 4 rfl) ?_
          refine lv_aload_n hx hb dX2_isCandidateOfAny_29 rfl (lv_at hl 5 rfl) ?_
          refine lv_aload hx hb dX2_isCandidateOfAny_30 (lv_at hl 0 rfl) ?_
          refine kx_do0 (st1 := [.int (b2 (cCnd g i k))]) (kx_cv (As := [.ref (ad (100 + 3 * i)), .ref (ad (200 + k))]) (rest := []) hF hG hw hS hl.1 kC_0 rfl (c_X2_isCandidate l hfl D cy base ad n nc g i k (by first | assumption | omega | exact mR_9 (by assumption) _ _ | simp [sU, hcr, hi, hR]) (by first | assumption | omega | exact mR_9 (by assumption) _ _ | simp [sU, hcr, hi, hR]) (by first | assumption | omega | exact mR_9 (by assumption) _ _ | simp [sU, hcr, hi, hR])) gX2_isCandidateOfAny_X2_isCandidate rfl rfl rfl hd_X2_isCandidate ⟨Nat.le_of_ble_eq_true rfl, Nat.le_of_ble_eq_true rfl⟩ rfl rfl (Nat.le_of_ble_eq_true rfl) dX2_isCandidateOfAny_32 ⟨Nat.le_of_ble_eq_true rfl, Nat.le_of_ble_eq_true rfl⟩) hS rfl (fun H locs hw hS => ?_)
          refine kb_eq (tgt := 40) hx hb dX2_isCandidateOfAny_35 (by decide) (fun c_35 => ?_) (fun c_35 => ?_)
          · refine lv_iinc (v := (nI k + (1 : Int32))) (lv' := [(4, .int (nI k + (1 : Int32))), (5, .ref (ad (200 + k))), (3, .int (20 : Int32)), (2, .ref (ad 7)), (0, .ref (ad 0)), (1, .ref (ad (100 + 3 * i)))]) hx hb dX2_isCandidateOfAny_40 hl (k := 1) rfl rfl (by decide) rfl (fun ls hl => ?_)
            refine lv_goto (tgt := 11) hx hb dX2_isCandidateOfAny_43 (by decide) ?_
            exact ih_11 (k + 1) (by omega) (by omega) _ _ _ hw hS (kx_lv (l := [(4, .int (nI k + (1 : Int32))), (3, .int (20 : Int32)), (2, .ref (ad 7)), (0, .ref (ad 0)), (1, .ref (ad (100 + 3 * i)))]) (l' := [(4, .int (nI (k + 1))), (3, .int (20 : Int32)), (2, .ref (ad 7)), (0, .ref (ad 0)), (1, .ref (ad (100 + 3 * i)))]) (lv_sub hl [0, 2, 3, 4, 5] rfl) (by rw [nI_1])) (fun t h1 h2 => by rcases lt_su h1 with q | q; exact hnf t q h2; subst q; first | assumption | omega)
          · refine lv_iconst (v := 1) hx hb dX2_isCandidateOfAny_38 (by decide) ?_
            exact kx_retZ hQ hx hb hr hlk hw hS (Nat.le_of_ble_eq_true rfl) (Nat.le_of_ble_eq_true rfl) dX2_isCandidateOfAny_39 rfl (kd_i (trivial) ((congrArg b2 (anyB_t (f := fun j => cCnd g i j) ha1 c_35)).trans rfl) (rfl))
        · refine kx_aaldC (v := .null) hx hb hG hw k (nI_clamp (by omega)) (vp_in_nI (by omega) (by decide)) (by rw [hcr k hq2, if_neg (Nat.not_lt.mpr ha1)]; rfl) dX2_isCandidateOfAny_20 ?_
          refine lv_astoreN (lv' := [(5, .null), (4, .int (nI k)), (3, .int (20 : Int32)), (2, .ref (ad 7)), (0, .ref (ad 0)), (1, .ref (ad (100 + 3 * i)))]) hx hb dX2_isCandidateOfAny_21 hl (by decide) rfl (fun ls hl => ?_)
          refine lv_aloadN hx hb dX2_isCandidateOfAny_23 (lv_at hl 0 rfl) ?_
          refine lv_ifnullN (tgt := 40) hx hb dX2_isCandidateOfAny_25 (by decide) ?_
          refine lv_iinc (v := (nI k + (1 : Int32))) (lv' := [(4, .int (nI k + (1 : Int32))), (5, .null), (3, .int (20 : Int32)), (2, .ref (ad 7)), (0, .ref (ad 0)), (1, .ref (ad (100 + 3 * i)))]) hx hb dX2_isCandidateOfAny_40 hl (k := 1) rfl rfl (by decide) rfl (fun ls hl => ?_)
          refine lv_goto (tgt := 11) hx hb dX2_isCandidateOfAny_43 (by decide) ?_
          exact ih_11 (k + 1) (by omega) (by omega) _ _ _ hw hS (kx_lv (l := [(4, .int (nI k + (1 : Int32))), (3, .int (20 : Int32)), (2, .ref (ad 7)), (0, .ref (ad 0)), (1, .ref (ad (100 + 3 * i)))]) (l' := [(4, .int (nI (k + 1))), (3, .int (20 : Int32)), (2, .ref (ad 7)), (0, .ref (ad 0)), (1, .ref (ad (100 + 3 * i)))]) (lv_sub hl [0, 2, 3, 4, 5] rfl) (by rw [nI_1])) (fun t h1 h2 => by rcases lt_su h1 with q | q; exact hnf t q h2; subst q; first | assumption | omega)
  exact lp_11 (20 + 1) 0 (by omega) (by omega) _ _ _ hw hS (kx_lv (l := [(4, .int (0 : Int32)), (3, .int (20 : Int32)), (2, .ref (ad 7)), (0, .ref (ad 0)), (1, .ref (ad (100 + 3 * i)))]) (l' := [(4, .int (nI 0)), (3, .int (20 : Int32)), (2, .ref (ad 7)), (0, .ref (ad 0)), (1, .ref (ad (100 + 3 * i)))]) (lv_sub hl [0, 1, 2, 3, 4] rfl) (rfl)) (fun t h1 h2 => absurd h1 (by omega))
theorem hd_X2_isOver : yX2_isOver.cls = RX2 ∧ yX2_isOver.cls ≠ "java/lang/invoke/MethodHandle" ∧ yX2_isOver.cls ≠ "java/lang/invoke/VarHandle" ∧ (parseMethodDescriptor yX2_isOver.desc).map (fun d => d.parameters.length) = some 1 := by decide +kernel
set_option maxHeartbeats 4000000 in
set_option maxRecDepth 100000 in
theorem c_X2_isOver (l : Launch) (hfl : l.stackTraces = false) (D : va_G) (cy : Nat → ClassId) (base : Nat → Prop) (ad : Nat → Nat) (n nc : Nat) (g : sg) (i : Nat) (hcr : ∀ j, j < 20 → g 7 j = if j < nc then 1 else 0) (hi : i < n) (hR : cR n nc g) : kM l yX2_isOver wsX2_isOver (kR 5 0 0) D cy base ad n nc g [.ref (ad 0), .ref (ad (100 + 3 * i))] (kD True (some (.int (b2 (cOver g nc i)))) ad n nc g) kNo 0 0 := by
  refine kx_meth (cc := cX2_isOver) (maxL := 2) (ret := (some .boolean)) (by decide) rfl (Nat.le_of_ble_eq_true rfl) ?_
  intro p e s m args below meth c ls hx hb hr hml hown hts hlk hT hG hw0 hS0 hl Q H locs hQ hw hS hH0 hlocs0
  have hl : lv_has ls 2 [(0, .ref (ad 0)), (1, .ref (ad (100 + 3 * i)))] := hl
  have hown : s.vm.findClass RX2 = some m.cls := hown
  have hF : CallFix p m c cX2_isOver 2 s args wsX2_isOver RX2 := ⟨hx, hb, hml, hown, hts⟩
  have hn30 : n ≤ 30 := hw.2.2.1
  have hc20 : nc ≤ 20 := hw.2.2.2
  clear hw0 hS0 hH0 hlocs0
  have i1 : ∀ w ∈ wsX10, w ∈ wsX2_isOver := by decide +kernel
  have i2 : ∀ w ∈ wsX20, w ∈ wsX2_isOver := by decide +kernel
  have f_47 := hts (.fieldLink RX2 47 "Lostroom" "day" "I") (by decide +kernel)
  have f_126 := hts (.fieldLink RX2 126 "Lostroom$Found" "lastDay" "I") (by decide +kernel)
  have f_142 := hts (.fieldLink RX2 142 "Lostroom$Found" "state" "I") (by decide +kernel)
  have f_166 := hts (.fieldLink RX2 166 "Lostroom$Found" "isHeld" "Z") (by decide +kernel)
  refine lv_aload_n hx hb dX2_isOver_0 rfl (lv_at hl 1 rfl) ?_
  refine kx_getF (v := .int (g (100 + 3 * i) 9)) hx hb hts hown hG hw i1 i (by first | assumption | omega) 9 (by decide) f_142 rfl dX2_isOver_1 ?_
  have hj_38_0 : ∀ (H : Heap) (locs : List Loc) (ls : Array Slot), kW D cy base ad n nc g H → va_S (kA base) s.heap H locs → lv_has ls 2 [(0, .ref (ad 0)), (1, .ref (ad (100 + 3 * i)))] → W p l e (kR 5 0 0) s m args below meth c H locs 0 0 Q (F0 m 38 ls [.int (b2 ((decide ((g (100 + 3 * i) 9) = (0 : Int32))) && ((!(decide ((g 0 10) ≤ (g (100 + 3 * i) 11)))) && ((decide ((g (100 + 3 * i) 12) = (0 : Int32))) && (!(anyB (fun j => cCnd g i j) nc))))))]) := by
    intro H locs ls hw hS hl
    exact kx_retZ hQ hx hb hr hlk hw hS (Nat.le_of_ble_eq_true rfl) (Nat.le_of_ble_eq_true rfl) dX2_isOver_38 (nar_b2 _) (kd_i (trivial) (congrArg b2 (by simp only [cOver, cOv0, Bool.and_assoc])) (rfl))
  refine lv_if_ne (tgt := 37) hx hb dX2_isOver_4 (by decide) (fun c_4 => ?_) (fun c_4 => ?_)
  · refine lv_iconst (v := 0) hx hb dX2_isOver_37 (by decide) ?_
    exact kx_top (v := (b2 ((decide ((g (100 + 3 * i) 9) = (0 : Int32))) && ((!(decide ((g 0 10) ≤ (g (100 + 3 * i) 11)))) && ((decide ((g (100 + 3 * i) 12) = (0 : Int32))) && (!(anyB (fun j => cCnd g i j) nc))))))) (by first | (simp only [bq, decide_eq_false c_4, if_neg c_4]; done) | (simp only [bq, decide_eq_false c_4, if_neg c_4]; rfl) | (simp [bq, decide_eq_false c_4, if_neg c_4]; done)) (hj_38_0 _ _ _ hw hS hl)
  · refine lv_aload_n hx hb dX2_isOver_7 rfl (lv_at hl 0 rfl) ?_
    refine kx_getL (v := .int (g 0 10)) hx hb hts hown hG hw i2 10 (by decide) f_47 rfl dX2_isOver_8 ?_
    refine lv_aload_n hx hb dX2_isOver_11 rfl (lv_at hl 1 rfl) ?_
    refine kx_getF (v := .int (g (100 + 3 * i) 11)) hx hb hts hown hG hw i1 i (by first | assumption | omega) 11 (by decide) f_126 rfl dX2_isOver_12 ?_
    refine lv_icmp_le (tgt := 37) hx hb dX2_isOver_15 (by decide) (fun c_15 => ?_) (fun c_15 => ?_)
    · refine lv_iconst (v := 0) hx hb dX2_isOver_37 (by decide) ?_
      exact kx_top (v := (b2 ((decide ((g (100 + 3 * i) 9) = (0 : Int32))) && ((!(decide ((g 0 10) ≤ (g (100 + 3 * i) 11)))) && ((decide ((g (100 + 3 * i) 12) = (0 : Int32))) && (!(anyB (fun j => cCnd g i j) nc))))))) (by first | (simp only [bq, decide_eq_true c_4, if_pos c_4, decide_eq_true c_15, if_pos c_15]; done) | (simp only [bq, decide_eq_true c_4, if_pos c_4, decide_eq_true c_15, if_pos c_15]; rfl) | (simp [bq, decide_eq_true c_4, if_pos c_4, decide_eq_true c_15, if_pos c_15]; done)) (hj_38_0 _ _ _ hw hS hl)
    · refine lv_aload_n hx hb dX2_isOver_18 rfl (lv_at hl 1 rfl) ?_
      refine kx_getF (v := .int (g (100 + 3 * i) 12)) hx hb hts hown hG hw i1 i (by first | assumption | omega) 12 (by decide) f_166 rfl dX2_isOver_19 ?_
      refine lv_if_ne (tgt := 37) hx hb dX2_isOver_22 (by decide) (fun c_22 => ?_) (fun c_22 => ?_)
      · refine lv_iconst (v := 0) hx hb dX2_isOver_37 (by decide) ?_
        exact kx_top (v := (b2 ((decide ((g (100 + 3 * i) 9) = (0 : Int32))) && ((!(decide ((g 0 10) ≤ (g (100 + 3 * i) 11)))) && ((decide ((g (100 + 3 * i) 12) = (0 : Int32))) && (!(anyB (fun j => cCnd g i j) nc))))))) (by first | (simp only [bq, decide_eq_true c_4, if_pos c_4, decide_eq_false c_15, if_neg c_15, decide_eq_false c_22, if_neg c_22]; done) | (simp only [bq, decide_eq_true c_4, if_pos c_4, decide_eq_false c_15, if_neg c_15, decide_eq_false c_22, if_neg c_22]; rfl) | (simp [bq, decide_eq_true c_4, if_pos c_4, decide_eq_false c_15, if_neg c_15, decide_eq_false c_22, if_neg c_22]; done)) (hj_38_0 _ _ _ hw hS hl)
      · refine lv_aload_n hx hb dX2_isOver_25 rfl (lv_at hl 0 rfl) ?_
        refine lv_aload_n hx hb dX2_isOver_26 rfl (lv_at hl 1 rfl) ?_
        refine kx_do0 (st1 := [.int (b2 (anyB (fun j => cCnd g i j) nc))]) (kx_cv (As := [.ref (ad (100 + 3 * i))]) (rest := []) hF hG hw hS hl.1 kC_0 rfl (c_X2_isCandidateOfAny l hfl D cy base ad n nc g i (by first | assumption | omega | exact mR_9 (by assumption) _ _ | simp [sU, hcr, hi, hR]) (by first | assumption | omega | exact mR_9 (by assumption) _ _ | simp [sU, hcr, hi, hR]) (by first | assumption | omega | exact mR_9 (by assumption) _ _ | simp [sU, hcr, hi, hR])) gX2_isOver_X2_isCandidateOfAny rfl rfl rfl hd_X2_isCandidateOfAny ⟨Nat.le_of_ble_eq_true rfl, Nat.le_of_ble_eq_true rfl⟩ rfl rfl (Nat.le_of_ble_eq_true rfl) dX2_isOver_27 ⟨Nat.le_of_ble_eq_true rfl, Nat.le_of_ble_eq_true rfl⟩) hS rfl (fun H locs hw hS => ?_)
        refine kb_ne (tgt := 37) hx hb dX2_isOver_30 (by decide) (fun c_30 => ?_) (fun c_30 => ?_)
        · refine lv_iconst (v := 0) hx hb dX2_isOver_37 (by decide) ?_
          exact kx_top (v := (b2 ((decide ((g (100 + 3 * i) 9) = (0 : Int32))) && ((!(decide ((g 0 10) ≤ (g (100 + 3 * i) 11)))) && ((decide ((g (100 + 3 * i) 12) = (0 : Int32))) && (!(anyB (fun j => cCnd g i j) nc))))))) (by first | (simp only [bq, decide_eq_true c_4, if_pos c_4, decide_eq_false c_15, if_neg c_15, decide_eq_true c_22, if_pos c_22, c_30]; done) | (simp only [bq, decide_eq_true c_4, if_pos c_4, decide_eq_false c_15, if_neg c_15, decide_eq_true c_22, if_pos c_22, c_30]; rfl) | (simp [bq, decide_eq_true c_4, if_pos c_4, decide_eq_false c_15, if_neg c_15, decide_eq_true c_22, if_pos c_22, c_30]; done)) (hj_38_0 _ _ _ hw hS hl)
        · refine lv_iconst (v := 1) hx hb dX2_isOver_33 (by decide) ?_
          refine lv_goto (tgt := 38) hx hb dX2_isOver_34 (by decide) ?_
          exact kx_top (v := (b2 ((decide ((g (100 + 3 * i) 9) = (0 : Int32))) && ((!(decide ((g 0 10) ≤ (g (100 + 3 * i) 11)))) && ((decide ((g (100 + 3 * i) 12) = (0 : Int32))) && (!(anyB (fun j => cCnd g i j) nc))))))) (by first | (simp only [bq, decide_eq_true c_4, if_pos c_4, decide_eq_false c_15, if_neg c_15, decide_eq_true c_22, if_pos c_22, c_30]; done) | (simp only [bq, decide_eq_true c_4, if_pos c_4, decide_eq_false c_15, if_neg c_15, decide_eq_true c_22, if_pos c_22, c_30]; rfl) | (simp [bq, decide_eq_true c_4, if_pos c_4, decide_eq_false c_15, if_neg c_15, decide_eq_true c_22, if_pos c_22, c_30]; done)) (hj_38_0 _ _ _ hw hS hl)
theorem hd_X2_isBeaten : yX2_isBeaten.cls = RX2 ∧ yX2_isBeaten.cls ≠ "java/lang/invoke/MethodHandle" ∧ yX2_isBeaten.cls ≠ "java/lang/invoke/VarHandle" ∧ (parseMethodDescriptor yX2_isBeaten.desc).map (fun d => d.parameters.length) = some 2 := by decide +kernel
set_option maxHeartbeats 4000000 in
set_option maxRecDepth 100000 in
theorem c_X2_isBeaten (l : Launch) (hfl : l.stackTraces = false) (D : va_G) (cy : Nat → ClassId) (base : Nat → Prop) (ad : Nat → Nat) (n nc : Nat) (g : sg) (i : Nat) (j : Nat) (hcr : ∀ j, j < 20 → g 7 j = if j < nc then 1 else 0) (hi : i < n) (hj : j < nc) (hR : cR n nc g) : kM l yX2_isBeaten wsX2_isBeaten (kR 4 0 0) D cy base ad n nc g [.ref (ad 0), .ref (ad (100 + 3 * i)), .ref (ad (200 + j))] (kD True (some (.int (b2 (cBeaten g nc i j)))) ad n nc g) kNo 0 0 := by
  refine kx_meth (cc := cX2_isBeaten) (maxL := 10) (ret := (some .boolean)) (by decide) rfl (Nat.le_of_ble_eq_true rfl) ?_
  intro p e s m args below meth c ls hx hb hr hml hown hts hlk hT hG hw0 hS0 hl Q H locs hQ hw hS hH0 hlocs0
  have hl : lv_has ls 10 [(0, .ref (ad 0)), (1, .ref (ad (100 + 3 * i))), (2, .ref (ad (200 + j)))] := hl
  have hown : s.vm.findClass RX2 = some m.cls := hown
  have hF : CallFix p m c cX2_isBeaten 10 s args wsX2_isBeaten RX2 := ⟨hx, hb, hml, hown, hts⟩
  have hn30 : n ≤ 30 := hw.2.2.1
  have hc20 : nc ≤ 20 := hw.2.2.2
  clear hw0 hS0 hH0 hlocs0
  have i0 : ∀ w ∈ wsX00, w ∈ wsX2_isBeaten := by decide +kernel
  have i2 : ∀ w ∈ wsX20, w ∈ wsX2_isBeaten := by decide +kernel
  have f_33 := hts (.fieldLink RX2 33 "Lostroom" "claims" "[LLostroom$Claim;") (by decide +kernel)
  have f_283 := hts (.fieldLink RX2 283 "Lostroom$Claim" "state" "I") (by decide +kernel)
  have f_350 := hts (.fieldLink RX2 350 "Lostroom$Claim" "number" "I") (by decide +kernel)
  refine lv_aload_n hx hb dX2_isBeaten_0 rfl (lv_at hl 0 rfl) ?_
  refine lv_aload_n hx hb dX2_isBeaten_1 rfl (lv_at hl 1 rfl) ?_
  refine lv_aload_n hx hb dX2_isBeaten_2 rfl (lv_at hl 2 rfl) ?_
  refine kx_do0 (st1 := [.int (cSc g i j)]) (kx_cv (As := [.ref (ad (100 + 3 * i)), .ref (ad (200 + j))]) (rest := []) hF hG hw hS hl.1 kC_0 rfl (c_X2_scoreOf l hfl D cy base ad n nc g i j (by first | assumption | omega | exact mR_9 (by assumption) _ _ | simp [sU, hcr, hi, hj, hR]) (by first | assumption | omega | exact mR_9 (by assumption) _ _ | simp [sU, hcr, hi, hj, hR]) (by first | assumption | omega | exact mR_9 (by assumption) _ _ | simp [sU, hcr, hi, hj, hR])) gX2_isBeaten_X2_scoreOf rfl rfl rfl hd_X2_scoreOf ⟨Nat.le_of_ble_eq_true rfl, Nat.le_of_ble_eq_true rfl⟩ rfl rfl (Nat.le_of_ble_eq_true rfl) dX2_isBeaten_3 ⟨Nat.le_of_ble_eq_true rfl, Nat.le_of_ble_eq_true rfl⟩) hS rfl (fun H locs hw hS => ?_)
  refine lv_istore_n (lv' := [(3, .int (cSc g i j)), (0, .ref (ad 0)), (1, .ref (ad (100 + 3 * i))), (2, .ref (ad (200 + j)))]) hx hb dX2_isBeaten_6 rfl hl (by decide) rfl (fun ls hl => ?_)
  refine lv_aload_n hx hb dX2_isBeaten_7 rfl (lv_at hl 1 rfl) ?_
  refine kx_getL (v := .ref (ad 7)) hx hb hts hown hG hw i2 6 (by decide) f_33 rfl dX2_isBeaten_8 ?_
  refine lv_astore (lv' := [(4, .ref (ad 7)), (3, .int (cSc g i j)), (0, .ref (ad 0)), (1, .ref (ad (100 + 3 * i))), (2, .ref (ad (200 + j)))]) hx hb dX2_isBeaten_11 hl (by decide) rfl (fun ls hl => ?_)
  refine lv_aload hx hb dX2_isBeaten_13 (lv_at hl 0 rfl) ?_
  refine kx_alen (v := 20) hx hb hG hw kC_7 2 rfl rfl dX2_isBeaten_15 ?_
  refine lv_istore (lv' := [(5, .int (20 : Int32)), (4, .ref (ad 7)), (3, .int (cSc g i j)), (0, .ref (ad 0)), (1, .ref (ad (100 + 3 * i))), (2, .ref (ad (200 + j)))]) hx hb dX2_isBeaten_16 hl (by decide) rfl (fun ls hl => ?_)
  refine lv_iconst (v := 0) hx hb dX2_isBeaten_18 (by decide) ?_
  refine lv_istore (lv' := [(6, .int (0 : Int32)), (5, .int (20 : Int32)), (4, .ref (ad 7)), (3, .int (cSc g i j)), (0, .ref (ad 0)), (1, .ref (ad (100 + 3 * i))), (2, .ref (ad (200 + j)))]) hx hb dX2_isBeaten_19 hl (by decide) rfl (fun ls hl => ?_)
  have lp_21 : ∀ (nn k : Nat), k ≤ 20 → 20 < k + nn → ∀ (H : Heap) (locs : List Loc) (ls : Array Slot), kW D cy base ad n nc g H → va_S (kA base) s.heap H locs → lv_has ls 10 [(6, .int (nI k)), (5, .int (20 : Int32)), (4, .ref (ad 7)), (3, .int (cSc g i j)), (0, .ref (ad 0)), (1, .ref (ad (100 + 3 * i))), (2, .ref (ad (200 + j)))] → (∀ t, t < k → t < nc → cBt g i j t = false) → W p l e (kR 4 0 0) s m args below meth c H locs 0 0 Q (F0 m 21 ls []) := by
    intro nn
    induction nn with
    | zero => intro k h1 h2; exact absurd h2 (by omega)
    | succ nn ih_21 =>
      intro k hk_k hkn_k H locs ls hw hS hl hnf
      refine lv_iload hx hb dX2_isBeaten_21 (lv_at hl 0 rfl) ?_
      refine lv_iload hx hb dX2_isBeaten_23 (lv_at hl 1 rfl) ?_
      refine lv_icmp_ge (tgt := 122) hx hb dX2_isBeaten_25 (by decide) (fun c_25 => ?_) (fun c_25 => ?_)
      · have e_k : k = 20 := Nat.le_antisymm hk_k (le_nI (a := 20) (b := k) c_25 (by omega) (by omega))
        refine lv_iconst (v := 0) hx hb dX2_isBeaten_122 (by decide) ?_
        exact kx_retZ hQ hx hb hr hlk hw hS (Nat.le_of_ble_eq_true rfl) (Nat.le_of_ble_eq_true rfl) dX2_isBeaten_123 rfl (kd_i (trivial) ((congrArg b2 (anyB_f (f := cBt g i j) (fun t ht => hnf t (by omega) ht))).trans rfl) (rfl))
      · have hlt_k : k < 20 := lt_nI (a := 20) (b := k) c_25 (by omega) (by omega)
        refine lv_aload hx hb dX2_isBeaten_28 (lv_at hl 2 rfl) ?_
        refine lv_iload hx hb dX2_isBeaten_30 (lv_at hl 0 rfl) ?_
        have hq2 : k < 20 := by omega
        rcases Nat.lt_or_ge k nc with ha1 | ha1
        · refine kx_aaldC (v := .ref (ad (200 + k))) hx hb hG hw k (nI_clamp (by omega)) (vp_in_nI (by omega) (by decide)) (by rw [hcr k hq2, if_pos ha1]; rfl) dX2_isBeaten_32 ?_
          refine lv_astore (lv' := [(7, .ref (ad (200 + k))), (6, .int (nI k)), (5, .int (20 : Int32)), (4, .ref (ad 7)), (3, .int (cSc g i j)), (0, .ref (ad 0)), (1, .ref (ad (100 + 3 * i))), (2, .ref (ad (200 + j)))]) hx hb dX2_isBeaten_33 hl (by decide) rfl (fun ls hl => ?_)
          refine lv_aload hx hb dX2_isBeaten_35 (lv_at hl 0 rfl) ?_
          refine lv_ifnull hx hb dX2_isBeaten_37 ?_
          refine lv_aload hx hb dX2_isBeaten_40 (lv_at hl 0 rfl) ?_
          refine kx_getC (v := .int (nI k)) hx hb hts hown hG hw i0 k (by first | assumption | omega) 0 (by decide) f_350 (congrArg Value.int ((hR.2.1 k (by assumption)).2.2.2.2.2)) dX2_isBeaten_42 ?_
          refine lv_aload_n hx hb dX2_isBeaten_45 rfl (lv_at hl 7 rfl) ?_
          refine kx_getC (v := .int (nI j)) hx hb hts hown hG hw i0 j (by first | assumption | omega) 0 (by decide) f_350 (congrArg Value.int ((hR.2.1 j (by assumption)).2.2.2.2.2)) dX2_isBeaten_46 ?_
          have hj_65_2 : ∀ (H : Heap) (locs : List Loc) (ls : Array Slot), kW D cy base ad n nc g H → va_S (kA base) s.heap H locs → lv_has ls 10 [(7, .ref (ad (200 + k))), (6, .int (nI k)), (5, .int (20 : Int32)), (4, .ref (ad 7)), (3, .int (cSc g i j)), (0, .ref (ad 0)), (1, .ref (ad (100 + 3 * i))), (2, .ref (ad (200 + j)))] → W p l e (kR 4 0 0) s m args below meth c H locs 0 0 Q (F0 m 65 ls [.int (b2 ((!(decide ((nI k) = (nI j)))) && (decide ((g (200 + k) 7) = (0 : Int32)))))]) := by
            intro H locs ls hw hS hl
            refine lv_istore (lv' := [(8, .int (b2 ((!(decide ((nI k) = (nI j)))) && (decide ((g (200 + k) 7) = (0 : Int32)))))), (7, .ref (ad (200 + k))), (6, .int (nI k)), (5, .int (20 : Int32)), (4, .ref (ad 7)), (3, .int (cSc g i j)), (0, .ref (ad 0)), (1, .ref (ad (100 + 3 * i))), (2, .ref (ad (200 + j)))]) hx hb dX2_isBeaten_65 hl (by decide) rfl (fun ls hl => ?_)
            refine lv_iload hx hb dX2_isBeaten_67 (lv_at hl 0 rfl) ?_
            refine kb_eq (tgt := 116) hx hb dX2_isBeaten_69 (by decide) (fun c_69 => ?_) (fun c_69 => ?_)
            · refine lv_iinc (v := (nI k + (1 : Int32))) (lv' := [(6, .int (nI k + (1 : Int32))), (8, .int (b2 ((!(decide ((nI k) = (nI j)))) && (decide ((g (200 + k) 7) = (0 : Int32)))))), (7, .ref (ad (200 + k))), (5, .int (20 : Int32)), (4, .ref (ad 7)), (3, .int (cSc g i j)), (0, .ref (ad 0)), (1, .ref (ad (100 + 3 * i))), (2, .ref (ad (200 + j)))]) hx hb dX2_isBeaten_116 hl (k := 2) rfl rfl (by decide) rfl (fun ls hl => ?_)
              refine lv_goto (tgt := 21) hx hb dX2_isBeaten_119 (by decide) ?_
              exact ih_21 (k + 1) (by omega) (by omega) _ _ _ hw hS (kx_lv (l := [(6, .int (nI k + (1 : Int32))), (5, .int (20 : Int32)), (4, .ref (ad 7)), (3, .int (cSc g i j)), (0, .ref (ad 0)), (1, .ref (ad (100 + 3 * i))), (2, .ref (ad (200 + j)))]) (l' := [(6, .int (nI (k + 1))), (5, .int (20 : Int32)), (4, .ref (ad 7)), (3, .int (cSc g i j)), (0, .ref (ad 0)), (1, .ref (ad (100 + 3 * i))), (2, .ref (ad (200 + j)))]) (lv_sub hl [0, 3, 4, 5, 6, 7, 8] rfl) (by rw [nI_1])) (fun t h1 h2 => by rcases lt_su h1 with q | q; exact hnf t q h2; subst q; first | omega | (simp only [cBt, btn_c, decide_eq_false c_25, if_neg c_25, c_69]; done) | (simp only [cBt, btn_c, decide_eq_false c_25, if_neg c_25, c_69]; rfl) | (simp [cBt, btn_c, decide_eq_false c_25, if_neg c_25, c_69]; done))
            · refine lv_aload hx hb dX2_isBeaten_72 (lv_at hl 1 rfl) ?_
              refine lv_aload_n hx hb dX2_isBeaten_74 rfl (lv_at hl 7 rfl) ?_
              refine kx_do0 (st1 := [.int (b2 (cPrv g i k))]) (kx_cv (As := [.ref (ad (100 + 3 * i))]) (rest := []) hF hG hw hS hl.1 (kC_C (by first | assumption | omega)) rfl (c_X0_proves l hfl D cy base ad n nc g k i (by first | assumption | omega | exact mR_9 (by assumption) _ _ | simp [sU, hcr, hi, hj, hR]) (by first | assumption | omega | exact mR_9 (by assumption) _ _ | simp [sU, hcr, hi, hj, hR]) (by first | assumption | omega | exact mR_9 (by assumption) _ _ | simp [sU, hcr, hi, hj, hR])) gX2_isBeaten_X0_proves rfl rfl rfl hd_X0_proves ⟨Nat.le_of_ble_eq_true rfl, Nat.le_of_ble_eq_true rfl⟩ rfl rfl (Nat.le_of_ble_eq_true rfl) dX2_isBeaten_75 ⟨Nat.le_of_ble_eq_true rfl, Nat.le_of_ble_eq_true rfl⟩) hS rfl (fun H locs hw hS => ?_)
              refine kb_eq (tgt := 116) hx hb dX2_isBeaten_78 (by decide) (fun c_78 => ?_) (fun c_78 => ?_)
              · refine lv_iinc (v := (nI k + (1 : Int32))) (lv' := [(6, .int (nI k + (1 : Int32))), (8, .int (b2 ((!(decide ((nI k) = (nI j)))) && (decide ((g (200 + k) 7) = (0 : Int32)))))), (7, .ref (ad (200 + k))), (5, .int (20 : Int32)), (4, .ref (ad 7)), (3, .int (cSc g i j)), (0, .ref (ad 0)), (1, .ref (ad (100 + 3 * i))), (2, .ref (ad (200 + j)))]) hx hb dX2_isBeaten_116 hl (k := 2) rfl rfl (by decide) rfl (fun ls hl => ?_)
                refine lv_goto (tgt := 21) hx hb dX2_isBeaten_119 (by decide) ?_
                exact ih_21 (k + 1) (by omega) (by omega) _ _ _ hw hS (kx_lv (l := [(6, .int (nI k + (1 : Int32))), (5, .int (20 : Int32)), (4, .ref (ad 7)), (3, .int (cSc g i j)), (0, .ref (ad 0)), (1, .ref (ad (100 + 3 * i))), (2, .ref (ad (200 + j)))]) (l' := [(6, .int (nI (k + 1))), (5, .int (20 : Int32)), (4, .ref (ad 7)), (3, .int (cSc g i j)), (0, .ref (ad 0)), (1, .ref (ad (100 + 3 * i))), (2, .ref (ad (200 + j)))]) (lv_sub hl [0, 3, 4, 5, 6, 7, 8] rfl) (by rw [nI_1])) (fun t h1 h2 => by rcases lt_su h1 with q | q; exact hnf t q h2; subst q; first | omega | (simp only [cBt, btn_c, decide_eq_false c_25, if_neg c_25, c_69, c_78]; done) | (simp only [cBt, btn_c, decide_eq_false c_25, if_neg c_25, c_69, c_78]; rfl) | (simp [cBt, btn_c, decide_eq_false c_25, if_neg c_25, c_69, c_78]; done))
              · refine lv_aload_n hx hb dX2_isBeaten_81 rfl (lv_at hl 6 rfl) ?_
                refine lv_aload_n hx hb dX2_isBeaten_82 rfl (lv_at hl 7 rfl) ?_
                refine lv_aload hx hb dX2_isBeaten_83 (lv_at hl 1 rfl) ?_
                refine kx_do0 (st1 := [.int (cSc g i k)]) (kx_cv (As := [.ref (ad (100 + 3 * i)), .ref (ad (200 + k))]) (rest := []) hF hG hw hS hl.1 kC_0 rfl (c_X2_scoreOf l hfl D cy base ad n nc g i k (by first | assumption | omega | exact mR_9 (by assumption) _ _ | simp [sU, hcr, hi, hj, hR]) (by first | assumption | omega | exact mR_9 (by assumption) _ _ | simp [sU, hcr, hi, hj, hR]) (by first | assumption | omega | exact mR_9 (by assumption) _ _ | simp [sU, hcr, hi, hj, hR])) gX2_isBeaten_X2_scoreOf rfl rfl rfl hd_X2_scoreOf ⟨Nat.le_of_ble_eq_true rfl, Nat.le_of_ble_eq_true rfl⟩ rfl rfl (Nat.le_of_ble_eq_true rfl) dX2_isBeaten_85 ⟨Nat.le_of_ble_eq_true rfl, Nat.le_of_ble_eq_true rfl⟩) hS rfl (fun H locs hw hS => ?_)
                refine lv_istore (lv' := [(9, .int (cSc g i k)), (8, .int (b2 ((!(decide ((nI k) = (nI j)))) && (decide ((g (200 + k) 7) = (0 : Int32)))))), (7, .ref (ad (200 + k))), (6, .int (nI k)), (5, .int (20 : Int32)), (4, .ref (ad 7)), (3, .int (cSc g i j)), (0, .ref (ad 0)), (1, .ref (ad (100 + 3 * i))), (2, .ref (ad (200 + j)))]) hx hb dX2_isBeaten_88 hl (by decide) rfl (fun ls hl => ?_)
                refine lv_iload hx hb dX2_isBeaten_90 (lv_at hl 0 rfl) ?_
                refine lv_iload_n hx hb dX2_isBeaten_92 rfl (lv_at hl 6 rfl) ?_
                refine lv_icmp_gt (tgt := 114) hx hb dX2_isBeaten_93 (by decide) (fun c_93 => ?_) (fun c_93 => ?_)
                · refine lv_iconst (v := 1) hx hb dX2_isBeaten_114 (by decide) ?_
                  exact kx_retZ hQ hx hb hr hlk hw hS (Nat.le_of_ble_eq_true rfl) (Nat.le_of_ble_eq_true rfl) dX2_isBeaten_115 rfl (kd_i (trivial) ((congrArg b2 (anyB_t (f := cBt g i j) ha1 (by first | omega | (simp only [cBt, btn_c, decide_eq_false c_25, if_neg c_25, c_69, c_78, decide_eq_true c_93, if_pos c_93]; done) | (simp only [cBt, btn_c, decide_eq_false c_25, if_neg c_25, c_69, c_78, decide_eq_true c_93, if_pos c_93]; rfl) | (simp [cBt, btn_c, decide_eq_false c_25, if_neg c_25, c_69, c_78, decide_eq_true c_93, if_pos c_93]; done)))).trans rfl) (rfl))
                · refine lv_iload hx hb dX2_isBeaten_96 (lv_at hl 0 rfl) ?_
                  refine lv_iload_n hx hb dX2_isBeaten_98 rfl (lv_at hl 6 rfl) ?_
                  refine lv_icmp_ne (tgt := 116) hx hb dX2_isBeaten_99 (by decide) (fun c_99 => ?_) (fun c_99 => ?_)
                  · refine lv_iinc (v := (nI k + (1 : Int32))) (lv' := [(6, .int (nI k + (1 : Int32))), (9, .int (cSc g i k)), (8, .int (b2 ((!(decide ((nI k) = (nI j)))) && (decide ((g (200 + k) 7) = (0 : Int32)))))), (7, .ref (ad (200 + k))), (5, .int (20 : Int32)), (4, .ref (ad 7)), (3, .int (cSc g i j)), (0, .ref (ad 0)), (1, .ref (ad (100 + 3 * i))), (2, .ref (ad (200 + j)))]) hx hb dX2_isBeaten_116 hl (k := 3) rfl rfl (by decide) rfl (fun ls hl => ?_)
                    refine lv_goto (tgt := 21) hx hb dX2_isBeaten_119 (by decide) ?_
                    exact ih_21 (k + 1) (by omega) (by omega) _ _ _ hw hS (kx_lv (l := [(6, .int (nI k + (1 : Int32))), (5, .int (20 : Int32)), (4, .ref (ad 7)), (3, .int (cSc g i j)), (0, .ref (ad 0)), (1, .ref (ad (100 + 3 * i))), (2, .ref (ad (200 + j)))]) (l' := [(6, .int (nI (k + 1))), (5, .int (20 : Int32)), (4, .ref (ad 7)), (3, .int (cSc g i j)), (0, .ref (ad 0)), (1, .ref (ad (100 + 3 * i))), (2, .ref (ad (200 + j)))]) (lv_sub hl [0, 4, 5, 6, 7, 8, 9] rfl) (by rw [nI_1])) (fun t h1 h2 => by rcases lt_su h1 with q | q; exact hnf t q h2; subst q; first | omega | (simp only [cBt, btn_c, decide_eq_false c_25, if_neg c_25, c_69, c_78, decide_eq_false c_93, if_neg c_93, decide_eq_false c_99, if_neg c_99]; done) | (simp only [cBt, btn_c, decide_eq_false c_25, if_neg c_25, c_69, c_78, decide_eq_false c_93, if_neg c_93, decide_eq_false c_99, if_neg c_99]; rfl) | (simp [cBt, btn_c, decide_eq_false c_25, if_neg c_25, c_69, c_78, decide_eq_false c_93, if_neg c_93, decide_eq_false c_99, if_neg c_99]; done))
                  · refine lv_aload hx hb dX2_isBeaten_102 (lv_at hl 2 rfl) ?_
                    refine kx_getC (v := .int (nI k)) hx hb hts hown hG hw i0 k (by first | assumption | omega) 0 (by decide) f_350 (congrArg Value.int ((hR.2.1 k (by assumption)).2.2.2.2.2)) dX2_isBeaten_104 ?_
                    refine lv_aload_n hx hb dX2_isBeaten_107 rfl (lv_at hl 9 rfl) ?_
                    refine kx_getC (v := .int (nI j)) hx hb hts hown hG hw i0 j (by first | assumption | omega) 0 (by decide) f_350 (congrArg Value.int ((hR.2.1 j (by assumption)).2.2.2.2.2)) dX2_isBeaten_108 ?_
                    refine lv_icmp_ge (tgt := 116) hx hb dX2_isBeaten_111 (by decide) (fun c_111 => ?_) (fun c_111 => ?_)
                    · refine lv_iinc (v := (nI k + (1 : Int32))) (lv' := [(6, .int (nI k + (1 : Int32))), (9, .int (cSc g i k)), (8, .int (b2 ((!(decide ((nI k) = (nI j)))) && (decide ((g (200 + k) 7) = (0 : Int32)))))), (7, .ref (ad (200 + k))), (5, .int (20 : Int32)), (4, .ref (ad 7)), (3, .int (cSc g i j)), (0, .ref (ad 0)), (1, .ref (ad (100 + 3 * i))), (2, .ref (ad (200 + j)))]) hx hb dX2_isBeaten_116 hl (k := 3) rfl rfl (by decide) rfl (fun ls hl => ?_)
                      refine lv_goto (tgt := 21) hx hb dX2_isBeaten_119 (by decide) ?_
                      exact ih_21 (k + 1) (by omega) (by omega) _ _ _ hw hS (kx_lv (l := [(6, .int (nI k + (1 : Int32))), (5, .int (20 : Int32)), (4, .ref (ad 7)), (3, .int (cSc g i j)), (0, .ref (ad 0)), (1, .ref (ad (100 + 3 * i))), (2, .ref (ad (200 + j)))]) (l' := [(6, .int (nI (k + 1))), (5, .int (20 : Int32)), (4, .ref (ad 7)), (3, .int (cSc g i j)), (0, .ref (ad 0)), (1, .ref (ad (100 + 3 * i))), (2, .ref (ad (200 + j)))]) (lv_sub hl [0, 4, 5, 6, 7, 8, 9] rfl) (by rw [nI_1])) (fun t h1 h2 => by rcases lt_su h1 with q | q; exact hnf t q h2; subst q; first | omega | (simp only [cBt, btn_c, decide_eq_false c_25, if_neg c_25, c_69, c_78, decide_eq_false c_93, if_neg c_93, decide_eq_true c_99, if_pos c_99, decide_eq_true c_111, if_pos c_111]; done) | (simp only [cBt, btn_c, decide_eq_false c_25, if_neg c_25, c_69, c_78, decide_eq_false c_93, if_neg c_93, decide_eq_true c_99, if_pos c_99, decide_eq_true c_111, if_pos c_111]; rfl) | (simp [cBt, btn_c, decide_eq_false c_25, if_neg c_25, c_69, c_78, decide_eq_false c_93, if_neg c_93, decide_eq_true c_99, if_pos c_99, decide_eq_true c_111, if_pos c_111]; done))
                    · refine lv_iconst (v := 1) hx hb dX2_isBeaten_114 (by decide) ?_
                      exact kx_retZ hQ hx hb hr hlk hw hS (Nat.le_of_ble_eq_true rfl) (Nat.le_of_ble_eq_true rfl) dX2_isBeaten_115 rfl (kd_i (trivial) ((congrArg b2 (anyB_t (f := cBt g i j) ha1 (by first | omega | (simp only [cBt, btn_c, decide_eq_false c_25, if_neg c_25, c_69, c_78, decide_eq_false c_93, if_neg c_93, decide_eq_true c_99, if_pos c_99, decide_eq_false c_111, if_neg c_111]; done) | (simp only [cBt, btn_c, decide_eq_false c_25, if_neg c_25, c_69, c_78, decide_eq_false c_93, if_neg c_93, decide_eq_true c_99, if_pos c_99, decide_eq_false c_111, if_neg c_111]; rfl) | (simp [cBt, btn_c, decide_eq_false c_25, if_neg c_25, c_69, c_78, decide_eq_false c_93, if_neg c_93, decide_eq_true c_99, if_pos c_99, decide_eq_false c_111, if_neg c_111]; done)))).trans rfl) (rfl))
          refine lv_icmp_eq (tgt := 64) hx hb dX2_isBeaten_49 (by decide) (fun c_49 => ?_) (fun c_49 => ?_)
          · refine lv_iconst (v := 0) hx hb dX2_isBeaten_64 (by decide) ?_
            exact kx_top (v := (b2 ((!(decide ((nI k) = (nI j)))) && (decide ((g (200 + k) 7) = (0 : Int32)))))) (by first | (simp only [bq, decide_eq_true c_49, if_pos c_49]; done) | (simp only [bq, decide_eq_true c_49, if_pos c_49]; rfl) | (simp [bq, decide_eq_true c_49, if_pos c_49]; done)) (hj_65_2 _ _ _ hw hS hl)
          · refine lv_aload hx hb dX2_isBeaten_52 (lv_at hl 0 rfl) ?_
            refine kx_getC (v := .int (g (200 + k) 7)) hx hb hts hown hG hw i0 k (by first | assumption | omega) 7 (by decide) f_283 rfl dX2_isBeaten_54 ?_
            refine lv_if_ne (tgt := 64) hx hb dX2_isBeaten_57 (by decide) (fun c_57 => ?_) (fun c_57 => ?_)
            · refine lv_iconst (v := 0) hx hb dX2_isBeaten_64 (by decide) ?_
              exact kx_top (v := (b2 ((!(decide ((nI k) = (nI j)))) && (decide ((g (200 + k) 7) = (0 : Int32)))))) (by first | (simp only [bq, decide_eq_false c_49, if_neg c_49, decide_eq_false c_57, if_neg c_57]; done) | (simp only [bq, decide_eq_false c_49, if_neg c_49, decide_eq_false c_57, if_neg c_57]; rfl) | (simp [bq, decide_eq_false c_49, if_neg c_49, decide_eq_false c_57, if_neg c_57]; done)) (hj_65_2 _ _ _ hw hS hl)
            · refine lv_iconst (v := 1) hx hb dX2_isBeaten_60 (by decide) ?_
              refine lv_goto (tgt := 65) hx hb dX2_isBeaten_61 (by decide) ?_
              exact kx_top (v := (b2 ((!(decide ((nI k) = (nI j)))) && (decide ((g (200 + k) 7) = (0 : Int32)))))) (by first | (simp only [bq, decide_eq_false c_49, if_neg c_49, decide_eq_true c_57, if_pos c_57]; done) | (simp only [bq, decide_eq_false c_49, if_neg c_49, decide_eq_true c_57, if_pos c_57]; rfl) | (simp [bq, decide_eq_false c_49, if_neg c_49, decide_eq_true c_57, if_pos c_57]; done)) (hj_65_2 _ _ _ hw hS hl)
        · refine kx_aaldC (v := .null) hx hb hG hw k (nI_clamp (by omega)) (vp_in_nI (by omega) (by decide)) (by rw [hcr k hq2, if_neg (Nat.not_lt.mpr ha1)]; rfl) dX2_isBeaten_32 ?_
          refine lv_astoreN (lv' := [(7, .null), (6, .int (nI k)), (5, .int (20 : Int32)), (4, .ref (ad 7)), (3, .int (cSc g i j)), (0, .ref (ad 0)), (1, .ref (ad (100 + 3 * i))), (2, .ref (ad (200 + j)))]) hx hb dX2_isBeaten_33 hl (by decide) rfl (fun ls hl => ?_)
          refine lv_aloadN hx hb dX2_isBeaten_35 (lv_at hl 0 rfl) ?_
          refine lv_ifnullN (tgt := 64) hx hb dX2_isBeaten_37 (by decide) ?_
          refine lv_iconst (v := 0) hx hb dX2_isBeaten_64 (by decide) ?_
          refine lv_istore (lv' := [(8, .int (0 : Int32)), (7, .null), (6, .int (nI k)), (5, .int (20 : Int32)), (4, .ref (ad 7)), (3, .int (cSc g i j)), (0, .ref (ad 0)), (1, .ref (ad (100 + 3 * i))), (2, .ref (ad (200 + j)))]) hx hb dX2_isBeaten_65 hl (by decide) rfl (fun ls hl => ?_)
          refine lv_iload hx hb dX2_isBeaten_67 (lv_at hl 0 rfl) ?_
          refine lv_if_eq (tgt := 116) hx hb dX2_isBeaten_69 (by decide) (fun _ => ?_) (fun c => absurd rfl c)
          refine lv_iinc (v := (nI k + (1 : Int32))) (lv' := [(6, .int (nI k + (1 : Int32))), (8, .int (0 : Int32)), (7, .null), (5, .int (20 : Int32)), (4, .ref (ad 7)), (3, .int (cSc g i j)), (0, .ref (ad 0)), (1, .ref (ad (100 + 3 * i))), (2, .ref (ad (200 + j)))]) hx hb dX2_isBeaten_116 hl (k := 2) rfl rfl (by decide) rfl (fun ls hl => ?_)
          refine lv_goto (tgt := 21) hx hb dX2_isBeaten_119 (by decide) ?_
          exact ih_21 (k + 1) (by omega) (by omega) _ _ _ hw hS (kx_lv (l := [(6, .int (nI k + (1 : Int32))), (5, .int (20 : Int32)), (4, .ref (ad 7)), (3, .int (cSc g i j)), (0, .ref (ad 0)), (1, .ref (ad (100 + 3 * i))), (2, .ref (ad (200 + j)))]) (l' := [(6, .int (nI (k + 1))), (5, .int (20 : Int32)), (4, .ref (ad 7)), (3, .int (cSc g i j)), (0, .ref (ad 0)), (1, .ref (ad (100 + 3 * i))), (2, .ref (ad (200 + j)))]) (lv_sub hl [0, 3, 4, 5, 6, 7, 8] rfl) (by rw [nI_1])) (fun t h1 h2 => by rcases lt_su h1 with q | q; exact hnf t q h2; subst q; first | omega | (simp only [cBt, btn_c, decide_eq_false c_25, if_neg c_25]; done) | (simp only [cBt, btn_c, decide_eq_false c_25, if_neg c_25]; rfl) | (simp [cBt, btn_c, decide_eq_false c_25, if_neg c_25]; done))
  exact lp_21 (20 + 1) 0 (by omega) (by omega) _ _ _ hw hS (kx_lv (l := [(6, .int (0 : Int32)), (5, .int (20 : Int32)), (4, .ref (ad 7)), (3, .int (cSc g i j)), (0, .ref (ad 0)), (1, .ref (ad (100 + 3 * i))), (2, .ref (ad (200 + j)))]) (l' := [(6, .int (nI 0)), (5, .int (20 : Int32)), (4, .ref (ad 7)), (3, .int (cSc g i j)), (0, .ref (ad 0)), (1, .ref (ad (100 + 3 * i))), (2, .ref (ad (200 + j)))]) (lv_sub hl [0, 1, 2, 3, 4, 5, 6] rfl) (rfl)) (fun t h1 h2 => absurd h1 (by omega))
theorem hd_X2_requireEntitled : yX2_requireEntitled.cls = RX2 ∧ yX2_requireEntitled.cls ≠ "java/lang/invoke/MethodHandle" ∧ yX2_requireEntitled.cls ≠ "java/lang/invoke/VarHandle" ∧ (parseMethodDescriptor yX2_requireEntitled.desc).map (fun d => d.parameters.length) = some 2 := by decide +kernel
set_option maxHeartbeats 4000000 in
set_option maxRecDepth 100000 in
theorem c_X2_requireEntitled (l : Launch) (hfl : l.stackTraces = false) (D : va_G) (cy : Nat → ClassId) (base : Nat → Prop) (ad : Nat → Nat) (n nc : Nat) (g : sg) (i : Nat) (j : Nat) (hcr : ∀ j, j < 20 → g 7 j = if j < nc then 1 else 0) (hi : i < n) (hj : j < nc) (hR : cR n nc g) : kM l yX2_requireEntitled wsX2_requireEntitled (kR 6 1 6) D cy base ad n nc g [.ref (ad 0), .ref (ad (100 + 3 * i)), .ref (ad (200 + j))] (kD (cServe g nc i j = true) none ad n nc g) (kEx (rq (cServe g nc i j) 3)) 1 6 := by
  refine kx_meth (cc := cX2_requireEntitled) (maxL := 3) (ret := none) (by decide) rfl (Nat.le_of_ble_eq_true rfl) ?_
  intro p e s m args below meth c ls hx hb hr hml hown hts hlk hT hG hw0 hS0 hl Q H locs hQ hw hS hH0 hlocs0
  have hl : lv_has ls 3 [(0, .ref (ad 0)), (1, .ref (ad (100 + 3 * i))), (2, .ref (ad (200 + j)))] := hl
  have hown : s.vm.findClass RX2 = some m.cls := hown
  have hF : CallFix p m c cX2_requireEntitled 3 s args wsX2_requireEntitled RX2 := ⟨hx, hb, hml, hown, hts⟩
  have hn30 : n ≤ 30 := hw.2.2.1
  have hc20 : nc ≤ 20 := hw.2.2.2
  clear hw0 hS0 hH0 hlocs0
  have xk_IS := hts (.classLink RX2 90 "java/lang/IllegalStateException") (by decide +kernel)
  have xi_IS := hts (.initialized "java/lang/IllegalStateException") (by decide +kernel)
  have xa_IS : ∀ w ∈ (vx_atS RX2 94 "java/lang/IllegalStateException" kNm).filter goodWord, w.before args s = true := fun w h => hts w ((by decide +kernel : ∀ w ∈ (vx_atS RX2 94 "java/lang/IllegalStateException" kNm).filter goodWord, w ∈ wsX2_requireEntitled) w h)
  refine lv_aload_n hx hb dX2_requireEntitled_0 rfl (lv_at hl 0 rfl) ?_
  refine lv_aload_n hx hb dX2_requireEntitled_1 rfl (lv_at hl 1 rfl) ?_
  refine lv_aload_n hx hb dX2_requireEntitled_2 rfl (lv_at hl 2 rfl) ?_
  refine kx_do0 (st1 := [.int (b2 (cCnd g i j))]) (kx_cv (As := [.ref (ad (100 + 3 * i)), .ref (ad (200 + j))]) (rest := []) hF hG hw hS hl.1 kC_0 rfl (c_X2_isCandidate l hfl D cy base ad n nc g i j (by first | assumption | omega | exact mR_9 (by assumption) _ _ | simp [sU, hcr, hi, hj, hR]) (by first | assumption | omega | exact mR_9 (by assumption) _ _ | simp [sU, hcr, hi, hj, hR]) (by first | assumption | omega | exact mR_9 (by assumption) _ _ | simp [sU, hcr, hi, hj, hR])) gX2_requireEntitled_X2_isCandidate rfl rfl rfl hd_X2_isCandidate ⟨Nat.le_of_ble_eq_true rfl, Nat.le_of_ble_eq_true rfl⟩ rfl rfl (Nat.le_of_ble_eq_true rfl) dX2_requireEntitled_3 ⟨Nat.le_of_ble_eq_true rfl, Nat.le_of_ble_eq_true rfl⟩) hS rfl (fun H locs hw hS => ?_)
  refine kb_ne (tgt := 20) hx hb dX2_requireEntitled_6 (by decide) (fun c_6 => ?_) (fun c_6 => ?_)
  · refine lv_aload_n hx hb dX2_requireEntitled_20 rfl (lv_at hl 2 rfl) ?_
    refine lv_aload_n hx hb dX2_requireEntitled_21 rfl (lv_at hl 1 rfl) ?_
    refine kx_do0 (st1 := [.int (b2 (cPrv g i j))]) (kx_cv (As := [.ref (ad (100 + 3 * i))]) (rest := []) hF hG hw hS hl.1 (kC_C (by first | assumption | omega)) rfl (c_X0_proves l hfl D cy base ad n nc g j i (by first | assumption | omega | exact mR_9 (by assumption) _ _ | simp [sU, hcr, hi, hj, hR]) (by first | assumption | omega | exact mR_9 (by assumption) _ _ | simp [sU, hcr, hi, hj, hR]) (by first | assumption | omega | exact mR_9 (by assumption) _ _ | simp [sU, hcr, hi, hj, hR])) gX2_requireEntitled_X0_proves rfl rfl rfl hd_X0_proves ⟨Nat.le_of_ble_eq_true rfl, Nat.le_of_ble_eq_true rfl⟩ rfl rfl (Nat.le_of_ble_eq_true rfl) dX2_requireEntitled_22 ⟨Nat.le_of_ble_eq_true rfl, Nat.le_of_ble_eq_true rfl⟩) hS rfl (fun H locs hw hS => ?_)
    refine kb_ne (tgt := 39) hx hb dX2_requireEntitled_25 (by decide) (fun c_25 => ?_) (fun c_25 => ?_)
    · refine lv_aload_n hx hb dX2_requireEntitled_39 rfl (lv_at hl 0 rfl) ?_
      refine lv_aload_n hx hb dX2_requireEntitled_40 rfl (lv_at hl 1 rfl) ?_
      refine lv_aload_n hx hb dX2_requireEntitled_41 rfl (lv_at hl 2 rfl) ?_
      refine kx_do0 (st1 := [.int (b2 (cBeaten g nc i j))]) (kx_cv (As := [.ref (ad (100 + 3 * i)), .ref (ad (200 + j))]) (rest := []) hF hG hw hS hl.1 kC_0 rfl (c_X2_isBeaten l hfl D cy base ad n nc g i j (by first | assumption | omega | exact mR_9 (by assumption) _ _ | simp [sU, hcr, hi, hj, hR]) (by first | assumption | omega | exact mR_9 (by assumption) _ _ | simp [sU, hcr, hi, hj, hR]) (by first | assumption | omega | exact mR_9 (by assumption) _ _ | simp [sU, hcr, hi, hj, hR]) (by first | assumption | omega | exact mR_9 (by assumption) _ _ | simp [sU, hcr, hi, hj, hR])) gX2_requireEntitled_X2_isBeaten rfl rfl rfl hd_X2_isBeaten ⟨Nat.le_of_ble_eq_true rfl, Nat.le_of_ble_eq_true rfl⟩ rfl rfl (Nat.le_of_ble_eq_true rfl) dX2_requireEntitled_42 ⟨Nat.le_of_ble_eq_true rfl, Nat.le_of_ble_eq_true rfl⟩) hS rfl (fun H locs hw hS => ?_)
      refine kb_eq (tgt := 59) hx hb dX2_requireEntitled_45 (by decide) (fun c_45 => ?_) (fun c_45 => ?_)
      · exact kx_retV hQ hx hb hr hlk hw hS (Nat.le_of_ble_eq_true rfl) (Nat.le_of_ble_eq_true rfl) dX2_requireEntitled_59 (kd_v (by first | (simp only [cServe, c_6, c_25, c_45]; done) | (simp only [cServe, c_6, c_25, c_45]; rfl) | (simp [cServe, c_6, c_25, c_45]; done)) (rfl))
      · exact kx_throwIS (text := "beaten by another claim") (is := 302) hQ hx hb hfl hown hG hw hS true (by decide +kernel) xk_IS xi_IS xa_IS (kEx_3 (by first | (simp only [rq, cServe, c_6, c_25, c_45]; done) | (simp only [rq, cServe, c_6, c_25, c_45]; rfl) | (simp [rq, cServe, c_6, c_25, c_45]; done))) (hl.1.trans hml.symm) hT rfl dX2_requireEntitled_48 dX2_requireEntitled_51 dX2_requireEntitled_52 dX2_requireEntitled_55 dX2_requireEntitled_58 ⟨by decide, Nat.le_of_ble_eq_true rfl, Nat.le_of_ble_eq_true rfl, Nat.le_of_ble_eq_true rfl⟩ hlk (Nat.le_of_ble_eq_true rfl) (Nat.le_of_ble_eq_true rfl)
    · exact kx_throwIS (text := "not proven") (is := 297) hQ hx hb hfl hown hG hw hS true (by decide +kernel) xk_IS xi_IS xa_IS (kEx_3 (by first | (simp only [rq, cServe, c_6, c_25]; done) | (simp only [rq, cServe, c_6, c_25]; rfl) | (simp [rq, cServe, c_6, c_25]; done))) (hl.1.trans hml.symm) hT rfl dX2_requireEntitled_28 dX2_requireEntitled_31 dX2_requireEntitled_32 dX2_requireEntitled_35 dX2_requireEntitled_38 ⟨by decide, Nat.le_of_ble_eq_true rfl, Nat.le_of_ble_eq_true rfl, Nat.le_of_ble_eq_true rfl⟩ hlk (Nat.le_of_ble_eq_true rfl) (Nat.le_of_ble_eq_true rfl)
  · exact kx_throwIS (text := "no candidate") (is := 295) hQ hx hb hfl hown hG hw hS true (by decide +kernel) xk_IS xi_IS xa_IS (kEx_3 (by first | (simp only [rq, cServe, c_6]; done) | (simp only [rq, cServe, c_6]; rfl) | (simp [rq, cServe, c_6]; done))) (hl.1.trans hml.symm) hT rfl dX2_requireEntitled_9 dX2_requireEntitled_12 dX2_requireEntitled_13 dX2_requireEntitled_16 dX2_requireEntitled_19 ⟨by decide, Nat.le_of_ble_eq_true rfl, Nat.le_of_ble_eq_true rfl, Nat.le_of_ble_eq_true rfl⟩ hlk (Nat.le_of_ble_eq_true rfl) (Nat.le_of_ble_eq_true rfl)
theorem hd_X2_noteScores : yX2_noteScores.cls = RX2 ∧ yX2_noteScores.cls ≠ "java/lang/invoke/MethodHandle" ∧ yX2_noteScores.cls ≠ "java/lang/invoke/VarHandle" ∧ (parseMethodDescriptor yX2_noteScores.desc).map (fun d => d.parameters.length) = some 1 := by decide +kernel
set_option maxHeartbeats 4000000 in
set_option maxRecDepth 100000 in
theorem c_X2_noteScores (l : Launch) (hfl : l.stackTraces = false) (D : va_G) (cy : Nat → ClassId) (base : Nat → Prop) (ad : Nat → Nat) (n nc : Nat) (g : sg) (j : Nat) (hfr : ∀ j, j < 30 → g 6 j = if j < n then 1 else 0) (hj : j < nc) (hR : cR n nc g) : kM l yX2_noteScores wsX2_noteScores (kR 4 0 0) D cy base ad n nc g [.ref (ad 0), .ref (ad (200 + j))] (kD True (some (.int (cntB (askN g n j) 30))) ad n nc (cNS g n j 30)) kNo 0 0 := by
  refine kx_meth (cc := cX2_noteScores) (maxL := 6) (ret := (some .int)) (by decide) rfl (Nat.le_of_ble_eq_true rfl) ?_
  intro p e s m args below meth c ls hx hb hr hml hown hts hlk hT hG hw0 hS0 hl Q H locs hQ hw hS hH0 hlocs0
  have hl : lv_has ls 6 [(0, .ref (ad 0)), (1, .ref (ad (200 + j)))] := hl
  have hown : s.vm.findClass RX2 = some m.cls := hown
  have hF : CallFix p m c cX2_noteScores 6 s args wsX2_noteScores RX2 := ⟨hx, hb, hml, hown, hts⟩
  have hn30 : n ≤ 30 := hw.2.2.1
  have hc20 : nc ≤ 20 := hw.2.2.2
  clear hw0 hS0 hH0 hlocs0
  have i2 : ∀ w ∈ wsX20, w ∈ wsX2_noteScores := by decide +kernel
  have f_27 := hts (.fieldLink RX2 27 "Lostroom" "finds" "[LLostroom$Found;") (by decide +kernel)
  have f_37 := hts (.fieldLink RX2 37 "Lostroom" "scores" "[I") (by decide +kernel)
  refine lv_iconst (v := 0) hx hb dX2_noteScores_0 (by decide) ?_
  refine lv_istore_n (lv' := [(2, .int (0 : Int32)), (0, .ref (ad 0)), (1, .ref (ad (200 + j)))]) hx hb dX2_noteScores_1 rfl hl (by decide) rfl (fun ls hl => ?_)
  refine lv_iconst (v := 0) hx hb dX2_noteScores_2 (by decide) ?_
  refine lv_istore_n (lv' := [(3, .int (0 : Int32)), (2, .int (0 : Int32)), (0, .ref (ad 0)), (1, .ref (ad (200 + j)))]) hx hb dX2_noteScores_3 rfl hl (by decide) rfl (fun ls hl => ?_)
  have lp_4 : ∀ (nn k : Nat), k ≤ 30 → 30 < k + nn → ∀ (H : Heap) (locs : List Loc) (ls : Array Slot), kW D cy base ad n nc (cNS g n j k) H → va_S (kA base) s.heap H locs → lv_has ls 6 [(3, .int (nI k)), (2, .int (cntB (askN g n j) k)), (0, .ref (ad 0)), (1, .ref (ad (200 + j)))] → W p l e (kR 4 0 0) s m args below meth c H locs 0 0 Q (F0 m 4 ls []) := by
    intro nn
    induction nn with
    | zero => intro k h1 h2; exact absurd h2 (by omega)
    | succ nn ih_4 =>
      intro k hk_k hkn_k H locs ls hw hS hl
      refine lv_iload_n hx hb dX2_noteScores_4 rfl (lv_at hl 0 rfl) ?_
      refine lv_aload_n hx hb dX2_noteScores_5 rfl (lv_at hl 2 rfl) ?_
      refine kx_getL (v := .ref (ad 8)) hx hb hts hown hG hw i2 7 (by decide) f_37 rfl dX2_noteScores_6 ?_
      refine kx_alen (v := 30) hx hb hG hw (kC_I rfl) 0 rfl rfl dX2_noteScores_9 ?_
      refine lv_icmp_ge (tgt := 96) hx hb dX2_noteScores_10 (by decide) (fun c_10 => ?_) (fun c_10 => ?_)
      · have e_k : k = 30 := Nat.le_antisymm hk_k (le_nI (a := 30) (b := k) c_10 (by omega) (by omega))
        refine lv_iload_n hx hb dX2_noteScores_96 rfl (lv_at hl 1 rfl) ?_
        exact kx_retI hQ hx hb hr hlk hw hS (Nat.le_of_ble_eq_true rfl) (Nat.le_of_ble_eq_true rfl) dX2_noteScores_97 (kd_i (trivial) (by rw [e_k]) (by rw [e_k]))
      · have hlt_k : k < 30 := lt_nI (a := 30) (b := k) c_10 (by omega) (by omega)
        refine lv_iload_n hx hb dX2_noteScores_13 rfl (lv_at hl 0 rfl) ?_
        refine lv_aload_n hx hb dX2_noteScores_14 rfl (lv_at hl 2 rfl) ?_
        refine kx_getL (v := .ref (ad 6)) hx hb hts hown hG hw i2 5 (by decide) f_27 rfl dX2_noteScores_15 ?_
        refine kx_alen (v := 30) hx hb hG hw kC_6 1 rfl rfl dX2_noteScores_18 ?_
        refine lv_icmp_ge (tgt := 96) hx hb dX2_noteScores_19 (by decide) (fun c_19 => ?_) (fun c_19 => ?_)
        · have e_k : k = 30 := Nat.le_antisymm hk_k (le_nI (a := 30) (b := k) c_19 (by omega) (by omega))
          refine lv_iload_n hx hb dX2_noteScores_96 rfl (lv_at hl 1 rfl) ?_
          exact kx_retI hQ hx hb hr hlk hw hS (Nat.le_of_ble_eq_true rfl) (Nat.le_of_ble_eq_true rfl) dX2_noteScores_97 (kd_i (trivial) (by rw [e_k]) (by rw [e_k]))
        · have hlt_k : k < 30 := lt_nI (a := 30) (b := k) c_19 (by omega) (by omega)
          refine lv_aload_n hx hb dX2_noteScores_22 rfl (lv_at hl 2 rfl) ?_
          refine kx_getL (v := .ref (ad 6)) hx hb hts hown hG hw i2 5 (by decide) f_27 rfl dX2_noteScores_23 ?_
          refine lv_iload_n hx hb dX2_noteScores_26 rfl (lv_at hl 0 rfl) ?_
          have hq2 : k < 30 := by omega
          rcases Nat.lt_or_ge k n with ha1 | ha1
          · refine kx_aaldF (v := .ref (ad (100 + 3 * k))) hx hb hG hw k (nI_clamp (by omega)) (vp_in_nI (by omega) (by decide)) (by rw [show (cNS g n j k) 6 k = g 6 k from (by rw [cNS_row _ _ _ _ (by decide)]), hfr k hq2, if_pos ha1]; rfl) dX2_noteScores_27 ?_
            refine lv_astore (lv' := [(4, .ref (ad (100 + 3 * k))), (3, .int (nI k)), (2, .int (cntB (askN g n j) k)), (0, .ref (ad 0)), (1, .ref (ad (200 + j)))]) hx hb dX2_noteScores_28 hl (by decide) rfl (fun ls hl => ?_)
            refine lv_aload hx hb dX2_noteScores_30 (lv_at hl 0 rfl) ?_
            refine lv_ifnull hx hb dX2_noteScores_32 ?_
            refine lv_aload hx hb dX2_noteScores_35 (lv_at hl 0 rfl) ?_
            refine kx_do0 (st1 := [.int (b2 (cHere (cNS g n j k) k))]) (kx_cv (As := []) (rest := []) hF hG hw hS hl.1 (kC_F (by first | assumption | omega) hw.2.2.1) rfl (c_X1_isHere l hfl D cy base ad n nc (cNS g n j k) k (by assumption)) gX2_noteScores_X1_isHere rfl rfl rfl hd_X1_isHere ⟨Nat.le_of_ble_eq_true rfl, Nat.le_of_ble_eq_true rfl⟩ rfl rfl (Nat.le_of_ble_eq_true rfl) dX2_noteScores_37 ⟨Nat.le_of_ble_eq_true rfl, Nat.le_of_ble_eq_true rfl⟩) hS rfl (fun H locs hw hS => ?_)
            have hj_58_2 : ∀ (H : Heap) (locs : List Loc) (ls : Array Slot), kW D cy base ad n nc (cNS g n j k) H → va_S (kA base) s.heap H locs → lv_has ls 6 [(4, .ref (ad (100 + 3 * k))), (3, .int (nI k)), (2, .int (cntB (askN g n j) k)), (0, .ref (ad 0)), (1, .ref (ad (200 + j)))] → W p l e (kR 4 0 0) s m args below meth c H locs 0 0 Q (F0 m 58 ls [.int (b2 ((cHere (cNS g n j k) k) && (cCnd (cNS g n j k) k j)))]) := by
              intro H locs ls hw hS hl
              refine lv_istore (lv' := [(5, .int (b2 ((cHere (cNS g n j k) k) && (cCnd (cNS g n j k) k j)))), (4, .ref (ad (100 + 3 * k))), (3, .int (nI k)), (2, .int (cntB (askN g n j) k)), (0, .ref (ad 0)), (1, .ref (ad (200 + j)))]) hx hb dX2_noteScores_58 hl (by decide) rfl (fun ls hl => ?_)
              refine lv_aload_n hx hb dX2_noteScores_60 rfl (lv_at hl 4 rfl) ?_
              refine kx_getL (v := .ref (ad 8)) hx hb hts hown hG hw i2 7 (by decide) f_37 rfl dX2_noteScores_61 ?_
              refine lv_iload_n hx hb dX2_noteScores_64 rfl (lv_at hl 2 rfl) ?_
              refine lv_iload hx hb dX2_noteScores_65 (lv_at hl 0 rfl) ?_
              have hj_81_3 : ∀ (H : Heap) (locs : List Loc) (ls : Array Slot), kW D cy base ad n nc (cNS g n j k) H → va_S (kA base) s.heap H locs → lv_has ls 6 [(5, .int (b2 ((cHere (cNS g n j k) k) && (cCnd (cNS g n j k) k j)))), (4, .ref (ad (100 + 3 * k))), (3, .int (nI k)), (2, .int (cntB (askN g n j) k)), (0, .ref (ad 0)), (1, .ref (ad (200 + j)))] → W p l e (kR 4 0 0) s m args below meth c H locs 0 0 Q (F0 m 81 ls [.int (if ((cHere (cNS g n j k) k) && (cCnd (cNS g n j k) k j)) = true then (cSc (cNS g n j k) k j) else (-1 : Int32)), .int (nI k), .ref (ad 8)]) := by
                intro H locs ls hw hS hl
                refine kx_iast hx hb hG hw hS (fun _ => (kC_I rfl)) k (nI_clamp (by omega)) (vp_in_nI (by omega) (by decide)) dX2_noteScores_81 (fun H locs hw hS => ?_)
                refine lv_iload hx hb dX2_noteScores_82 (lv_at hl 0 rfl) ?_
                refine kb_eq (tgt := 90) hx hb dX2_noteScores_84 (by decide) (fun c_84 => ?_) (fun c_84 => ?_)
                · refine lv_iinc (v := (nI k + (1 : Int32))) (lv' := [(3, .int (nI k + (1 : Int32))), (5, .int (b2 ((cHere (cNS g n j k) k) && (cCnd (cNS g n j k) k j)))), (4, .ref (ad (100 + 3 * k))), (2, .int (cntB (askN g n j) k)), (0, .ref (ad 0)), (1, .ref (ad (200 + j)))]) hx hb dX2_noteScores_90 hl (k := 2) rfl rfl (by decide) rfl (fun ls hl => ?_)
                  refine lv_goto (tgt := 4) hx hb dX2_noteScores_93 (by decide) ?_
                  exact ih_4 (k + 1) (by omega) (by omega) _ _ _ (show kW D cy base ad n nc (cNS g n j (k + 1)) H from (show (sU (cNS g n j k) 8 k (if ((cHere (cNS g n j k) k) && (cCnd (cNS g n j k) k j)) = true then (cSc (cNS g n j k) k j) else (-1 : Int32))) = (cNS g n j (k + 1)) from (by first | exact cNS_s (cNS_y (by assumption)) | exact cNS_s (cNS_n (by assumption)))) ▸ hw) hS (kx_lv (l := [(3, .int (nI k + (1 : Int32))), (2, .int (cntB (askN g n j) k)), (0, .ref (ad 0)), (1, .ref (ad (200 + j)))]) (l' := [(3, .int (nI (k + 1))), (2, .int (cntB (askN g n j) (k + 1))), (0, .ref (ad 0)), (1, .ref (ad (200 + j)))]) (lv_sub hl [0, 3, 4, 5] rfl) (by first | rw [askN_t (by assumption) (by assumption), nI_1] | rw [askN_f (by assumption), nI_1] | rw [askN_n (by assumption), nI_1])) 
                · refine lv_iinc (v := (cntB (askN g n j) k + (1 : Int32))) (lv' := [(2, .int (cntB (askN g n j) k + (1 : Int32))), (5, .int (b2 ((cHere (cNS g n j k) k) && (cCnd (cNS g n j k) k j)))), (4, .ref (ad (100 + 3 * k))), (3, .int (nI k)), (0, .ref (ad 0)), (1, .ref (ad (200 + j)))]) hx hb dX2_noteScores_87 hl (k := 3) rfl rfl (by decide) rfl (fun ls hl => ?_)
                  refine lv_iinc (v := (nI k + (1 : Int32))) (lv' := [(3, .int (nI k + (1 : Int32))), (2, .int (cntB (askN g n j) k + (1 : Int32))), (5, .int (b2 ((cHere (cNS g n j k) k) && (cCnd (cNS g n j k) k j)))), (4, .ref (ad (100 + 3 * k))), (0, .ref (ad 0)), (1, .ref (ad (200 + j)))]) hx hb dX2_noteScores_90 hl (k := 3) rfl rfl (by decide) rfl (fun ls hl => ?_)
                  refine lv_goto (tgt := 4) hx hb dX2_noteScores_93 (by decide) ?_
                  exact ih_4 (k + 1) (by omega) (by omega) _ _ _ (show kW D cy base ad n nc (cNS g n j (k + 1)) H from (show (sU (cNS g n j k) 8 k (if ((cHere (cNS g n j k) k) && (cCnd (cNS g n j k) k j)) = true then (cSc (cNS g n j k) k j) else (-1 : Int32))) = (cNS g n j (k + 1)) from (by first | exact cNS_s (cNS_y (by assumption)) | exact cNS_s (cNS_n (by assumption)))) ▸ hw) hS (kx_lv (l := [(3, .int (nI k + (1 : Int32))), (2, .int (cntB (askN g n j) k + (1 : Int32))), (0, .ref (ad 0)), (1, .ref (ad (200 + j)))]) (l' := [(3, .int (nI (k + 1))), (2, .int (cntB (askN g n j) (k + 1))), (0, .ref (ad 0)), (1, .ref (ad (200 + j)))]) (lv_sub hl [0, 1, 4, 5] rfl) (by first | rw [askN_t (by assumption) (by assumption), nI_1] | rw [askN_f (by assumption), nI_1] | rw [askN_n (by assumption), nI_1])) 
              refine kb_eq (tgt := 80) hx hb dX2_noteScores_67 (by decide) (fun c_67 => ?_) (fun c_67 => ?_)
              · refine lv_iconst (v := -1) hx hb dX2_noteScores_80 (by decide) ?_
                exact kx_top (v := (if ((cHere (cNS g n j k) k) && (cCnd (cNS g n j k) k j)) = true then (cSc (cNS g n j k) k j) else (-1 : Int32))) (by first | (simp only [bq, c_67]; done) | (simp only [bq, c_67]; rfl) | (simp [bq, c_67]; done)) (hj_81_3 _ _ _ hw hS hl)
              · refine lv_aload_n hx hb dX2_noteScores_70 rfl (lv_at hl 4 rfl) ?_
                refine lv_aload hx hb dX2_noteScores_71 (lv_at hl 1 rfl) ?_
                refine lv_aload_n hx hb dX2_noteScores_73 rfl (lv_at hl 5 rfl) ?_
                refine kx_do0 (st1 := [.int (cSc (cNS g n j k) k j), .int (nI k), .ref (ad 8)]) (kx_cv (As := [.ref (ad (100 + 3 * k)), .ref (ad (200 + j))]) (rest := [.int (nI k), .ref (ad 8)]) hF hG hw hS hl.1 kC_0 rfl (c_X2_scoreOf l hfl D cy base ad n nc (cNS g n j k) k j (by assumption) hj (cNS_R hR j k)) gX2_noteScores_X2_scoreOf rfl rfl rfl hd_X2_scoreOf ⟨Nat.le_of_ble_eq_true rfl, Nat.le_of_ble_eq_true rfl⟩ rfl rfl (Nat.le_of_ble_eq_true rfl) dX2_noteScores_74 ⟨Nat.le_of_ble_eq_true rfl, Nat.le_of_ble_eq_true rfl⟩) hS rfl (fun H locs hw hS => ?_)
                refine lv_goto (tgt := 81) hx hb dX2_noteScores_77 (by decide) ?_
                exact kx_top (v := (if ((cHere (cNS g n j k) k) && (cCnd (cNS g n j k) k j)) = true then (cSc (cNS g n j k) k j) else (-1 : Int32))) (by first | (simp only [bq, c_67]; done) | (simp only [bq, c_67]; rfl) | (simp [bq, c_67]; done)) (hj_81_3 _ _ _ hw hS hl)
            refine kb_eq (tgt := 57) hx hb dX2_noteScores_40 (by decide) (fun c_40 => ?_) (fun c_40 => ?_)
            · refine lv_iconst (v := 0) hx hb dX2_noteScores_57 (by decide) ?_
              exact kx_top (v := (b2 ((cHere (cNS g n j k) k) && (cCnd (cNS g n j k) k j)))) (by first | (simp only [bq, c_40]; done) | (simp only [bq, c_40]; rfl) | (simp [bq, c_40]; done)) (hj_58_2 _ _ _ hw hS hl)
            · refine lv_aload_n hx hb dX2_noteScores_43 rfl (lv_at hl 3 rfl) ?_
              refine lv_aload hx hb dX2_noteScores_44 (lv_at hl 0 rfl) ?_
              refine lv_aload_n hx hb dX2_noteScores_46 rfl (lv_at hl 4 rfl) ?_
              refine kx_do0 (st1 := [.int (b2 (cCnd (cNS g n j k) k j))]) (kx_cv (As := [.ref (ad (100 + 3 * k)), .ref (ad (200 + j))]) (rest := []) hF hG hw hS hl.1 kC_0 rfl (c_X2_isCandidate l hfl D cy base ad n nc (cNS g n j k) k j (by assumption) hj (cNS_R hR j k)) gX2_noteScores_X2_isCandidate rfl rfl rfl hd_X2_isCandidate ⟨Nat.le_of_ble_eq_true rfl, Nat.le_of_ble_eq_true rfl⟩ rfl rfl (Nat.le_of_ble_eq_true rfl) dX2_noteScores_47 ⟨Nat.le_of_ble_eq_true rfl, Nat.le_of_ble_eq_true rfl⟩) hS rfl (fun H locs hw hS => ?_)
              refine kb_eq (tgt := 57) hx hb dX2_noteScores_50 (by decide) (fun c_50 => ?_) (fun c_50 => ?_)
              · refine lv_iconst (v := 0) hx hb dX2_noteScores_57 (by decide) ?_
                exact kx_top (v := (b2 ((cHere (cNS g n j k) k) && (cCnd (cNS g n j k) k j)))) (by first | (simp only [bq, c_40, c_50]; done) | (simp only [bq, c_40, c_50]; rfl) | (simp [bq, c_40, c_50]; done)) (hj_58_2 _ _ _ hw hS hl)
              · refine lv_iconst (v := 1) hx hb dX2_noteScores_53 (by decide) ?_
                refine lv_goto (tgt := 58) hx hb dX2_noteScores_54 (by decide) ?_
                exact kx_top (v := (b2 ((cHere (cNS g n j k) k) && (cCnd (cNS g n j k) k j)))) (by first | (simp only [bq, c_40, c_50]; done) | (simp only [bq, c_40, c_50]; rfl) | (simp [bq, c_40, c_50]; done)) (hj_58_2 _ _ _ hw hS hl)
          · refine kx_aaldF (v := .null) hx hb hG hw k (nI_clamp (by omega)) (vp_in_nI (by omega) (by decide)) (by rw [show (cNS g n j k) 6 k = g 6 k from (by rw [cNS_row _ _ _ _ (by decide)]), hfr k hq2, if_neg (Nat.not_lt.mpr ha1)]; rfl) dX2_noteScores_27 ?_
            refine lv_astoreN (lv' := [(4, .null), (3, .int (nI k)), (2, .int (cntB (askN g n j) k)), (0, .ref (ad 0)), (1, .ref (ad (200 + j)))]) hx hb dX2_noteScores_28 hl (by decide) rfl (fun ls hl => ?_)
            refine lv_aloadN hx hb dX2_noteScores_30 (lv_at hl 0 rfl) ?_
            refine lv_ifnullN (tgt := 57) hx hb dX2_noteScores_32 (by decide) ?_
            refine lv_iconst (v := 0) hx hb dX2_noteScores_57 (by decide) ?_
            refine lv_istore (lv' := [(5, .int (0 : Int32)), (4, .null), (3, .int (nI k)), (2, .int (cntB (askN g n j) k)), (0, .ref (ad 0)), (1, .ref (ad (200 + j)))]) hx hb dX2_noteScores_58 hl (by decide) rfl (fun ls hl => ?_)
            refine lv_aload_n hx hb dX2_noteScores_60 rfl (lv_at hl 4 rfl) ?_
            refine kx_getL (v := .ref (ad 8)) hx hb hts hown hG hw i2 7 (by decide) f_37 rfl dX2_noteScores_61 ?_
            refine lv_iload_n hx hb dX2_noteScores_64 rfl (lv_at hl 2 rfl) ?_
            refine lv_iload hx hb dX2_noteScores_65 (lv_at hl 0 rfl) ?_
            refine lv_if_eq (tgt := 80) hx hb dX2_noteScores_67 (by decide) (fun _ => ?_) (fun c => absurd rfl c)
            refine lv_iconst (v := -1) hx hb dX2_noteScores_80 (by decide) ?_
            refine kx_iast hx hb hG hw hS (fun _ => (kC_I rfl)) k (nI_clamp (by omega)) (vp_in_nI (by omega) (by decide)) dX2_noteScores_81 (fun H locs hw hS => ?_)
            refine lv_iload hx hb dX2_noteScores_82 (lv_at hl 0 rfl) ?_
            refine lv_if_eq (tgt := 90) hx hb dX2_noteScores_84 (by decide) (fun _ => ?_) (fun c => absurd rfl c)
            refine lv_iinc (v := (nI k + (1 : Int32))) (lv' := [(3, .int (nI k + (1 : Int32))), (5, .int (0 : Int32)), (4, .null), (2, .int (cntB (askN g n j) k)), (0, .ref (ad 0)), (1, .ref (ad (200 + j)))]) hx hb dX2_noteScores_90 hl (k := 2) rfl rfl (by decide) rfl (fun ls hl => ?_)
            refine lv_goto (tgt := 4) hx hb dX2_noteScores_93 (by decide) ?_
            exact ih_4 (k + 1) (by omega) (by omega) _ _ _ (show kW D cy base ad n nc (cNS g n j (k + 1)) H from (show (sU (cNS g n j k) 8 k (-1 : Int32)) = (cNS g n j (k + 1)) from (by first | exact cNS_s (cNS_y (by assumption)) | exact cNS_s (cNS_n (by assumption)))) ▸ hw) hS (kx_lv (l := [(3, .int (nI k + (1 : Int32))), (2, .int (cntB (askN g n j) k)), (0, .ref (ad 0)), (1, .ref (ad (200 + j)))]) (l' := [(3, .int (nI (k + 1))), (2, .int (cntB (askN g n j) (k + 1))), (0, .ref (ad 0)), (1, .ref (ad (200 + j)))]) (lv_sub hl [0, 3, 4, 5] rfl) (by first | rw [askN_t (by assumption) (by assumption), nI_1] | rw [askN_f (by assumption), nI_1] | rw [askN_n (by assumption), nI_1])) 
  exact lp_4 (30 + 1) 0 (by omega) (by omega) _ _ _ (by rw [cNS_0]; exact hw) hS (kx_lv (l := [(3, .int (0 : Int32)), (2, .int (0 : Int32)), (0, .ref (ad 0)), (1, .ref (ad (200 + j)))]) (l' := [(3, .int (nI 0)), (2, .int (cntB (askN g n j) 0)), (0, .ref (ad 0)), (1, .ref (ad (200 + j)))]) (lv_sub hl [0, 1, 2, 3] rfl) (rfl)) 
theorem hd_X2_countBetter : yX2_countBetter.cls = RX2 ∧ yX2_countBetter.cls ≠ "java/lang/invoke/MethodHandle" ∧ yX2_countBetter.cls ≠ "java/lang/invoke/VarHandle" ∧ (parseMethodDescriptor yX2_countBetter.desc).map (fun d => d.parameters.length) = some 1 := by decide +kernel
set_option maxHeartbeats 4000000 in
set_option maxRecDepth 100000 in
theorem c_X2_countBetter (l : Launch) (hfl : l.stackTraces = false) (D : va_G) (cy : Nat → ClassId) (base : Nat → Prop) (ad : Nat → Nat) (n nc : Nat) (g : sg) (i : Nat) (hi30 : i < 30) : kM l yX2_countBetter wsX2_countBetter (kR 0 0 0) D cy base ad n nc g [.ref (ad 0), .int (nI i)] (kD True (some (.int (cntB (cbB g i) 30))) ad n nc g) kNo 0 0 := by
  refine kx_meth (cc := cX2_countBetter) (maxL := 5) (ret := (some .int)) (by decide) rfl (Nat.le_of_ble_eq_true rfl) ?_
  intro p e s m args below meth c ls hx hb hr hml hown hts hlk hT hG hw0 hS0 hl Q H locs hQ hw hS hH0 hlocs0
  have hl : lv_has ls 5 [(0, .ref (ad 0)), (1, .int (nI i))] := hl
  have hown : s.vm.findClass RX2 = some m.cls := hown
  have hF : CallFix p m c cX2_countBetter 5 s args wsX2_countBetter RX2 := ⟨hx, hb, hml, hown, hts⟩
  have hn30 : n ≤ 30 := hw.2.2.1
  have hc20 : nc ≤ 20 := hw.2.2.2
  clear hw0 hS0 hH0 hlocs0
  have i2 : ∀ w ∈ wsX20, w ∈ wsX2_countBetter := by decide +kernel
  have f_37 := hts (.fieldLink RX2 37 "Lostroom" "scores" "[I") (by decide +kernel)
  refine lv_iload_n hx hb dX2_countBetter_0 rfl (lv_at hl 1 rfl) ?_
  refine lv_if_lt (tgt := 13) hx hb dX2_countBetter_1 (by decide) (fun c_1 => ?_) (fun c_1 => ?_)
  · exact absurd c_1 (nI_pos (by omega))
  · refine lv_iload_n hx hb dX2_countBetter_4 rfl (lv_at hl 1 rfl) ?_
    refine lv_aload_n hx hb dX2_countBetter_5 rfl (lv_at hl 0 rfl) ?_
    refine kx_getL (v := .ref (ad 8)) hx hb hts hown hG hw i2 7 (by decide) f_37 rfl dX2_countBetter_6 ?_
    refine kx_alen (v := 30) hx hb hG hw (kC_I rfl) 0 rfl rfl dX2_countBetter_9 ?_
    refine lv_icmp_lt (tgt := 15) hx hb dX2_countBetter_10 (by decide) (fun c_10 => ?_) (fun c_10 => ?_)
    · refine lv_aload_n hx hb dX2_countBetter_15 rfl (lv_at hl 0 rfl) ?_
      refine kx_getL (v := .ref (ad 8)) hx hb hts hown hG hw i2 7 (by decide) f_37 rfl dX2_countBetter_16 ?_
      refine lv_iload_n hx hb dX2_countBetter_19 rfl (lv_at hl 1 rfl) ?_
      refine kx_iald (v := (g 8 i)) hx hb hG hw (kC_I rfl) i (nI_clamp (by omega)) (vp_in_nI (by omega) (by decide)) rfl dX2_countBetter_20 ?_
      refine lv_istore_n (lv' := [(2, .int (g 8 i)), (0, .ref (ad 0)), (1, .int (nI i))]) hx hb dX2_countBetter_21 rfl hl (by decide) rfl (fun ls hl => ?_)
      refine lv_iconst (v := 0) hx hb dX2_countBetter_22 (by decide) ?_
      refine lv_istore_n (lv' := [(3, .int (0 : Int32)), (2, .int (g 8 i)), (0, .ref (ad 0)), (1, .int (nI i))]) hx hb dX2_countBetter_23 rfl hl (by decide) rfl (fun ls hl => ?_)
      refine lv_iconst (v := 0) hx hb dX2_countBetter_24 (by decide) ?_
      refine lv_istore (lv' := [(4, .int (0 : Int32)), (3, .int (0 : Int32)), (2, .int (g 8 i)), (0, .ref (ad 0)), (1, .int (nI i))]) hx hb dX2_countBetter_25 hl (by decide) rfl (fun ls hl => ?_)
      have lp_27 : ∀ (nn k : Nat), k ≤ 30 → 30 < k + nn → ∀ (H : Heap) (locs : List Loc) (ls : Array Slot), kW D cy base ad n nc g H → va_S (kA base) s.heap H locs → lv_has ls 5 [(4, .int (nI k)), (3, .int (cntB (cbB g i) k)), (2, .int (g 8 i)), (0, .ref (ad 0)), (1, .int (nI i))] → W p l e (kR 0 0 0) s m args below meth c H locs 0 0 Q (F0 m 27 ls []) := by
        intro nn
        induction nn with
        | zero => intro k h1 h2; exact absurd h2 (by omega)
        | succ nn ih_27 =>
          intro k hk_k hkn_k H locs ls hw hS hl
          refine lv_iload hx hb dX2_countBetter_27 (lv_at hl 0 rfl) ?_
          refine lv_aload_n hx hb dX2_countBetter_29 rfl (lv_at hl 3 rfl) ?_
          refine kx_getL (v := .ref (ad 8)) hx hb hts hown hG hw i2 7 (by decide) f_37 rfl dX2_countBetter_30 ?_
          refine kx_alen (v := 30) hx hb hG hw (kC_I rfl) 0 rfl rfl dX2_countBetter_33 ?_
          refine lv_icmp_ge (tgt := 74) hx hb dX2_countBetter_34 (by decide) (fun c_34 => ?_) (fun c_34 => ?_)
          · have e_k : k = 30 := Nat.le_antisymm hk_k (le_nI (a := 30) (b := k) c_34 (by omega) (by omega))
            refine lv_iload_n hx hb dX2_countBetter_74 rfl (lv_at hl 1 rfl) ?_
            exact kx_retI hQ hx hb hr hlk hw hS (Nat.le_of_ble_eq_true rfl) (Nat.le_of_ble_eq_true rfl) dX2_countBetter_75 (kd_i (trivial) (by rw [e_k]) (rfl))
          · have hlt_k : k < 30 := lt_nI (a := 30) (b := k) c_34 (by omega) (by omega)
            refine lv_aload_n hx hb dX2_countBetter_37 rfl (lv_at hl 3 rfl) ?_
            refine kx_getL (v := .ref (ad 8)) hx hb hts hown hG hw i2 7 (by decide) f_37 rfl dX2_countBetter_38 ?_
            refine lv_iload hx hb dX2_countBetter_41 (lv_at hl 0 rfl) ?_
            refine kx_iald (v := (g 8 k)) hx hb hG hw (kC_I rfl) k (nI_clamp (by omega)) (vp_in_nI (by omega) (by decide)) rfl dX2_countBetter_43 ?_
            refine lv_iload_n hx hb dX2_countBetter_44 rfl (lv_at hl 2 rfl) ?_
            refine lv_icmp_gt (tgt := 65) hx hb dX2_countBetter_45 (by decide) (fun c_45 => ?_) (fun c_45 => ?_)
            · refine lv_iinc (v := (cntB (cbB g i) k + (1 : Int32))) (lv' := [(3, .int (cntB (cbB g i) k + (1 : Int32))), (4, .int (nI k)), (2, .int (g 8 i)), (0, .ref (ad 0)), (1, .int (nI i))]) hx hb dX2_countBetter_65 hl (k := 1) rfl rfl (by decide) rfl (fun ls hl => ?_)
              refine lv_iinc (v := (nI k + (1 : Int32))) (lv' := [(4, .int (nI k + (1 : Int32))), (3, .int (cntB (cbB g i) k + (1 : Int32))), (2, .int (g 8 i)), (0, .ref (ad 0)), (1, .int (nI i))]) hx hb dX2_countBetter_68 hl (k := 1) rfl rfl (by decide) rfl (fun ls hl => ?_)
              refine lv_goto (tgt := 27) hx hb dX2_countBetter_71 (by decide) ?_
              exact ih_27 (k + 1) (by omega) (by omega) _ _ _ hw hS (kx_lv (l := [(4, .int (nI k + (1 : Int32))), (3, .int (cntB (cbB g i) k + (1 : Int32))), (2, .int (g 8 i)), (0, .ref (ad 0)), (1, .int (nI i))]) (l' := [(4, .int (nI (k + 1))), (3, .int (cntB (cbB g i) (k + 1))), (2, .int (g 8 i)), (0, .ref (ad 0)), (1, .int (nI i))]) (lv_sub hl [0, 1, 2, 3, 4] rfl) (by first | (simp only [cntB, cbB, nI_1, decide_eq_false c_34, if_neg c_34, decide_eq_true c_45, if_pos c_45]; done) | (simp only [cntB, cbB, nI_1, decide_eq_false c_34, if_neg c_34, decide_eq_true c_45, if_pos c_45]; rfl) | (simp [cntB, cbB, nI_1, decide_eq_false c_34, if_neg c_34, decide_eq_true c_45, if_pos c_45]; done))) 
            · refine lv_aload_n hx hb dX2_countBetter_48 rfl (lv_at hl 3 rfl) ?_
              refine kx_getL (v := .ref (ad 8)) hx hb hts hown hG hw i2 7 (by decide) f_37 rfl dX2_countBetter_49 ?_
              refine lv_iload hx hb dX2_countBetter_52 (lv_at hl 0 rfl) ?_
              refine kx_iald (v := (g 8 k)) hx hb hG hw (kC_I rfl) k (nI_clamp (by omega)) (vp_in_nI (by omega) (by decide)) rfl dX2_countBetter_54 ?_
              refine lv_iload_n hx hb dX2_countBetter_55 rfl (lv_at hl 2 rfl) ?_
              refine lv_icmp_ne (tgt := 68) hx hb dX2_countBetter_56 (by decide) (fun c_56 => ?_) (fun c_56 => ?_)
              · refine lv_iinc (v := (nI k + (1 : Int32))) (lv' := [(4, .int (nI k + (1 : Int32))), (3, .int (cntB (cbB g i) k)), (2, .int (g 8 i)), (0, .ref (ad 0)), (1, .int (nI i))]) hx hb dX2_countBetter_68 hl (k := 0) rfl rfl (by decide) rfl (fun ls hl => ?_)
                refine lv_goto (tgt := 27) hx hb dX2_countBetter_71 (by decide) ?_
                exact ih_27 (k + 1) (by omega) (by omega) _ _ _ hw hS (kx_lv (l := [(4, .int (nI k + (1 : Int32))), (3, .int (cntB (cbB g i) k)), (2, .int (g 8 i)), (0, .ref (ad 0)), (1, .int (nI i))]) (l' := [(4, .int (nI (k + 1))), (3, .int (cntB (cbB g i) (k + 1))), (2, .int (g 8 i)), (0, .ref (ad 0)), (1, .int (nI i))]) (lv_sub hl [0, 1, 2, 3, 4] rfl) (by first | (simp only [cntB, cbB, nI_1, decide_eq_false c_34, if_neg c_34, decide_eq_false c_45, if_neg c_45, decide_eq_false c_56, if_neg c_56]; done) | (simp only [cntB, cbB, nI_1, decide_eq_false c_34, if_neg c_34, decide_eq_false c_45, if_neg c_45, decide_eq_false c_56, if_neg c_56]; rfl) | (simp [cntB, cbB, nI_1, decide_eq_false c_34, if_neg c_34, decide_eq_false c_45, if_neg c_45, decide_eq_false c_56, if_neg c_56]; done))) 
              · refine lv_iload hx hb dX2_countBetter_59 (lv_at hl 0 rfl) ?_
                refine lv_iload_n hx hb dX2_countBetter_61 rfl (lv_at hl 4 rfl) ?_
                refine lv_icmp_ge (tgt := 68) hx hb dX2_countBetter_62 (by decide) (fun c_62 => ?_) (fun c_62 => ?_)
                · refine lv_iinc (v := (nI k + (1 : Int32))) (lv' := [(4, .int (nI k + (1 : Int32))), (3, .int (cntB (cbB g i) k)), (2, .int (g 8 i)), (0, .ref (ad 0)), (1, .int (nI i))]) hx hb dX2_countBetter_68 hl (k := 0) rfl rfl (by decide) rfl (fun ls hl => ?_)
                  refine lv_goto (tgt := 27) hx hb dX2_countBetter_71 (by decide) ?_
                  exact ih_27 (k + 1) (by omega) (by omega) _ _ _ hw hS (kx_lv (l := [(4, .int (nI k + (1 : Int32))), (3, .int (cntB (cbB g i) k)), (2, .int (g 8 i)), (0, .ref (ad 0)), (1, .int (nI i))]) (l' := [(4, .int (nI (k + 1))), (3, .int (cntB (cbB g i) (k + 1))), (2, .int (g 8 i)), (0, .ref (ad 0)), (1, .int (nI i))]) (lv_sub hl [0, 1, 2, 3, 4] rfl) (by first | (simp only [cntB, cbB, nI_1, decide_eq_false c_34, if_neg c_34, decide_eq_false c_45, if_neg c_45, decide_eq_true c_56, if_pos c_56, decide_eq_true c_62, if_pos c_62]; done) | (simp only [cntB, cbB, nI_1, decide_eq_false c_34, if_neg c_34, decide_eq_false c_45, if_neg c_45, decide_eq_true c_56, if_pos c_56, decide_eq_true c_62, if_pos c_62]; rfl) | (simp [cntB, cbB, nI_1, decide_eq_false c_34, if_neg c_34, decide_eq_false c_45, if_neg c_45, decide_eq_true c_56, if_pos c_56, decide_eq_true c_62, if_pos c_62]; done))) 
                · refine lv_iinc (v := (cntB (cbB g i) k + (1 : Int32))) (lv' := [(3, .int (cntB (cbB g i) k + (1 : Int32))), (4, .int (nI k)), (2, .int (g 8 i)), (0, .ref (ad 0)), (1, .int (nI i))]) hx hb dX2_countBetter_65 hl (k := 1) rfl rfl (by decide) rfl (fun ls hl => ?_)
                  refine lv_iinc (v := (nI k + (1 : Int32))) (lv' := [(4, .int (nI k + (1 : Int32))), (3, .int (cntB (cbB g i) k + (1 : Int32))), (2, .int (g 8 i)), (0, .ref (ad 0)), (1, .int (nI i))]) hx hb dX2_countBetter_68 hl (k := 1) rfl rfl (by decide) rfl (fun ls hl => ?_)
                  refine lv_goto (tgt := 27) hx hb dX2_countBetter_71 (by decide) ?_
                  exact ih_27 (k + 1) (by omega) (by omega) _ _ _ hw hS (kx_lv (l := [(4, .int (nI k + (1 : Int32))), (3, .int (cntB (cbB g i) k + (1 : Int32))), (2, .int (g 8 i)), (0, .ref (ad 0)), (1, .int (nI i))]) (l' := [(4, .int (nI (k + 1))), (3, .int (cntB (cbB g i) (k + 1))), (2, .int (g 8 i)), (0, .ref (ad 0)), (1, .int (nI i))]) (lv_sub hl [0, 1, 2, 3, 4] rfl) (by first | (simp only [cntB, cbB, nI_1, decide_eq_false c_34, if_neg c_34, decide_eq_false c_45, if_neg c_45, decide_eq_true c_56, if_pos c_56, decide_eq_false c_62, if_neg c_62]; done) | (simp only [cntB, cbB, nI_1, decide_eq_false c_34, if_neg c_34, decide_eq_false c_45, if_neg c_45, decide_eq_true c_56, if_pos c_56, decide_eq_false c_62, if_neg c_62]; rfl) | (simp [cntB, cbB, nI_1, decide_eq_false c_34, if_neg c_34, decide_eq_false c_45, if_neg c_45, decide_eq_true c_56, if_pos c_56, decide_eq_false c_62, if_neg c_62]; done))) 
      exact lp_27 (30 + 1) 0 (by omega) (by omega) _ _ _ hw hS (kx_lv (l := [(4, .int (0 : Int32)), (3, .int (0 : Int32)), (2, .int (g 8 i)), (0, .ref (ad 0)), (1, .int (nI i))]) (l' := [(4, .int (nI 0)), (3, .int (cntB (cbB g i) 0)), (2, .int (g 8 i)), (0, .ref (ad 0)), (1, .int (nI i))]) (lv_sub hl [0, 1, 2, 3, 4] rfl) (rfl)) 
    · exact absurd ((nI_ltI (a := i) (b := 30) (by omega) (by omega)).mpr hi30) c_10
theorem hd_X2_countNotedWith : yX2_countNotedWith.cls = RX2 ∧ yX2_countNotedWith.cls ≠ "java/lang/invoke/MethodHandle" ∧ yX2_countNotedWith.cls ≠ "java/lang/invoke/VarHandle" ∧ (parseMethodDescriptor yX2_countNotedWith.desc).map (fun d => d.parameters.length) = some 1 := by decide +kernel
set_option maxHeartbeats 4000000 in
set_option maxRecDepth 100000 in
theorem c_X2_countNotedWith (l : Launch) (hfl : l.stackTraces = false) (D : va_G) (cy : Nat → ClassId) (base : Nat → Prop) (ad : Nat → Nat) (n nc : Nat) (g : sg) (w : Nat) (hfr : ∀ j, j < 30 → g 6 j = if j < n then 1 else 0) (hw24 : w < 24) : kM l yX2_countNotedWith wsX2_countNotedWith (kR 0 0 0) D cy base ad n nc g [.ref (ad 0), .int (nI w)] (kD True (some (.int (cntB (nwB g n w) 30))) ad n nc g) kNo 0 0 := by
  refine kx_meth (cc := cX2_countNotedWith) (maxL := 5) (ret := (some .int)) (by decide) rfl (Nat.le_of_ble_eq_true rfl) ?_
  intro p e s m args below meth c ls hx hb hr hml hown hts hlk hT hG hw0 hS0 hl Q H locs hQ hw hS hH0 hlocs0
  have hl : lv_has ls 5 [(0, .ref (ad 0)), (1, .int (nI w))] := hl
  have hown : s.vm.findClass RX2 = some m.cls := hown
  have hF : CallFix p m c cX2_countNotedWith 5 s args wsX2_countNotedWith RX2 := ⟨hx, hb, hml, hown, hts⟩
  have hn30 : n ≤ 30 := hw.2.2.1
  have hc20 : nc ≤ 20 := hw.2.2.2
  clear hw0 hS0 hH0 hlocs0
  have i1 : ∀ w ∈ wsX10, w ∈ wsX2_countNotedWith := by decide +kernel
  have i2 : ∀ w ∈ wsX20, w ∈ wsX2_countNotedWith := by decide +kernel
  have f_27 := hts (.fieldLink RX2 27 "Lostroom" "finds" "[LLostroom$Found;") (by decide +kernel)
  have f_37 := hts (.fieldLink RX2 37 "Lostroom" "scores" "[I") (by decide +kernel)
  have f_137 := hts (.fieldLink RX2 137 "Lostroom$Found" "secret" "I") (by decide +kernel)
  have f_147 := hts (.fieldLink RX2 147 "Lostroom$Found" "words" "I") (by decide +kernel)
  refine lv_iconst (v := 0) hx hb dX2_countNotedWith_0 (by decide) ?_
  refine lv_istore_n (lv' := [(2, .int (0 : Int32)), (0, .ref (ad 0)), (1, .int (nI w))]) hx hb dX2_countNotedWith_1 rfl hl (by decide) rfl (fun ls hl => ?_)
  refine lv_iconst (v := 0) hx hb dX2_countNotedWith_2 (by decide) ?_
  refine lv_istore_n (lv' := [(3, .int (0 : Int32)), (2, .int (0 : Int32)), (0, .ref (ad 0)), (1, .int (nI w))]) hx hb dX2_countNotedWith_3 rfl hl (by decide) rfl (fun ls hl => ?_)
  have lp_4 : ∀ (nn k : Nat), k ≤ 30 → 30 < k + nn → ∀ (H : Heap) (locs : List Loc) (ls : Array Slot), kW D cy base ad n nc g H → va_S (kA base) s.heap H locs → lv_has ls 5 [(3, .int (nI k)), (2, .int (cntB (nwB g n w) k)), (0, .ref (ad 0)), (1, .int (nI w))] → W p l e (kR 0 0 0) s m args below meth c H locs 0 0 Q (F0 m 4 ls []) := by
    intro nn
    induction nn with
    | zero => intro k h1 h2; exact absurd h2 (by omega)
    | succ nn ih_4 =>
      intro k hk_k hkn_k H locs ls hw hS hl
      refine lv_iload_n hx hb dX2_countNotedWith_4 rfl (lv_at hl 0 rfl) ?_
      refine lv_aload_n hx hb dX2_countNotedWith_5 rfl (lv_at hl 2 rfl) ?_
      refine kx_getL (v := .ref (ad 8)) hx hb hts hown hG hw i2 7 (by decide) f_37 rfl dX2_countNotedWith_6 ?_
      refine kx_alen (v := 30) hx hb hG hw (kC_I rfl) 0 rfl rfl dX2_countNotedWith_9 ?_
      refine lv_icmp_ge (tgt := 72) hx hb dX2_countNotedWith_10 (by decide) (fun c_10 => ?_) (fun c_10 => ?_)
      · have e_k : k = 30 := Nat.le_antisymm hk_k (le_nI (a := 30) (b := k) c_10 (by omega) (by omega))
        refine lv_iload_n hx hb dX2_countNotedWith_72 rfl (lv_at hl 1 rfl) ?_
        exact kx_retI hQ hx hb hr hlk hw hS (Nat.le_of_ble_eq_true rfl) (Nat.le_of_ble_eq_true rfl) dX2_countNotedWith_73 (kd_i (trivial) (by rw [e_k]) (rfl))
      · have hlt_k : k < 30 := lt_nI (a := 30) (b := k) c_10 (by omega) (by omega)
        refine lv_iload_n hx hb dX2_countNotedWith_13 rfl (lv_at hl 0 rfl) ?_
        refine lv_aload_n hx hb dX2_countNotedWith_14 rfl (lv_at hl 2 rfl) ?_
        refine kx_getL (v := .ref (ad 6)) hx hb hts hown hG hw i2 5 (by decide) f_27 rfl dX2_countNotedWith_15 ?_
        refine kx_alen (v := 30) hx hb hG hw kC_6 1 rfl rfl dX2_countNotedWith_18 ?_
        refine lv_icmp_ge (tgt := 72) hx hb dX2_countNotedWith_19 (by decide) (fun c_19 => ?_) (fun c_19 => ?_)
        · have e_k : k = 30 := Nat.le_antisymm hk_k (le_nI (a := 30) (b := k) c_19 (by omega) (by omega))
          refine lv_iload_n hx hb dX2_countNotedWith_72 rfl (lv_at hl 1 rfl) ?_
          exact kx_retI hQ hx hb hr hlk hw hS (Nat.le_of_ble_eq_true rfl) (Nat.le_of_ble_eq_true rfl) dX2_countNotedWith_73 (kd_i (trivial) (by rw [e_k]) (rfl))
        · have hlt_k : k < 30 := lt_nI (a := 30) (b := k) c_19 (by omega) (by omega)
          refine lv_aload_n hx hb dX2_countNotedWith_22 rfl (lv_at hl 2 rfl) ?_
          refine kx_getL (v := .ref (ad 6)) hx hb hts hown hG hw i2 5 (by decide) f_27 rfl dX2_countNotedWith_23 ?_
          refine lv_iload_n hx hb dX2_countNotedWith_26 rfl (lv_at hl 0 rfl) ?_
          have hq2 : k < 30 := by omega
          rcases Nat.lt_or_ge k n with ha1 | ha1
          · refine kx_aaldF (v := .ref (ad (100 + 3 * k))) hx hb hG hw k (nI_clamp (by omega)) (vp_in_nI (by omega) (by decide)) (by rw [hfr k hq2, if_pos ha1]; rfl) dX2_countNotedWith_27 ?_
            refine lv_astore (lv' := [(4, .ref (ad (100 + 3 * k))), (3, .int (nI k)), (2, .int (cntB (nwB g n w) k)), (0, .ref (ad 0)), (1, .int (nI w))]) hx hb dX2_countNotedWith_28 hl (by decide) rfl (fun ls hl => ?_)
            refine lv_aload hx hb dX2_countNotedWith_30 (lv_at hl 0 rfl) ?_
            refine lv_ifnull hx hb dX2_countNotedWith_32 ?_
            refine lv_aload_n hx hb dX2_countNotedWith_35 rfl (lv_at hl 3 rfl) ?_
            refine kx_getL (v := .ref (ad 8)) hx hb hts hown hG hw i2 7 (by decide) f_37 rfl dX2_countNotedWith_36 ?_
            refine lv_iload_n hx hb dX2_countNotedWith_39 rfl (lv_at hl 1 rfl) ?_
            refine kx_iald (v := (g 8 k)) hx hb hG hw (kC_I rfl) k (nI_clamp (by omega)) (vp_in_nI (by omega) (by decide)) rfl dX2_countNotedWith_40 ?_
            refine lv_iconst (v := -1) hx hb dX2_countNotedWith_41 (by decide) ?_
            refine lv_icmp_eq (tgt := 66) hx hb dX2_countNotedWith_42 (by decide) (fun c_42 => ?_) (fun c_42 => ?_)
            · refine lv_iinc (v := (nI k + (1 : Int32))) (lv' := [(3, .int (nI k + (1 : Int32))), (4, .ref (ad (100 + 3 * k))), (2, .int (cntB (nwB g n w) k)), (0, .ref (ad 0)), (1, .int (nI w))]) hx hb dX2_countNotedWith_66 hl (k := 1) rfl rfl (by decide) rfl (fun ls hl => ?_)
              refine lv_goto (tgt := 4) hx hb dX2_countNotedWith_69 (by decide) ?_
              exact ih_4 (k + 1) (by omega) (by omega) _ _ _ hw hS (kx_lv (l := [(3, .int (nI k + (1 : Int32))), (2, .int (cntB (nwB g n w) k)), (0, .ref (ad 0)), (1, .int (nI w))]) (l' := [(3, .int (nI (k + 1))), (2, .int (cntB (nwB g n w) (k + 1))), (0, .ref (ad 0)), (1, .int (nI w))]) (lv_sub hl [0, 2, 3, 4] rfl) (by first | (simp only [cntB, nwB, nI_1, decide_eq_true (show k < n by assumption), decide_eq_false c_10, if_neg c_10, decide_eq_false c_19, if_neg c_19, decide_eq_true c_42, if_pos c_42]; done) | (simp only [cntB, nwB, nI_1, decide_eq_true (show k < n by assumption), decide_eq_false c_10, if_neg c_10, decide_eq_false c_19, if_neg c_19, decide_eq_true c_42, if_pos c_42]; rfl) | (simp [cntB, nwB, nI_1, show k < n by assumption, decide_eq_false c_10, if_neg c_10, decide_eq_false c_19, if_neg c_19, decide_eq_true c_42, if_pos c_42]; done) | (simp [cntB, nwB, nI_1, show ¬ k < n by omega]; done))) 
            · refine lv_aload hx hb dX2_countNotedWith_45 (lv_at hl 0 rfl) ?_
              refine kx_getF (v := .int (g (100 + 3 * k) 8)) hx hb hts hown hG hw i1 k (by first | assumption | omega) 8 (by decide) f_147 rfl dX2_countNotedWith_47 ?_
              refine lv_aload hx hb dX2_countNotedWith_50 (lv_at hl 0 rfl) ?_
              refine kx_getF (v := .int (g (100 + 3 * k) 3)) hx hb hts hown hG hw i1 k (by first | assumption | omega) 3 (by decide) f_137 rfl dX2_countNotedWith_52 ?_
              refine lv_ior hx hb dX2_countNotedWith_55 ?_
              refine lv_iconst (v := 1) hx hb dX2_countNotedWith_56 (by decide) ?_
              refine lv_iload_n hx hb dX2_countNotedWith_57 rfl (lv_at hl 4 rfl) ?_
              refine lv_ishl hx hb dX2_countNotedWith_58 ?_
              refine lv_iand hx hb dX2_countNotedWith_59 ?_
              refine lv_if_eq (tgt := 66) hx hb dX2_countNotedWith_60 (by decide) (fun c_60 => ?_) (fun c_60 => ?_)
              · refine lv_iinc (v := (nI k + (1 : Int32))) (lv' := [(3, .int (nI k + (1 : Int32))), (4, .ref (ad (100 + 3 * k))), (2, .int (cntB (nwB g n w) k)), (0, .ref (ad 0)), (1, .int (nI w))]) hx hb dX2_countNotedWith_66 hl (k := 1) rfl rfl (by decide) rfl (fun ls hl => ?_)
                refine lv_goto (tgt := 4) hx hb dX2_countNotedWith_69 (by decide) ?_
                exact ih_4 (k + 1) (by omega) (by omega) _ _ _ hw hS (kx_lv (l := [(3, .int (nI k + (1 : Int32))), (2, .int (cntB (nwB g n w) k)), (0, .ref (ad 0)), (1, .int (nI w))]) (l' := [(3, .int (nI (k + 1))), (2, .int (cntB (nwB g n w) (k + 1))), (0, .ref (ad 0)), (1, .int (nI w))]) (lv_sub hl [0, 2, 3, 4] rfl) (by first | (simp only [cntB, nwB, nI_1, decide_eq_true (show k < n by assumption), decide_eq_false c_10, if_neg c_10, decide_eq_false c_19, if_neg c_19, decide_eq_false c_42, if_neg c_42, decide_eq_true c_60, if_pos c_60]; done) | (simp only [cntB, nwB, nI_1, decide_eq_true (show k < n by assumption), decide_eq_false c_10, if_neg c_10, decide_eq_false c_19, if_neg c_19, decide_eq_false c_42, if_neg c_42, decide_eq_true c_60, if_pos c_60]; rfl) | (simp [cntB, nwB, nI_1, show k < n by assumption, decide_eq_false c_10, if_neg c_10, decide_eq_false c_19, if_neg c_19, decide_eq_false c_42, if_neg c_42, decide_eq_true c_60, if_pos c_60]; done) | (simp [cntB, nwB, nI_1, show ¬ k < n by omega]; done))) 
              · refine lv_iinc (v := (cntB (nwB g n w) k + (1 : Int32))) (lv' := [(2, .int (cntB (nwB g n w) k + (1 : Int32))), (4, .ref (ad (100 + 3 * k))), (3, .int (nI k)), (0, .ref (ad 0)), (1, .int (nI w))]) hx hb dX2_countNotedWith_63 hl (k := 2) rfl rfl (by decide) rfl (fun ls hl => ?_)
                refine lv_iinc (v := (nI k + (1 : Int32))) (lv' := [(3, .int (nI k + (1 : Int32))), (2, .int (cntB (nwB g n w) k + (1 : Int32))), (4, .ref (ad (100 + 3 * k))), (0, .ref (ad 0)), (1, .int (nI w))]) hx hb dX2_countNotedWith_66 hl (k := 2) rfl rfl (by decide) rfl (fun ls hl => ?_)
                refine lv_goto (tgt := 4) hx hb dX2_countNotedWith_69 (by decide) ?_
                exact ih_4 (k + 1) (by omega) (by omega) _ _ _ hw hS (kx_lv (l := [(3, .int (nI k + (1 : Int32))), (2, .int (cntB (nwB g n w) k + (1 : Int32))), (0, .ref (ad 0)), (1, .int (nI w))]) (l' := [(3, .int (nI (k + 1))), (2, .int (cntB (nwB g n w) (k + 1))), (0, .ref (ad 0)), (1, .int (nI w))]) (lv_sub hl [0, 1, 3, 4] rfl) (by first | (simp only [cntB, nwB, nI_1, decide_eq_true (show k < n by assumption), decide_eq_false c_10, if_neg c_10, decide_eq_false c_19, if_neg c_19, decide_eq_false c_42, if_neg c_42, decide_eq_false c_60, if_neg c_60]; done) | (simp only [cntB, nwB, nI_1, decide_eq_true (show k < n by assumption), decide_eq_false c_10, if_neg c_10, decide_eq_false c_19, if_neg c_19, decide_eq_false c_42, if_neg c_42, decide_eq_false c_60, if_neg c_60]; rfl) | (simp [cntB, nwB, nI_1, show k < n by assumption, decide_eq_false c_10, if_neg c_10, decide_eq_false c_19, if_neg c_19, decide_eq_false c_42, if_neg c_42, decide_eq_false c_60, if_neg c_60]; done) | (simp [cntB, nwB, nI_1, show ¬ k < n by omega]; done))) 
          · refine kx_aaldF (v := .null) hx hb hG hw k (nI_clamp (by omega)) (vp_in_nI (by omega) (by decide)) (by rw [hfr k hq2, if_neg (Nat.not_lt.mpr ha1)]; rfl) dX2_countNotedWith_27 ?_
            refine lv_astoreN (lv' := [(4, .null), (3, .int (nI k)), (2, .int (cntB (nwB g n w) k)), (0, .ref (ad 0)), (1, .int (nI w))]) hx hb dX2_countNotedWith_28 hl (by decide) rfl (fun ls hl => ?_)
            refine lv_aloadN hx hb dX2_countNotedWith_30 (lv_at hl 0 rfl) ?_
            refine lv_ifnullN (tgt := 66) hx hb dX2_countNotedWith_32 (by decide) ?_
            refine lv_iinc (v := (nI k + (1 : Int32))) (lv' := [(3, .int (nI k + (1 : Int32))), (4, .null), (2, .int (cntB (nwB g n w) k)), (0, .ref (ad 0)), (1, .int (nI w))]) hx hb dX2_countNotedWith_66 hl (k := 1) rfl rfl (by decide) rfl (fun ls hl => ?_)
            refine lv_goto (tgt := 4) hx hb dX2_countNotedWith_69 (by decide) ?_
            exact ih_4 (k + 1) (by omega) (by omega) _ _ _ hw hS (kx_lv (l := [(3, .int (nI k + (1 : Int32))), (2, .int (cntB (nwB g n w) k)), (0, .ref (ad 0)), (1, .int (nI w))]) (l' := [(3, .int (nI (k + 1))), (2, .int (cntB (nwB g n w) (k + 1))), (0, .ref (ad 0)), (1, .int (nI w))]) (lv_sub hl [0, 2, 3, 4] rfl) (by first | (simp only [cntB, nwB, nI_1, decide_eq_true (show k < n by assumption), decide_eq_false c_10, if_neg c_10, decide_eq_false c_19, if_neg c_19]; done) | (simp only [cntB, nwB, nI_1, decide_eq_true (show k < n by assumption), decide_eq_false c_10, if_neg c_10, decide_eq_false c_19, if_neg c_19]; rfl) | (simp [cntB, nwB, nI_1, show k < n by assumption, decide_eq_false c_10, if_neg c_10, decide_eq_false c_19, if_neg c_19]; done) | (simp [cntB, nwB, nI_1, show ¬ k < n by omega]; done))) 
  exact lp_4 (30 + 1) 0 (by omega) (by omega) _ _ _ hw hS (kx_lv (l := [(3, .int (0 : Int32)), (2, .int (0 : Int32)), (0, .ref (ad 0)), (1, .int (nI w))]) (l' := [(3, .int (nI 0)), (2, .int (cntB (nwB g n w) 0)), (0, .ref (ad 0)), (1, .int (nI w))]) (lv_sub hl [0, 1, 2, 3] rfl) (rfl)) 
theorem hd_X2_bringBags : yX2_bringBags.cls = RX2 ∧ yX2_bringBags.cls ≠ "java/lang/invoke/MethodHandle" ∧ yX2_bringBags.cls ≠ "java/lang/invoke/VarHandle" ∧ (parseMethodDescriptor yX2_bringBags.desc).map (fun d => d.parameters.length) = some 0 := by decide +kernel
set_option maxHeartbeats 4000000 in
set_option maxRecDepth 100000 in
theorem c_X2_bringBags (l : Launch) (hfl : l.stackTraces = false) (D : va_G) (cy : Nat → ClassId) (base : Nat → Prop) (ad : Nat → Nat) (n nc : Nat) (g : sg) (hfr : ∀ j, j < 30 → g 6 j = if j < n then 1 else 0) (hh : ∀ i, i < n → ∃ h : Nat, h ≤ 12 ∧ g (100 + 3 * i) 7 = nI h) : kM l yX2_bringBags wsX2_bringBags (kR 2 0 0) D cy base ad n nc g [.ref (ad 0)] (kD True none ad n nc (cBag g n 30)) kNo 0 0 := by
  refine kx_meth (cc := cX2_bringBags) (maxL := 5) (ret := none) (by decide) rfl (Nat.le_of_ble_eq_true rfl) ?_
  intro p e s m args below meth c ls hx hb hr hml hown hts hlk hT hG hw0 hS0 hl Q H locs hQ hw hS hH0 hlocs0
  have hl : lv_has ls 5 [(0, .ref (ad 0))] := hl
  have hown : s.vm.findClass RX2 = some m.cls := hown
  have hF : CallFix p m c cX2_bringBags 5 s args wsX2_bringBags RX2 := ⟨hx, hb, hml, hown, hts⟩
  have hn30 : n ≤ 30 := hw.2.2.1
  have hc20 : nc ≤ 20 := hw.2.2.2
  clear hw0 hS0 hH0 hlocs0
  have i1 : ∀ w ∈ wsX10, w ∈ wsX2_bringBags := by decide +kernel
  have i2 : ∀ w ∈ wsX20, w ∈ wsX2_bringBags := by decide +kernel
  have f_27 := hts (.fieldLink RX2 27 "Lostroom" "finds" "[LLostroom$Found;") (by decide +kernel)
  have f_47 := hts (.fieldLink RX2 47 "Lostroom" "day" "I") (by decide +kernel)
  have f_142 := hts (.fieldLink RX2 142 "Lostroom$Found" "state" "I") (by decide +kernel)
  have f_150 := hts (.fieldLink RX2 150 "Lostroom$Found" "room" "I") (by decide +kernel)
  refine lv_aload_n hx hb dX2_bringBags_0 rfl (lv_at hl 0 rfl) ?_
  refine kx_getL (v := .ref (ad 6)) hx hb hts hown hG hw i2 5 (by decide) f_27 rfl dX2_bringBags_1 ?_
  refine lv_astore_n (lv' := [(1, .ref (ad 6)), (0, .ref (ad 0))]) hx hb dX2_bringBags_4 rfl hl (by decide) rfl (fun ls hl => ?_)
  refine lv_aload_n hx hb dX2_bringBags_5 rfl (lv_at hl 0 rfl) ?_
  refine kx_alen (v := 30) hx hb hG hw kC_6 1 rfl rfl dX2_bringBags_6 ?_
  refine lv_istore_n (lv' := [(2, .int (30 : Int32)), (1, .ref (ad 6)), (0, .ref (ad 0))]) hx hb dX2_bringBags_7 rfl hl (by decide) rfl (fun ls hl => ?_)
  refine lv_iconst (v := 0) hx hb dX2_bringBags_8 (by decide) ?_
  refine lv_istore_n (lv' := [(3, .int (0 : Int32)), (2, .int (30 : Int32)), (1, .ref (ad 6)), (0, .ref (ad 0))]) hx hb dX2_bringBags_9 rfl hl (by decide) rfl (fun ls hl => ?_)
  have lp_10 : ∀ (nn k : Nat), k ≤ 30 → 30 < k + nn → ∀ (H : Heap) (locs : List Loc) (ls : Array Slot), kW D cy base ad n nc (cBag g n k) H → va_S (kA base) s.heap H locs → lv_has ls 5 [(3, .int (nI k)), (2, .int (30 : Int32)), (1, .ref (ad 6)), (0, .ref (ad 0))] → W p l e (kR 2 0 0) s m args below meth c H locs 0 0 Q (F0 m 10 ls []) := by
    intro nn
    induction nn with
    | zero => intro k h1 h2; exact absurd h2 (by omega)
    | succ nn ih_10 =>
      intro k hk_k hkn_k H locs ls hw hS hl
      refine lv_iload_n hx hb dX2_bringBags_10 rfl (lv_at hl 0 rfl) ?_
      refine lv_iload_n hx hb dX2_bringBags_11 rfl (lv_at hl 1 rfl) ?_
      refine lv_icmp_ge (tgt := 54) hx hb dX2_bringBags_12 (by decide) (fun c_12 => ?_) (fun c_12 => ?_)
      · have e_k : k = 30 := Nat.le_antisymm hk_k (le_nI (a := 30) (b := k) c_12 (by omega) (by omega))
        exact kx_retV hQ hx hb hr hlk hw hS (Nat.le_of_ble_eq_true rfl) (Nat.le_of_ble_eq_true rfl) dX2_bringBags_54 (kd_v (trivial) (by rw [e_k]))
      · have hlt_k : k < 30 := lt_nI (a := 30) (b := k) c_12 (by omega) (by omega)
        refine lv_aload_n hx hb dX2_bringBags_15 rfl (lv_at hl 2 rfl) ?_
        refine lv_iload_n hx hb dX2_bringBags_16 rfl (lv_at hl 0 rfl) ?_
        have hq2 : k < 30 := by omega
        rcases Nat.lt_or_ge k n with ha1 | ha1
        · refine kx_aaldF (v := .ref (ad (100 + 3 * k))) hx hb hG hw k (nI_clamp (by omega)) (vp_in_nI (by omega) (by decide)) (by rw [show (cBag g n k) 6 k = g 6 k from (by rw [cBag_row _ _ (Or.inl (by decide)) hn30]), hfr k hq2, if_pos ha1]; rfl) dX2_bringBags_17 ?_
          refine lv_astore (lv' := [(4, .ref (ad (100 + 3 * k))), (3, .int (nI k)), (2, .int (30 : Int32)), (1, .ref (ad 6)), (0, .ref (ad 0))]) hx hb dX2_bringBags_18 hl (by decide) rfl (fun ls hl => ?_)
          refine lv_aload hx hb dX2_bringBags_20 (lv_at hl 0 rfl) ?_
          refine lv_ifnull hx hb dX2_bringBags_22 ?_
          refine lv_aload hx hb dX2_bringBags_25 (lv_at hl 0 rfl) ?_
          refine kx_getF (v := .int ((cBag g n k) (100 + 3 * k) 9)) hx hb hts hown hG hw i1 k (by first | assumption | omega) 9 (by decide) f_142 rfl dX2_bringBags_27 ?_
          refine lv_iconst (v := 1) hx hb dX2_bringBags_30 (by decide) ?_
          refine lv_icmp_ne (tgt := 48) hx hb dX2_bringBags_31 (by decide) (fun c_31 => ?_) (fun c_31 => ?_)
          · refine lv_iinc (v := (nI k + (1 : Int32))) (lv' := [(3, .int (nI k + (1 : Int32))), (4, .ref (ad (100 + 3 * k))), (2, .int (30 : Int32)), (1, .ref (ad 6)), (0, .ref (ad 0))]) hx hb dX2_bringBags_48 hl (k := 1) rfl rfl (by decide) rfl (fun ls hl => ?_)
            refine lv_goto (tgt := 10) hx hb dX2_bringBags_51 (by decide) ?_
            exact ih_10 (k + 1) (by omega) (by omega) _ _ _ (show kW D cy base ad n nc (cBag g n (k + 1)) H from (show (cBag g n k) = (cBag g n (k + 1)) from by first | (simp only [cBag, if_pos (show k < n by assumption), decide_eq_false c_12, if_neg c_12, decide_eq_false c_31, if_neg c_31]; done) | (simp only [cBag, if_neg (show ¬ k < n by omega)]; done)) ▸ hw) hS (kx_lv (l := [(3, .int (nI k + (1 : Int32))), (2, .int (30 : Int32)), (1, .ref (ad 6)), (0, .ref (ad 0))]) (l' := [(3, .int (nI (k + 1))), (2, .int (30 : Int32)), (1, .ref (ad 6)), (0, .ref (ad 0))]) (lv_sub hl [0, 2, 3, 4] rfl) (by rw [nI_1])) 
          · refine lv_aload hx hb dX2_bringBags_34 (lv_at hl 0 rfl) ?_
            refine lv_aload hx hb dX2_bringBags_36 (lv_at hl 0 rfl) ?_
            refine kx_getF (v := .int ((cBag g n k) (100 + 3 * k) 10)) hx hb hts hown hG hw i1 k (by first | assumption | omega) 10 (by decide) f_150 rfl dX2_bringBags_38 ?_
            refine lv_aload_n hx hb dX2_bringBags_41 rfl (lv_at hl 4 rfl) ?_
            refine kx_getL (v := .int ((cBag g n k) 0 10)) hx hb hts hown hG hw i2 10 (by decide) f_47 rfl dX2_bringBags_42 ?_
            refine kx_do0 (st1 := []) (kx_cv (As := [.int ((cBag g n k) (100 + 3 * k) 10), .int ((cBag g n k) 0 10)]) (rest := []) hF hG hw hS hl.1 (kC_F (by first | assumption | omega) hw.2.2.1) rfl (c_X1_comeTo l hfl D cy base ad n nc (cBag g n k) k ((cBag g n k) (100 + 3 * k) 10) ((cBag g n k) 0 10) (by assumption) (cBag_h (hh k (by assumption)) k)) gX2_bringBags_X1_comeTo rfl rfl rfl hd_X1_comeTo ⟨Nat.le_of_ble_eq_true rfl, Nat.le_of_ble_eq_true rfl⟩ rfl rfl (Nat.le_of_ble_eq_true rfl) dX2_bringBags_45 ⟨Nat.le_of_ble_eq_true rfl, Nat.le_of_ble_eq_true rfl⟩) hS rfl (fun H locs hw hS => ?_)
            refine lv_iinc (v := (nI k + (1 : Int32))) (lv' := [(3, .int (nI k + (1 : Int32))), (4, .ref (ad (100 + 3 * k))), (2, .int (30 : Int32)), (1, .ref (ad 6)), (0, .ref (ad 0))]) hx hb dX2_bringBags_48 hl (k := 1) rfl rfl (by decide) rfl (fun ls hl => ?_)
            refine lv_goto (tgt := 10) hx hb dX2_bringBags_51 (by decide) ?_
            exact ih_10 (k + 1) (by omega) (by omega) _ _ _ (show kW D cy base ad n nc (cBag g n (k + 1)) H from (show (cComes (cBag g n k) k ((cBag g n k) (100 + 3 * k) 10) ((cBag g n k) 0 10)) = (cBag g n (k + 1)) from by first | (simp only [cBag, if_pos (show k < n by assumption), decide_eq_false c_12, if_neg c_12, decide_eq_true c_31, if_pos c_31]; done) | (simp only [cBag, if_neg (show ¬ k < n by omega)]; done)) ▸ hw) hS (kx_lv (l := [(3, .int (nI k + (1 : Int32))), (2, .int (30 : Int32)), (1, .ref (ad 6)), (0, .ref (ad 0))]) (l' := [(3, .int (nI (k + 1))), (2, .int (30 : Int32)), (1, .ref (ad 6)), (0, .ref (ad 0))]) (lv_sub hl [0, 2, 3, 4] rfl) (by rw [nI_1])) 
        · refine kx_aaldF (v := .null) hx hb hG hw k (nI_clamp (by omega)) (vp_in_nI (by omega) (by decide)) (by rw [show (cBag g n k) 6 k = g 6 k from (by rw [cBag_row _ _ (Or.inl (by decide)) hn30]), hfr k hq2, if_neg (Nat.not_lt.mpr ha1)]; rfl) dX2_bringBags_17 ?_
          refine lv_astoreN (lv' := [(4, .null), (3, .int (nI k)), (2, .int (30 : Int32)), (1, .ref (ad 6)), (0, .ref (ad 0))]) hx hb dX2_bringBags_18 hl (by decide) rfl (fun ls hl => ?_)
          refine lv_aloadN hx hb dX2_bringBags_20 (lv_at hl 0 rfl) ?_
          refine lv_ifnullN (tgt := 48) hx hb dX2_bringBags_22 (by decide) ?_
          refine lv_iinc (v := (nI k + (1 : Int32))) (lv' := [(3, .int (nI k + (1 : Int32))), (4, .null), (2, .int (30 : Int32)), (1, .ref (ad 6)), (0, .ref (ad 0))]) hx hb dX2_bringBags_48 hl (k := 1) rfl rfl (by decide) rfl (fun ls hl => ?_)
          refine lv_goto (tgt := 10) hx hb dX2_bringBags_51 (by decide) ?_
          exact ih_10 (k + 1) (by omega) (by omega) _ _ _ (show kW D cy base ad n nc (cBag g n (k + 1)) H from (show (cBag g n k) = (cBag g n (k + 1)) from by first | (simp only [cBag, if_pos (show k < n by assumption), decide_eq_false c_12, if_neg c_12]; done) | (simp only [cBag, if_neg (show ¬ k < n by omega)]; done)) ▸ hw) hS (kx_lv (l := [(3, .int (nI k + (1 : Int32))), (2, .int (30 : Int32)), (1, .ref (ad 6)), (0, .ref (ad 0))]) (l' := [(3, .int (nI (k + 1))), (2, .int (30 : Int32)), (1, .ref (ad 6)), (0, .ref (ad 0))]) (lv_sub hl [0, 2, 3, 4] rfl) (by rw [nI_1])) 
  exact lp_10 (30 + 1) 0 (by omega) (by omega) _ _ _ (hw) hS (kx_lv (l := [(3, .int (0 : Int32)), (2, .int (30 : Int32)), (1, .ref (ad 6)), (0, .ref (ad 0))]) (l' := [(3, .int (nI 0)), (2, .int (30 : Int32)), (1, .ref (ad 6)), (0, .ref (ad 0))]) (lv_sub hl [0, 1, 2, 3] rfl) (rfl)) 
theorem hd_X2_eraseOldClaims : yX2_eraseOldClaims.cls = RX2 ∧ yX2_eraseOldClaims.cls ≠ "java/lang/invoke/MethodHandle" ∧ yX2_eraseOldClaims.cls ≠ "java/lang/invoke/VarHandle" ∧ (parseMethodDescriptor yX2_eraseOldClaims.desc).map (fun d => d.parameters.length) = some 0 := by decide +kernel
set_option maxHeartbeats 4000000 in
set_option maxRecDepth 100000 in
theorem c_X2_eraseOldClaims (l : Launch) (hfl : l.stackTraces = false) (D : va_G) (cy : Nat → ClassId) (base : Nat → Prop) (ad : Nat → Nat) (n nc : Nat) (g : sg) (hcr : ∀ j, j < 20 → g 7 j = if j < nc then 1 else 0) : kM l yX2_eraseOldClaims wsX2_eraseOldClaims (kR 1 0 0) D cy base ad n nc g [.ref (ad 0)] (kD True none ad n nc (cEr g nc 20)) kNo 0 0 := by
  refine kx_meth (cc := cX2_eraseOldClaims) (maxL := 5) (ret := none) (by decide) rfl (Nat.le_of_ble_eq_true rfl) ?_
  intro p e s m args below meth c ls hx hb hr hml hown hts hlk hT hG hw0 hS0 hl Q H locs hQ hw hS hH0 hlocs0
  have hl : lv_has ls 5 [(0, .ref (ad 0))] := hl
  have hown : s.vm.findClass RX2 = some m.cls := hown
  have hF : CallFix p m c cX2_eraseOldClaims 5 s args wsX2_eraseOldClaims RX2 := ⟨hx, hb, hml, hown, hts⟩
  have hn30 : n ≤ 30 := hw.2.2.1
  have hc20 : nc ≤ 20 := hw.2.2.2
  clear hw0 hS0 hH0 hlocs0
  have i2 : ∀ w ∈ wsX20, w ∈ wsX2_eraseOldClaims := by decide +kernel
  have f_33 := hts (.fieldLink RX2 33 "Lostroom" "claims" "[LLostroom$Claim;") (by decide +kernel)
  have f_47 := hts (.fieldLink RX2 47 "Lostroom" "day" "I") (by decide +kernel)
  refine lv_aload_n hx hb dX2_eraseOldClaims_0 rfl (lv_at hl 0 rfl) ?_
  refine kx_getL (v := .ref (ad 7)) hx hb hts hown hG hw i2 6 (by decide) f_33 rfl dX2_eraseOldClaims_1 ?_
  refine lv_astore_n (lv' := [(1, .ref (ad 7)), (0, .ref (ad 0))]) hx hb dX2_eraseOldClaims_4 rfl hl (by decide) rfl (fun ls hl => ?_)
  refine lv_aload_n hx hb dX2_eraseOldClaims_5 rfl (lv_at hl 0 rfl) ?_
  refine kx_alen (v := 20) hx hb hG hw kC_7 2 rfl rfl dX2_eraseOldClaims_6 ?_
  refine lv_istore_n (lv' := [(2, .int (20 : Int32)), (1, .ref (ad 7)), (0, .ref (ad 0))]) hx hb dX2_eraseOldClaims_7 rfl hl (by decide) rfl (fun ls hl => ?_)
  refine lv_iconst (v := 0) hx hb dX2_eraseOldClaims_8 (by decide) ?_
  refine lv_istore_n (lv' := [(3, .int (0 : Int32)), (2, .int (20 : Int32)), (1, .ref (ad 7)), (0, .ref (ad 0))]) hx hb dX2_eraseOldClaims_9 rfl hl (by decide) rfl (fun ls hl => ?_)
  have lp_10 : ∀ (nn k : Nat), k ≤ 20 → 20 < k + nn → ∀ (H : Heap) (locs : List Loc) (ls : Array Slot), kW D cy base ad n nc (cEr g nc k) H → va_S (kA base) s.heap H locs → lv_has ls 5 [(3, .int (nI k)), (2, .int (20 : Int32)), (1, .ref (ad 7)), (0, .ref (ad 0))] → W p l e (kR 1 0 0) s m args below meth c H locs 0 0 Q (F0 m 10 ls []) := by
    intro nn
    induction nn with
    | zero => intro k h1 h2; exact absurd h2 (by omega)
    | succ nn ih_10 =>
      intro k hk_k hkn_k H locs ls hw hS hl
      refine lv_iload_n hx hb dX2_eraseOldClaims_10 rfl (lv_at hl 0 rfl) ?_
      refine lv_iload_n hx hb dX2_eraseOldClaims_11 rfl (lv_at hl 1 rfl) ?_
      refine lv_icmp_ge (tgt := 40) hx hb dX2_eraseOldClaims_12 (by decide) (fun c_12 => ?_) (fun c_12 => ?_)
      · have e_k : k = 20 := Nat.le_antisymm hk_k (le_nI (a := 20) (b := k) c_12 (by omega) (by omega))
        exact kx_retV hQ hx hb hr hlk hw hS (Nat.le_of_ble_eq_true rfl) (Nat.le_of_ble_eq_true rfl) dX2_eraseOldClaims_40 (kd_v (trivial) (by rw [e_k]))
      · have hlt_k : k < 20 := lt_nI (a := 20) (b := k) c_12 (by omega) (by omega)
        refine lv_aload_n hx hb dX2_eraseOldClaims_15 rfl (lv_at hl 2 rfl) ?_
        refine lv_iload_n hx hb dX2_eraseOldClaims_16 rfl (lv_at hl 0 rfl) ?_
        have hq2 : k < 20 := by omega
        rcases Nat.lt_or_ge k nc with ha1 | ha1
        · refine kx_aaldC (v := .ref (ad (200 + k))) hx hb hG hw k (nI_clamp (by omega)) (vp_in_nI (by omega) (by decide)) (by rw [show (cEr g nc k) 7 k = g 7 k from (by rw [cEr_row _ _ (by decide)]), hcr k hq2, if_pos ha1]; rfl) dX2_eraseOldClaims_17 ?_
          refine lv_astore (lv' := [(4, .ref (ad (200 + k))), (3, .int (nI k)), (2, .int (20 : Int32)), (1, .ref (ad 7)), (0, .ref (ad 0))]) hx hb dX2_eraseOldClaims_18 hl (by decide) rfl (fun ls hl => ?_)
          refine lv_aload hx hb dX2_eraseOldClaims_20 (lv_at hl 0 rfl) ?_
          refine lv_ifnull hx hb dX2_eraseOldClaims_22 ?_
          refine lv_aload hx hb dX2_eraseOldClaims_25 (lv_at hl 0 rfl) ?_
          refine lv_aload_n hx hb dX2_eraseOldClaims_27 rfl (lv_at hl 4 rfl) ?_
          refine kx_getL (v := .int ((cEr g nc k) 0 10)) hx hb hts hown hG hw i2 10 (by decide) f_47 rfl dX2_eraseOldClaims_28 ?_
          refine kx_do0 (st1 := []) (kx_cv (As := [.int ((cEr g nc k) 0 10)]) (rest := []) hF hG hw hS hl.1 (kC_C (by first | assumption | omega)) rfl (c_X0_eraseIfOld l hfl D cy base ad n nc (cEr g nc k) k ((cEr g nc k) 0 10) (by assumption)) gX2_eraseOldClaims_X0_eraseIfOld rfl rfl rfl hd_X0_eraseIfOld ⟨Nat.le_of_ble_eq_true rfl, Nat.le_of_ble_eq_true rfl⟩ rfl rfl (Nat.le_of_ble_eq_true rfl) dX2_eraseOldClaims_31 ⟨Nat.le_of_ble_eq_true rfl, Nat.le_of_ble_eq_true rfl⟩) hS rfl (fun H locs hw hS => ?_)
          refine lv_iinc (v := (nI k + (1 : Int32))) (lv' := [(3, .int (nI k + (1 : Int32))), (4, .ref (ad (200 + k))), (2, .int (20 : Int32)), (1, .ref (ad 7)), (0, .ref (ad 0))]) hx hb dX2_eraseOldClaims_34 hl (k := 1) rfl rfl (by decide) rfl (fun ls hl => ?_)
          refine lv_goto (tgt := 10) hx hb dX2_eraseOldClaims_37 (by decide) ?_
          exact ih_10 (k + 1) (by omega) (by omega) _ _ _ (show kW D cy base ad n nc (cEr g nc (k + 1)) H from (show (cErs (cEr g nc k) k ((cEr g nc k) 0 10)) = (cEr g nc (k + 1)) from by first | (simp only [cEr, if_pos (show k < nc by assumption)]; done) | (simp only [cEr, if_neg (show ¬ k < nc by omega)]; done)) ▸ hw) hS (kx_lv (l := [(3, .int (nI k + (1 : Int32))), (2, .int (20 : Int32)), (1, .ref (ad 7)), (0, .ref (ad 0))]) (l' := [(3, .int (nI (k + 1))), (2, .int (20 : Int32)), (1, .ref (ad 7)), (0, .ref (ad 0))]) (lv_sub hl [0, 2, 3, 4] rfl) (by rw [nI_1])) 
        · refine kx_aaldC (v := .null) hx hb hG hw k (nI_clamp (by omega)) (vp_in_nI (by omega) (by decide)) (by rw [show (cEr g nc k) 7 k = g 7 k from (by rw [cEr_row _ _ (by decide)]), hcr k hq2, if_neg (Nat.not_lt.mpr ha1)]; rfl) dX2_eraseOldClaims_17 ?_
          refine lv_astoreN (lv' := [(4, .null), (3, .int (nI k)), (2, .int (20 : Int32)), (1, .ref (ad 7)), (0, .ref (ad 0))]) hx hb dX2_eraseOldClaims_18 hl (by decide) rfl (fun ls hl => ?_)
          refine lv_aloadN hx hb dX2_eraseOldClaims_20 (lv_at hl 0 rfl) ?_
          refine lv_ifnullN (tgt := 34) hx hb dX2_eraseOldClaims_22 (by decide) ?_
          refine lv_iinc (v := (nI k + (1 : Int32))) (lv' := [(3, .int (nI k + (1 : Int32))), (4, .null), (2, .int (20 : Int32)), (1, .ref (ad 7)), (0, .ref (ad 0))]) hx hb dX2_eraseOldClaims_34 hl (k := 1) rfl rfl (by decide) rfl (fun ls hl => ?_)
          refine lv_goto (tgt := 10) hx hb dX2_eraseOldClaims_37 (by decide) ?_
          exact ih_10 (k + 1) (by omega) (by omega) _ _ _ (show kW D cy base ad n nc (cEr g nc (k + 1)) H from (show (cEr g nc k) = (cEr g nc (k + 1)) from by first | (simp only [cEr, if_pos (show k < nc by assumption)]; done) | (simp only [cEr, if_neg (show ¬ k < nc by omega)]; done)) ▸ hw) hS (kx_lv (l := [(3, .int (nI k + (1 : Int32))), (2, .int (20 : Int32)), (1, .ref (ad 7)), (0, .ref (ad 0))]) (l' := [(3, .int (nI (k + 1))), (2, .int (20 : Int32)), (1, .ref (ad 7)), (0, .ref (ad 0))]) (lv_sub hl [0, 2, 3, 4] rfl) (by rw [nI_1])) 
  exact lp_10 (20 + 1) 0 (by omega) (by omega) _ _ _ (hw) hS (kx_lv (l := [(3, .int (0 : Int32)), (2, .int (20 : Int32)), (1, .ref (ad 7)), (0, .ref (ad 0))]) (l' := [(3, .int (nI 0)), (2, .int (20 : Int32)), (1, .ref (ad 7)), (0, .ref (ad 0))]) (lv_sub hl [0, 1, 2, 3] rfl) (rfl)) 
