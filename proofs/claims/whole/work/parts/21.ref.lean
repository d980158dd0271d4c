/-! walks laid by wip/whole/kgen.py, kall.py -/
theorem hd_X3_near : yX3_near.cls = RX3 ∧ yX3_near.cls ≠ "java/lang/invoke/MethodHandle" ∧ yX3_near.cls ≠ "java/lang/invoke/VarHandle" ∧ (parseMethodDescriptor yX3_near.desc).map (fun d => d.parameters.length) = some 2 := by decide +kernel
set_option maxHeartbeats 4000000 in
set_option maxRecDepth 100000 in
theorem c_X3_near (l : Launch) (hfl : l.stackTraces = false) (D : va_G) (cy : Nat → ClassId) (base : Nat) (ad : Nat → Nat) (n nc : Nat) (g : sg) (w : Int32) (o : Int32) : kM l yX3_near wsX3_near (kR 2 0 0) D cy base ad n nc g [.ref (ad 9), .int w, .int o] (kD True (some (.int (b2 (decide (kd2 (inn w 0 23 && inn o 0 23) (!decide (w = o)) = 0) && (tb g 52 w o))))) ad n nc (mk (kd2 (inn w 0 23 && inn o 0 23) (!decide (w = o))) (tg (sU g 9 0 0) 52 w o) g)) kNo 0 0 := by
  refine kx_meth (cc := cX3_near) (maxL := 4) (ret := (some .boolean)) (by decide) rfl (Nat.le_of_ble_eq_true rfl) ?_
  intro p e s m args below meth c ls hx hb hr hml hown hts hlk hT hG hw0 hS0 hl Q H locs hQ hw hS hH0 hlocs0
  have hl : lv_has ls 4 [(0, .ref (ad 9)), (1, .int w), (2, .int o)] := hl
  have hown : s.vm.findClass RX3 = some m.cls := hown
  have hF : CallFix p m c cX3_near 4 s args wsX3_near RX3 := ⟨hx, hb, hml, hown, hts⟩
  have hn30 : n ≤ 30 := hw.2.2.1
  have hc20 : nc ≤ 20 := hw.2.2.2
  clear hw0 hS0 hH0 hlocs0
  have i3 : ∀ w ∈ wsX30, w ∈ wsX3_near := by decide +kernel
  have f_7 := hts (.fieldLink RX3 7 "LostroomModel" "nears" "[I") (by decide +kernel)
  refine lv_iload_n hx hb dX3_near_0 rfl (lv_at hl 1 rfl) ?_
  refine kx_do0 (st1 := [.int (b2 (inn w 0 23))]) (kx_cs (As := [.int w]) (rest := []) hF hG hw hS hl.1 (c_X3_isWord l hfl D cy base ad n nc g w ) gX3_near_X3_isWord rfl rfl rfl hd_X3_isWord ⟨Nat.le_of_ble_eq_true rfl, Nat.le_of_ble_eq_true rfl⟩ rfl rfl (Nat.le_of_ble_eq_true rfl) dX3_near_1 ⟨Nat.le_of_ble_eq_true rfl, Nat.le_of_ble_eq_true rfl⟩) hS rfl (fun H locs hw hS => ?_)
  have hj_19_0 : ∀ (H : Heap) (locs : List Loc) (ls : Array Slot), kW D cy base ad n nc g H → va_S (kA base) s.heap H locs → lv_has ls 4 [(0, .ref (ad 9)), (1, .int w), (2, .int o)] → W p l e (kR 2 0 0) s m args below meth c H locs 0 0 Q (F0 m 19 ls [.int (b2 ((inn w 0 23) && (inn o 0 23)))]) := by
    intro H locs ls hw hS hl
    refine lv_istore_n (lv' := [(3, .int (b2 ((inn w 0 23) && (inn o 0 23)))), (0, .ref (ad 9)), (1, .int w), (2, .int o)]) hx hb dX3_near_19 rfl hl (by decide) rfl (fun ls hl => ?_)
    refine lv_aload_n hx hb dX3_near_20 rfl (lv_at hl 1 rfl) ?_
    refine lv_iload_n hx hb dX3_near_21 rfl (lv_at hl 0 rfl) ?_
    have hj_39_1 : ∀ (H : Heap) (locs : List Loc) (ls : Array Slot), kW D cy base ad n nc g H → va_S (kA base) s.heap H locs → lv_has ls 4 [(3, .int (b2 ((inn w 0 23) && (inn o 0 23)))), (0, .ref (ad 9)), (1, .int w), (2, .int o)] → W p l e (kR 2 0 0) s m args below meth c H locs 0 0 Q (F0 m 39 ls [.int (kd2 (inn w 0 23 && inn o 0 23) (!decide (w = o))), .ref (ad 9)]) := by
      intro H locs ls hw hS hl
      refine kx_do0 (st1 := [.int (b2 (decide ((kd2 (inn w 0 23 && inn o 0 23) (!decide (w = o))) = 0)))]) (kx_cv (As := [.int (kd2 (inn w 0 23 && inn o 0 23) (!decide (w = o)))]) (rest := []) hF hG hw hS hl.1 kC_9 rfl (c_X3_holds l hfl D cy base ad n nc g (kd2 (inn w 0 23 && inn o 0 23) (!decide (w = o))) ) gX3_near_X3_holds rfl rfl rfl hd_X3_holds ⟨Nat.le_of_ble_eq_true rfl, Nat.le_of_ble_eq_true rfl⟩ rfl rfl (Nat.le_of_ble_eq_true rfl) dX3_near_39 ⟨Nat.le_of_ble_eq_true rfl, Nat.le_of_ble_eq_true rfl⟩) hS rfl (fun H locs hw hS => ?_)
      refine kb_ne (tgt := 47) hx hb dX3_near_42 (by decide) (fun c_42 => ?_) (fun c_42 => ?_)
      · have h0 : kd2 (inn w 0 23 && inn o 0 23) (!decide (w = o)) = 0 := of_decide_eq_true c_42
        rw [h0] at hw
        have hk := kd2_0.mp h0
        have v_w : vp_in w 24 := inn_vp (and_l (hk.1)) (by decide)
        have v_o : vp_in o 24 := inn_vp (and_r (hk.1)) (by decide)
        refine lv_aload_n hx hb dX3_near_47 rfl (lv_at hl 1 rfl) ?_
        refine kx_getM (v := .ref (ad 52)) hx hb hts hown hG hw i3 2 (by decide) f_7 rfl dX3_near_48 ?_
        refine lv_iload_n hx hb dX3_near_51 rfl (lv_at hl 2 rfl) ?_
        refine lv_dup2_11 hx hb dX3_near_52 rfl rfl ?_
        refine kx_iald (v := (g 52 w.toNatClampNeg)) hx hb hG hw (kC_I rfl) w.toNatClampNeg rfl (by first | assumption | exact ix_of (by assumption) (by assumption) rfl (by decide)) (sU_k _ _ _ _ (by omega)) dX3_near_53 ?_
        refine lv_iconst (v := 1) hx hb dX3_near_54 (by decide) ?_
        refine lv_iload_n hx hb dX3_near_55 rfl (lv_at hl 3 rfl) ?_
        refine lv_ishl hx hb dX3_near_56 ?_
        refine lv_ixor hx hb dX3_near_57 ?_
        refine kx_iast hx hb hG hw hS (fun _ => (kC_I rfl)) w.toNatClampNeg rfl (by first | assumption | exact ix_of (by assumption) (by assumption) rfl (by decide)) dX3_near_58 (fun H locs hw hS => ?_)
        refine lv_aload_n hx hb dX3_near_59 rfl (lv_at hl 1 rfl) ?_
        refine kx_getM (v := .ref (ad 52)) hx hb hts hown hG hw i3 2 (by decide) f_7 rfl dX3_near_60 ?_
        refine lv_iload_n hx hb dX3_near_63 rfl (lv_at hl 3 rfl) ?_
        refine lv_dup2_11 hx hb dX3_near_64 rfl rfl ?_
        refine kx_iald (v := ((sU (sU g 9 0 (0 : Int32)) 52 w.toNatClampNeg ((g 52 w.toNatClampNeg) ^^^ ((1 : Int32) <<< (o &&& 31)))) 52 o.toNatClampNeg)) hx hb hG hw (kC_I rfl) o.toNatClampNeg rfl (by first | assumption | exact ix_of (by assumption) (by assumption) rfl (by decide)) rfl dX3_near_65 ?_
        refine lv_iconst (v := 1) hx hb dX3_near_66 (by decide) ?_
        refine lv_iload_n hx hb dX3_near_67 rfl (lv_at hl 2 rfl) ?_
        refine lv_ishl hx hb dX3_near_68 ?_
        refine lv_ixor hx hb dX3_near_69 ?_
        refine kx_iast hx hb hG hw hS (fun _ => (kC_I rfl)) o.toNatClampNeg rfl (by first | assumption | exact ix_of (by assumption) (by assumption) rfl (by decide)) dX3_near_70 (fun H locs hw hS => ?_)
        refine lv_aload_n hx hb dX3_near_71 rfl (lv_at hl 1 rfl) ?_
        refine kx_getM (v := .ref (ad 52)) hx hb hts hown hG hw i3 2 (by decide) f_7 rfl dX3_near_72 ?_
        refine lv_iload_n hx hb dX3_near_75 rfl (lv_at hl 2 rfl) ?_
        refine kx_iald (v := ((sU (sU (sU g 9 0 (0 : Int32)) 52 w.toNatClampNeg ((g 52 w.toNatClampNeg) ^^^ ((1 : Int32) <<< (o &&& 31)))) 52 o.toNatClampNeg (((sU (sU g 9 0 (0 : Int32)) 52 w.toNatClampNeg ((g 52 w.toNatClampNeg) ^^^ ((1 : Int32) <<< (o &&& 31)))) 52 o.toNatClampNeg) ^^^ ((1 : Int32) <<< (w &&& 31)))) 52 w.toNatClampNeg)) hx hb hG hw (kC_I rfl) w.toNatClampNeg rfl (by first | assumption | exact ix_of (by assumption) (by assumption) rfl (by decide)) rfl dX3_near_76 ?_
        refine lv_iload_n hx hb dX3_near_77 rfl (lv_at hl 3 rfl) ?_
        refine lv_ishr hx hb dX3_near_78 ?_
        refine lv_iconst (v := 1) hx hb dX3_near_79 (by decide) ?_
        refine lv_iand hx hb dX3_near_80 ?_
        refine lv_iconst (v := 1) hx hb dX3_near_81 (by decide) ?_
        have hj_90_2 : ∀ (H : Heap) (locs : List Loc) (ls : Array Slot), kW D cy base ad n nc (sU (sU (sU g 9 0 (0 : Int32)) 52 w.toNatClampNeg ((g 52 w.toNatClampNeg) ^^^ ((1 : Int32) <<< (o &&& 31)))) 52 o.toNatClampNeg (((sU (sU g 9 0 (0 : Int32)) 52 w.toNatClampNeg ((g 52 w.toNatClampNeg) ^^^ ((1 : Int32) <<< (o &&& 31)))) 52 o.toNatClampNeg) ^^^ ((1 : Int32) <<< (w &&& 31)))) H → va_S (kA base) s.heap H locs → lv_has ls 4 [(3, .int (b2 ((inn w 0 23) && (inn o 0 23)))), (0, .ref (ad 9)), (1, .int w), (2, .int o)] → W p l e (kR 2 0 0) s m args below meth c H locs 0 0 Q (F0 m 90 ls [.int (b2 (decide (((((sU (sU (sU g 9 0 (0 : Int32)) 52 w.toNatClampNeg ((g 52 w.toNatClampNeg) ^^^ ((1 : Int32) <<< (o &&& 31)))) 52 o.toNatClampNeg (((sU (sU g 9 0 (0 : Int32)) 52 w.toNatClampNeg ((g 52 w.toNatClampNeg) ^^^ ((1 : Int32) <<< (o &&& 31)))) 52 o.toNatClampNeg) ^^^ ((1 : Int32) <<< (w &&& 31)))) 52 w.toNatClampNeg) >>> (o &&& 31)) &&& (1 : Int32)) = (1 : Int32))))]) := by
          intro H locs ls hw hS hl
          exact kx_retZ hQ hx hb hr hlk hw hS (Nat.le_of_ble_eq_true rfl) (Nat.le_of_ble_eq_true rfl) dX3_near_90 (nar_b2 _) (kd_i (trivial) ((zv_0 h0).trans (by have hne := cl_ne v_w v_o (by decide) (by simpa using hk.2); simp [tb, sU, hne, Ne.symm hne])) ((mk_0 h0).trans (by have hne := cl_ne v_w v_o (by decide) (by simpa using hk.2); simp [tg, sU, hne, Ne.symm hne])))
        refine lv_icmp_ne (tgt := 89) hx hb dX3_near_82 (by decide) (fun c_82 => ?_) (fun c_82 => ?_)
        · refine lv_iconst (v := 0) hx hb dX3_near_89 (by decide) ?_
          exact kx_top (v := (b2 (decide (((((sU (sU (sU g 9 0 (0 : Int32)) 52 w.toNatClampNeg ((g 52 w.toNatClampNeg) ^^^ ((1 : Int32) <<< (o &&& 31)))) 52 o.toNatClampNeg (((sU (sU g 9 0 (0 : Int32)) 52 w.toNatClampNeg ((g 52 w.toNatClampNeg) ^^^ ((1 : Int32) <<< (o &&& 31)))) 52 o.toNatClampNeg) ^^^ ((1 : Int32) <<< (w &&& 31)))) 52 w.toNatClampNeg) >>> (o &&& 31)) &&& (1 : Int32)) = (1 : Int32))))) (by first | (simp only [bq, decide_eq_false c_82, if_neg c_82]; done) | (simp only [bq, decide_eq_false c_82, if_neg c_82]; rfl) | simp [bq, decide_eq_false c_82, if_neg c_82]) (hj_90_2 _ _ _ hw hS hl)
        · refine lv_iconst (v := 1) hx hb dX3_near_85 (by decide) ?_
          refine lv_goto (tgt := 90) hx hb dX3_near_86 (by decide) ?_
          exact kx_top (v := (b2 (decide (((((sU (sU (sU g 9 0 (0 : Int32)) 52 w.toNatClampNeg ((g 52 w.toNatClampNeg) ^^^ ((1 : Int32) <<< (o &&& 31)))) 52 o.toNatClampNeg (((sU (sU g 9 0 (0 : Int32)) 52 w.toNatClampNeg ((g 52 w.toNatClampNeg) ^^^ ((1 : Int32) <<< (o &&& 31)))) 52 o.toNatClampNeg) ^^^ ((1 : Int32) <<< (w &&& 31)))) 52 w.toNatClampNeg) >>> (o &&& 31)) &&& (1 : Int32)) = (1 : Int32))))) (by first | (simp only [bq, decide_eq_true c_82, if_pos c_82]; done) | (simp only [bq, decide_eq_true c_82, if_pos c_82]; rfl) | simp [bq, decide_eq_true c_82, if_pos c_82]) (hj_90_2 _ _ _ hw hS hl)
      · have h0 : ¬ kd2 (inn w 0 23 && inn o 0 23) (!decide (w = o)) = 0 := of_decide_eq_false c_42
        refine lv_iconst (v := 0) hx hb dX3_near_45 (by decide) ?_
        exact kx_retZ hQ hx hb hr hlk hw hS (Nat.le_of_ble_eq_true rfl) (Nat.le_of_ble_eq_true rfl) dX3_near_46 rfl (kd_i (trivial) (zv_n h0) (mk_n h0))
    refine kb_ne (tgt := 29) hx hb dX3_near_22 (by decide) (fun c_22 => ?_) (fun c_22 => ?_)
    · have v_w : vp_in w 24 := inn_vp (and_l (c_22)) (by decide)
      have v_o : vp_in o 24 := inn_vp (and_r (c_22)) (by decide)
      refine lv_iload_n hx hb dX3_near_29 rfl (lv_at hl 2 rfl) ?_
      refine lv_iload_n hx hb dX3_near_30 rfl (lv_at hl 3 rfl) ?_
      refine lv_icmp_ne (tgt := 38) hx hb dX3_near_31 (by decide) (fun c_31 => ?_) (fun c_31 => ?_)
      · refine lv_iconst (v := 0) hx hb dX3_near_38 (by decide) ?_
        exact kx_top (v := (kd2 (inn w 0 23 && inn o 0 23) (!decide (w = o)))) (by first | (simp only [bq, c_22, decide_eq_false c_31, if_neg c_31]; done) | (simp only [bq, c_22, decide_eq_false c_31, if_neg c_31]; rfl) | simp [bq, c_22, decide_eq_false c_31, if_neg c_31]) (hj_39_1 _ _ _ hw hS hl)
      · refine lv_iconst (v := 2) hx hb dX3_near_34 (by decide) ?_
        refine lv_goto (tgt := 39) hx hb dX3_near_35 (by decide) ?_
        exact kx_top (v := (kd2 (inn w 0 23 && inn o 0 23) (!decide (w = o)))) (by first | (simp only [bq, c_22, decide_eq_true c_31, if_pos c_31]; done) | (simp only [bq, c_22, decide_eq_true c_31, if_pos c_31]; rfl) | simp [bq, c_22, decide_eq_true c_31, if_pos c_31]) (hj_39_1 _ _ _ hw hS hl)
    · refine lv_iconst (v := 1) hx hb dX3_near_25 (by decide) ?_
      refine lv_goto (tgt := 39) hx hb dX3_near_26 (by decide) ?_
      exact kx_top (v := (kd2 (inn w 0 23 && inn o 0 23) (!decide (w = o)))) (by first | (simp only [bq, c_22]; done) | (simp only [bq, c_22]; rfl) | simp [bq, c_22]) (hj_39_1 _ _ _ hw hS hl)
  refine kb_eq (tgt := 18) hx hb dX3_near_4 (by decide) (fun c_4 => ?_) (fun c_4 => ?_)
  · refine lv_iconst (v := 0) hx hb dX3_near_18 (by decide) ?_
    exact kx_top (v := (b2 ((inn w 0 23) && (inn o 0 23)))) (by first | (simp only [bq, c_4]; done) | (simp only [bq, c_4]; rfl) | simp [bq, c_4]) (hj_19_0 _ _ _ hw hS hl)
  · have v_w : vp_in w 24 := inn_vp (c_4) (by decide)
    refine lv_iload_n hx hb dX3_near_7 rfl (lv_at hl 2 rfl) ?_
    refine kx_do0 (st1 := [.int (b2 (inn o 0 23))]) (kx_cs (As := [.int o]) (rest := []) hF hG hw hS hl.1 (c_X3_isWord l hfl D cy base ad n nc g o ) gX3_near_X3_isWord rfl rfl rfl hd_X3_isWord ⟨Nat.le_of_ble_eq_true rfl, Nat.le_of_ble_eq_true rfl⟩ rfl rfl (Nat.le_of_ble_eq_true rfl) dX3_near_8 ⟨Nat.le_of_ble_eq_true rfl, Nat.le_of_ble_eq_true rfl⟩) hS rfl (fun H locs hw hS => ?_)
    refine kb_eq (tgt := 18) hx hb dX3_near_11 (by decide) (fun c_11 => ?_) (fun c_11 => ?_)
    · refine lv_iconst (v := 0) hx hb dX3_near_18 (by decide) ?_
      exact kx_top (v := (b2 ((inn w 0 23) && (inn o 0 23)))) (by first | (simp only [bq, c_4, c_11]; done) | (simp only [bq, c_4, c_11]; rfl) | simp [bq, c_4, c_11]) (hj_19_0 _ _ _ hw hS hl)
    · have v_o : vp_in o 24 := inn_vp (c_11) (by decide)
      refine lv_iconst (v := 1) hx hb dX3_near_14 (by decide) ?_
      refine lv_goto (tgt := 19) hx hb dX3_near_15 (by decide) ?_
      exact kx_top (v := (b2 ((inn w 0 23) && (inn o 0 23)))) (by first | (simp only [bq, c_4, c_11]; done) | (simp only [bq, c_4, c_11]; rfl) | simp [bq, c_4, c_11]) (hj_19_0 _ _ _ hw hS hl)
theorem hd_X3_alike : yX3_alike.cls = RX3 ∧ yX3_alike.cls ≠ "java/lang/invoke/MethodHandle" ∧ yX3_alike.cls ≠ "java/lang/invoke/VarHandle" ∧ (parseMethodDescriptor yX3_alike.desc).map (fun d => d.parameters.length) = some 2 := by decide +kernel
set_option maxHeartbeats 4000000 in
set_option maxRecDepth 100000 in
theorem c_X3_alike (l : Launch) (hfl : l.stackTraces = false) (D : va_G) (cy : Nat → ClassId) (base : Nat) (ad : Nat → Nat) (n nc : Nat) (g : sg) (w : Int32) (o : Int32) : kM l yX3_alike wsX3_alike (kR 2 0 0) D cy base ad n nc g [.ref (ad 9), .int w, .int o] (kD True (some (.int (b2 (decide (kd2 (inn w 0 7 && inn o 0 7) (!decide (w = o)) = 0) && (tb g 53 w o))))) ad n nc (mk (kd2 (inn w 0 7 && inn o 0 7) (!decide (w = o))) (tg (sU g 9 0 0) 53 w o) g)) kNo 0 0 := by
  refine kx_meth (cc := cX3_alike) (maxL := 4) (ret := (some .boolean)) (by decide) rfl (Nat.le_of_ble_eq_true rfl) ?_
  intro p e s m args below meth c ls hx hb hr hml hown hts hlk hT hG hw0 hS0 hl Q H locs hQ hw hS hH0 hlocs0
  have hl : lv_has ls 4 [(0, .ref (ad 9)), (1, .int w), (2, .int o)] := hl
  have hown : s.vm.findClass RX3 = some m.cls := hown
  have hF : CallFix p m c cX3_alike 4 s args wsX3_alike RX3 := ⟨hx, hb, hml, hown, hts⟩
  have hn30 : n ≤ 30 := hw.2.2.1
  have hc20 : nc ≤ 20 := hw.2.2.2
  clear hw0 hS0 hH0 hlocs0
  have i3 : ∀ w ∈ wsX30, w ∈ wsX3_alike := by decide +kernel
  have f_13 := hts (.fieldLink RX3 13 "LostroomModel" "alikes" "[I") (by decide +kernel)
  refine lv_iload_n hx hb dX3_alike_0 rfl (lv_at hl 1 rfl) ?_
  refine kx_do0 (st1 := [.int (b2 (inn w 0 7))]) (kx_cs (As := [.int w]) (rest := []) hF hG hw hS hl.1 (c_X3_isKind l hfl D cy base ad n nc g w ) gX3_alike_X3_isKind rfl rfl rfl hd_X3_isKind ⟨Nat.le_of_ble_eq_true rfl, Nat.le_of_ble_eq_true rfl⟩ rfl rfl (Nat.le_of_ble_eq_true rfl) dX3_alike_1 ⟨Nat.le_of_ble_eq_true rfl, Nat.le_of_ble_eq_true rfl⟩) hS rfl (fun H locs hw hS => ?_)
  have hj_19_0 : ∀ (H : Heap) (locs : List Loc) (ls : Array Slot), kW D cy base ad n nc g H → va_S (kA base) s.heap H locs → lv_has ls 4 [(0, .ref (ad 9)), (1, .int w), (2, .int o)] → W p l e (kR 2 0 0) s m args below meth c H locs 0 0 Q (F0 m 19 ls [.int (b2 ((inn w 0 7) && (inn o 0 7)))]) := by
    intro H locs ls hw hS hl
    refine lv_istore_n (lv' := [(3, .int (b2 ((inn w 0 7) && (inn o 0 7)))), (0, .ref (ad 9)), (1, .int w), (2, .int o)]) hx hb dX3_alike_19 rfl hl (by decide) rfl (fun ls hl => ?_)
    refine lv_aload_n hx hb dX3_alike_20 rfl (lv_at hl 1 rfl) ?_
    refine lv_iload_n hx hb dX3_alike_21 rfl (lv_at hl 0 rfl) ?_
    have hj_39_1 : ∀ (H : Heap) (locs : List Loc) (ls : Array Slot), kW D cy base ad n nc g H → va_S (kA base) s.heap H locs → lv_has ls 4 [(3, .int (b2 ((inn w 0 7) && (inn o 0 7)))), (0, .ref (ad 9)), (1, .int w), (2, .int o)] → W p l e (kR 2 0 0) s m args below meth c H locs 0 0 Q (F0 m 39 ls [.int (kd2 (inn w 0 7 && inn o 0 7) (!decide (w = o))), .ref (ad 9)]) := by
      intro H locs ls hw hS hl
      refine kx_do0 (st1 := [.int (b2 (decide ((kd2 (inn w 0 7 && inn o 0 7) (!decide (w = o))) = 0)))]) (kx_cv (As := [.int (kd2 (inn w 0 7 && inn o 0 7) (!decide (w = o)))]) (rest := []) hF hG hw hS hl.1 kC_9 rfl (c_X3_holds l hfl D cy base ad n nc g (kd2 (inn w 0 7 && inn o 0 7) (!decide (w = o))) ) gX3_alike_X3_holds rfl rfl rfl hd_X3_holds ⟨Nat.le_of_ble_eq_true rfl, Nat.le_of_ble_eq_true rfl⟩ rfl rfl (Nat.le_of_ble_eq_true rfl) dX3_alike_39 ⟨Nat.le_of_ble_eq_true rfl, Nat.le_of_ble_eq_true rfl⟩) hS rfl (fun H locs hw hS => ?_)
      refine kb_ne (tgt := 47) hx hb dX3_alike_42 (by decide) (fun c_42 => ?_) (fun c_42 => ?_)
      · have h0 : kd2 (inn w 0 7 && inn o 0 7) (!decide (w = o)) = 0 := of_decide_eq_true c_42
        rw [h0] at hw
        have hk := kd2_0.mp h0
        have v_w : vp_in w 8 := inn_vp (and_l (hk.1)) (by decide)
        have v_o : vp_in o 8 := inn_vp (and_r (hk.1)) (by decide)
        refine lv_aload_n hx hb dX3_alike_47 rfl (lv_at hl 1 rfl) ?_
        refine kx_getM (v := .ref (ad 53)) hx hb hts hown hG hw i3 3 (by decide) f_13 rfl dX3_alike_48 ?_
        refine lv_iload_n hx hb dX3_alike_51 rfl (lv_at hl 2 rfl) ?_
        refine lv_dup2_11 hx hb dX3_alike_52 rfl rfl ?_
        refine kx_iald (v := (g 53 w.toNatClampNeg)) hx hb hG hw (kC_I rfl) w.toNatClampNeg rfl (by first | assumption | exact ix_of (by assumption) (by assumption) rfl (by decide)) (sU_k _ _ _ _ (by omega)) dX3_alike_53 ?_
        refine lv_iconst (v := 1) hx hb dX3_alike_54 (by decide) ?_
        refine lv_iload_n hx hb dX3_alike_55 rfl (lv_at hl 3 rfl) ?_
        refine lv_ishl hx hb dX3_alike_56 ?_
        refine lv_ixor hx hb dX3_alike_57 ?_
        refine kx_iast hx hb hG hw hS (fun _ => (kC_I rfl)) w.toNatClampNeg rfl (by first | assumption | exact ix_of (by assumption) (by assumption) rfl (by decide)) dX3_alike_58 (fun H locs hw hS => ?_)
        refine lv_aload_n hx hb dX3_alike_59 rfl (lv_at hl 1 rfl) ?_
        refine kx_getM (v := .ref (ad 53)) hx hb hts hown hG hw i3 3 (by decide) f_13 rfl dX3_alike_60 ?_
        refine lv_iload_n hx hb dX3_alike_63 rfl (lv_at hl 3 rfl) ?_
        refine lv_dup2_11 hx hb dX3_alike_64 rfl rfl ?_
        refine kx_iald (v := ((sU (sU g 9 0 (0 : Int32)) 53 w.toNatClampNeg ((g 53 w.toNatClampNeg) ^^^ ((1 : Int32) <<< (o &&& 31)))) 53 o.toNatClampNeg)) hx hb hG hw (kC_I rfl) o.toNatClampNeg rfl (by first | assumption | exact ix_of (by assumption) (by assumption) rfl (by decide)) rfl dX3_alike_65 ?_
        refine lv_iconst (v := 1) hx hb dX3_alike_66 (by decide) ?_
        refine lv_iload_n hx hb dX3_alike_67 rfl (lv_at hl 2 rfl) ?_
        refine lv_ishl hx hb dX3_alike_68 ?_
        refine lv_ixor hx hb dX3_alike_69 ?_
        refine kx_iast hx hb hG hw hS (fun _ => (kC_I rfl)) o.toNatClampNeg rfl (by first | assumption | exact ix_of (by assumption) (by assumption) rfl (by decide)) dX3_alike_70 (fun H locs hw hS => ?_)
        refine lv_aload_n hx hb dX3_alike_71 rfl (lv_at hl 1 rfl) ?_
        refine kx_getM (v := .ref (ad 53)) hx hb hts hown hG hw i3 3 (by decide) f_13 rfl dX3_alike_72 ?_
        refine lv_iload_n hx hb dX3_alike_75 rfl (lv_at hl 2 rfl) ?_
        refine kx_iald (v := ((sU (sU (sU g 9 0 (0 : Int32)) 53 w.toNatClampNeg ((g 53 w.toNatClampNeg) ^^^ ((1 : Int32) <<< (o &&& 31)))) 53 o.toNatClampNeg (((sU (sU g 9 0 (0 : Int32)) 53 w.toNatClampNeg ((g 53 w.toNatClampNeg) ^^^ ((1 : Int32) <<< (o &&& 31)))) 53 o.toNatClampNeg) ^^^ ((1 : Int32) <<< (w &&& 31)))) 53 w.toNatClampNeg)) hx hb hG hw (kC_I rfl) w.toNatClampNeg rfl (by first | assumption | exact ix_of (by assumption) (by assumption) rfl (by decide)) rfl dX3_alike_76 ?_
        refine lv_iload_n hx hb dX3_alike_77 rfl (lv_at hl 3 rfl) ?_
        refine lv_ishr hx hb dX3_alike_78 ?_
        refine lv_iconst (v := 1) hx hb dX3_alike_79 (by decide) ?_
        refine lv_iand hx hb dX3_alike_80 ?_
        refine lv_iconst (v := 1) hx hb dX3_alike_81 (by decide) ?_
        have hj_90_2 : ∀ (H : Heap) (locs : List Loc) (ls : Array Slot), kW D cy base ad n nc (sU (sU (sU g 9 0 (0 : Int32)) 53 w.toNatClampNeg ((g 53 w.toNatClampNeg) ^^^ ((1 : Int32) <<< (o &&& 31)))) 53 o.toNatClampNeg (((sU (sU g 9 0 (0 : Int32)) 53 w.toNatClampNeg ((g 53 w.toNatClampNeg) ^^^ ((1 : Int32) <<< (o &&& 31)))) 53 o.toNatClampNeg) ^^^ ((1 : Int32) <<< (w &&& 31)))) H → va_S (kA base) s.heap H locs → lv_has ls 4 [(3, .int (b2 ((inn w 0 7) && (inn o 0 7)))), (0, .ref (ad 9)), (1, .int w), (2, .int o)] → W p l e (kR 2 0 0) s m args below meth c H locs 0 0 Q (F0 m 90 ls [.int (b2 (decide (((((sU (sU (sU g 9 0 (0 : Int32)) 53 w.toNatClampNeg ((g 53 w.toNatClampNeg) ^^^ ((1 : Int32) <<< (o &&& 31)))) 53 o.toNatClampNeg (((sU (sU g 9 0 (0 : Int32)) 53 w.toNatClampNeg ((g 53 w.toNatClampNeg) ^^^ ((1 : Int32) <<< (o &&& 31)))) 53 o.toNatClampNeg) ^^^ ((1 : Int32) <<< (w &&& 31)))) 53 w.toNatClampNeg) >>> (o &&& 31)) &&& (1 : Int32)) = (1 : Int32))))]) := by
          intro H locs ls hw hS hl
          exact kx_retZ hQ hx hb hr hlk hw hS (Nat.le_of_ble_eq_true rfl) (Nat.le_of_ble_eq_true rfl) dX3_alike_90 (nar_b2 _) (kd_i (trivial) ((zv_0 h0).trans (by have hne := cl_ne v_w v_o (by decide) (by simpa using hk.2); simp [tb, sU, hne, Ne.symm hne])) ((mk_0 h0).trans (by have hne := cl_ne v_w v_o (by decide) (by simpa using hk.2); simp [tg, sU, hne, Ne.symm hne])))
        refine lv_icmp_ne (tgt := 89) hx hb dX3_alike_82 (by decide) (fun c_82 => ?_) (fun c_82 => ?_)
        · refine lv_iconst (v := 0) hx hb dX3_alike_89 (by decide) ?_
          exact kx_top (v := (b2 (decide (((((sU (sU (sU g 9 0 (0 : Int32)) 53 w.toNatClampNeg ((g 53 w.toNatClampNeg) ^^^ ((1 : Int32) <<< (o &&& 31)))) 53 o.toNatClampNeg (((sU (sU g 9 0 (0 : Int32)) 53 w.toNatClampNeg ((g 53 w.toNatClampNeg) ^^^ ((1 : Int32) <<< (o &&& 31)))) 53 o.toNatClampNeg) ^^^ ((1 : Int32) <<< (w &&& 31)))) 53 w.toNatClampNeg) >>> (o &&& 31)) &&& (1 : Int32)) = (1 : Int32))))) (by first | (simp only [bq, decide_eq_false c_82, if_neg c_82]; done) | (simp only [bq, decide_eq_false c_82, if_neg c_82]; rfl) | simp [bq, decide_eq_false c_82, if_neg c_82]) (hj_90_2 _ _ _ hw hS hl)
        · refine lv_iconst (v := 1) hx hb dX3_alike_85 (by decide) ?_
          refine lv_goto (tgt := 90) hx hb dX3_alike_86 (by decide) ?_
          exact kx_top (v := (b2 (decide (((((sU (sU (sU g 9 0 (0 : Int32)) 53 w.toNatClampNeg ((g 53 w.toNatClampNeg) ^^^ ((1 : Int32) <<< (o &&& 31)))) 53 o.toNatClampNeg (((sU (sU g 9 0 (0 : Int32)) 53 w.toNatClampNeg ((g 53 w.toNatClampNeg) ^^^ ((1 : Int32) <<< (o &&& 31)))) 53 o.toNatClampNeg) ^^^ ((1 : Int32) <<< (w &&& 31)))) 53 w.toNatClampNeg) >>> (o &&& 31)) &&& (1 : Int32)) = (1 : Int32))))) (by first | (simp only [bq, decide_eq_true c_82, if_pos c_82]; done) | (simp only [bq, decide_eq_true c_82, if_pos c_82]; rfl) | simp [bq, decide_eq_true c_82, if_pos c_82]) (hj_90_2 _ _ _ hw hS hl)
      · have h0 : ¬ kd2 (inn w 0 7 && inn o 0 7) (!decide (w = o)) = 0 := of_decide_eq_false c_42
        refine lv_iconst (v := 0) hx hb dX3_alike_45 (by decide) ?_
        exact kx_retZ hQ hx hb hr hlk hw hS (Nat.le_of_ble_eq_true rfl) (Nat.le_of_ble_eq_true rfl) dX3_alike_46 rfl (kd_i (trivial) (zv_n h0) (mk_n h0))
    refine kb_ne (tgt := 29) hx hb dX3_alike_22 (by decide) (fun c_22 => ?_) (fun c_22 => ?_)
    · have v_w : vp_in w 8 := inn_vp (and_l (c_22)) (by decide)
      have v_o : vp_in o 8 := inn_vp (and_r (c_22)) (by decide)
      refine lv_iload_n hx hb dX3_alike_29 rfl (lv_at hl 2 rfl) ?_
      refine lv_iload_n hx hb dX3_alike_30 rfl (lv_at hl 3 rfl) ?_
      refine lv_icmp_ne (tgt := 38) hx hb dX3_alike_31 (by decide) (fun c_31 => ?_) (fun c_31 => ?_)
      · refine lv_iconst (v := 0) hx hb dX3_alike_38 (by decide) ?_
        exact kx_top (v := (kd2 (inn w 0 7 && inn o 0 7) (!decide (w = o)))) (by first | (simp only [bq, c_22, decide_eq_false c_31, if_neg c_31]; done) | (simp only [bq, c_22, decide_eq_false c_31, if_neg c_31]; rfl) | simp [bq, c_22, decide_eq_false c_31, if_neg c_31]) (hj_39_1 _ _ _ hw hS hl)
      · refine lv_iconst (v := 2) hx hb dX3_alike_34 (by decide) ?_
        refine lv_goto (tgt := 39) hx hb dX3_alike_35 (by decide) ?_
        exact kx_top (v := (kd2 (inn w 0 7 && inn o 0 7) (!decide (w = o)))) (by first | (simp only [bq, c_22, decide_eq_true c_31, if_pos c_31]; done) | (simp only [bq, c_22, decide_eq_true c_31, if_pos c_31]; rfl) | simp [bq, c_22, decide_eq_true c_31, if_pos c_31]) (hj_39_1 _ _ _ hw hS hl)
    · refine lv_iconst (v := 1) hx hb dX3_alike_25 (by decide) ?_
      refine lv_goto (tgt := 39) hx hb dX3_alike_26 (by decide) ?_
      exact kx_top (v := (kd2 (inn w 0 7 && inn o 0 7) (!decide (w = o)))) (by first | (simp only [bq, c_22]; done) | (simp only [bq, c_22]; rfl) | simp [bq, c_22]) (hj_39_1 _ _ _ hw hS hl)
  refine kb_eq (tgt := 18) hx hb dX3_alike_4 (by decide) (fun c_4 => ?_) (fun c_4 => ?_)
  · refine lv_iconst (v := 0) hx hb dX3_alike_18 (by decide) ?_
    exact kx_top (v := (b2 ((inn w 0 7) && (inn o 0 7)))) (by first | (simp only [bq, c_4]; done) | (simp only [bq, c_4]; rfl) | simp [bq, c_4]) (hj_19_0 _ _ _ hw hS hl)
  · have v_w : vp_in w 8 := inn_vp (c_4) (by decide)
    refine lv_iload_n hx hb dX3_alike_7 rfl (lv_at hl 2 rfl) ?_
    refine kx_do0 (st1 := [.int (b2 (inn o 0 7))]) (kx_cs (As := [.int o]) (rest := []) hF hG hw hS hl.1 (c_X3_isKind l hfl D cy base ad n nc g o ) gX3_alike_X3_isKind rfl rfl rfl hd_X3_isKind ⟨Nat.le_of_ble_eq_true rfl, Nat.le_of_ble_eq_true rfl⟩ rfl rfl (Nat.le_of_ble_eq_true rfl) dX3_alike_8 ⟨Nat.le_of_ble_eq_true rfl, Nat.le_of_ble_eq_true rfl⟩) hS rfl (fun H locs hw hS => ?_)
    refine kb_eq (tgt := 18) hx hb dX3_alike_11 (by decide) (fun c_11 => ?_) (fun c_11 => ?_)
    · refine lv_iconst (v := 0) hx hb dX3_alike_18 (by decide) ?_
      exact kx_top (v := (b2 ((inn w 0 7) && (inn o 0 7)))) (by first | (simp only [bq, c_4, c_11]; done) | (simp only [bq, c_4, c_11]; rfl) | simp [bq, c_4, c_11]) (hj_19_0 _ _ _ hw hS hl)
    · have v_o : vp_in o 8 := inn_vp (c_11) (by decide)
      refine lv_iconst (v := 1) hx hb dX3_alike_14 (by decide) ?_
      refine lv_goto (tgt := 19) hx hb dX3_alike_15 (by decide) ?_
      exact kx_top (v := (b2 ((inn w 0 7) && (inn o 0 7)))) (by first | (simp only [bq, c_4, c_11]; done) | (simp only [bq, c_4, c_11]; rfl) | simp [bq, c_4, c_11]) (hj_19_0 _ _ _ hw hS hl)
theorem hd_X3_rule : yX3_rule.cls = RX3 ∧ yX3_rule.cls ≠ "java/lang/invoke/MethodHandle" ∧ yX3_rule.cls ≠ "java/lang/invoke/VarHandle" ∧ (parseMethodDescriptor yX3_rule.desc).map (fun d => d.parameters.length) = some 3 := by decide +kernel
set_option maxHeartbeats 4000000 in
set_option maxRecDepth 100000 in
theorem c_X3_rule (l : Launch) (hfl : l.stackTraces = false) (D : va_G) (cy : Nat → ClassId) (base : Nat) (ad : Nat → Nat) (n nc : Nat) (g : sg) (k : Int32) (t : Int32) (r : Int32) : kM l yX3_rule wsX3_rule (kR 2 0 0) D cy base ad n nc g [.ref (ad 9), .int k, .int t, .int r] (kD True (some (.int (rv (kd2 (inn k 0 7) (inn t 1 400 && inn r 0 50)) (g 54 k.toNatClampNeg)))) ad n nc (mk (kd2 (inn k 0 7) (inn t 1 400 && inn r 0 50)) (sU (sU (sU g 9 0 0) 54 k.toNatClampNeg t) 55 k.toNatClampNeg r) g)) kNo 0 0 := by
  refine kx_meth (cc := cX3_rule) (maxL := 5) (ret := (some .int)) (by decide) rfl (Nat.le_of_ble_eq_true rfl) ?_
  intro p e s m args below meth c ls hx hb hr hml hown hts hlk hT hG hw0 hS0 hl Q H locs hQ hw hS hH0 hlocs0
  have hl : lv_has ls 5 [(0, .ref (ad 9)), (1, .int k), (2, .int t), (3, .int r)] := hl
  have hown : s.vm.findClass RX3 = some m.cls := hown
  have hF : CallFix p m c cX3_rule 5 s args wsX3_rule RX3 := ⟨hx, hb, hml, hown, hts⟩
  have hn30 : n ≤ 30 := hw.2.2.1
  have hc20 : nc ≤ 20 := hw.2.2.2
  clear hw0 hS0 hH0 hlocs0
  have i3 : ∀ w ∈ wsX30, w ∈ wsX3_rule := by decide +kernel
  have f_16 := hts (.fieldLink RX3 16 "LostroomModel" "terms" "[I") (by decide +kernel)
  have f_19 := hts (.fieldLink RX3 19 "LostroomModel" "rates" "[I") (by decide +kernel)
  refine lv_aload_n hx hb dX3_rule_0 rfl (lv_at hl 0 rfl) ?_
  refine lv_iload_n hx hb dX3_rule_1 rfl (lv_at hl 1 rfl) ?_
  refine kx_do0 (st1 := [.int (b2 (inn k 0 7)), .ref (ad 9)]) (kx_cs (As := [.int k]) (rest := [.ref (ad 9)]) hF hG hw hS hl.1 (c_X3_isKind l hfl D cy base ad n nc g k ) gX3_rule_X3_isKind rfl rfl rfl hd_X3_isKind ⟨Nat.le_of_ble_eq_true rfl, Nat.le_of_ble_eq_true rfl⟩ rfl rfl (Nat.le_of_ble_eq_true rfl) dX3_rule_2 ⟨Nat.le_of_ble_eq_true rfl, Nat.le_of_ble_eq_true rfl⟩) hS rfl (fun H locs hw hS => ?_)
  have hj_38_0 : ∀ (H : Heap) (locs : List Loc) (ls : Array Slot), kW D cy base ad n nc g H → va_S (kA base) s.heap H locs → lv_has ls 5 [(0, .ref (ad 9)), (1, .int k), (2, .int t), (3, .int r)] → W p l e (kR 2 0 0) s m args below meth c H locs 0 0 Q (F0 m 38 ls [.int (kd2 (inn k 0 7) (inn t 1 400 && inn r 0 50)), .ref (ad 9)]) := by
    intro H locs ls hw hS hl
    refine kx_do0 (st1 := [.int (b2 (decide ((kd2 (inn k 0 7) (inn t 1 400 && inn r 0 50)) = 0)))]) (kx_cv (As := [.int (kd2 (inn k 0 7) (inn t 1 400 && inn r 0 50))]) (rest := []) hF hG hw hS hl.1 kC_9 rfl (c_X3_holds l hfl D cy base ad n nc g (kd2 (inn k 0 7) (inn t 1 400 && inn r 0 50)) ) gX3_rule_X3_holds rfl rfl rfl hd_X3_holds ⟨Nat.le_of_ble_eq_true rfl, Nat.le_of_ble_eq_true rfl⟩ rfl rfl (Nat.le_of_ble_eq_true rfl) dX3_rule_38 ⟨Nat.le_of_ble_eq_true rfl, Nat.le_of_ble_eq_true rfl⟩) hS rfl (fun H locs hw hS => ?_)
    refine kb_ne (tgt := 46) hx hb dX3_rule_41 (by decide) (fun c_41 => ?_) (fun c_41 => ?_)
    · have h0 : kd2 (inn k 0 7) (inn t 1 400 && inn r 0 50) = 0 := of_decide_eq_true c_41
      rw [h0] at hw
      have hk := kd2_0.mp h0
      have v_k : vp_in k 8 := inn_vp (hk.1) (by decide)
      have v_r : vp_in r 51 := inn_vp (and_r (hk.2)) (by decide)
      refine lv_aload_n hx hb dX3_rule_46 rfl (lv_at hl 0 rfl) ?_
      refine kx_getM (v := .ref (ad 54)) hx hb hts hown hG hw i3 4 (by decide) f_16 rfl dX3_rule_47 ?_
      refine lv_iload_n hx hb dX3_rule_50 rfl (lv_at hl 1 rfl) ?_
      refine kx_iald (v := (g 54 k.toNatClampNeg)) hx hb hG hw (kC_I rfl) k.toNatClampNeg rfl (by first | assumption | exact ix_of (by assumption) (by assumption) rfl (by decide)) (sU_k _ _ _ _ (by omega)) dX3_rule_51 ?_
      refine lv_istore (lv' := [(4, .int (g 54 k.toNatClampNeg)), (0, .ref (ad 9)), (1, .int k), (2, .int t), (3, .int r)]) hx hb dX3_rule_52 hl (by decide) rfl (fun ls hl => ?_)
      refine lv_aload_n hx hb dX3_rule_54 rfl (lv_at hl 1 rfl) ?_
      refine kx_getM (v := .ref (ad 54)) hx hb hts hown hG hw i3 4 (by decide) f_16 rfl dX3_rule_55 ?_
      refine lv_iload_n hx hb dX3_rule_58 rfl (lv_at hl 2 rfl) ?_
      refine lv_iload_n hx hb dX3_rule_59 rfl (lv_at hl 3 rfl) ?_
      refine kx_iast hx hb hG hw hS (fun _ => (kC_I rfl)) k.toNatClampNeg rfl (by first | assumption | exact ix_of (by assumption) (by assumption) rfl (by decide)) dX3_rule_60 (fun H locs hw hS => ?_)
      refine lv_aload_n hx hb dX3_rule_61 rfl (lv_at hl 1 rfl) ?_
      refine kx_getM (v := .ref (ad 55)) hx hb hts hown hG hw i3 5 (by decide) f_19 rfl dX3_rule_62 ?_
      refine lv_iload_n hx hb dX3_rule_65 rfl (lv_at hl 2 rfl) ?_
      refine lv_iload_n hx hb dX3_rule_66 rfl (lv_at hl 4 rfl) ?_
      refine kx_iast hx hb hG hw hS (fun _ => (kC_I rfl)) k.toNatClampNeg rfl (by first | assumption | exact ix_of (by assumption) (by assumption) rfl (by decide)) dX3_rule_67 (fun H locs hw hS => ?_)
      refine lv_iload hx hb dX3_rule_68 (lv_at hl 0 rfl) ?_
      exact kx_retI hQ hx hb hr hlk hw hS (Nat.le_of_ble_eq_true rfl) (Nat.le_of_ble_eq_true rfl) dX3_rule_70 (kd_i (trivial) ((rv_0 h0).trans (by rfl)) ((mk_0 h0).trans (by rfl)))
    · have h0 : ¬ kd2 (inn k 0 7) (inn t 1 400 && inn r 0 50) = 0 := of_decide_eq_false c_41
      refine lv_iconst (v := 0) hx hb dX3_rule_44 (by decide) ?_
      exact kx_retI hQ hx hb hr hlk hw hS (Nat.le_of_ble_eq_true rfl) (Nat.le_of_ble_eq_true rfl) dX3_rule_45 (kd_i (trivial) (rv_n h0) (mk_n h0))
  refine kb_ne (tgt := 12) hx hb dX3_rule_5 (by decide) (fun c_5 => ?_) (fun c_5 => ?_)
  · have v_k : vp_in k 8 := inn_vp (c_5) (by decide)
    refine lv_iload_n hx hb dX3_rule_12 rfl (lv_at hl 2 rfl) ?_
    refine lv_iconst (v := 1) hx hb dX3_rule_13 (by decide) ?_
    refine lv_sipush (v := 400) hx hb dX3_rule_14 (by decide) ?_
    refine kx_do0 (st1 := [.int (b2 (inn t (1 : Int32) (400 : Int32))), .ref (ad 9)]) (kx_cs (As := [.int t, .int (1 : Int32), .int (400 : Int32)]) (rest := [.ref (ad 9)]) hF hG hw hS hl.1 (c_X3_in l hfl D cy base ad n nc g t (1 : Int32) (400 : Int32) ) gX3_rule_X3_in rfl rfl rfl hd_X3_in ⟨Nat.le_of_ble_eq_true rfl, Nat.le_of_ble_eq_true rfl⟩ rfl rfl (Nat.le_of_ble_eq_true rfl) dX3_rule_17 ⟨Nat.le_of_ble_eq_true rfl, Nat.le_of_ble_eq_true rfl⟩) hS rfl (fun H locs hw hS => ?_)
    refine kb_eq (tgt := 37) hx hb dX3_rule_20 (by decide) (fun c_20 => ?_) (fun c_20 => ?_)
    · refine lv_iconst (v := 2) hx hb dX3_rule_37 (by decide) ?_
      exact kx_top (v := (kd2 (inn k 0 7) (inn t 1 400 && inn r 0 50))) (by first | (simp only [bq, c_5, c_20]; done) | (simp only [bq, c_5, c_20]; rfl) | simp [bq, c_5, c_20]) (hj_38_0 _ _ _ hw hS hl)
    · refine lv_iload_n hx hb dX3_rule_23 rfl (lv_at hl 3 rfl) ?_
      refine lv_iconst (v := 0) hx hb dX3_rule_24 (by decide) ?_
      refine lv_bipush (v := 50) hx hb dX3_rule_25 (by decide) ?_
      refine kx_do0 (st1 := [.int (b2 (inn r (0 : Int32) (50 : Int32))), .ref (ad 9)]) (kx_cs (As := [.int r, .int (0 : Int32), .int (50 : Int32)]) (rest := [.ref (ad 9)]) hF hG hw hS hl.1 (c_X3_in l hfl D cy base ad n nc g r (0 : Int32) (50 : Int32) ) gX3_rule_X3_in rfl rfl rfl hd_X3_in ⟨Nat.le_of_ble_eq_true rfl, Nat.le_of_ble_eq_true rfl⟩ rfl rfl (Nat.le_of_ble_eq_true rfl) dX3_rule_27 ⟨Nat.le_of_ble_eq_true rfl, Nat.le_of_ble_eq_true rfl⟩) hS rfl (fun H locs hw hS => ?_)
      refine kb_eq (tgt := 37) hx hb dX3_rule_30 (by decide) (fun c_30 => ?_) (fun c_30 => ?_)
      · refine lv_iconst (v := 2) hx hb dX3_rule_37 (by decide) ?_
        exact kx_top (v := (kd2 (inn k 0 7) (inn t 1 400 && inn r 0 50))) (by first | (simp only [bq, c_5, c_20, c_30]; done) | (simp only [bq, c_5, c_20, c_30]; rfl) | simp [bq, c_5, c_20, c_30]) (hj_38_0 _ _ _ hw hS hl)
      · have v_r : vp_in r 51 := inn_vp (c_30) (by decide)
        refine lv_iconst (v := 0) hx hb dX3_rule_33 (by decide) ?_
        refine lv_goto (tgt := 38) hx hb dX3_rule_34 (by decide) ?_
        exact kx_top (v := (kd2 (inn k 0 7) (inn t 1 400 && inn r 0 50))) (by first | (simp only [bq, c_5, c_20, c_30]; done) | (simp only [bq, c_5, c_20, c_30]; rfl) | simp [bq, c_5, c_20, c_30]) (hj_38_0 _ _ _ hw hS hl)
  · refine lv_iconst (v := 1) hx hb dX3_rule_8 (by decide) ?_
    refine lv_goto (tgt := 38) hx hb dX3_rule_9 (by decide) ?_
    exact kx_top (v := (kd2 (inn k 0 7) (inn t 1 400 && inn r 0 50))) (by first | (simp only [bq, c_5]; done) | (simp only [bq, c_5]; rfl) | simp [bq, c_5]) (hj_38_0 _ _ _ hw hS hl)
theorem hd_X3_stop : yX3_stop.cls = RX3 ∧ yX3_stop.cls ≠ "java/lang/invoke/MethodHandle" ∧ yX3_stop.cls ≠ "java/lang/invoke/VarHandle" ∧ (parseMethodDescriptor yX3_stop.desc).map (fun d => d.parameters.length) = some 2 := by decide +kernel
set_option maxHeartbeats 4000000 in
set_option maxRecDepth 100000 in
theorem c_X3_stop (l : Launch) (hfl : l.stackTraces = false) (D : va_G) (cy : Nat → ClassId) (base : Nat) (ad : Nat → Nat) (n nc : Nat) (g : sg) (t : Int32) (r : Int32) : kM l yX3_stop wsX3_stop (kR 2 0 0) D cy base ad n nc g [.ref (ad 9), .int t, .int r] (kD True (some (.int (rv (kd2 (inn t 0 3 && inn r 0 5) (!bq (g 56 t.toNatClampNeg) r)) (bits (g 56 t.toNatClampNeg ||| ((1 : Int32) <<< (r &&& 31))))))) ad n nc (mk (kd2 (inn t 0 3 && inn r 0 5) (!bq (g 56 t.toNatClampNeg) r)) (sU (sU g 9 0 0) 56 t.toNatClampNeg (g 56 t.toNatClampNeg ||| ((1 : Int32) <<< (r &&& 31)))) g)) kNo 0 0 := by
  refine kx_meth (cc := cX3_stop) (maxL := 4) (ret := (some .int)) (by decide) rfl (Nat.le_of_ble_eq_true rfl) ?_
  intro p e s m args below meth c ls hx hb hr hml hown hts hlk hT hG hw0 hS0 hl Q H locs hQ hw hS hH0 hlocs0
  have hl : lv_has ls 4 [(0, .ref (ad 9)), (1, .int t), (2, .int r)] := hl
  have hown : s.vm.findClass RX3 = some m.cls := hown
  have hF : CallFix p m c cX3_stop 4 s args wsX3_stop RX3 := ⟨hx, hb, hml, hown, hts⟩
  have hn30 : n ≤ 30 := hw.2.2.1
  have hc20 : nc ≤ 20 := hw.2.2.2
  clear hw0 hS0 hH0 hlocs0
  have i3 : ∀ w ∈ wsX30, w ∈ wsX3_stop := by decide +kernel
  have f_22 := hts (.fieldLink RX3 22 "LostroomModel" "stops" "[I") (by decide +kernel)
  refine lv_iload_n hx hb dX3_stop_0 rfl (lv_at hl 1 rfl) ?_
  refine lv_iconst (v := 0) hx hb dX3_stop_1 (by decide) ?_
  refine lv_iconst (v := 3) hx hb dX3_stop_2 (by decide) ?_
  refine kx_do0 (st1 := [.int (b2 (inn t (0 : Int32) (3 : Int32)))]) (kx_cs (As := [.int t, .int (0 : Int32), .int (3 : Int32)]) (rest := []) hF hG hw hS hl.1 (c_X3_in l hfl D cy base ad n nc g t (0 : Int32) (3 : Int32) ) gX3_stop_X3_in rfl rfl rfl hd_X3_in ⟨Nat.le_of_ble_eq_true rfl, Nat.le_of_ble_eq_true rfl⟩ rfl rfl (Nat.le_of_ble_eq_true rfl) dX3_stop_3 ⟨Nat.le_of_ble_eq_true rfl, Nat.le_of_ble_eq_true rfl⟩) hS rfl (fun H locs hw hS => ?_)
  have hj_21_0 : ∀ (H : Heap) (locs : List Loc) (ls : Array Slot), kW D cy base ad n nc g H → va_S (kA base) s.heap H locs → lv_has ls 4 [(0, .ref (ad 9)), (1, .int t), (2, .int r)] → W p l e (kR 2 0 0) s m args below meth c H locs 0 0 Q (F0 m 21 ls [.int (b2 ((inn t (0 : Int32) (3 : Int32)) && (inn r 0 5)))]) := by
    intro H locs ls hw hS hl
    refine lv_istore_n (lv' := [(3, .int (b2 ((inn t (0 : Int32) (3 : Int32)) && (inn r 0 5)))), (0, .ref (ad 9)), (1, .int t), (2, .int r)]) hx hb dX3_stop_21 rfl hl (by decide) rfl (fun ls hl => ?_)
    refine lv_aload_n hx hb dX3_stop_22 rfl (lv_at hl 1 rfl) ?_
    refine lv_iload_n hx hb dX3_stop_23 rfl (lv_at hl 0 rfl) ?_
    have hj_50_1 : ∀ (H : Heap) (locs : List Loc) (ls : Array Slot), kW D cy base ad n nc g H → va_S (kA base) s.heap H locs → lv_has ls 4 [(3, .int (b2 ((inn t (0 : Int32) (3 : Int32)) && (inn r 0 5)))), (0, .ref (ad 9)), (1, .int t), (2, .int r)] → W p l e (kR 2 0 0) s m args below meth c H locs 0 0 Q (F0 m 50 ls [.int (kd2 (inn t 0 3 && inn r 0 5) (!bq (g 56 t.toNatClampNeg) r)), .ref (ad 9)]) := by
      intro H locs ls hw hS hl
      refine kx_do0 (st1 := [.int (b2 (decide ((kd2 (inn t 0 3 && inn r 0 5) (!bq (g 56 t.toNatClampNeg) r)) = 0)))]) (kx_cv (As := [.int (kd2 (inn t 0 3 && inn r 0 5) (!bq (g 56 t.toNatClampNeg) r))]) (rest := []) hF hG hw hS hl.1 kC_9 rfl (c_X3_holds l hfl D cy base ad n nc g (kd2 (inn t 0 3 && inn r 0 5) (!bq (g 56 t.toNatClampNeg) r)) ) gX3_stop_X3_holds rfl rfl rfl hd_X3_holds ⟨Nat.le_of_ble_eq_true rfl, Nat.le_of_ble_eq_true rfl⟩ rfl rfl (Nat.le_of_ble_eq_true rfl) dX3_stop_50 ⟨Nat.le_of_ble_eq_true rfl, Nat.le_of_ble_eq_true rfl⟩) hS rfl (fun H locs hw hS => ?_)
      refine kb_ne (tgt := 58) hx hb dX3_stop_53 (by decide) (fun c_53 => ?_) (fun c_53 => ?_)
      · have h0 : kd2 (inn t 0 3 && inn r 0 5) (!bq (g 56 t.toNatClampNeg) r) = 0 := of_decide_eq_true c_53
        rw [h0] at hw
        have hk := kd2_0.mp h0
        have v_t : vp_in t 4 := inn_vp (and_l (hk.1)) (by decide)
        have v_r : vp_in r 6 := inn_vp (and_r (hk.1)) (by decide)
        refine lv_aload_n hx hb dX3_stop_58 rfl (lv_at hl 1 rfl) ?_
        refine kx_getM (v := .ref (ad 56)) hx hb hts hown hG hw i3 6 (by decide) f_22 rfl dX3_stop_59 ?_
        refine lv_iload_n hx hb dX3_stop_62 rfl (lv_at hl 2 rfl) ?_
        refine lv_dup2_11 hx hb dX3_stop_63 rfl rfl ?_
        refine kx_iald (v := (g 56 t.toNatClampNeg)) hx hb hG hw (kC_I rfl) t.toNatClampNeg rfl (by first | assumption | exact ix_of (by assumption) (by assumption) rfl (by decide)) (sU_k _ _ _ _ (by omega)) dX3_stop_64 ?_
        refine lv_iconst (v := 1) hx hb dX3_stop_65 (by decide) ?_
        refine lv_iload_n hx hb dX3_stop_66 rfl (lv_at hl 3 rfl) ?_
        refine lv_ishl hx hb dX3_stop_67 ?_
        refine lv_ior hx hb dX3_stop_68 ?_
        refine kx_iast hx hb hG hw hS (fun _ => (kC_I rfl)) t.toNatClampNeg rfl (by first | assumption | exact ix_of (by assumption) (by assumption) rfl (by decide)) dX3_stop_69 (fun H locs hw hS => ?_)
        refine lv_aload_n hx hb dX3_stop_70 rfl (lv_at hl 1 rfl) ?_
        refine kx_getM (v := .ref (ad 56)) hx hb hts hown hG hw i3 6 (by decide) f_22 rfl dX3_stop_71 ?_
        refine lv_iload_n hx hb dX3_stop_74 rfl (lv_at hl 2 rfl) ?_
        refine kx_iald (v := ((g 56 t.toNatClampNeg) ||| ((1 : Int32) <<< (r &&& 31)))) hx hb hG hw (kC_I rfl) t.toNatClampNeg rfl (by first | assumption | exact ix_of (by assumption) (by assumption) rfl (by decide)) (sU_s _ _ _ _) dX3_stop_75 ?_
        refine kx_do0 (st1 := [.int (bits ((g 56 t.toNatClampNeg) ||| ((1 : Int32) <<< (r &&& 31))))]) (kx_cs (As := [.int ((g 56 t.toNatClampNeg) ||| ((1 : Int32) <<< (r &&& 31)))]) (rest := []) hF hG hw hS hl.1 (c_X3_bits l hfl D cy base ad n nc (sU (sU g 9 0 (0 : Int32)) 56 t.toNatClampNeg ((g 56 t.toNatClampNeg) ||| ((1 : Int32) <<< (r &&& 31)))) ((g 56 t.toNatClampNeg) ||| ((1 : Int32) <<< (r &&& 31))) ) gX3_stop_X3_bits rfl rfl rfl hd_X3_bits ⟨Nat.le_of_ble_eq_true rfl, Nat.le_of_ble_eq_true rfl⟩ rfl rfl (Nat.le_of_ble_eq_true rfl) dX3_stop_76 ⟨Nat.le_of_ble_eq_true rfl, Nat.le_of_ble_eq_true rfl⟩) hS rfl (fun H locs hw hS => ?_)
        exact kx_retI hQ hx hb hr hlk hw hS (Nat.le_of_ble_eq_true rfl) (Nat.le_of_ble_eq_true rfl) dX3_stop_79 (kd_i (trivial) ((rv_0 h0).trans (by rfl)) ((mk_0 h0).trans (by rfl)))
      · have h0 : ¬ kd2 (inn t 0 3 && inn r 0 5) (!bq (g 56 t.toNatClampNeg) r) = 0 := of_decide_eq_false c_53
        refine lv_iconst (v := 0) hx hb dX3_stop_56 (by decide) ?_
        exact kx_retI hQ hx hb hr hlk hw hS (Nat.le_of_ble_eq_true rfl) (Nat.le_of_ble_eq_true rfl) dX3_stop_57 (kd_i (trivial) (rv_n h0) (mk_n h0))
    refine kb_ne (tgt := 31) hx hb dX3_stop_24 (by decide) (fun c_24 => ?_) (fun c_24 => ?_)
    · have v_t : vp_in t 4 := inn_vp (and_l (c_24)) (by decide)
      have v_r : vp_in r 6 := inn_vp (and_r (c_24)) (by decide)
      refine lv_aload_n hx hb dX3_stop_31 rfl (lv_at hl 1 rfl) ?_
      refine kx_getM (v := .ref (ad 56)) hx hb hts hown hG hw i3 6 (by decide) f_22 rfl dX3_stop_32 ?_
      refine lv_iload_n hx hb dX3_stop_35 rfl (lv_at hl 2 rfl) ?_
      refine kx_iald (v := (g 56 t.toNatClampNeg)) hx hb hG hw (kC_I rfl) t.toNatClampNeg rfl (by first | assumption | exact ix_of (by assumption) (by assumption) rfl (by decide)) rfl dX3_stop_36 ?_
      refine lv_iload_n hx hb dX3_stop_37 rfl (lv_at hl 3 rfl) ?_
      refine lv_ishr hx hb dX3_stop_38 ?_
      refine lv_iconst (v := 1) hx hb dX3_stop_39 (by decide) ?_
      refine lv_iand hx hb dX3_stop_40 ?_
      refine lv_iconst (v := 1) hx hb dX3_stop_41 (by decide) ?_
      refine lv_icmp_ne (tgt := 49) hx hb dX3_stop_42 (by decide) (fun c_42 => ?_) (fun c_42 => ?_)
      · refine lv_iconst (v := 0) hx hb dX3_stop_49 (by decide) ?_
        exact kx_top (v := (kd2 (inn t 0 3 && inn r 0 5) (!bq (g 56 t.toNatClampNeg) r))) (by first | (simp only [bq, c_24, decide_eq_false c_42, if_neg c_42]; done) | (simp only [bq, c_24, decide_eq_false c_42, if_neg c_42]; rfl) | simp [bq, c_24, decide_eq_false c_42, if_neg c_42]) (hj_50_1 _ _ _ hw hS hl)
      · refine lv_iconst (v := 2) hx hb dX3_stop_45 (by decide) ?_
        refine lv_goto (tgt := 50) hx hb dX3_stop_46 (by decide) ?_
        exact kx_top (v := (kd2 (inn t 0 3 && inn r 0 5) (!bq (g 56 t.toNatClampNeg) r))) (by first | (simp only [bq, c_24, decide_eq_true c_42, if_pos c_42]; done) | (simp only [bq, c_24, decide_eq_true c_42, if_pos c_42]; rfl) | simp [bq, c_24, decide_eq_true c_42, if_pos c_42]) (hj_50_1 _ _ _ hw hS hl)
    · refine lv_iconst (v := 1) hx hb dX3_stop_27 (by decide) ?_
      refine lv_goto (tgt := 50) hx hb dX3_stop_28 (by decide) ?_
      exact kx_top (v := (kd2 (inn t 0 3 && inn r 0 5) (!bq (g 56 t.toNatClampNeg) r))) (by first | (simp only [bq, c_24]; done) | (simp only [bq, c_24]; rfl) | simp [bq, c_24]) (hj_50_1 _ _ _ hw hS hl)
  refine kb_eq (tgt := 20) hx hb dX3_stop_6 (by decide) (fun c_6 => ?_) (fun c_6 => ?_)
  · refine lv_iconst (v := 0) hx hb dX3_stop_20 (by decide) ?_
    exact kx_top (v := (b2 ((inn t (0 : Int32) (3 : Int32)) && (inn r 0 5)))) (by first | (simp only [bq, c_6]; done) | (simp only [bq, c_6]; rfl) | simp [bq, c_6]) (hj_21_0 _ _ _ hw hS hl)
  · have v_t : vp_in t 4 := inn_vp (c_6) (by decide)
    refine lv_iload_n hx hb dX3_stop_9 rfl (lv_at hl 2 rfl) ?_
    refine kx_do0 (st1 := [.int (b2 (inn r 0 5))]) (kx_cs (As := [.int r]) (rest := []) hF hG hw hS hl.1 (c_X3_isRoom l hfl D cy base ad n nc g r ) gX3_stop_X3_isRoom rfl rfl rfl hd_X3_isRoom ⟨Nat.le_of_ble_eq_true rfl, Nat.le_of_ble_eq_true rfl⟩ rfl rfl (Nat.le_of_ble_eq_true rfl) dX3_stop_10 ⟨Nat.le_of_ble_eq_true rfl, Nat.le_of_ble_eq_true rfl⟩) hS rfl (fun H locs hw hS => ?_)
    refine kb_eq (tgt := 20) hx hb dX3_stop_13 (by decide) (fun c_13 => ?_) (fun c_13 => ?_)
    · refine lv_iconst (v := 0) hx hb dX3_stop_20 (by decide) ?_
      exact kx_top (v := (b2 ((inn t (0 : Int32) (3 : Int32)) && (inn r 0 5)))) (by first | (simp only [bq, c_6, c_13]; done) | (simp only [bq, c_6, c_13]; rfl) | simp [bq, c_6, c_13]) (hj_21_0 _ _ _ hw hS hl)
    · have v_r : vp_in r 6 := inn_vp (c_13) (by decide)
      refine lv_iconst (v := 1) hx hb dX3_stop_16 (by decide) ?_
      refine lv_goto (tgt := 21) hx hb dX3_stop_17 (by decide) ?_
      exact kx_top (v := (b2 ((inn t (0 : Int32) (3 : Int32)) && (inn r 0 5)))) (by first | (simp only [bq, c_6, c_13]; done) | (simp only [bq, c_6, c_13]; rfl) | simp [bq, c_6, c_13]) (hj_21_0 _ _ _ hw hS hl)
theorem hd_X3_threshold : yX3_threshold.cls = RX3 ∧ yX3_threshold.cls ≠ "java/lang/invoke/MethodHandle" ∧ yX3_threshold.cls ≠ "java/lang/invoke/VarHandle" ∧ (parseMethodDescriptor yX3_threshold.desc).map (fun d => d.parameters.length) = some 1 := by decide +kernel
set_option maxHeartbeats 4000000 in
set_option maxRecDepth 100000 in
theorem c_X3_threshold (l : Launch) (hfl : l.stackTraces = false) (D : va_G) (cy : Nat → ClassId) (base : Nat) (ad : Nat → Nat) (n nc : Nat) (g : sg) (q : Int32) : kM l yX3_threshold wsX3_threshold (kR 2 0 0) D cy base ad n nc g [.ref (ad 9), .int q] (kD True (some (.int (rv (kd1 (inn q 1 200)) (g 9 7)))) ad n nc (mk (kd1 (inn q 1 200)) (sU (sU g 9 0 0) 9 7 q) g)) kNo 0 0 := by
  refine kx_meth (cc := cX3_threshold) (maxL := 3) (ret := (some .int)) (by decide) rfl (Nat.le_of_ble_eq_true rfl) ?_
  intro p e s m args below meth c ls hx hb hr hml hown hts hlk hT hG hw0 hS0 hl Q H locs hQ hw hS hH0 hlocs0
  have hl : lv_has ls 3 [(0, .ref (ad 9)), (1, .int q)] := hl
  have hown : s.vm.findClass RX3 = some m.cls := hown
  have hF : CallFix p m c cX3_threshold 3 s args wsX3_threshold RX3 := ⟨hx, hb, hml, hown, hts⟩
  have hn30 : n ≤ 30 := hw.2.2.1
  have hc20 : nc ≤ 20 := hw.2.2.2
  clear hw0 hS0 hH0 hlocs0
  have i3 : ∀ w ∈ wsX30, w ∈ wsX3_threshold := by decide +kernel
  have f_25 := hts (.fieldLink RX3 25 "LostroomModel" "threshold" "I") (by decide +kernel)
  refine lv_aload_n hx hb dX3_threshold_0 rfl (lv_at hl 0 rfl) ?_
  refine lv_iload_n hx hb dX3_threshold_1 rfl (lv_at hl 1 rfl) ?_
  refine lv_iconst (v := 1) hx hb dX3_threshold_2 (by decide) ?_
  refine lv_sipush (v := 200) hx hb dX3_threshold_3 (by decide) ?_
  refine kx_do0 (st1 := [.int (b2 (inn q (1 : Int32) (200 : Int32))), .ref (ad 9)]) (kx_cs (As := [.int q, .int (1 : Int32), .int (200 : Int32)]) (rest := [.ref (ad 9)]) hF hG hw hS hl.1 (c_X3_in l hfl D cy base ad n nc g q (1 : Int32) (200 : Int32) ) gX3_threshold_X3_in rfl rfl rfl hd_X3_in ⟨Nat.le_of_ble_eq_true rfl, Nat.le_of_ble_eq_true rfl⟩ rfl rfl (Nat.le_of_ble_eq_true rfl) dX3_threshold_6 ⟨Nat.le_of_ble_eq_true rfl, Nat.le_of_ble_eq_true rfl⟩) hS rfl (fun H locs hw hS => ?_)
  have hj_17_0 : ∀ (H : Heap) (locs : List Loc) (ls : Array Slot), kW D cy base ad n nc g H → va_S (kA base) s.heap H locs → lv_has ls 3 [(0, .ref (ad 9)), (1, .int q)] → W p l e (kR 2 0 0) s m args below meth c H locs 0 0 Q (F0 m 17 ls [.int (kd1 (inn q 1 200)), .ref (ad 9)]) := by
    intro H locs ls hw hS hl
    refine kx_do0 (st1 := [.int (b2 (decide ((kd1 (inn q 1 200)) = 0)))]) (kx_cv (As := [.int (kd1 (inn q 1 200))]) (rest := []) hF hG hw hS hl.1 kC_9 rfl (c_X3_holds l hfl D cy base ad n nc g (kd1 (inn q 1 200)) ) gX3_threshold_X3_holds rfl rfl rfl hd_X3_holds ⟨Nat.le_of_ble_eq_true rfl, Nat.le_of_ble_eq_true rfl⟩ rfl rfl (Nat.le_of_ble_eq_true rfl) dX3_threshold_17 ⟨Nat.le_of_ble_eq_true rfl, Nat.le_of_ble_eq_true rfl⟩) hS rfl (fun H locs hw hS => ?_)
    refine kb_ne (tgt := 25) hx hb dX3_threshold_20 (by decide) (fun c_20 => ?_) (fun c_20 => ?_)
    · have h0 : kd1 (inn q 1 200) = 0 := of_decide_eq_true c_20
      rw [h0] at hw
      have hk := kd1_0.mp h0
      refine lv_aload_n hx hb dX3_threshold_25 rfl (lv_at hl 0 rfl) ?_
      refine kx_getM (v := .int (g 9 7)) hx hb hts hown hG hw i3 7 (by decide) f_25 (congrArg Value.int (sU_j _ _ _ _ (by decide))) dX3_threshold_26 ?_
      refine lv_istore_n (lv' := [(2, .int (g 9 7)), (0, .ref (ad 9)), (1, .int q)]) hx hb dX3_threshold_29 rfl hl (by decide) rfl (fun ls hl => ?_)
      refine lv_aload_n hx hb dX3_threshold_30 rfl (lv_at hl 1 rfl) ?_
      refine lv_iload_n hx hb dX3_threshold_31 rfl (lv_at hl 2 rfl) ?_
      refine kx_putM (v := q) hx hb hts hown hG hw hS i3 7 (by decide) f_25 (by decide) rfl rfl rfl dX3_threshold_32 (fun H locs hw hS => ?_)
      refine lv_iload_n hx hb dX3_threshold_35 rfl (lv_at hl 0 rfl) ?_
      exact kx_retI hQ hx hb hr hlk hw hS (Nat.le_of_ble_eq_true rfl) (Nat.le_of_ble_eq_true rfl) dX3_threshold_36 (kd_i (trivial) ((rv_0 h0).trans (by rfl)) ((mk_0 h0).trans (by rfl)))
    · have h0 : ¬ kd1 (inn q 1 200) = 0 := of_decide_eq_false c_20
      refine lv_iconst (v := 0) hx hb dX3_threshold_23 (by decide) ?_
      exact kx_retI hQ hx hb hr hlk hw hS (Nat.le_of_ble_eq_true rfl) (Nat.le_of_ble_eq_true rfl) dX3_threshold_24 (kd_i (trivial) (rv_n h0) (mk_n h0))
  refine kb_eq (tgt := 16) hx hb dX3_threshold_9 (by decide) (fun c_9 => ?_) (fun c_9 => ?_)
  · refine lv_iconst (v := 1) hx hb dX3_threshold_16 (by decide) ?_
    exact kx_top (v := (kd1 (inn q 1 200))) (by first | (simp only [bq, c_9]; done) | (simp only [bq, c_9]; rfl) | simp [bq, c_9]) (hj_17_0 _ _ _ hw hS hl)
  · refine lv_iconst (v := 0) hx hb dX3_threshold_12 (by decide) ?_
    refine lv_goto (tgt := 17) hx hb dX3_threshold_13 (by decide) ?_
    exact kx_top (v := (kd1 (inn q 1 200))) (by first | (simp only [bq, c_9]; done) | (simp only [bq, c_9]; rfl) | simp [bq, c_9]) (hj_17_0 _ _ _ hw hS hl)
