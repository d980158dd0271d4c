/-! walks laid by wip/p35/kgen.py, kall.py -/
theorem hd_J6_bitCount_0f7a4 : yJ6_bitCount_0f7a4.cls ≠ "java/lang/invoke/MethodHandle" ∧ yJ6_bitCount_0f7a4.cls ≠ "java/lang/invoke/VarHandle" ∧ (parseMethodDescriptor yJ6_bitCount_0f7a4.desc).map (fun d => d.parameters.length) = some 1 := by decide +kernel
set_option maxHeartbeats 4000000 in
set_option maxRecDepth 100000 in
theorem c_J6_bitCount_0f7a4 (l : Launch) (hfl : l.stackTraces = false) (D : va_G) (cy : Nat → ClassId) (base : Nat → Prop) (ad : Nat → Nat) (n nc : Nat) (g : sg) (x : Int32) (hs : sB x) : kM l yJ6_bitCount_0f7a4 wsJ6_bitCount_0f7a4 (kR 0 0 0) D cy base ad n nc g [.int x] (kD True (some (.int (bits x))) ad n nc g) kNo 0 0 := by
  refine kx_meth (cc := cJ6_bitCount_0f7a4) (maxL := 1) (ret := (some .int)) (by decide) rfl (Nat.le_of_ble_eq_true rfl) ?_
  intro p e s m args below meth c ls hx hb hr hml hown hts hlk hT hG hw0 hS0 hl Q H locs hQ hw hS hH0 hlocs0
  have hl : lv_has ls 1 [(0, .int x)] := hl
  have hown : s.vm.findClass RJ6 = some m.cls := hown
  have hF : CallFix p m c cJ6_bitCount_0f7a4 1 s args wsJ6_bitCount_0f7a4 RJ6 := ⟨hx, hb, hml, hown, hts⟩
  have hn30 : n ≤ 30 := hw.2.2.1
  have hc20 : nc ≤ 20 := hw.2.2.2
  clear hw0 hS0 hH0 hlocs0
  have k_265 := hts (.constant RJ6 265 (1431655765)) (by decide +kernel)
  have k_266 := hts (.constant RJ6 266 (858993459)) (by decide +kernel)
  have k_267 := hts (.constant RJ6 267 (252645135)) (by decide +kernel)
  refine lv_iload_n hx hb dJ6_bitCount_0f7a4_0 rfl (lv_at hl 0 rfl) ?_
  refine lv_iload_n hx hb dJ6_bitCount_0f7a4_1 rfl (lv_at hl 0 rfl) ?_
  refine lv_iconst (v := 1) hx hb dJ6_bitCount_0f7a4_2 (by decide) ?_
  refine lv_iushr (v := (x.toUInt32 >>> ((1 : Int32).toUInt32 &&& Int32.toUInt32 31)).toInt32) hx hb dJ6_bitCount_0f7a4_3 rfl ?_
  refine lv_ldcw hx hb hown k_265 dJ6_bitCount_0f7a4_4 ?_
  refine lv_iand hx hb dJ6_bitCount_0f7a4_7 ?_
  refine lv_isub hx hb dJ6_bitCount_0f7a4_8 ?_
  refine kx_top (v := bcA x) (rfl) ?_
  refine lv_istore_n (lv' := [(0, .int (bcA x))]) hx hb dJ6_bitCount_0f7a4_9 rfl hl (by decide) rfl (fun ls hl => ?_)
  refine lv_iload_n hx hb dJ6_bitCount_0f7a4_10 rfl (lv_at hl 0 rfl) ?_
  refine lv_ldcw hx hb hown k_266 dJ6_bitCount_0f7a4_11 ?_
  refine lv_iand hx hb dJ6_bitCount_0f7a4_14 ?_
  refine lv_iload_n hx hb dJ6_bitCount_0f7a4_15 rfl (lv_at hl 0 rfl) ?_
  refine lv_iconst (v := 2) hx hb dJ6_bitCount_0f7a4_16 (by decide) ?_
  refine lv_iushr (v := ((bcA x).toUInt32 >>> ((2 : Int32).toUInt32 &&& Int32.toUInt32 31)).toInt32) hx hb dJ6_bitCount_0f7a4_17 rfl ?_
  refine lv_ldcw hx hb hown k_266 dJ6_bitCount_0f7a4_18 ?_
  refine lv_iand hx hb dJ6_bitCount_0f7a4_21 ?_
  refine lv_iadd hx hb dJ6_bitCount_0f7a4_22 ?_
  refine kx_top (v := bcB (bcA x)) (rfl) ?_
  refine lv_istore_n (lv' := [(0, .int (bcB (bcA x)))]) hx hb dJ6_bitCount_0f7a4_23 rfl hl (by decide) rfl (fun ls hl => ?_)
  refine lv_iload_n hx hb dJ6_bitCount_0f7a4_24 rfl (lv_at hl 0 rfl) ?_
  refine lv_iload_n hx hb dJ6_bitCount_0f7a4_25 rfl (lv_at hl 0 rfl) ?_
  refine lv_iconst (v := 4) hx hb dJ6_bitCount_0f7a4_26 (by decide) ?_
  refine lv_iushr (v := ((bcB (bcA x)).toUInt32 >>> ((4 : Int32).toUInt32 &&& Int32.toUInt32 31)).toInt32) hx hb dJ6_bitCount_0f7a4_27 rfl ?_
  refine lv_iadd hx hb dJ6_bitCount_0f7a4_28 ?_
  refine lv_ldcw hx hb hown k_267 dJ6_bitCount_0f7a4_29 ?_
  refine lv_iand hx hb dJ6_bitCount_0f7a4_32 ?_
  refine kx_top (v := bcC (bcB (bcA x))) (rfl) ?_
  refine lv_istore_n (lv' := [(0, .int (bcC (bcB (bcA x))))]) hx hb dJ6_bitCount_0f7a4_33 rfl hl (by decide) rfl (fun ls hl => ?_)
  refine lv_iload_n hx hb dJ6_bitCount_0f7a4_34 rfl (lv_at hl 0 rfl) ?_
  refine lv_iload_n hx hb dJ6_bitCount_0f7a4_35 rfl (lv_at hl 0 rfl) ?_
  refine lv_bipush (v := 8) hx hb dJ6_bitCount_0f7a4_36 (by decide) ?_
  refine lv_iushr (v := ((bcC (bcB (bcA x))).toUInt32 >>> ((8 : Int32).toUInt32 &&& Int32.toUInt32 31)).toInt32) hx hb dJ6_bitCount_0f7a4_38 rfl ?_
  refine lv_iadd hx hb dJ6_bitCount_0f7a4_39 ?_
  refine kx_top (v := bcD (bcC (bcB (bcA x)))) (rfl) ?_
  refine lv_istore_n (lv' := [(0, .int (bcD (bcC (bcB (bcA x)))))]) hx hb dJ6_bitCount_0f7a4_40 rfl hl (by decide) rfl (fun ls hl => ?_)
  refine lv_iload_n hx hb dJ6_bitCount_0f7a4_41 rfl (lv_at hl 0 rfl) ?_
  refine lv_iload_n hx hb dJ6_bitCount_0f7a4_42 rfl (lv_at hl 0 rfl) ?_
  refine lv_bipush (v := 16) hx hb dJ6_bitCount_0f7a4_43 (by decide) ?_
  refine lv_iushr (v := ((bcD (bcC (bcB (bcA x)))).toUInt32 >>> ((16 : Int32).toUInt32 &&& Int32.toUInt32 31)).toInt32) hx hb dJ6_bitCount_0f7a4_45 rfl ?_
  refine lv_iadd hx hb dJ6_bitCount_0f7a4_46 ?_
  refine kx_top (v := bcE (bcD (bcC (bcB (bcA x))))) (rfl) ?_
  refine lv_istore_n (lv' := [(0, .int (bcE (bcD (bcC (bcB (bcA x))))))]) hx hb dJ6_bitCount_0f7a4_47 rfl hl (by decide) rfl (fun ls hl => ?_)
  refine lv_iload_n hx hb dJ6_bitCount_0f7a4_48 rfl (lv_at hl 0 rfl) ?_
  refine lv_bipush (v := 63) hx hb dJ6_bitCount_0f7a4_49 (by decide) ?_
  refine lv_iand hx hb dJ6_bitCount_0f7a4_51 ?_
  refine kx_top (v := bc x) (rfl) ?_
  exact kx_retI hQ hx hb hr hlk hw hS (Nat.le_of_ble_eq_true rfl) (Nat.le_of_ble_eq_true rfl) dJ6_bitCount_0f7a4_52 (kd_i (trivial) (bc_bits hs) (rfl))
theorem hd_X2_turned : yX2_turned.cls ≠ "java/lang/invoke/MethodHandle" ∧ yX2_turned.cls ≠ "java/lang/invoke/VarHandle" ∧ (parseMethodDescriptor yX2_turned.desc).map (fun d => d.parameters.length) = some 3 := by decide +kernel
set_option maxHeartbeats 4000000 in
set_option maxRecDepth 100000 in
theorem c_X2_turned_1 (l : Launch) (hfl : l.stackTraces = false) (D : va_G) (cy : Nat → ClassId) (base : Nat → Prop) (ad : Nat → Nat) (n nc : Nat) (g : sg) (w : Int32) (o : Int32) : kM l yX2_turned wsX2_turned (kR 6 1 6) D cy base ad n nc g [.ref (ad 1), .int w, .int o] (kD (kd2 (inn w 0 23 && inn o 0 23) (!decide (w = o)) = 0) (some (.int (b2 (tb g 1 w o)))) ad n nc (tg g 1 w o)) (kEx (kd2 (inn w 0 23 && inn o 0 23) (!decide (w = o)))) 1 6 := by
  refine kx_meth (cc := cX2_turned) (maxL := 3) (ret := (some .boolean)) (by decide) rfl (Nat.le_of_ble_eq_true rfl) ?_
  intro p e s m args below meth c ls hx hb hr hml hown hts hlk hT hG hw0 hS0 hl Q H locs hQ hw hS hH0 hlocs0
  have hl : lv_has ls 3 [(0, .ref (ad 1)), (1, .int w), (2, .int o)] := hl
  have hown : s.vm.findClass RX2 = some m.cls := hown
  have hF : CallFix p m c cX2_turned 3 s args wsX2_turned RX2 := ⟨hx, hb, hml, hown, hts⟩
  have hn30 : n ≤ 30 := hw.2.2.1
  have hc20 : nc ≤ 20 := hw.2.2.2
  clear hw0 hS0 hH0 hlocs0
  have xk_IA := hts (.classLink RX2 77 "java/lang/IllegalArgumentException") (by decide +kernel)
  have xi_IA := hts (.initialized "java/lang/IllegalArgumentException") (by decide +kernel)
  have xa_IA : ∀ w ∈ (vx_atS RX2 81 "java/lang/IllegalArgumentException" kNm).filter goodWord, w.before args s = true := fun w h => hts w ((by decide +kernel : ∀ w ∈ (vx_atS RX2 81 "java/lang/IllegalArgumentException" kNm).filter goodWord, w ∈ wsX2_turned) w h)
  have xk_IO := hts (.classLink RX2 66 "java/lang/IndexOutOfBoundsException") (by decide +kernel)
  have xi_IO := hts (.initialized "java/lang/IndexOutOfBoundsException") (by decide +kernel)
  have xa_IO : ∀ w ∈ (vx_atS RX2 70 "java/lang/IndexOutOfBoundsException" kNm).filter goodWord, w.before args s = true := fun w h => hts w ((by decide +kernel : ∀ w ∈ (vx_atS RX2 70 "java/lang/IndexOutOfBoundsException" kNm).filter goodWord, w ∈ wsX2_turned) w h)
  refine lv_iload_n hx hb dX2_turned_0 rfl (lv_at hl 1 rfl) ?_
  refine lv_if_lt (tgt := 20) hx hb dX2_turned_1 (by decide) (fun c_1 => ?_) (fun c_1 => ?_)
  · exact kx_throwIO (text := "no such word or kind") (is := 308) hQ hx hb hfl hown hG hw hS true (by decide +kernel) xk_IO xi_IO xa_IO (kEx_1 (by first | (simp only [kd2, inn_24, decide_eq_true c_1, if_pos c_1]; done) | (simp only [kd2, inn_24, decide_eq_true c_1, if_pos c_1]; rfl) | (simp [kd2, inn_24, decide_eq_true c_1, if_pos c_1]; done) | (simp only [kd2, inn_24, decide_eq_true c_1, if_pos c_1, decide_eq_true (Int32.not_lt.mp c_17)]; rfl) | (simp only [kd2, inn_24, decide_eq_true c_1, if_pos c_1, decide_eq_false (Int32.not_le.mpr c_17)]; rfl))) (hl.1.trans hml.symm) hT rfl dX2_turned_20 dX2_turned_23 dX2_turned_24 dX2_turned_27 dX2_turned_30 ⟨by decide, Nat.le_of_ble_eq_true rfl, Nat.le_of_ble_eq_true rfl, Nat.le_of_ble_eq_true rfl⟩ hlk (Nat.le_of_ble_eq_true rfl) (Nat.le_of_ble_eq_true rfl)
  · refine lv_iload_n hx hb dX2_turned_4 rfl (lv_at hl 1 rfl) ?_
    refine lv_aload_n hx hb dX2_turned_5 rfl (lv_at hl 0 rfl) ?_
    refine kx_alen (v := 24) hx hb hG hw (kC_I rfl) 0 rfl rfl dX2_turned_6 ?_
    refine lv_icmp_ge (tgt := 20) hx hb dX2_turned_7 (by decide) (fun c_7 => ?_) (fun c_7 => ?_)
    · exact kx_throwIO (text := "no such word or kind") (is := 308) hQ hx hb hfl hown hG hw hS true (by decide +kernel) xk_IO xi_IO xa_IO (kEx_1 (by first | (simp only [kd2, inn_24, decide_eq_false c_1, if_neg c_1, decide_eq_true c_7, if_pos c_7]; done) | (simp only [kd2, inn_24, decide_eq_false c_1, if_neg c_1, decide_eq_true c_7, if_pos c_7]; rfl) | (simp [kd2, inn_24, decide_eq_false c_1, if_neg c_1, decide_eq_true c_7, if_pos c_7]; done) | (simp only [kd2, inn_24, decide_eq_false c_1, if_neg c_1, decide_eq_true c_7, if_pos c_7, decide_eq_true (Int32.not_lt.mp c_17)]; rfl) | (simp only [kd2, inn_24, decide_eq_false c_1, if_neg c_1, decide_eq_true c_7, if_pos c_7, decide_eq_false (Int32.not_le.mpr c_17)]; rfl))) (hl.1.trans hml.symm) hT rfl dX2_turned_20 dX2_turned_23 dX2_turned_24 dX2_turned_27 dX2_turned_30 ⟨by decide, Nat.le_of_ble_eq_true rfl, Nat.le_of_ble_eq_true rfl, Nat.le_of_ble_eq_true rfl⟩ hlk (Nat.le_of_ble_eq_true rfl) (Nat.le_of_ble_eq_true rfl)
    · refine lv_iload_n hx hb dX2_turned_10 rfl (lv_at hl 2 rfl) ?_
      refine lv_if_lt (tgt := 20) hx hb dX2_turned_11 (by decide) (fun c_11 => ?_) (fun c_11 => ?_)
      · exact kx_throwIO (text := "no such word or kind") (is := 308) hQ hx hb hfl hown hG hw hS true (by decide +kernel) xk_IO xi_IO xa_IO (kEx_1 (by first | (simp only [kd2, inn_24, decide_eq_false c_1, if_neg c_1, decide_eq_false c_7, if_neg c_7, decide_eq_true c_11, if_pos c_11]; done) | (simp only [kd2, inn_24, decide_eq_false c_1, if_neg c_1, decide_eq_false c_7, if_neg c_7, decide_eq_true c_11, if_pos c_11]; rfl) | (simp [kd2, inn_24, decide_eq_false c_1, if_neg c_1, decide_eq_false c_7, if_neg c_7, decide_eq_true c_11, if_pos c_11]; done) | (simp only [kd2, inn_24, decide_eq_false c_1, if_neg c_1, decide_eq_false c_7, if_neg c_7, decide_eq_true c_11, if_pos c_11, decide_eq_true (Int32.not_lt.mp c_17)]; rfl) | (simp only [kd2, inn_24, decide_eq_false c_1, if_neg c_1, decide_eq_false c_7, if_neg c_7, decide_eq_true c_11, if_pos c_11, decide_eq_false (Int32.not_le.mpr c_17)]; rfl))) (hl.1.trans hml.symm) hT rfl dX2_turned_20 dX2_turned_23 dX2_turned_24 dX2_turned_27 dX2_turned_30 ⟨by decide, Nat.le_of_ble_eq_true rfl, Nat.le_of_ble_eq_true rfl, Nat.le_of_ble_eq_true rfl⟩ hlk (Nat.le_of_ble_eq_true rfl) (Nat.le_of_ble_eq_true rfl)
      · refine lv_iload_n hx hb dX2_turned_14 rfl (lv_at hl 2 rfl) ?_
        refine lv_aload_n hx hb dX2_turned_15 rfl (lv_at hl 0 rfl) ?_
        refine kx_alen (v := 24) hx hb hG hw (kC_I rfl) 0 rfl rfl dX2_turned_16 ?_
        refine lv_icmp_lt (tgt := 31) hx hb dX2_turned_17 (by decide) (fun c_17 => ?_) (fun c_17 => ?_)
        · have v_w : vp_in w 24 := ix_of c_1 c_7 rfl (by decide)
          have v_o : vp_in o 24 := ix_of c_11 (Int32.not_le.mpr c_17) rfl (by decide)
          refine lv_iload_n hx hb dX2_turned_31 rfl (lv_at hl 1 rfl) ?_
          refine lv_iload_n hx hb dX2_turned_32 rfl (lv_at hl 2 rfl) ?_
          refine lv_icmp_ne (tgt := 47) hx hb dX2_turned_33 (by decide) (fun c_33 => ?_) (fun c_33 => ?_)
          · refine lv_aload_n hx hb dX2_turned_47 rfl (lv_at hl 0 rfl) ?_
            refine lv_iload_n hx hb dX2_turned_48 rfl (lv_at hl 1 rfl) ?_
            refine lv_dup2_11 hx hb dX2_turned_49 rfl rfl ?_
            refine kx_iald (v := (g 1 w.toNatClampNeg)) hx hb hG hw (kC_I rfl) w.toNatClampNeg rfl (by first | assumption | exact ix_of (by assumption) (by assumption) rfl (by decide)) rfl dX2_turned_50 ?_
            refine lv_iconst (v := 1) hx hb dX2_turned_51 (by decide) ?_
            refine lv_iload_n hx hb dX2_turned_52 rfl (lv_at hl 2 rfl) ?_
            refine lv_ishl hx hb dX2_turned_53 ?_
            refine lv_ixor hx hb dX2_turned_54 ?_
            refine kx_iast hx hb hG hw hS (fun _ => (kC_I rfl)) w.toNatClampNeg rfl (by first | assumption | exact ix_of (by assumption) (by assumption) rfl (by decide)) dX2_turned_55 (fun H locs hw hS => ?_)
            refine lv_aload_n hx hb dX2_turned_56 rfl (lv_at hl 0 rfl) ?_
            refine lv_iload_n hx hb dX2_turned_57 rfl (lv_at hl 2 rfl) ?_
            refine lv_dup2_11 hx hb dX2_turned_58 rfl rfl ?_
            refine kx_iald (v := ((sU g 1 w.toNatClampNeg ((g 1 w.toNatClampNeg) ^^^ ((1 : Int32) <<< (o &&& 31)))) 1 o.toNatClampNeg)) hx hb hG hw (kC_I rfl) o.toNatClampNeg rfl (by first | assumption | exact ix_of (by assumption) (by assumption) rfl (by decide)) rfl dX2_turned_59 ?_
            refine lv_iconst (v := 1) hx hb dX2_turned_60 (by decide) ?_
            refine lv_iload_n hx hb dX2_turned_61 rfl (lv_at hl 1 rfl) ?_
            refine lv_ishl hx hb dX2_turned_62 ?_
            refine lv_ixor hx hb dX2_turned_63 ?_
            refine kx_iast hx hb hG hw hS (fun _ => (kC_I rfl)) o.toNatClampNeg rfl (by first | assumption | exact ix_of (by assumption) (by assumption) rfl (by decide)) dX2_turned_64 (fun H locs hw hS => ?_)
            refine lv_aload_n hx hb dX2_turned_65 rfl (lv_at hl 0 rfl) ?_
            refine lv_iload_n hx hb dX2_turned_66 rfl (lv_at hl 1 rfl) ?_
            refine kx_iald (v := ((sU (sU g 1 w.toNatClampNeg ((g 1 w.toNatClampNeg) ^^^ ((1 : Int32) <<< (o &&& 31)))) 1 o.toNatClampNeg (((sU g 1 w.toNatClampNeg ((g 1 w.toNatClampNeg) ^^^ ((1 : Int32) <<< (o &&& 31)))) 1 o.toNatClampNeg) ^^^ ((1 : Int32) <<< (w &&& 31)))) 1 w.toNatClampNeg)) hx hb hG hw (kC_I rfl) w.toNatClampNeg rfl (by first | assumption | exact ix_of (by assumption) (by assumption) rfl (by decide)) rfl dX2_turned_67 ?_
            refine lv_iconst (v := 1) hx hb dX2_turned_68 (by decide) ?_
            refine lv_iload_n hx hb dX2_turned_69 rfl (lv_at hl 2 rfl) ?_
            refine lv_ishl hx hb dX2_turned_70 ?_
            refine lv_iand hx hb dX2_turned_71 ?_
            have hj_80_0 : ∀ (H : Heap) (locs : List Loc) (ls : Array Slot), kW D cy base ad n nc (sU (sU g 1 w.toNatClampNeg ((g 1 w.toNatClampNeg) ^^^ ((1 : Int32) <<< (o &&& 31)))) 1 o.toNatClampNeg (((sU g 1 w.toNatClampNeg ((g 1 w.toNatClampNeg) ^^^ ((1 : Int32) <<< (o &&& 31)))) 1 o.toNatClampNeg) ^^^ ((1 : Int32) <<< (w &&& 31)))) H → va_S (kA base) s.heap H locs → lv_has ls 3 [(0, .ref (ad 1)), (1, .int w), (2, .int o)] → W p l e (kR 6 1 6) s m args below meth c H locs 0 0 Q (F0 m 80 ls [.int (b2 (!(decide ((((sU (sU g 1 w.toNatClampNeg ((g 1 w.toNatClampNeg) ^^^ ((1 : Int32) <<< (o &&& 31)))) 1 o.toNatClampNeg (((sU g 1 w.toNatClampNeg ((g 1 w.toNatClampNeg) ^^^ ((1 : Int32) <<< (o &&& 31)))) 1 o.toNatClampNeg) ^^^ ((1 : Int32) <<< (w &&& 31)))) 1 w.toNatClampNeg) &&& ((1 : Int32) <<< (o &&& 31))) = (0 : Int32)))))]) := by
              intro H locs ls hw hS hl
              exact kx_retZ hQ hx hb hr hlk hw hS (Nat.le_of_ble_eq_true rfl) (Nat.le_of_ble_eq_true rfl) dX2_turned_80 (nar_b2 _) (kd_i (by first | (simp only [kd2, inn_24, decide_eq_false c_1, if_neg c_1, decide_eq_false c_7, if_neg c_7, decide_eq_false c_11, if_neg c_11, decide_eq_true c_17, if_pos c_17, decide_eq_false c_33, if_neg c_33, Int32.not_le.mpr c_17]; done) | (simp only [kd2, inn_24, decide_eq_false c_1, if_neg c_1, decide_eq_false c_7, if_neg c_7, decide_eq_false c_11, if_neg c_11, decide_eq_true c_17, if_pos c_17, decide_eq_false c_33, if_neg c_33, decide_eq_false (Int32.not_le.mpr c_17)]; rfl)) (by have hne := cl_ne v_w v_o (by decide) c_33; rw [mask_eq _ _ v_o (by decide)]; simp [tb, sU, hne, Ne.symm hne]) (by have hne := cl_ne v_w v_o (by decide) c_33; simp [tg, sU, hne, Ne.symm hne]))
            refine lv_if_eq (tgt := 79) hx hb dX2_turned_72 (by decide) (fun c_72 => ?_) (fun c_72 => ?_)
            · refine lv_iconst (v := 0) hx hb dX2_turned_79 (by decide) ?_
              exact kx_top (v := (b2 (!(decide ((((sU (sU g 1 w.toNatClampNeg ((g 1 w.toNatClampNeg) ^^^ ((1 : Int32) <<< (o &&& 31)))) 1 o.toNatClampNeg (((sU g 1 w.toNatClampNeg ((g 1 w.toNatClampNeg) ^^^ ((1 : Int32) <<< (o &&& 31)))) 1 o.toNatClampNeg) ^^^ ((1 : Int32) <<< (w &&& 31)))) 1 w.toNatClampNeg) &&& ((1 : Int32) <<< (o &&& 31))) = (0 : Int32)))))) (by first | (simp only [bq, decide_eq_true c_72, if_pos c_72]; done) | (simp only [bq, decide_eq_true c_72, if_pos c_72]; rfl) | (simp [bq, decide_eq_true c_72, if_pos c_72]; done)) (hj_80_0 _ _ _ hw hS hl)
            · refine lv_iconst (v := 1) hx hb dX2_turned_75 (by decide) ?_
              refine lv_goto (tgt := 80) hx hb dX2_turned_76 (by decide) ?_
              exact kx_top (v := (b2 (!(decide ((((sU (sU g 1 w.toNatClampNeg ((g 1 w.toNatClampNeg) ^^^ ((1 : Int32) <<< (o &&& 31)))) 1 o.toNatClampNeg (((sU g 1 w.toNatClampNeg ((g 1 w.toNatClampNeg) ^^^ ((1 : Int32) <<< (o &&& 31)))) 1 o.toNatClampNeg) ^^^ ((1 : Int32) <<< (w &&& 31)))) 1 w.toNatClampNeg) &&& ((1 : Int32) <<< (o &&& 31))) = (0 : Int32)))))) (by first | (simp only [bq, decide_eq_false c_72, if_neg c_72]; done) | (simp only [bq, decide_eq_false c_72, if_neg c_72]; rfl) | (simp [bq, decide_eq_false c_72, if_neg c_72]; done)) (hj_80_0 _ _ _ hw hS hl)
          · exact kx_throwIA (text := "both are the same") (is := 310) hQ hx hb hfl hown hG hw hS true (by decide +kernel) xk_IA xi_IA xa_IA (kEx_2 (by first | (simp only [kd2, inn_24, decide_eq_false c_1, if_neg c_1, decide_eq_false c_7, if_neg c_7, decide_eq_false c_11, if_neg c_11, decide_eq_true c_17, if_pos c_17, decide_eq_true c_33, if_pos c_33]; done) | (simp only [kd2, inn_24, decide_eq_false c_1, if_neg c_1, decide_eq_false c_7, if_neg c_7, decide_eq_false c_11, if_neg c_11, decide_eq_true c_17, if_pos c_17, decide_eq_true c_33, if_pos c_33]; rfl) | (simp [kd2, inn_24, decide_eq_false c_1, if_neg c_1, decide_eq_false c_7, if_neg c_7, decide_eq_false c_11, if_neg c_11, decide_eq_true c_17, if_pos c_17, decide_eq_true c_33, if_pos c_33]; done) | (simp only [kd2, inn_24, decide_eq_false c_1, if_neg c_1, decide_eq_false c_7, if_neg c_7, decide_eq_false c_11, if_neg c_11, decide_eq_true c_17, if_pos c_17, decide_eq_true c_33, if_pos c_33, decide_eq_true (Int32.not_lt.mp c_17)]; rfl) | (simp only [kd2, inn_24, decide_eq_false c_1, if_neg c_1, decide_eq_false c_7, if_neg c_7, decide_eq_false c_11, if_neg c_11, decide_eq_true c_17, if_pos c_17, decide_eq_true c_33, if_pos c_33, decide_eq_false (Int32.not_le.mpr c_17)]; rfl))) (hl.1.trans hml.symm) hT rfl dX2_turned_36 dX2_turned_39 dX2_turned_40 dX2_turned_43 dX2_turned_46 ⟨by decide, Nat.le_of_ble_eq_true rfl, Nat.le_of_ble_eq_true rfl, Nat.le_of_ble_eq_true rfl⟩ hlk (Nat.le_of_ble_eq_true rfl) (Nat.le_of_ble_eq_true rfl)
        · exact kx_throwIO (text := "no such word or kind") (is := 308) hQ hx hb hfl hown hG hw hS true (by decide +kernel) xk_IO xi_IO xa_IO (kEx_1 (by first | (simp only [kd2, inn_24, decide_eq_false c_1, if_neg c_1, decide_eq_false c_7, if_neg c_7, decide_eq_false c_11, if_neg c_11, decide_eq_false c_17, if_neg c_17]; done) | (simp only [kd2, inn_24, decide_eq_false c_1, if_neg c_1, decide_eq_false c_7, if_neg c_7, decide_eq_false c_11, if_neg c_11, decide_eq_false c_17, if_neg c_17]; rfl) | (simp [kd2, inn_24, decide_eq_false c_1, if_neg c_1, decide_eq_false c_7, if_neg c_7, decide_eq_false c_11, if_neg c_11, decide_eq_false c_17, if_neg c_17]; done) | (simp only [kd2, inn_24, decide_eq_false c_1, if_neg c_1, decide_eq_false c_7, if_neg c_7, decide_eq_false c_11, if_neg c_11, decide_eq_false c_17, if_neg c_17, decide_eq_true (Int32.not_lt.mp c_17)]; rfl) | (simp only [kd2, inn_24, decide_eq_false c_1, if_neg c_1, decide_eq_false c_7, if_neg c_7, decide_eq_false c_11, if_neg c_11, decide_eq_false c_17, if_neg c_17, decide_eq_false (Int32.not_le.mpr c_17)]; rfl))) (hl.1.trans hml.symm) hT rfl dX2_turned_20 dX2_turned_23 dX2_turned_24 dX2_turned_27 dX2_turned_30 ⟨by decide, Nat.le_of_ble_eq_true rfl, Nat.le_of_ble_eq_true rfl, Nat.le_of_ble_eq_true rfl⟩ hlk (Nat.le_of_ble_eq_true rfl) (Nat.le_of_ble_eq_true rfl)
set_option maxHeartbeats 4000000 in
set_option maxRecDepth 100000 in
theorem c_X2_turned_2 (l : Launch) (hfl : l.stackTraces = false) (D : va_G) (cy : Nat → ClassId) (base : Nat → Prop) (ad : Nat → Nat) (n nc : Nat) (g : sg) (w : Int32) (o : Int32) : kM l yX2_turned wsX2_turned (kR 6 1 6) D cy base ad n nc g [.ref (ad 2), .int w, .int o] (kD (kd2 (inn w 0 7 && inn o 0 7) (!decide (w = o)) = 0) (some (.int (b2 (tb g 2 w o)))) ad n nc (tg g 2 w o)) (kEx (kd2 (inn w 0 7 && inn o 0 7) (!decide (w = o)))) 1 6 := by
  refine kx_meth (cc := cX2_turned) (maxL := 3) (ret := (some .boolean)) (by decide) rfl (Nat.le_of_ble_eq_true rfl) ?_
  intro p e s m args below meth c ls hx hb hr hml hown hts hlk hT hG hw0 hS0 hl Q H locs hQ hw hS hH0 hlocs0
  have hl : lv_has ls 3 [(0, .ref (ad 2)), (1, .int w), (2, .int o)] := hl
  have hown : s.vm.findClass RX2 = some m.cls := hown
  have hF : CallFix p m c cX2_turned 3 s args wsX2_turned RX2 := ⟨hx, hb, hml, hown, hts⟩
  have hn30 : n ≤ 30 := hw.2.2.1
  have hc20 : nc ≤ 20 := hw.2.2.2
  clear hw0 hS0 hH0 hlocs0
  have xk_IA := hts (.classLink RX2 77 "java/lang/IllegalArgumentException") (by decide +kernel)
  have xi_IA := hts (.initialized "java/lang/IllegalArgumentException") (by decide +kernel)
  have xa_IA : ∀ w ∈ (vx_atS RX2 81 "java/lang/IllegalArgumentException" kNm).filter goodWord, w.before args s = true := fun w h => hts w ((by decide +kernel : ∀ w ∈ (vx_atS RX2 81 "java/lang/IllegalArgumentException" kNm).filter goodWord, w ∈ wsX2_turned) w h)
  have xk_IO := hts (.classLink RX2 66 "java/lang/IndexOutOfBoundsException") (by decide +kernel)
  have xi_IO := hts (.initialized "java/lang/IndexOutOfBoundsException") (by decide +kernel)
  have xa_IO : ∀ w ∈ (vx_atS RX2 70 "java/lang/IndexOutOfBoundsException" kNm).filter goodWord, w.before args s = true := fun w h => hts w ((by decide +kernel : ∀ w ∈ (vx_atS RX2 70 "java/lang/IndexOutOfBoundsException" kNm).filter goodWord, w ∈ wsX2_turned) w h)
  refine lv_iload_n hx hb dX2_turned_0 rfl (lv_at hl 1 rfl) ?_
  refine lv_if_lt (tgt := 20) hx hb dX2_turned_1 (by decide) (fun c_1 => ?_) (fun c_1 => ?_)
  · exact kx_throwIO (text := "no such word or kind") (is := 308) hQ hx hb hfl hown hG hw hS true (by decide +kernel) xk_IO xi_IO xa_IO (kEx_1 (by first | (simp only [kd2, inn_8, decide_eq_true c_1, if_pos c_1]; done) | (simp only [kd2, inn_8, decide_eq_true c_1, if_pos c_1]; rfl) | (simp [kd2, inn_8, decide_eq_true c_1, if_pos c_1]; done) | (simp only [kd2, inn_8, decide_eq_true c_1, if_pos c_1, decide_eq_true (Int32.not_lt.mp c_17)]; rfl) | (simp only [kd2, inn_8, decide_eq_true c_1, if_pos c_1, decide_eq_false (Int32.not_le.mpr c_17)]; rfl))) (hl.1.trans hml.symm) hT rfl dX2_turned_20 dX2_turned_23 dX2_turned_24 dX2_turned_27 dX2_turned_30 ⟨by decide, Nat.le_of_ble_eq_true rfl, Nat.le_of_ble_eq_true rfl, Nat.le_of_ble_eq_true rfl⟩ hlk (Nat.le_of_ble_eq_true rfl) (Nat.le_of_ble_eq_true rfl)
  · refine lv_iload_n hx hb dX2_turned_4 rfl (lv_at hl 1 rfl) ?_
    refine lv_aload_n hx hb dX2_turned_5 rfl (lv_at hl 0 rfl) ?_
    refine kx_alen (v := 8) hx hb hG hw (kC_I rfl) 0 rfl rfl dX2_turned_6 ?_
    refine lv_icmp_ge (tgt := 20) hx hb dX2_turned_7 (by decide) (fun c_7 => ?_) (fun c_7 => ?_)
    · exact kx_throwIO (text := "no such word or kind") (is := 308) hQ hx hb hfl hown hG hw hS true (by decide +kernel) xk_IO xi_IO xa_IO (kEx_1 (by first | (simp only [kd2, inn_8, decide_eq_false c_1, if_neg c_1, decide_eq_true c_7, if_pos c_7]; done) | (simp only [kd2, inn_8, decide_eq_false c_1, if_neg c_1, decide_eq_true c_7, if_pos c_7]; rfl) | (simp [kd2, inn_8, decide_eq_false c_1, if_neg c_1, decide_eq_true c_7, if_pos c_7]; done) | (simp only [kd2, inn_8, decide_eq_false c_1, if_neg c_1, decide_eq_true c_7, if_pos c_7, decide_eq_true (Int32.not_lt.mp c_17)]; rfl) | (simp only [kd2, inn_8, decide_eq_false c_1, if_neg c_1, decide_eq_true c_7, if_pos c_7, decide_eq_false (Int32.not_le.mpr c_17)]; rfl))) (hl.1.trans hml.symm) hT rfl dX2_turned_20 dX2_turned_23 dX2_turned_24 dX2_turned_27 dX2_turned_30 ⟨by decide, Nat.le_of_ble_eq_true rfl, Nat.le_of_ble_eq_true rfl, Nat.le_of_ble_eq_true rfl⟩ hlk (Nat.le_of_ble_eq_true rfl) (Nat.le_of_ble_eq_true rfl)
    · refine lv_iload_n hx hb dX2_turned_10 rfl (lv_at hl 2 rfl) ?_
      refine lv_if_lt (tgt := 20) hx hb dX2_turned_11 (by decide) (fun c_11 => ?_) (fun c_11 => ?_)
      · exact kx_throwIO (text := "no such word or kind") (is := 308) hQ hx hb hfl hown hG hw hS true (by decide +kernel) xk_IO xi_IO xa_IO (kEx_1 (by first | (simp only [kd2, inn_8, decide_eq_false c_1, if_neg c_1, decide_eq_false c_7, if_neg c_7, decide_eq_true c_11, if_pos c_11]; done) | (simp only [kd2, inn_8, decide_eq_false c_1, if_neg c_1, decide_eq_false c_7, if_neg c_7, decide_eq_true c_11, if_pos c_11]; rfl) | (simp [kd2, inn_8, decide_eq_false c_1, if_neg c_1, decide_eq_false c_7, if_neg c_7, decide_eq_true c_11, if_pos c_11]; done) | (simp only [kd2, inn_8, decide_eq_false c_1, if_neg c_1, decide_eq_false c_7, if_neg c_7, decide_eq_true c_11, if_pos c_11, decide_eq_true (Int32.not_lt.mp c_17)]; rfl) | (simp only [kd2, inn_8, decide_eq_false c_1, if_neg c_1, decide_eq_false c_7, if_neg c_7, decide_eq_true c_11, if_pos c_11, decide_eq_false (Int32.not_le.mpr c_17)]; rfl))) (hl.1.trans hml.symm) hT rfl dX2_turned_20 dX2_turned_23 dX2_turned_24 dX2_turned_27 dX2_turned_30 ⟨by decide, Nat.le_of_ble_eq_true rfl, Nat.le_of_ble_eq_true rfl, Nat.le_of_ble_eq_true rfl⟩ hlk (Nat.le_of_ble_eq_true rfl) (Nat.le_of_ble_eq_true rfl)
      · refine lv_iload_n hx hb dX2_turned_14 rfl (lv_at hl 2 rfl) ?_
        refine lv_aload_n hx hb dX2_turned_15 rfl (lv_at hl 0 rfl) ?_
        refine kx_alen (v := 8) hx hb hG hw (kC_I rfl) 0 rfl rfl dX2_turned_16 ?_
        refine lv_icmp_lt (tgt := 31) hx hb dX2_turned_17 (by decide) (fun c_17 => ?_) (fun c_17 => ?_)
        · have v_w : vp_in w 8 := ix_of c_1 c_7 rfl (by decide)
          have v_o : vp_in o 8 := ix_of c_11 (Int32.not_le.mpr c_17) rfl (by decide)
          refine lv_iload_n hx hb dX2_turned_31 rfl (lv_at hl 1 rfl) ?_
          refine lv_iload_n hx hb dX2_turned_32 rfl (lv_at hl 2 rfl) ?_
          refine lv_icmp_ne (tgt := 47) hx hb dX2_turned_33 (by decide) (fun c_33 => ?_) (fun c_33 => ?_)
          · refine lv_aload_n hx hb dX2_turned_47 rfl (lv_at hl 0 rfl) ?_
            refine lv_iload_n hx hb dX2_turned_48 rfl (lv_at hl 1 rfl) ?_
            refine lv_dup2_11 hx hb dX2_turned_49 rfl rfl ?_
            refine kx_iald (v := (g 2 w.toNatClampNeg)) hx hb hG hw (kC_I rfl) w.toNatClampNeg rfl (by first | assumption | exact ix_of (by assumption) (by assumption) rfl (by decide)) rfl dX2_turned_50 ?_
            refine lv_iconst (v := 1) hx hb dX2_turned_51 (by decide) ?_
            refine lv_iload_n hx hb dX2_turned_52 rfl (lv_at hl 2 rfl) ?_
            refine lv_ishl hx hb dX2_turned_53 ?_
            refine lv_ixor hx hb dX2_turned_54 ?_
            refine kx_iast hx hb hG hw hS (fun _ => (kC_I rfl)) w.toNatClampNeg rfl (by first | assumption | exact ix_of (by assumption) (by assumption) rfl (by decide)) dX2_turned_55 (fun H locs hw hS => ?_)
            refine lv_aload_n hx hb dX2_turned_56 rfl (lv_at hl 0 rfl) ?_
            refine lv_iload_n hx hb dX2_turned_57 rfl (lv_at hl 2 rfl) ?_
            refine lv_dup2_11 hx hb dX2_turned_58 rfl rfl ?_
            refine kx_iald (v := ((sU g 2 w.toNatClampNeg ((g 2 w.toNatClampNeg) ^^^ ((1 : Int32) <<< (o &&& 31)))) 2 o.toNatClampNeg)) hx hb hG hw (kC_I rfl) o.toNatClampNeg rfl (by first | assumption | exact ix_of (by assumption) (by assumption) rfl (by decide)) rfl dX2_turned_59 ?_
            refine lv_iconst (v := 1) hx hb dX2_turned_60 (by decide) ?_
            refine lv_iload_n hx hb dX2_turned_61 rfl (lv_at hl 1 rfl) ?_
            refine lv_ishl hx hb dX2_turned_62 ?_
            refine lv_ixor hx hb dX2_turned_63 ?_
            refine kx_iast hx hb hG hw hS (fun _ => (kC_I rfl)) o.toNatClampNeg rfl (by first | assumption | exact ix_of (by assumption) (by assumption) rfl (by decide)) dX2_turned_64 (fun H locs hw hS => ?_)
            refine lv_aload_n hx hb dX2_turned_65 rfl (lv_at hl 0 rfl) ?_
            refine lv_iload_n hx hb dX2_turned_66 rfl (lv_at hl 1 rfl) ?_
            refine kx_iald (v := ((sU (sU g 2 w.toNatClampNeg ((g 2 w.toNatClampNeg) ^^^ ((1 : Int32) <<< (o &&& 31)))) 2 o.toNatClampNeg (((sU g 2 w.toNatClampNeg ((g 2 w.toNatClampNeg) ^^^ ((1 : Int32) <<< (o &&& 31)))) 2 o.toNatClampNeg) ^^^ ((1 : Int32) <<< (w &&& 31)))) 2 w.toNatClampNeg)) hx hb hG hw (kC_I rfl) w.toNatClampNeg rfl (by first | assumption | exact ix_of (by assumption) (by assumption) rfl (by decide)) rfl dX2_turned_67 ?_
            refine lv_iconst (v := 1) hx hb dX2_turned_68 (by decide) ?_
            refine lv_iload_n hx hb dX2_turned_69 rfl (lv_at hl 2 rfl) ?_
            refine lv_ishl hx hb dX2_turned_70 ?_
            refine lv_iand hx hb dX2_turned_71 ?_
            have hj_80_0 : ∀ (H : Heap) (locs : List Loc) (ls : Array Slot), kW D cy base ad n nc (sU (sU g 2 w.toNatClampNeg ((g 2 w.toNatClampNeg) ^^^ ((1 : Int32) <<< (o &&& 31)))) 2 o.toNatClampNeg (((sU g 2 w.toNatClampNeg ((g 2 w.toNatClampNeg) ^^^ ((1 : Int32) <<< (o &&& 31)))) 2 o.toNatClampNeg) ^^^ ((1 : Int32) <<< (w &&& 31)))) H → va_S (kA base) s.heap H locs → lv_has ls 3 [(0, .ref (ad 2)), (1, .int w), (2, .int o)] → W p l e (kR 6 1 6) s m args below meth c H locs 0 0 Q (F0 m 80 ls [.int (b2 (!(decide ((((sU (sU g 2 w.toNatClampNeg ((g 2 w.toNatClampNeg) ^^^ ((1 : Int32) <<< (o &&& 31)))) 2 o.toNatClampNeg (((sU g 2 w.toNatClampNeg ((g 2 w.toNatClampNeg) ^^^ ((1 : Int32) <<< (o &&& 31)))) 2 o.toNatClampNeg) ^^^ ((1 : Int32) <<< (w &&& 31)))) 2 w.toNatClampNeg) &&& ((1 : Int32) <<< (o &&& 31))) = (0 : Int32)))))]) := by
              intro H locs ls hw hS hl
              exact kx_retZ hQ hx hb hr hlk hw hS (Nat.le_of_ble_eq_true rfl) (Nat.le_of_ble_eq_true rfl) dX2_turned_80 (nar_b2 _) (kd_i (by first | (simp only [kd2, inn_8, decide_eq_false c_1, if_neg c_1, decide_eq_false c_7, if_neg c_7, decide_eq_false c_11, if_neg c_11, decide_eq_true c_17, if_pos c_17, decide_eq_false c_33, if_neg c_33, Int32.not_le.mpr c_17]; done) | (simp only [kd2, inn_8, decide_eq_false c_1, if_neg c_1, decide_eq_false c_7, if_neg c_7, decide_eq_false c_11, if_neg c_11, decide_eq_true c_17, if_pos c_17, decide_eq_false c_33, if_neg c_33, decide_eq_false (Int32.not_le.mpr c_17)]; rfl)) (by have hne := cl_ne v_w v_o (by decide) c_33; rw [mask_eq _ _ v_o (by decide)]; simp [tb, sU, hne, Ne.symm hne]) (by have hne := cl_ne v_w v_o (by decide) c_33; simp [tg, sU, hne, Ne.symm hne]))
            refine lv_if_eq (tgt := 79) hx hb dX2_turned_72 (by decide) (fun c_72 => ?_) (fun c_72 => ?_)
            · refine lv_iconst (v := 0) hx hb dX2_turned_79 (by decide) ?_
              exact kx_top (v := (b2 (!(decide ((((sU (sU g 2 w.toNatClampNeg ((g 2 w.toNatClampNeg) ^^^ ((1 : Int32) <<< (o &&& 31)))) 2 o.toNatClampNeg (((sU g 2 w.toNatClampNeg ((g 2 w.toNatClampNeg) ^^^ ((1 : Int32) <<< (o &&& 31)))) 2 o.toNatClampNeg) ^^^ ((1 : Int32) <<< (w &&& 31)))) 2 w.toNatClampNeg) &&& ((1 : Int32) <<< (o &&& 31))) = (0 : Int32)))))) (by first | (simp only [bq, decide_eq_true c_72, if_pos c_72]; done) | (simp only [bq, decide_eq_true c_72, if_pos c_72]; rfl) | (simp [bq, decide_eq_true c_72, if_pos c_72]; done)) (hj_80_0 _ _ _ hw hS hl)
            · refine lv_iconst (v := 1) hx hb dX2_turned_75 (by decide) ?_
              refine lv_goto (tgt := 80) hx hb dX2_turned_76 (by decide) ?_
              exact kx_top (v := (b2 (!(decide ((((sU (sU g 2 w.toNatClampNeg ((g 2 w.toNatClampNeg) ^^^ ((1 : Int32) <<< (o &&& 31)))) 2 o.toNatClampNeg (((sU g 2 w.toNatClampNeg ((g 2 w.toNatClampNeg) ^^^ ((1 : Int32) <<< (o &&& 31)))) 2 o.toNatClampNeg) ^^^ ((1 : Int32) <<< (w &&& 31)))) 2 w.toNatClampNeg) &&& ((1 : Int32) <<< (o &&& 31))) = (0 : Int32)))))) (by first | (simp only [bq, decide_eq_false c_72, if_neg c_72]; done) | (simp only [bq, decide_eq_false c_72, if_neg c_72]; rfl) | (simp [bq, decide_eq_false c_72, if_neg c_72]; done)) (hj_80_0 _ _ _ hw hS hl)
          · exact kx_throwIA (text := "both are the same") (is := 310) hQ hx hb hfl hown hG hw hS true (by decide +kernel) xk_IA xi_IA xa_IA (kEx_2 (by first | (simp only [kd2, inn_8, decide_eq_false c_1, if_neg c_1, decide_eq_false c_7, if_neg c_7, decide_eq_false c_11, if_neg c_11, decide_eq_true c_17, if_pos c_17, decide_eq_true c_33, if_pos c_33]; done) | (simp only [kd2, inn_8, decide_eq_false c_1, if_neg c_1, decide_eq_false c_7, if_neg c_7, decide_eq_false c_11, if_neg c_11, decide_eq_true c_17, if_pos c_17, decide_eq_true c_33, if_pos c_33]; rfl) | (simp [kd2, inn_8, decide_eq_false c_1, if_neg c_1, decide_eq_false c_7, if_neg c_7, decide_eq_false c_11, if_neg c_11, decide_eq_true c_17, if_pos c_17, decide_eq_true c_33, if_pos c_33]; done) | (simp only [kd2, inn_8, decide_eq_false c_1, if_neg c_1, decide_eq_false c_7, if_neg c_7, decide_eq_false c_11, if_neg c_11, decide_eq_true c_17, if_pos c_17, decide_eq_true c_33, if_pos c_33, decide_eq_true (Int32.not_lt.mp c_17)]; rfl) | (simp only [kd2, inn_8, decide_eq_false c_1, if_neg c_1, decide_eq_false c_7, if_neg c_7, decide_eq_false c_11, if_neg c_11, decide_eq_true c_17, if_pos c_17, decide_eq_true c_33, if_pos c_33, decide_eq_false (Int32.not_le.mpr c_17)]; rfl))) (hl.1.trans hml.symm) hT rfl dX2_turned_36 dX2_turned_39 dX2_turned_40 dX2_turned_43 dX2_turned_46 ⟨by decide, Nat.le_of_ble_eq_true rfl, Nat.le_of_ble_eq_true rfl, Nat.le_of_ble_eq_true rfl⟩ hlk (Nat.le_of_ble_eq_true rfl) (Nat.le_of_ble_eq_true rfl)
        · exact kx_throwIO (text := "no such word or kind") (is := 308) hQ hx hb hfl hown hG hw hS true (by decide +kernel) xk_IO xi_IO xa_IO (kEx_1 (by first | (simp only [kd2, inn_8, decide_eq_false c_1, if_neg c_1, decide_eq_false c_7, if_neg c_7, decide_eq_false c_11, if_neg c_11, decide_eq_false c_17, if_neg c_17]; done) | (simp only [kd2, inn_8, decide_eq_false c_1, if_neg c_1, decide_eq_false c_7, if_neg c_7, decide_eq_false c_11, if_neg c_11, decide_eq_false c_17, if_neg c_17]; rfl) | (simp [kd2, inn_8, decide_eq_false c_1, if_neg c_1, decide_eq_false c_7, if_neg c_7, decide_eq_false c_11, if_neg c_11, decide_eq_false c_17, if_neg c_17]; done) | (simp only [kd2, inn_8, decide_eq_false c_1, if_neg c_1, decide_eq_false c_7, if_neg c_7, decide_eq_false c_11, if_neg c_11, decide_eq_false c_17, if_neg c_17, decide_eq_true (Int32.not_lt.mp c_17)]; rfl) | (simp only [kd2, inn_8, decide_eq_false c_1, if_neg c_1, decide_eq_false c_7, if_neg c_7, decide_eq_false c_11, if_neg c_11, decide_eq_false c_17, if_neg c_17, decide_eq_false (Int32.not_le.mpr c_17)]; rfl))) (hl.1.trans hml.symm) hT rfl dX2_turned_20 dX2_turned_23 dX2_turned_24 dX2_turned_27 dX2_turned_30 ⟨by decide, Nat.le_of_ble_eq_true rfl, Nat.le_of_ble_eq_true rfl, Nat.le_of_ble_eq_true rfl⟩ hlk (Nat.le_of_ble_eq_true rfl) (Nat.le_of_ble_eq_true rfl)
theorem hd_X2_near : yX2_near.cls = RX2 ∧ yX2_near.cls ≠ "java/lang/invoke/MethodHandle" ∧ yX2_near.cls ≠ "java/lang/invoke/VarHandle" ∧ (parseMethodDescriptor yX2_near.desc).map (fun d => d.parameters.length) = some 2 := by decide +kernel
set_option maxHeartbeats 4000000 in
set_option maxRecDepth 100000 in
theorem c_X2_near (l : Launch) (hfl : l.stackTraces = false) (D : va_G) (cy : Nat → ClassId) (base : Nat → Prop) (ad : Nat → Nat) (n nc : Nat) (g : sg) (w : Int32) (o : Int32) : kM l yX2_near wsX2_near (kR 7 1 6) D cy base ad n nc g [.ref (ad 0), .int w, .int o] (kD (kd2 (inn w 0 23 && inn o 0 23) (!decide (w = o)) = 0) (some (.int (b2 (tb g 1 w o)))) ad n nc (tg g 1 w o)) (kEx (kd2 (inn w 0 23 && inn o 0 23) (!decide (w = o)))) 1 6 := by
  refine kx_meth (cc := cX2_near) (maxL := 3) (ret := (some .boolean)) (by decide) rfl (Nat.le_of_ble_eq_true rfl) ?_
  intro p e s m args below meth c ls hx hb hr hml hown hts hlk hT hG hw0 hS0 hl Q H locs hQ hw hS hH0 hlocs0
  have hl : lv_has ls 3 [(0, .ref (ad 0)), (1, .int w), (2, .int o)] := hl
  have hown : s.vm.findClass RX2 = some m.cls := hown
  have hF : CallFix p m c cX2_near 3 s args wsX2_near RX2 := ⟨hx, hb, hml, hown, hts⟩
  have hn30 : n ≤ 30 := hw.2.2.1
  have hc20 : nc ≤ 20 := hw.2.2.2
  clear hw0 hS0 hH0 hlocs0
  have i2 : ∀ w ∈ wsX20, w ∈ wsX2_near := by decide +kernel
  have f_9 := hts (.fieldLink RX2 9 "Lostroom" "nearWords" "[I") (by decide +kernel)
  refine lv_aload_n hx hb dX2_near_0 rfl (lv_at hl 0 rfl) ?_
  refine kx_getL (v := .ref (ad 1)) hx hb hts hown hG hw i2 0 (by decide) f_9 rfl dX2_near_1 ?_
  refine lv_iload_n hx hb dX2_near_4 rfl (lv_at hl 1 rfl) ?_
  refine lv_iload_n hx hb dX2_near_5 rfl (lv_at hl 2 rfl) ?_
  refine kx_do (st1 := [.int (b2 (tb g 1 w o))]) (kx_cs (As := [.ref (ad 1), .int w, .int o]) (rest := []) hF hG hw hS hl.1 (c_X2_turned_1 l hfl D cy base ad n nc g w o ) gX2_near_X2_turned rfl rfl rfl hd_X2_turned ⟨Nat.le_of_ble_eq_true rfl, Nat.le_of_ble_eq_true rfl⟩ rfl rfl (Nat.le_of_ble_eq_true rfl) dX2_near_6 ⟨Nat.le_of_ble_eq_true rfl, Nat.le_of_ble_eq_true rfl⟩) hS rfl (fun E9 ce9 q9 H locs hX9 hw hS hc9 hv9 hcl9 => kx_out hQ hT hlk hw hS hX9 hc9 hv9 hcl9 (Nat.le_of_ble_eq_true rfl) (Nat.le_of_ble_eq_true rfl)) (fun ok_6 H locs hw hS => ?_)
  exact kx_retZ hQ hx hb hr hlk hw hS (Nat.le_of_ble_eq_true rfl) (Nat.le_of_ble_eq_true rfl) dX2_near_9 (nar_b2 _) (kd_i (by exact ok_6) (rfl) (by rfl))
theorem hd_X2_alike : yX2_alike.cls = RX2 ∧ yX2_alike.cls ≠ "java/lang/invoke/MethodHandle" ∧ yX2_alike.cls ≠ "java/lang/invoke/VarHandle" ∧ (parseMethodDescriptor yX2_alike.desc).map (fun d => d.parameters.length) = some 2 := by decide +kernel
set_option maxHeartbeats 4000000 in
set_option maxRecDepth 100000 in
theorem c_X2_alike (l : Launch) (hfl : l.stackTraces = false) (D : va_G) (cy : Nat → ClassId) (base : Nat → Prop) (ad : Nat → Nat) (n nc : Nat) (g : sg) (w : Int32) (o : Int32) : kM l yX2_alike wsX2_alike (kR 7 1 6) D cy base ad n nc g [.ref (ad 0), .int w, .int o] (kD (kd2 (inn w 0 7 && inn o 0 7) (!decide (w = o)) = 0) (some (.int (b2 (tb g 2 w o)))) ad n nc (tg g 2 w o)) (kEx (kd2 (inn w 0 7 && inn o 0 7) (!decide (w = o)))) 1 6 := by
  refine kx_meth (cc := cX2_alike) (maxL := 3) (ret := (some .boolean)) (by decide) rfl (Nat.le_of_ble_eq_true rfl) ?_
  intro p e s m args below meth c ls hx hb hr hml hown hts hlk hT hG hw0 hS0 hl Q H locs hQ hw hS hH0 hlocs0
  have hl : lv_has ls 3 [(0, .ref (ad 0)), (1, .int w), (2, .int o)] := hl
  have hown : s.vm.findClass RX2 = some m.cls := hown
  have hF : CallFix p m c cX2_alike 3 s args wsX2_alike RX2 := ⟨hx, hb, hml, hown, hts⟩
  have hn30 : n ≤ 30 := hw.2.2.1
  have hc20 : nc ≤ 20 := hw.2.2.2
  clear hw0 hS0 hH0 hlocs0
  have i2 : ∀ w ∈ wsX20, w ∈ wsX2_alike := by decide +kernel
  have f_13 := hts (.fieldLink RX2 13 "Lostroom" "alikeKinds" "[I") (by decide +kernel)
  refine lv_aload_n hx hb dX2_alike_0 rfl (lv_at hl 0 rfl) ?_
  refine kx_getL (v := .ref (ad 2)) hx hb hts hown hG hw i2 1 (by decide) f_13 rfl dX2_alike_1 ?_
  refine lv_iload_n hx hb dX2_alike_4 rfl (lv_at hl 1 rfl) ?_
  refine lv_iload_n hx hb dX2_alike_5 rfl (lv_at hl 2 rfl) ?_
  refine kx_do (st1 := [.int (b2 (tb g 2 w o))]) (kx_cs (As := [.ref (ad 2), .int w, .int o]) (rest := []) hF hG hw hS hl.1 (c_X2_turned_2 l hfl D cy base ad n nc g w o ) gX2_alike_X2_turned rfl rfl rfl hd_X2_turned ⟨Nat.le_of_ble_eq_true rfl, Nat.le_of_ble_eq_true rfl⟩ rfl rfl (Nat.le_of_ble_eq_true rfl) dX2_alike_6 ⟨Nat.le_of_ble_eq_true rfl, Nat.le_of_ble_eq_true rfl⟩) hS rfl (fun E9 ce9 q9 H locs hX9 hw hS hc9 hv9 hcl9 => kx_out hQ hT hlk hw hS hX9 hc9 hv9 hcl9 (Nat.le_of_ble_eq_true rfl) (Nat.le_of_ble_eq_true rfl)) (fun ok_6 H locs hw hS => ?_)
  exact kx_retZ hQ hx hb hr hlk hw hS (Nat.le_of_ble_eq_true rfl) (Nat.le_of_ble_eq_true rfl) dX2_alike_9 (nar_b2 _) (kd_i (by exact ok_6) (rfl) (by rfl))
theorem hd_X2_foundAt : yX2_foundAt.cls = RX2 ∧ yX2_foundAt.cls ≠ "java/lang/invoke/MethodHandle" ∧ yX2_foundAt.cls ≠ "java/lang/invoke/VarHandle" ∧ (parseMethodDescriptor yX2_foundAt.desc).map (fun d => d.parameters.length) = some 1 := by decide +kernel
set_option maxHeartbeats 4000000 in
set_option maxRecDepth 100000 in
theorem c_X2_foundAt (l : Launch) (hfl : l.stackTraces = false) (D : va_G) (cy : Nat → ClassId) (base : Nat → Prop) (ad : Nat → Nat) (n nc : Nat) (g : sg) (x : Int32) (hfr : ∀ j, j < 30 → g 6 j = if j < n then 1 else 0) : kM l yX2_foundAt wsX2_foundAt (kR 6 1 6) D cy base ad n nc g [.ref (ad 0), .int x] (kD (isF n x = true) (some (.ref (ad (100 + 3 * x.toNatClampNeg)))) ad n nc g) (kEx (rq (isF n x) 1)) 1 6 := by
  refine kx_meth (cc := cX2_foundAt) (maxL := 3) (ret := (some (.object "Lostroom$Found"))) (by decide) rfl (Nat.le_of_ble_eq_true rfl) ?_
  intro p e s m args below meth c ls hx hb hr hml hown hts hlk hT hG hw0 hS0 hl Q H locs hQ hw hS hH0 hlocs0
  have hl : lv_has ls 3 [(0, .ref (ad 0)), (1, .int x)] := hl
  have hown : s.vm.findClass RX2 = some m.cls := hown
  have hF : CallFix p m c cX2_foundAt 3 s args wsX2_foundAt RX2 := ⟨hx, hb, hml, hown, hts⟩
  have hn30 : n ≤ 30 := hw.2.2.1
  have hc20 : nc ≤ 20 := hw.2.2.2
  clear hw0 hS0 hH0 hlocs0
  have i2 : ∀ w ∈ wsX20, w ∈ wsX2_foundAt := by decide +kernel
  have f_27 := hts (.fieldLink RX2 27 "Lostroom" "finds" "[LLostroom$Found;") (by decide +kernel)
  have xk_IO := hts (.classLink RX2 66 "java/lang/IndexOutOfBoundsException") (by decide +kernel)
  have xi_IO := hts (.initialized "java/lang/IndexOutOfBoundsException") (by decide +kernel)
  have xa_IO : ∀ w ∈ (vx_atS RX2 70 "java/lang/IndexOutOfBoundsException" kNm).filter goodWord, w.before args s = true := fun w h => hts w ((by decide +kernel : ∀ w ∈ (vx_atS RX2 70 "java/lang/IndexOutOfBoundsException" kNm).filter goodWord, w ∈ wsX2_foundAt) w h)
  refine lv_iload_n hx hb dX2_foundAt_0 rfl (lv_at hl 1 rfl) ?_
  refine lv_if_lt (tgt := 13) hx hb dX2_foundAt_1 (by decide) (fun c_1 => ?_) (fun c_1 => ?_)
  · exact kx_throwIO (text := "no such find") (is := 304) hQ hx hb hfl hown hG hw hS true (by decide +kernel) xk_IO xi_IO xa_IO (kEx_1 (rq_f (isF_f1 c_1))) (hl.1.trans hml.symm) hT rfl dX2_foundAt_13 dX2_foundAt_16 dX2_foundAt_17 dX2_foundAt_20 dX2_foundAt_23 ⟨by decide, Nat.le_of_ble_eq_true rfl, Nat.le_of_ble_eq_true rfl, Nat.le_of_ble_eq_true rfl⟩ hlk (Nat.le_of_ble_eq_true rfl) (Nat.le_of_ble_eq_true rfl)
  · refine lv_iload_n hx hb dX2_foundAt_4 rfl (lv_at hl 1 rfl) ?_
    refine lv_aload_n hx hb dX2_foundAt_5 rfl (lv_at hl 0 rfl) ?_
    refine kx_getL (v := .ref (ad 6)) hx hb hts hown hG hw i2 5 (by decide) f_27 rfl dX2_foundAt_6 ?_
    refine kx_alen (v := 30) hx hb hG hw kC_6 1 rfl rfl dX2_foundAt_9 ?_
    refine lv_icmp_lt (tgt := 24) hx hb dX2_foundAt_10 (by decide) (fun c_10 => ?_) (fun c_10 => ?_)
    · refine lv_aload_n hx hb dX2_foundAt_24 rfl (lv_at hl 0 rfl) ?_
      refine kx_getL (v := .ref (ad 6)) hx hb hts hown hG hw i2 5 (by decide) f_27 rfl dX2_foundAt_25 ?_
      refine lv_iload_n hx hb dX2_foundAt_28 rfl (lv_at hl 1 rfl) ?_
      have hq2 : x.toNatClampNeg < 30 := vp_lt (ix_of c_1 (Int32.not_le.mpr c_10) rfl (by decide))
      rcases Nat.lt_or_ge x.toNatClampNeg n with ha1 | ha1
      · refine kx_aaldF (v := .ref (ad (100 + 3 * x.toNatClampNeg))) hx hb hG hw x.toNatClampNeg rfl (ix_of c_1 (Int32.not_le.mpr c_10) rfl (by decide)) (by rw [hfr x.toNatClampNeg hq2, if_pos ha1]; rfl) dX2_foundAt_29 ?_
        refine lv_astore_n (lv' := [(2, .ref (ad (100 + 3 * x.toNatClampNeg))), (0, .ref (ad 0)), (1, .int x)]) hx hb dX2_foundAt_30 rfl hl (by decide) rfl (fun ls hl => ?_)
        refine lv_aload_n hx hb dX2_foundAt_31 rfl (lv_at hl 0 rfl) ?_
        refine lv_ifnonnull (tgt := 46) hx hb dX2_foundAt_32 (by decide) ?_
        refine lv_aload_n hx hb dX2_foundAt_46 rfl (lv_at hl 0 rfl) ?_
        exact kx_retA hQ hx hb hr hlk hw hS (Nat.le_of_ble_eq_true rfl) (Nat.le_of_ble_eq_true rfl) dX2_foundAt_47 (kd_a (isF_v (L := 30) (ix_of c_1 (Int32.not_le.mpr c_10) rfl (by decide)) (by decide) (by assumption) (by omega)) rfl (rfl))
      · refine kx_aaldF (v := .null) hx hb hG hw x.toNatClampNeg rfl (ix_of c_1 (Int32.not_le.mpr c_10) rfl (by decide)) (by rw [hfr x.toNatClampNeg hq2, if_neg (Nat.not_lt.mpr ha1)]; rfl) dX2_foundAt_29 ?_
        refine lv_astore_nN (lv' := [(2, .null), (0, .ref (ad 0)), (1, .int x)]) hx hb dX2_foundAt_30 rfl hl (by decide) rfl (fun ls hl => ?_)
        refine lv_aload_nN hx hb dX2_foundAt_31 rfl (lv_at hl 0 rfl) ?_
        refine lv_ifnonnullN hx hb dX2_foundAt_32 ?_
        exact kx_throwIO (text := "no such find") (is := 304) hQ hx hb hfl hown hG hw hS true (by decide +kernel) xk_IO xi_IO xa_IO (kEx_1 (rq_f (isF_f3 (L := 0) ha1 (by omega)))) (hl.1.trans hml.symm) hT rfl dX2_foundAt_35 dX2_foundAt_38 dX2_foundAt_39 dX2_foundAt_42 dX2_foundAt_45 ⟨by decide, Nat.le_of_ble_eq_true rfl, Nat.le_of_ble_eq_true rfl, Nat.le_of_ble_eq_true rfl⟩ hlk (Nat.le_of_ble_eq_true rfl) (Nat.le_of_ble_eq_true rfl)
    · exact kx_throwIO (text := "no such find") (is := 304) hQ hx hb hfl hown hG hw hS true (by decide +kernel) xk_IO xi_IO xa_IO (kEx_1 (rq_f (isF_f2 (Int32.not_lt.mp c_10) rfl (by omega) (by decide)))) (hl.1.trans hml.symm) hT rfl dX2_foundAt_13 dX2_foundAt_16 dX2_foundAt_17 dX2_foundAt_20 dX2_foundAt_23 ⟨by decide, Nat.le_of_ble_eq_true rfl, Nat.le_of_ble_eq_true rfl, Nat.le_of_ble_eq_true rfl⟩ hlk (Nat.le_of_ble_eq_true rfl) (Nat.le_of_ble_eq_true rfl)
theorem hd_X2_claimAt : yX2_claimAt.cls = RX2 ∧ yX2_claimAt.cls ≠ "java/lang/invoke/MethodHandle" ∧ yX2_claimAt.cls ≠ "java/lang/invoke/VarHandle" ∧ (parseMethodDescriptor yX2_claimAt.desc).map (fun d => d.parameters.length) = some 1 := by decide +kernel
set_option maxHeartbeats 4000000 in
set_option maxRecDepth 100000 in
theorem c_X2_claimAt (l : Launch) (hfl : l.stackTraces = false) (D : va_G) (cy : Nat → ClassId) (base : Nat → Prop) (ad : Nat → Nat) (n nc : Nat) (g : sg) (x : Int32) (hcr : ∀ j, j < 20 → g 7 j = if j < nc then 1 else 0) : kM l yX2_claimAt wsX2_claimAt (kR 6 1 6) D cy base ad n nc g [.ref (ad 0), .int x] (kD (isF nc x = true) (some (.ref (ad (200 + x.toNatClampNeg)))) ad n nc g) (kEx (rq (isF nc x) 1)) 1 6 := by
  refine kx_meth (cc := cX2_claimAt) (maxL := 3) (ret := (some (.object "Lostroom$Claim"))) (by decide) rfl (Nat.le_of_ble_eq_true rfl) ?_
  intro p e s m args below meth c ls hx hb hr hml hown hts hlk hT hG hw0 hS0 hl Q H locs hQ hw hS hH0 hlocs0
  have hl : lv_has ls 3 [(0, .ref (ad 0)), (1, .int x)] := hl
  have hown : s.vm.findClass RX2 = some m.cls := hown
  have hF : CallFix p m c cX2_claimAt 3 s args wsX2_claimAt RX2 := ⟨hx, hb, hml, hown, hts⟩
  have hn30 : n ≤ 30 := hw.2.2.1
  have hc20 : nc ≤ 20 := hw.2.2.2
  clear hw0 hS0 hH0 hlocs0
  have i2 : ∀ w ∈ wsX20, w ∈ wsX2_claimAt := by decide +kernel
  have f_33 := hts (.fieldLink RX2 33 "Lostroom" "claims" "[LLostroom$Claim;") (by decide +kernel)
  have xk_IO := hts (.classLink RX2 66 "java/lang/IndexOutOfBoundsException") (by decide +kernel)
  have xi_IO := hts (.initialized "java/lang/IndexOutOfBoundsException") (by decide +kernel)
  have xa_IO : ∀ w ∈ (vx_atS RX2 70 "java/lang/IndexOutOfBoundsException" kNm).filter goodWord, w.before args s = true := fun w h => hts w ((by decide +kernel : ∀ w ∈ (vx_atS RX2 70 "java/lang/IndexOutOfBoundsException" kNm).filter goodWord, w ∈ wsX2_claimAt) w h)
  refine lv_iload_n hx hb dX2_claimAt_0 rfl (lv_at hl 1 rfl) ?_
  refine lv_if_lt (tgt := 13) hx hb dX2_claimAt_1 (by decide) (fun c_1 => ?_) (fun c_1 => ?_)
  · exact kx_throwIO (text := "no such claim") (is := 306) hQ hx hb hfl hown hG hw hS true (by decide +kernel) xk_IO xi_IO xa_IO (kEx_1 (rq_f (isF_f1 c_1))) (hl.1.trans hml.symm) hT rfl dX2_claimAt_13 dX2_claimAt_16 dX2_claimAt_17 dX2_claimAt_20 dX2_claimAt_23 ⟨by decide, Nat.le_of_ble_eq_true rfl, Nat.le_of_ble_eq_true rfl, Nat.le_of_ble_eq_true rfl⟩ hlk (Nat.le_of_ble_eq_true rfl) (Nat.le_of_ble_eq_true rfl)
  · refine lv_iload_n hx hb dX2_claimAt_4 rfl (lv_at hl 1 rfl) ?_
    refine lv_aload_n hx hb dX2_claimAt_5 rfl (lv_at hl 0 rfl) ?_
    refine kx_getL (v := .ref (ad 7)) hx hb hts hown hG hw i2 6 (by decide) f_33 rfl dX2_claimAt_6 ?_
    refine kx_alen (v := 20) hx hb hG hw kC_7 2 rfl rfl dX2_claimAt_9 ?_
    refine lv_icmp_lt (tgt := 24) hx hb dX2_claimAt_10 (by decide) (fun c_10 => ?_) (fun c_10 => ?_)
    · refine lv_aload_n hx hb dX2_claimAt_24 rfl (lv_at hl 0 rfl) ?_
      refine kx_getL (v := .ref (ad 7)) hx hb hts hown hG hw i2 6 (by decide) f_33 rfl dX2_claimAt_25 ?_
      refine lv_iload_n hx hb dX2_claimAt_28 rfl (lv_at hl 1 rfl) ?_
      have hq2 : x.toNatClampNeg < 20 := vp_lt (ix_of c_1 (Int32.not_le.mpr c_10) rfl (by decide))
      rcases Nat.lt_or_ge x.toNatClampNeg nc with ha1 | ha1
      · refine kx_aaldC (v := .ref (ad (200 + x.toNatClampNeg))) hx hb hG hw x.toNatClampNeg rfl (ix_of c_1 (Int32.not_le.mpr c_10) rfl (by decide)) (by rw [hcr x.toNatClampNeg hq2, if_pos ha1]; rfl) dX2_claimAt_29 ?_
        refine lv_astore_n (lv' := [(2, .ref (ad (200 + x.toNatClampNeg))), (0, .ref (ad 0)), (1, .int x)]) hx hb dX2_claimAt_30 rfl hl (by decide) rfl (fun ls hl => ?_)
        refine lv_aload_n hx hb dX2_claimAt_31 rfl (lv_at hl 0 rfl) ?_
        refine lv_ifnonnull (tgt := 46) hx hb dX2_claimAt_32 (by decide) ?_
        refine lv_aload_n hx hb dX2_claimAt_46 rfl (lv_at hl 0 rfl) ?_
        exact kx_retA hQ hx hb hr hlk hw hS (Nat.le_of_ble_eq_true rfl) (Nat.le_of_ble_eq_true rfl) dX2_claimAt_47 (kd_a (isF_v (L := 20) (ix_of c_1 (Int32.not_le.mpr c_10) rfl (by decide)) (by decide) (by assumption) (by omega)) rfl (rfl))
      · refine kx_aaldC (v := .null) hx hb hG hw x.toNatClampNeg rfl (ix_of c_1 (Int32.not_le.mpr c_10) rfl (by decide)) (by rw [hcr x.toNatClampNeg hq2, if_neg (Nat.not_lt.mpr ha1)]; rfl) dX2_claimAt_29 ?_
        refine lv_astore_nN (lv' := [(2, .null), (0, .ref (ad 0)), (1, .int x)]) hx hb dX2_claimAt_30 rfl hl (by decide) rfl (fun ls hl => ?_)
        refine lv_aload_nN hx hb dX2_claimAt_31 rfl (lv_at hl 0 rfl) ?_
        refine lv_ifnonnullN hx hb dX2_claimAt_32 ?_
        exact kx_throwIO (text := "no such claim") (is := 306) hQ hx hb hfl hown hG hw hS true (by decide +kernel) xk_IO xi_IO xa_IO (kEx_1 (rq_f (isF_f3 (L := 0) ha1 (by omega)))) (hl.1.trans hml.symm) hT rfl dX2_claimAt_35 dX2_claimAt_38 dX2_claimAt_39 dX2_claimAt_42 dX2_claimAt_45 ⟨by decide, Nat.le_of_ble_eq_true rfl, Nat.le_of_ble_eq_true rfl, Nat.le_of_ble_eq_true rfl⟩ hlk (Nat.le_of_ble_eq_true rfl) (Nat.le_of_ble_eq_true rfl)
    · exact kx_throwIO (text := "no such claim") (is := 306) hQ hx hb hfl hown hG hw hS true (by decide +kernel) xk_IO xi_IO xa_IO (kEx_1 (rq_f (isF_f2 (Int32.not_lt.mp c_10) rfl (by omega) (by decide)))) (hl.1.trans hml.symm) hT rfl dX2_claimAt_13 dX2_claimAt_16 dX2_claimAt_17 dX2_claimAt_20 dX2_claimAt_23 ⟨by decide, Nat.le_of_ble_eq_true rfl, Nat.le_of_ble_eq_true rfl, Nat.le_of_ble_eq_true rfl⟩ hlk (Nat.le_of_ble_eq_true rfl) (Nat.le_of_ble_eq_true rfl)
theorem hd_X2_rule : yX2_rule.cls = RX2 ∧ yX2_rule.cls ≠ "java/lang/invoke/MethodHandle" ∧ yX2_rule.cls ≠ "java/lang/invoke/VarHandle" ∧ (parseMethodDescriptor yX2_rule.desc).map (fun d => d.parameters.length) = some 3 := by decide +kernel
set_option maxHeartbeats 4000000 in
set_option maxRecDepth 100000 in
theorem c_X2_rule (l : Launch) (hfl : l.stackTraces = false) (D : va_G) (cy : Nat → ClassId) (base : Nat → Prop) (ad : Nat → Nat) (n nc : Nat) (g : sg) (k : Int32) (t : Int32) (r : Int32) : kM l yX2_rule wsX2_rule (kR 7 1 6) D cy base ad n nc g [.ref (ad 0), .int k, .int t, .int r] (kD (kd2 (inn k 0 7) (inn t 1 400 && inn r 0 50) = 0) (some (.int (g 4 k.toNatClampNeg))) ad n nc (sU (sU g 4 k.toNatClampNeg t) 5 k.toNatClampNeg r)) (kEx (kd2 (inn k 0 7) (inn t 1 400 && inn r 0 50))) 1 6 := by
  refine kx_meth (cc := cX2_rule) (maxL := 5) (ret := (some .int)) (by decide) rfl (Nat.le_of_ble_eq_true rfl) ?_
  intro p e s m args below meth c ls hx hb hr hml hown hts hlk hT hG hw0 hS0 hl Q H locs hQ hw hS hH0 hlocs0
  have hl : lv_has ls 5 [(0, .ref (ad 0)), (1, .int k), (2, .int t), (3, .int r)] := hl
  have hown : s.vm.findClass RX2 = some m.cls := hown
  have hF : CallFix p m c cX2_rule 5 s args wsX2_rule RX2 := ⟨hx, hb, hml, hown, hts⟩
  have hn30 : n ≤ 30 := hw.2.2.1
  have hc20 : nc ≤ 20 := hw.2.2.2
  clear hw0 hS0 hH0 hlocs0
  have i2 : ∀ w ∈ wsX20, w ∈ wsX2_rule := by decide +kernel
  have f_19 := hts (.fieldLink RX2 19 "Lostroom" "terms" "[I") (by decide +kernel)
  have f_22 := hts (.fieldLink RX2 22 "Lostroom" "rates" "[I") (by decide +kernel)
  have xk_IA := hts (.classLink RX2 77 "java/lang/IllegalArgumentException") (by decide +kernel)
  have xi_IA := hts (.initialized "java/lang/IllegalArgumentException") (by decide +kernel)
  have xa_IA : ∀ w ∈ (vx_atS RX2 81 "java/lang/IllegalArgumentException" kNm).filter goodWord, w.before args s = true := fun w h => hts w ((by decide +kernel : ∀ w ∈ (vx_atS RX2 81 "java/lang/IllegalArgumentException" kNm).filter goodWord, w ∈ wsX2_rule) w h)
  have xk_IO := hts (.classLink RX2 66 "java/lang/IndexOutOfBoundsException") (by decide +kernel)
  have xi_IO := hts (.initialized "java/lang/IndexOutOfBoundsException") (by decide +kernel)
  have xa_IO : ∀ w ∈ (vx_atS RX2 70 "java/lang/IndexOutOfBoundsException" kNm).filter goodWord, w.before args s = true := fun w h => hts w ((by decide +kernel : ∀ w ∈ (vx_atS RX2 70 "java/lang/IndexOutOfBoundsException" kNm).filter goodWord, w ∈ wsX2_rule) w h)
  refine lv_iload_n hx hb dX2_rule_0 rfl (lv_at hl 1 rfl) ?_
  refine lv_if_lt (tgt := 22) hx hb dX2_rule_1 (by decide) (fun c_1 => ?_) (fun c_1 => ?_)
  · exact kx_throwIO (text := "no such kind") (is := 68) hQ hx hb hfl hown hG hw hS false (by decide +kernel) xk_IO xi_IO xa_IO (kEx_1 (by first | (simp only [kd2, decide_eq_true c_1, if_pos c_1]; done) | (simp only [kd2, decide_eq_true c_1, if_pos c_1]; rfl) | (simp only [kd2, inn_8, decide_eq_true c_1, if_pos c_1]; rfl))) (hl.1.trans hml.symm) hT rfl dX2_rule_22 dX2_rule_25 dX2_rule_26 dX2_rule_28 dX2_rule_31 ⟨by decide, Nat.le_of_ble_eq_true rfl, Nat.le_of_ble_eq_true rfl, Nat.le_of_ble_eq_true rfl⟩ hlk (Nat.le_of_ble_eq_true rfl) (Nat.le_of_ble_eq_true rfl)
  · refine lv_iload_n hx hb dX2_rule_4 rfl (lv_at hl 1 rfl) ?_
    refine lv_aload_n hx hb dX2_rule_5 rfl (lv_at hl 0 rfl) ?_
    refine kx_getL (v := .ref (ad 4)) hx hb hts hown hG hw i2 3 (by decide) f_19 rfl dX2_rule_6 ?_
    refine kx_alen (v := 8) hx hb hG hw (kC_I rfl) 0 rfl rfl dX2_rule_9 ?_
    refine lv_icmp_ge (tgt := 22) hx hb dX2_rule_10 (by decide) (fun c_10 => ?_) (fun c_10 => ?_)
    · exact kx_throwIO (text := "no such kind") (is := 68) hQ hx hb hfl hown hG hw hS false (by decide +kernel) xk_IO xi_IO xa_IO (kEx_1 (by first | (simp only [kd2, decide_eq_false c_1, if_neg c_1, decide_eq_true c_10, if_pos c_10]; done) | (simp only [kd2, decide_eq_false c_1, if_neg c_1, decide_eq_true c_10, if_pos c_10]; rfl) | (simp only [kd2, inn_8, decide_eq_false c_1, if_neg c_1, decide_eq_true c_10, if_pos c_10]; rfl))) (hl.1.trans hml.symm) hT rfl dX2_rule_22 dX2_rule_25 dX2_rule_26 dX2_rule_28 dX2_rule_31 ⟨by decide, Nat.le_of_ble_eq_true rfl, Nat.le_of_ble_eq_true rfl, Nat.le_of_ble_eq_true rfl⟩ hlk (Nat.le_of_ble_eq_true rfl) (Nat.le_of_ble_eq_true rfl)
    · refine lv_iload_n hx hb dX2_rule_13 rfl (lv_at hl 1 rfl) ?_
      refine lv_aload_n hx hb dX2_rule_14 rfl (lv_at hl 0 rfl) ?_
      refine kx_getL (v := .ref (ad 5)) hx hb hts hown hG hw i2 4 (by decide) f_22 rfl dX2_rule_15 ?_
      refine kx_alen (v := 8) hx hb hG hw (kC_I rfl) 0 rfl rfl dX2_rule_18 ?_
      refine lv_icmp_lt (tgt := 32) hx hb dX2_rule_19 (by decide) (fun c_19 => ?_) (fun c_19 => ?_)
      · have v_k : vp_in k 8 := ix_of c_1 c_10 rfl (by decide)
        have hk8 : inn k 0 7 = true := by rw [inn_8, decide_eq_false c_1, decide_eq_false c_10]; rfl
        refine lv_iload_n hx hb dX2_rule_32 rfl (lv_at hl 2 rfl) ?_
        refine lv_iconst (v := 1) hx hb dX2_rule_33 (by decide) ?_
        refine lv_sipush (v := 400) hx hb dX2_rule_34 (by decide) ?_
        refine kx_do0 (st1 := [.int (b2 (inn t (1 : Int32) (400 : Int32)))]) (kx_cs (As := [.int t, .int (1 : Int32), .int (400 : Int32)]) (rest := []) hF hG hw hS hl.1 (c_X2_isWithin l hfl D cy base ad n nc g t (1 : Int32) (400 : Int32) ) gX2_rule_X2_isWithin rfl rfl rfl hd_X2_isWithin ⟨Nat.le_of_ble_eq_true rfl, Nat.le_of_ble_eq_true rfl⟩ rfl rfl (Nat.le_of_ble_eq_true rfl) dX2_rule_37 ⟨Nat.le_of_ble_eq_true rfl, Nat.le_of_ble_eq_true rfl⟩) hS rfl (fun H locs hw hS => ?_)
        refine kb_ne (tgt := 53) hx hb dX2_rule_40 (by decide) (fun c_40 => ?_) (fun c_40 => ?_)
        · refine lv_iload_n hx hb dX2_rule_53 rfl (lv_at hl 3 rfl) ?_
          refine lv_iconst (v := 0) hx hb dX2_rule_54 (by decide) ?_
          refine lv_bipush (v := 50) hx hb dX2_rule_55 (by decide) ?_
          refine kx_do0 (st1 := [.int (b2 (inn r (0 : Int32) (50 : Int32)))]) (kx_cs (As := [.int r, .int (0 : Int32), .int (50 : Int32)]) (rest := []) hF hG hw hS hl.1 (c_X2_isWithin l hfl D cy base ad n nc g r (0 : Int32) (50 : Int32) ) gX2_rule_X2_isWithin rfl rfl rfl hd_X2_isWithin ⟨Nat.le_of_ble_eq_true rfl, Nat.le_of_ble_eq_true rfl⟩ rfl rfl (Nat.le_of_ble_eq_true rfl) dX2_rule_57 ⟨Nat.le_of_ble_eq_true rfl, Nat.le_of_ble_eq_true rfl⟩) hS rfl (fun H locs hw hS => ?_)
          refine kb_ne (tgt := 73) hx hb dX2_rule_60 (by decide) (fun c_60 => ?_) (fun c_60 => ?_)
          · have v_r : vp_in r 51 := inn_vp (c_60) (by decide)
            refine lv_aload_n hx hb dX2_rule_73 rfl (lv_at hl 0 rfl) ?_
            refine kx_getL (v := .ref (ad 4)) hx hb hts hown hG hw i2 3 (by decide) f_19 rfl dX2_rule_74 ?_
            refine lv_iload_n hx hb dX2_rule_77 rfl (lv_at hl 1 rfl) ?_
            refine kx_iald (v := (g 4 k.toNatClampNeg)) hx hb hG hw (kC_I rfl) k.toNatClampNeg rfl (by first | assumption | exact ix_of (by assumption) (by assumption) rfl (by decide)) rfl dX2_rule_78 ?_
            refine lv_istore (lv' := [(4, .int (g 4 k.toNatClampNeg)), (0, .ref (ad 0)), (1, .int k), (2, .int t), (3, .int r)]) hx hb dX2_rule_79 hl (by decide) rfl (fun ls hl => ?_)
            refine lv_aload_n hx hb dX2_rule_81 rfl (lv_at hl 1 rfl) ?_
            refine kx_getL (v := .ref (ad 4)) hx hb hts hown hG hw i2 3 (by decide) f_19 rfl dX2_rule_82 ?_
            refine lv_iload_n hx hb dX2_rule_85 rfl (lv_at hl 2 rfl) ?_
            refine lv_iload_n hx hb dX2_rule_86 rfl (lv_at hl 3 rfl) ?_
            refine kx_iast hx hb hG hw hS (fun _ => (kC_I rfl)) k.toNatClampNeg rfl (by first | assumption | exact ix_of (by assumption) (by assumption) rfl (by decide)) dX2_rule_87 (fun H locs hw hS => ?_)
            refine lv_aload_n hx hb dX2_rule_88 rfl (lv_at hl 1 rfl) ?_
            refine kx_getL (v := .ref (ad 5)) hx hb hts hown hG hw i2 4 (by decide) f_22 rfl dX2_rule_89 ?_
            refine lv_iload_n hx hb dX2_rule_92 rfl (lv_at hl 2 rfl) ?_
            refine lv_iload_n hx hb dX2_rule_93 rfl (lv_at hl 4 rfl) ?_
            refine kx_iast hx hb hG hw hS (fun _ => (kC_I rfl)) k.toNatClampNeg rfl (by first | assumption | exact ix_of (by assumption) (by assumption) rfl (by decide)) dX2_rule_94 (fun H locs hw hS => ?_)
            refine lv_iload hx hb dX2_rule_95 (lv_at hl 0 rfl) ?_
            exact kx_retI hQ hx hb hr hlk hw hS (Nat.le_of_ble_eq_true rfl) (Nat.le_of_ble_eq_true rfl) dX2_rule_97 (kd_i (by first | (simp only [kd2, inn_8, decide_eq_false c_1, if_neg c_1, decide_eq_false c_10, if_neg c_10, decide_eq_true c_19, if_pos c_19, hk8, c_40, c_60]; done) | (simp only [kd2, inn_8, decide_eq_false c_1, if_neg c_1, decide_eq_false c_10, if_neg c_10, decide_eq_true c_19, if_pos c_19, hk8, c_40, c_60]; rfl) | (simp [kd2, inn_8, decide_eq_false c_1, if_neg c_1, decide_eq_false c_10, if_neg c_10, decide_eq_true c_19, if_pos c_19, hk8, c_40, c_60]; done)) (rfl) (by rfl))
          · exact kx_throwIA (text := "rate out of range") (is := 82) hQ hx hb hfl hown hG hw hS false (by decide +kernel) xk_IA xi_IA xa_IA (kEx_2 (by first | (simp only [kd2, decide_eq_false c_1, if_neg c_1, decide_eq_false c_10, if_neg c_10, decide_eq_true c_19, if_pos c_19, hk8, c_40, c_60]; done) | (simp only [kd2, decide_eq_false c_1, if_neg c_1, decide_eq_false c_10, if_neg c_10, decide_eq_true c_19, if_pos c_19, hk8, c_40, c_60]; rfl) | (simp only [kd2, inn_8, decide_eq_false c_1, if_neg c_1, decide_eq_false c_10, if_neg c_10, decide_eq_true c_19, if_pos c_19, hk8, c_40, c_60]; rfl))) (hl.1.trans hml.symm) hT rfl dX2_rule_63 dX2_rule_66 dX2_rule_67 dX2_rule_69 dX2_rule_72 ⟨by decide, Nat.le_of_ble_eq_true rfl, Nat.le_of_ble_eq_true rfl, Nat.le_of_ble_eq_true rfl⟩ hlk (Nat.le_of_ble_eq_true rfl) (Nat.le_of_ble_eq_true rfl)
        · exact kx_throwIA (text := "term out of range") (is := 79) hQ hx hb hfl hown hG hw hS false (by decide +kernel) xk_IA xi_IA xa_IA (kEx_2 (by first | (simp only [kd2, decide_eq_false c_1, if_neg c_1, decide_eq_false c_10, if_neg c_10, decide_eq_true c_19, if_pos c_19, hk8, c_40]; done) | (simp only [kd2, decide_eq_false c_1, if_neg c_1, decide_eq_false c_10, if_neg c_10, decide_eq_true c_19, if_pos c_19, hk8, c_40]; rfl) | (simp only [kd2, inn_8, decide_eq_false c_1, if_neg c_1, decide_eq_false c_10, if_neg c_10, decide_eq_true c_19, if_pos c_19, hk8, c_40]; rfl))) (hl.1.trans hml.symm) hT rfl dX2_rule_43 dX2_rule_46 dX2_rule_47 dX2_rule_49 dX2_rule_52 ⟨by decide, Nat.le_of_ble_eq_true rfl, Nat.le_of_ble_eq_true rfl, Nat.le_of_ble_eq_true rfl⟩ hlk (Nat.le_of_ble_eq_true rfl) (Nat.le_of_ble_eq_true rfl)
      · exact absurd (Int32.not_le.mp c_10) c_19
theorem hd_X2_stop : yX2_stop.cls = RX2 ∧ yX2_stop.cls ≠ "java/lang/invoke/MethodHandle" ∧ yX2_stop.cls ≠ "java/lang/invoke/VarHandle" ∧ (parseMethodDescriptor yX2_stop.desc).map (fun d => d.parameters.length) = some 2 := by decide +kernel
set_option maxHeartbeats 4000000 in
set_option maxRecDepth 100000 in
theorem c_X2_stop (l : Launch) (hfl : l.stackTraces = false) (D : va_G) (cy : Nat → ClassId) (base : Nat → Prop) (ad : Nat → Nat) (n nc : Nat) (g : sg) (t : Int32) (r : Int32) (hs : ∀ t, t < 4 → sB (g 3 t)) : kM l yX2_stop wsX2_stop (kR 7 2 12) D cy base ad n nc g [.ref (ad 0), .int t, .int r] (kD (kd2 (inn t 0 3 && inn r 0 5) (!bq (g 3 t.toNatClampNeg) r) = 0) (some (.int (bits (g 3 t.toNatClampNeg ||| ((1 : Int32) <<< (r &&& 31)))))) ad n nc (sU g 3 t.toNatClampNeg (g 3 t.toNatClampNeg ||| ((1 : Int32) <<< (r &&& 31))))) (kEx (e13 (kd2 (inn t 0 3 && inn r 0 5) (!bq (g 3 t.toNatClampNeg) r)))) 2 12 := by
  refine kx_meth (cc := cX2_stop) (maxL := 4) (ret := (some .int)) (by decide) rfl (Nat.le_of_ble_eq_true rfl) ?_
  intro p e s m args below meth c ls hx hb hr hml hown hts hlk hT hG hw0 hS0 hl Q H locs hQ hw hS hH0 hlocs0
  have hl : lv_has ls 4 [(0, .ref (ad 0)), (1, .int t), (2, .int r)] := hl
  have hown : s.vm.findClass RX2 = some m.cls := hown
  have hF : CallFix p m c cX2_stop 4 s args wsX2_stop RX2 := ⟨hx, hb, hml, hown, hts⟩
  have hn30 : n ≤ 30 := hw.2.2.1
  have hc20 : nc ≤ 20 := hw.2.2.2
  clear hw0 hS0 hH0 hlocs0
  have i2 : ∀ w ∈ wsX20, w ∈ wsX2_stop := by decide +kernel
  have f_16 := hts (.fieldLink RX2 16 "Lostroom" "stops" "[I") (by decide +kernel)
  have xk_IO := hts (.classLink RX2 66 "java/lang/IndexOutOfBoundsException") (by decide +kernel)
  have xi_IO := hts (.initialized "java/lang/IndexOutOfBoundsException") (by decide +kernel)
  have xa_IO : ∀ w ∈ (vx_atS RX2 70 "java/lang/IndexOutOfBoundsException" kNm).filter goodWord, w.before args s = true := fun w h => hts w ((by decide +kernel : ∀ w ∈ (vx_atS RX2 70 "java/lang/IndexOutOfBoundsException" kNm).filter goodWord, w ∈ wsX2_stop) w h)
  have xk_IS := hts (.classLink RX2 90 "java/lang/IllegalStateException") (by decide +kernel)
  have xi_IS := hts (.initialized "java/lang/IllegalStateException") (by decide +kernel)
  have xa_IS : ∀ w ∈ (vx_atS RX2 94 "java/lang/IllegalStateException" kNm).filter goodWord, w.before args s = true := fun w h => hts w ((by decide +kernel : ∀ w ∈ (vx_atS RX2 94 "java/lang/IllegalStateException" kNm).filter goodWord, w ∈ wsX2_stop) w h)
  refine lv_iload_n hx hb dX2_stop_0 rfl (lv_at hl 1 rfl) ?_
  refine lv_if_lt (tgt := 13) hx hb dX2_stop_1 (by decide) (fun c_1 => ?_) (fun c_1 => ?_)
  · exact kx_throwIO (text := "no such train") (is := 84) hQ hx hb hfl hown hG hw hS false (by decide +kernel) xk_IO xi_IO xa_IO (kEx_1 (by first | (simp only [kd2, e13, inn_4, decide_eq_true c_1]; rfl) | (simp only [kd2, e13, inn_4, decide_eq_false c_1, decide_eq_true (Int32.not_lt.mp c_10)]; rfl) | (simp only [kd2, e13, ht4, ok_24, bq_f v_r (by decide) c_39]; rfl))) (hl.1.trans hml.symm) hT rfl dX2_stop_13 dX2_stop_16 dX2_stop_17 dX2_stop_19 dX2_stop_22 ⟨by decide, Nat.le_of_ble_eq_true rfl, Nat.le_of_ble_eq_true rfl, Nat.le_of_ble_eq_true rfl⟩ hlk (Nat.le_of_ble_eq_true rfl) (Nat.le_of_ble_eq_true rfl)
  · refine lv_iload_n hx hb dX2_stop_4 rfl (lv_at hl 1 rfl) ?_
    refine lv_aload_n hx hb dX2_stop_5 rfl (lv_at hl 0 rfl) ?_
    refine kx_getL (v := .ref (ad 3)) hx hb hts hown hG hw i2 2 (by decide) f_16 rfl dX2_stop_6 ?_
    refine kx_alen (v := 4) hx hb hG hw (kC_I rfl) 0 rfl rfl dX2_stop_9 ?_
    refine lv_icmp_lt (tgt := 23) hx hb dX2_stop_10 (by decide) (fun c_10 => ?_) (fun c_10 => ?_)
    · have v_t : vp_in t 4 := ix_of c_1 (Int32.not_le.mpr c_10) rfl (by decide)
      have ht4 : inn t 0 3 = true := by rw [inn_4, decide_eq_false c_1, decide_eq_false (Int32.not_le.mpr c_10)]; rfl
      refine lv_iload_n hx hb dX2_stop_23 rfl (lv_at hl 2 rfl) ?_
      refine kx_do (st1 := []) (kx_cs (As := [.int r]) (rest := []) hF hG hw hS hl.1 (c_X2_requireRoom l hfl D cy base ad n nc g r ) gX2_stop_X2_requireRoom rfl rfl rfl hd_X2_requireRoom ⟨Nat.le_of_ble_eq_true rfl, Nat.le_of_ble_eq_true rfl⟩ rfl rfl (Nat.le_of_ble_eq_true rfl) dX2_stop_24 ⟨Nat.le_of_ble_eq_true rfl, Nat.le_of_ble_eq_true rfl⟩) hS rfl (fun E9 ce9 q9 H locs hX9 hw hS hc9 hv9 hcl9 => kx_out hQ hT hlk hw hS (kEx_to hX9 (by cases h9 : inn r 0 5 <;> simp [rq, kd2, e13, h9, decide_eq_false c_1, if_neg c_1, decide_eq_true c_10, if_pos c_10, ht4])) hc9 hv9 hcl9 (Nat.le_of_ble_eq_true rfl) (Nat.le_of_ble_eq_true rfl)) (fun ok_24 H locs hw hS => ?_)
      have v_r : vp_in r 6 := inn_vp (ok_24) (by decide)
      refine lv_iconst (v := 1) hx hb dX2_stop_27 (by decide) ?_
      refine lv_iload_n hx hb dX2_stop_28 rfl (lv_at hl 2 rfl) ?_
      refine lv_ishl hx hb dX2_stop_29 ?_
      refine lv_istore_n (lv' := [(3, .int ((1 : Int32) <<< (r &&& 31))), (0, .ref (ad 0)), (1, .int t), (2, .int r)]) hx hb dX2_stop_30 rfl hl (by decide) rfl (fun ls hl => ?_)
      refine lv_aload_n hx hb dX2_stop_31 rfl (lv_at hl 1 rfl) ?_
      refine kx_getL (v := .ref (ad 3)) hx hb hts hown hG hw i2 2 (by decide) f_16 rfl dX2_stop_32 ?_
      refine lv_iload_n hx hb dX2_stop_35 rfl (lv_at hl 2 rfl) ?_
      refine kx_iald (v := (g 3 t.toNatClampNeg)) hx hb hG hw (kC_I rfl) t.toNatClampNeg rfl (by first | assumption | exact ix_of (by assumption) (by assumption) rfl (by decide)) rfl dX2_stop_36 ?_
      refine lv_iload_n hx hb dX2_stop_37 rfl (lv_at hl 0 rfl) ?_
      refine lv_iand hx hb dX2_stop_38 ?_
      refine lv_if_eq (tgt := 52) hx hb dX2_stop_39 (by decide) (fun c_39 => ?_) (fun c_39 => ?_)
      · refine lv_aload_n hx hb dX2_stop_52 rfl (lv_at hl 1 rfl) ?_
        refine kx_getL (v := .ref (ad 3)) hx hb hts hown hG hw i2 2 (by decide) f_16 rfl dX2_stop_53 ?_
        refine lv_iload_n hx hb dX2_stop_56 rfl (lv_at hl 2 rfl) ?_
        refine lv_dup2_11 hx hb dX2_stop_57 rfl rfl ?_
        refine kx_iald (v := (g 3 t.toNatClampNeg)) hx hb hG hw (kC_I rfl) t.toNatClampNeg rfl (by first | assumption | exact ix_of (by assumption) (by assumption) rfl (by decide)) rfl dX2_stop_58 ?_
        refine lv_iload_n hx hb dX2_stop_59 rfl (lv_at hl 0 rfl) ?_
        refine lv_ior hx hb dX2_stop_60 ?_
        refine kx_iast hx hb hG hw hS (fun _ => (kC_I rfl)) t.toNatClampNeg rfl (by first | assumption | exact ix_of (by assumption) (by assumption) rfl (by decide)) dX2_stop_61 (fun H locs hw hS => ?_)
        refine lv_aload_n hx hb dX2_stop_62 rfl (lv_at hl 1 rfl) ?_
        refine kx_getL (v := .ref (ad 3)) hx hb hts hown hG hw i2 2 (by decide) f_16 rfl dX2_stop_63 ?_
        refine lv_iload_n hx hb dX2_stop_66 rfl (lv_at hl 2 rfl) ?_
        refine kx_iald (v := ((g 3 t.toNatClampNeg) ||| ((1 : Int32) <<< (r &&& 31)))) hx hb hG hw (kC_I rfl) t.toNatClampNeg rfl (by first | assumption | exact ix_of (by assumption) (by assumption) rfl (by decide)) (sU_s _ _ _ _) dX2_stop_67 ?_
        refine kx_do0 (st1 := [.int (bits ((g 3 t.toNatClampNeg) ||| ((1 : Int32) <<< (r &&& 31))))]) (kx_cs (As := [.int ((g 3 t.toNatClampNeg) ||| ((1 : Int32) <<< (r &&& 31)))]) (rest := []) hF hG hw hS hl.1 (c_J6_bitCount_0f7a4 l hfl D cy base ad n nc (sU g 3 t.toNatClampNeg ((g 3 t.toNatClampNeg) ||| ((1 : Int32) <<< (r &&& 31)))) ((g 3 t.toNatClampNeg) ||| ((1 : Int32) <<< (r &&& 31))) (sB_or (hs _ (vp_lt v_t)) (sB_pow v_r (by decide)))) gX2_stop_J6_bitCount_0f7a4 rfl rfl rfl hd_J6_bitCount_0f7a4 ⟨Nat.le_of_ble_eq_true rfl, Nat.le_of_ble_eq_true rfl⟩ rfl rfl (Nat.le_of_ble_eq_true rfl) dX2_stop_68 ⟨Nat.le_of_ble_eq_true rfl, Nat.le_of_ble_eq_true rfl⟩) hS rfl (fun H locs hw hS => ?_)
        exact kx_retI hQ hx hb hr hlk hw hS (Nat.le_of_ble_eq_true rfl) (Nat.le_of_ble_eq_true rfl) dX2_stop_71 (kd_i (by simp only [kd2, ht4, ok_24, bq_t v_r (by decide) c_39]; rfl) (by rfl) (by rfl))
      · exact kx_throwIS (text := "it stops there already") (is := 92) hQ hx hb hfl hown hG hw hS false (by decide +kernel) xk_IS xi_IS xa_IS (kEx_3 (by first | (simp only [kd2, e13, inn_4, decide_eq_true c_1]; rfl) | (simp only [kd2, e13, inn_4, decide_eq_false c_1, decide_eq_true (Int32.not_lt.mp c_10)]; rfl) | (simp only [kd2, e13, ht4, ok_24, bq_f v_r (by decide) c_39]; rfl))) (hl.1.trans hml.symm) hT rfl dX2_stop_42 dX2_stop_45 dX2_stop_46 dX2_stop_48 dX2_stop_51 ⟨by decide, Nat.le_of_ble_eq_true rfl, Nat.le_of_ble_eq_true rfl, Nat.le_of_ble_eq_true rfl⟩ hlk (Nat.le_of_ble_eq_true rfl) (Nat.le_of_ble_eq_true rfl)
    · exact kx_throwIO (text := "no such train") (is := 84) hQ hx hb hfl hown hG hw hS false (by decide +kernel) xk_IO xi_IO xa_IO (kEx_1 (by first | (simp only [kd2, e13, inn_4, decide_eq_true c_1]; rfl) | (simp only [kd2, e13, inn_4, decide_eq_false c_1, decide_eq_true (Int32.not_lt.mp c_10)]; rfl) | (simp only [kd2, e13, ht4, ok_24, bq_f v_r (by decide) c_39]; rfl))) (hl.1.trans hml.symm) hT rfl dX2_stop_13 dX2_stop_16 dX2_stop_17 dX2_stop_19 dX2_stop_22 ⟨by decide, Nat.le_of_ble_eq_true rfl, Nat.le_of_ble_eq_true rfl, Nat.le_of_ble_eq_true rfl⟩ hlk (Nat.le_of_ble_eq_true rfl) (Nat.le_of_ble_eq_true rfl)
theorem hd_X2_threshold : yX2_threshold.cls = RX2 ∧ yX2_threshold.cls ≠ "java/lang/invoke/MethodHandle" ∧ yX2_threshold.cls ≠ "java/lang/invoke/VarHandle" ∧ (parseMethodDescriptor yX2_threshold.desc).map (fun d => d.parameters.length) = some 1 := by decide +kernel
set_option maxHeartbeats 4000000 in
set_option maxRecDepth 100000 in
theorem c_X2_threshold (l : Launch) (hfl : l.stackTraces = false) (D : va_G) (cy : Nat → ClassId) (base : Nat → Prop) (ad : Nat → Nat) (n nc : Nat) (g : sg) (q : Int32) : kM l yX2_threshold wsX2_threshold (kR 7 1 6) D cy base ad n nc g [.ref (ad 0), .int q] (kD (kd1 (inn q 1 200) = 0) (some (.int (g 0 11))) ad n nc (sU g 0 11 q)) (kEx (e2 (kd1 (inn q 1 200)))) 1 6 := by
  refine kx_meth (cc := cX2_threshold) (maxL := 3) (ret := (some .int)) (by decide) rfl (Nat.le_of_ble_eq_true rfl) ?_
  intro p e s m args below meth c ls hx hb hr hml hown hts hlk hT hG hw0 hS0 hl Q H locs hQ hw hS hH0 hlocs0
  have hl : lv_has ls 3 [(0, .ref (ad 0)), (1, .int q)] := hl
  have hown : s.vm.findClass RX2 = some m.cls := hown
  have hF : CallFix p m c cX2_threshold 3 s args wsX2_threshold RX2 := ⟨hx, hb, hml, hown, hts⟩
  have hn30 : n ≤ 30 := hw.2.2.1
  have hc20 : nc ≤ 20 := hw.2.2.2
  clear hw0 hS0 hH0 hlocs0
  have i2 : ∀ w ∈ wsX20, w ∈ wsX2_threshold := by decide +kernel
  have f_50 := hts (.fieldLink RX2 50 "Lostroom" "leastScore" "I") (by decide +kernel)
  have xk_IA := hts (.classLink RX2 77 "java/lang/IllegalArgumentException") (by decide +kernel)
  have xi_IA := hts (.initialized "java/lang/IllegalArgumentException") (by decide +kernel)
  have xa_IA : ∀ w ∈ (vx_atS RX2 81 "java/lang/IllegalArgumentException" kNm).filter goodWord, w.before args s = true := fun w h => hts w ((by decide +kernel : ∀ w ∈ (vx_atS RX2 81 "java/lang/IllegalArgumentException" kNm).filter goodWord, w ∈ wsX2_threshold) w h)
  refine lv_iload_n hx hb dX2_threshold_0 rfl (lv_at hl 1 rfl) ?_
  refine lv_iconst (v := 1) hx hb dX2_threshold_1 (by decide) ?_
  refine lv_sipush (v := 200) hx hb dX2_threshold_2 (by decide) ?_
  refine kx_do0 (st1 := [.int (b2 (inn q (1 : Int32) (200 : Int32)))]) (kx_cs (As := [.int q, .int (1 : Int32), .int (200 : Int32)]) (rest := []) hF hG hw hS hl.1 (c_X2_isWithin l hfl D cy base ad n nc g q (1 : Int32) (200 : Int32) ) gX2_threshold_X2_isWithin rfl rfl rfl hd_X2_isWithin ⟨Nat.le_of_ble_eq_true rfl, Nat.le_of_ble_eq_true rfl⟩ rfl rfl (Nat.le_of_ble_eq_true rfl) dX2_threshold_5 ⟨Nat.le_of_ble_eq_true rfl, Nat.le_of_ble_eq_true rfl⟩) hS rfl (fun H locs hw hS => ?_)
  refine kb_ne (tgt := 21) hx hb dX2_threshold_8 (by decide) (fun c_8 => ?_) (fun c_8 => ?_)
  · refine lv_aload_n hx hb dX2_threshold_21 rfl (lv_at hl 0 rfl) ?_
    refine kx_getL (v := .int (g 0 11)) hx hb hts hown hG hw i2 11 (by decide) f_50 rfl dX2_threshold_22 ?_
    refine lv_istore_n (lv' := [(2, .int (g 0 11)), (0, .ref (ad 0)), (1, .int q)]) hx hb dX2_threshold_25 rfl hl (by decide) rfl (fun ls hl => ?_)
    refine lv_aload_n hx hb dX2_threshold_26 rfl (lv_at hl 1 rfl) ?_
    refine lv_iload_n hx hb dX2_threshold_27 rfl (lv_at hl 2 rfl) ?_
    refine kx_putL (v := q) hx hb hts hown hG hw hS i2 11 (by decide) f_50 (by decide) rfl rfl rfl dX2_threshold_28 (fun H locs hw hS => ?_)
    refine lv_iload_n hx hb dX2_threshold_31 rfl (lv_at hl 0 rfl) ?_
    exact kx_retI hQ hx hb hr hlk hw hS (Nat.le_of_ble_eq_true rfl) (Nat.le_of_ble_eq_true rfl) dX2_threshold_32 (kd_i (by first | (simp only [kd1, e2, c_8]; done) | (simp only [kd1, e2, c_8]; rfl) | (simp [kd1, e2, c_8]; done)) (rfl) (by rfl))
  · exact kx_throwIA (text := "score out of range") (is := 101) hQ hx hb hfl hown hG hw hS false (by decide +kernel) xk_IA xi_IA xa_IA (kEx_2 (by first | (simp only [kd1, e2, c_8]; done) | (simp only [kd1, e2, c_8]; rfl) | (simp [kd1, e2, c_8]; done))) (hl.1.trans hml.symm) hT rfl dX2_threshold_11 dX2_threshold_14 dX2_threshold_15 dX2_threshold_17 dX2_threshold_20 ⟨by decide, Nat.le_of_ble_eq_true rfl, Nat.le_of_ble_eq_true rfl, Nat.le_of_ble_eq_true rfl⟩ hlk (Nat.le_of_ble_eq_true rfl) (Nat.le_of_ble_eq_true rfl)
theorem hd_X1_isHere : yX1_isHere.cls = RX1 ∧ yX1_isHere.cls ≠ "java/lang/invoke/MethodHandle" ∧ yX1_isHere.cls ≠ "java/lang/invoke/VarHandle" ∧ (parseMethodDescriptor yX1_isHere.desc).map (fun d => d.parameters.length) = some 0 := by decide +kernel
set_option maxHeartbeats 4000000 in
set_option maxRecDepth 100000 in
theorem c_X1_isHere (l : Launch) (hfl : l.stackTraces = false) (D : va_G) (cy : Nat → ClassId) (base : Nat → Prop) (ad : Nat → Nat) (n nc : Nat) (g : sg) (i : Nat) (hi : i < n) : kM l yX1_isHere wsX1_isHere (kR 0 0 0) D cy base ad n nc g [.ref (ad (100 + 3 * i))] (kD True (some (.int (b2 (cHere g i)))) ad n nc g) kNo 0 0 := by
  refine kx_meth (cc := cX1_isHere) (maxL := 1) (ret := (some .boolean)) (by decide) rfl (Nat.le_of_ble_eq_true rfl) ?_
  intro p e s m args below meth c ls hx hb hr hml hown hts hlk hT hG hw0 hS0 hl Q H locs hQ hw hS hH0 hlocs0
  have hl : lv_has ls 1 [(0, .ref (ad (100 + 3 * i)))] := hl
  have hown : s.vm.findClass RX1 = some m.cls := hown
  have hF : CallFix p m c cX1_isHere 1 s args wsX1_isHere RX1 := ⟨hx, hb, hml, hown, hts⟩
  have hn30 : n ≤ 30 := hw.2.2.1
  have hc20 : nc ≤ 20 := hw.2.2.2
  clear hw0 hS0 hH0 hlocs0
  have i1 : ∀ w ∈ wsX10, w ∈ wsX1_isHere := by decide +kernel
  have f_22 := hts (.fieldLink RX1 22 "Lostroom$Found" "state" "I") (by decide +kernel)
  refine lv_aload_n hx hb dX1_isHere_0 rfl (lv_at hl 0 rfl) ?_
  refine kx_getF (v := .int (g (100 + 3 * i) 9)) hx hb hts hown hG hw i1 i (by first | assumption | omega) 9 (by decide) f_22 rfl dX1_isHere_1 ?_
  have hj_28_0 : ∀ (H : Heap) (locs : List Loc) (ls : Array Slot), kW D cy base ad n nc g H → va_S (kA base) s.heap H locs → lv_has ls 1 [(0, .ref (ad (100 + 3 * i)))] → W p l e (kR 0 0 0) s m args below meth c H locs 0 0 Q (F0 m 28 ls [.int (b2 ((decide ((g (100 + 3 * i) 9) = (0 : Int32))) || ((decide ((g (100 + 3 * i) 9) = (1 : Int32))) || (decide ((g (100 + 3 * i) 9) = (2 : Int32))))))]) := by
    intro H locs ls hw hS hl
    exact kx_retZ hQ hx hb hr hlk hw hS (Nat.le_of_ble_eq_true rfl) (Nat.le_of_ble_eq_true rfl) dX1_isHere_28 (nar_b2 _) (kd_i (trivial) (rfl) (rfl))
  refine lv_if_eq (tgt := 23) hx hb dX1_isHere_4 (by decide) (fun c_4 => ?_) (fun c_4 => ?_)
  · refine lv_iconst (v := 1) hx hb dX1_isHere_23 (by decide) ?_
    refine lv_goto (tgt := 28) hx hb dX1_isHere_24 (by decide) ?_
    exact kx_top (v := (b2 ((decide ((g (100 + 3 * i) 9) = (0 : Int32))) || ((decide ((g (100 + 3 * i) 9) = (1 : Int32))) || (decide ((g (100 + 3 * i) 9) = (2 : Int32))))))) (by first | (simp only [bq, decide_eq_true c_4, if_pos c_4]; done) | (simp only [bq, decide_eq_true c_4, if_pos c_4]; rfl) | (simp [bq, decide_eq_true c_4, if_pos c_4]; done)) (hj_28_0 _ _ _ hw hS hl)
  · refine lv_aload_n hx hb dX1_isHere_7 rfl (lv_at hl 0 rfl) ?_
    refine kx_getF (v := .int (g (100 + 3 * i) 9)) hx hb hts hown hG hw i1 i (by first | assumption | omega) 9 (by decide) f_22 rfl dX1_isHere_8 ?_
    refine lv_iconst (v := 1) hx hb dX1_isHere_11 (by decide) ?_
    refine lv_icmp_eq (tgt := 23) hx hb dX1_isHere_12 (by decide) (fun c_12 => ?_) (fun c_12 => ?_)
    · refine lv_iconst (v := 1) hx hb dX1_isHere_23 (by decide) ?_
      refine lv_goto (tgt := 28) hx hb dX1_isHere_24 (by decide) ?_
      exact kx_top (v := (b2 ((decide ((g (100 + 3 * i) 9) = (0 : Int32))) || ((decide ((g (100 + 3 * i) 9) = (1 : Int32))) || (decide ((g (100 + 3 * i) 9) = (2 : Int32))))))) (by first | (simp only [bq, decide_eq_false c_4, if_neg c_4, decide_eq_true c_12, if_pos c_12]; done) | (simp only [bq, decide_eq_false c_4, if_neg c_4, decide_eq_true c_12, if_pos c_12]; rfl) | (simp [bq, decide_eq_false c_4, if_neg c_4, decide_eq_true c_12, if_pos c_12]; done)) (hj_28_0 _ _ _ hw hS hl)
    · refine lv_aload_n hx hb dX1_isHere_15 rfl (lv_at hl 0 rfl) ?_
      refine kx_getF (v := .int (g (100 + 3 * i) 9)) hx hb hts hown hG hw i1 i (by first | assumption | omega) 9 (by decide) f_22 rfl dX1_isHere_16 ?_
      refine lv_iconst (v := 2) hx hb dX1_isHere_19 (by decide) ?_
      refine lv_icmp_ne (tgt := 27) hx hb dX1_isHere_20 (by decide) (fun c_20 => ?_) (fun c_20 => ?_)
      · refine lv_iconst (v := 0) hx hb dX1_isHere_27 (by decide) ?_
        exact kx_top (v := (b2 ((decide ((g (100 + 3 * i) 9) = (0 : Int32))) || ((decide ((g (100 + 3 * i) 9) = (1 : Int32))) || (decide ((g (100 + 3 * i) 9) = (2 : Int32))))))) (by first | (simp only [bq, decide_eq_false c_4, if_neg c_4, decide_eq_false c_12, if_neg c_12, decide_eq_false c_20, if_neg c_20]; done) | (simp only [bq, decide_eq_false c_4, if_neg c_4, decide_eq_false c_12, if_neg c_12, decide_eq_false c_20, if_neg c_20]; rfl) | (simp [bq, decide_eq_false c_4, if_neg c_4, decide_eq_false c_12, if_neg c_12, decide_eq_false c_20, if_neg c_20]; done)) (hj_28_0 _ _ _ hw hS hl)
      · refine lv_iconst (v := 1) hx hb dX1_isHere_23 (by decide) ?_
        refine lv_goto (tgt := 28) hx hb dX1_isHere_24 (by decide) ?_
        exact kx_top (v := (b2 ((decide ((g (100 + 3 * i) 9) = (0 : Int32))) || ((decide ((g (100 + 3 * i) 9) = (1 : Int32))) || (decide ((g (100 + 3 * i) 9) = (2 : Int32))))))) (by first | (simp only [bq, decide_eq_false c_4, if_neg c_4, decide_eq_false c_12, if_neg c_12, decide_eq_true c_20, if_pos c_20]; done) | (simp only [bq, decide_eq_false c_4, if_neg c_4, decide_eq_false c_12, if_neg c_12, decide_eq_true c_20, if_pos c_20]; rfl) | (simp [bq, decide_eq_false c_4, if_neg c_4, decide_eq_false c_12, if_neg c_12, decide_eq_true c_20, if_pos c_20]; done)) (hj_28_0 _ _ _ hw hS hl)
theorem hd_X1_dropSecondHand : yX1_dropSecondHand.cls = RX1 ∧ yX1_dropSecondHand.cls ≠ "java/lang/invoke/MethodHandle" ∧ yX1_dropSecondHand.cls ≠ "java/lang/invoke/VarHandle" ∧ (parseMethodDescriptor yX1_dropSecondHand.desc).map (fun d => d.parameters.length) = some 0 := by decide +kernel
set_option maxHeartbeats 4000000 in
set_option maxRecDepth 100000 in
theorem c_X1_dropSecondHand (l : Launch) (hfl : l.stackTraces = false) (D : va_G) (cy : Nat → ClassId) (base : Nat → Prop) (ad : Nat → Nat) (n nc : Nat) (g : sg) (i : Nat) (hi : i < n) : kM l yX1_dropSecondHand wsX1_dropSecondHand (kR 0 0 0) D cy base ad n nc g [.ref (ad (100 + 3 * i))] (kD True none ad n nc (cDrop g i)) kNo 0 0 := by
  refine kx_meth (cc := cX1_dropSecondHand) (maxL := 2) (ret := none) (by decide) rfl (Nat.le_of_ble_eq_true rfl) ?_
  intro p e s m args below meth c ls hx hb hr hml hown hts hlk hT hG hw0 hS0 hl Q H locs hQ hw hS hH0 hlocs0
  have hl : lv_has ls 2 [(0, .ref (ad (100 + 3 * i)))] := hl
  have hown : s.vm.findClass RX1 = some m.cls := hown
  have hF : CallFix p m c cX1_dropSecondHand 2 s args wsX1_dropSecondHand RX1 := ⟨hx, hb, hml, hown, hts⟩
  have hn30 : n ≤ 30 := hw.2.2.1
  have hc20 : nc ≤ 20 := hw.2.2.2
  clear hw0 hS0 hH0 hlocs0
  have i1 : ∀ w ∈ wsX10, w ∈ wsX1_dropSecondHand := by decide +kernel
  have f_9 := hts (.fieldLink RX1 9 "Lostroom$Found" "handRooms" "[I") (by decide +kernel)
  have f_15 := hts (.fieldLink RX1 15 "Lostroom$Found" "handDays" "[I") (by decide +kernel)
  have f_18 := hts (.fieldLink RX1 18 "Lostroom$Found" "hands" "I") (by decide +kernel)
  refine lv_iconst (v := 2) hx hb dX1_dropSecondHand_0 (by decide) ?_
  refine lv_istore_n (lv' := [(1, .int (2 : Int32)), (0, .ref (ad (100 + 3 * i)))]) hx hb dX1_dropSecondHand_1 rfl hl (by decide) rfl (fun ls hl => ?_)
  have lp_2 : ∀ (nn q : Nat), q ≤ 12 → 12 < q + nn → ∀ (H : Heap) (locs : List Loc) (ls : Array Slot), kW D cy base ad n nc (cdL g i q) H → va_S (kA base) s.heap H locs → lv_has ls 2 [(1, .int (nI q)), (0, .ref (ad (100 + 3 * i)))] → (2 ≤ q) → W p l e (kR 0 0 0) s m args below meth c H locs 0 0 Q (F0 m 2 ls []) := by
    intro nn
    induction nn with
    | zero => intro q h1 h2; exact absurd h2 (by omega)
    | succ nn ih_2 =>
      intro q hk_q hkn_q H locs ls hw hS hl hq0
      refine lv_iload_n hx hb dX1_dropSecondHand_2 rfl (lv_at hl 0 rfl) ?_
      refine lv_aload_n hx hb dX1_dropSecondHand_3 rfl (lv_at hl 1 rfl) ?_
      refine kx_getF (v := .ref (ad (100 + 3 * i + 1))) hx hb hts hown hG hw i1 i (by first | assumption | omega) 5 (by decide) f_9 rfl dX1_dropSecondHand_4 ?_
      refine kx_alen (v := 12) hx hb hG hw (kC_F1 (by first | assumption | omega) hw.2.2.1) 0 rfl rfl dX1_dropSecondHand_7 ?_
      refine lv_icmp_ge (tgt := 54) hx hb dX1_dropSecondHand_8 (by decide) (fun c_8 => ?_) (fun c_8 => ?_)
      · have e_q : q = 12 := Nat.le_antisymm hk_q (le_nI (a := 12) (b := q) c_8 (by omega) (by omega))
        refine lv_aload_n hx hb dX1_dropSecondHand_54 rfl (lv_at hl 1 rfl) ?_
        refine lv_bipush (v := 11) hx hb dX1_dropSecondHand_55 (by decide) ?_
        refine kx_putF (v := (11 : Int32)) hx hb hts hown hG hw hS i1 i (by first | assumption | omega) 7 (by decide) f_18 (by decide) (by decide) rfl rfl rfl dX1_dropSecondHand_57 (fun H locs hw hS => ?_)
        exact kx_retV hQ hx hb hr hlk hw hS (Nat.le_of_ble_eq_true rfl) (Nat.le_of_ble_eq_true rfl) dX1_dropSecondHand_60 (kd_v (trivial) (by rw [e_q]; rfl))
      · have hlt_q : q < 12 := lt_nI (a := 12) (b := q) c_8 (by omega) (by omega)
        refine lv_iload_n hx hb dX1_dropSecondHand_11 rfl (lv_at hl 0 rfl) ?_
        refine lv_aload_n hx hb dX1_dropSecondHand_12 rfl (lv_at hl 1 rfl) ?_
        refine kx_getF (v := .ref (ad (100 + 3 * i + 2))) hx hb hts hown hG hw i1 i (by first | assumption | omega) 6 (by decide) f_15 rfl dX1_dropSecondHand_13 ?_
        refine kx_alen (v := 12) hx hb hG hw (kC_F2 (by first | assumption | omega) hw.2.2.1) 0 rfl rfl dX1_dropSecondHand_16 ?_
        refine lv_icmp_ge (tgt := 54) hx hb dX1_dropSecondHand_17 (by decide) (fun c_17 => ?_) (fun c_17 => ?_)
        · have e_q : q = 12 := Nat.le_antisymm hk_q (le_nI (a := 12) (b := q) c_17 (by omega) (by omega))
          refine lv_aload_n hx hb dX1_dropSecondHand_54 rfl (lv_at hl 1 rfl) ?_
          refine lv_bipush (v := 11) hx hb dX1_dropSecondHand_55 (by decide) ?_
          refine kx_putF (v := (11 : Int32)) hx hb hts hown hG hw hS i1 i (by first | assumption | omega) 7 (by decide) f_18 (by decide) (by decide) rfl rfl rfl dX1_dropSecondHand_57 (fun H locs hw hS => ?_)
          exact kx_retV hQ hx hb hr hlk hw hS (Nat.le_of_ble_eq_true rfl) (Nat.le_of_ble_eq_true rfl) dX1_dropSecondHand_60 (kd_v (trivial) (by rw [e_q]; rfl))
        · have hlt_q : q < 12 := lt_nI (a := 12) (b := q) c_17 (by omega) (by omega)
          refine lv_aload_n hx hb dX1_dropSecondHand_20 rfl (lv_at hl 1 rfl) ?_
          refine kx_getF (v := .ref (ad (100 + 3 * i + 1))) hx hb hts hown hG hw i1 i (by first | assumption | omega) 5 (by decide) f_9 rfl dX1_dropSecondHand_21 ?_
          refine lv_iload_n hx hb dX1_dropSecondHand_24 rfl (lv_at hl 0 rfl) ?_
          refine lv_iconst (v := 1) hx hb dX1_dropSecondHand_25 (by decide) ?_
          refine lv_isub hx hb dX1_dropSecondHand_26 ?_
          refine lv_aload_n hx hb dX1_dropSecondHand_27 rfl (lv_at hl 1 rfl) ?_
          refine kx_getF (v := .ref (ad (100 + 3 * i + 1))) hx hb hts hown hG hw i1 i (by first | assumption | omega) 5 (by decide) f_9 rfl dX1_dropSecondHand_28 ?_
          refine lv_iload_n hx hb dX1_dropSecondHand_31 rfl (lv_at hl 0 rfl) ?_
          refine kx_iald (v := ((cdL g i q) (100 + 3 * i + 1) q)) hx hb hG hw (kC_F1 (by first | assumption | omega) hw.2.2.1) q (nI_clamp (by omega)) (vp_in_nI (by omega) (by decide)) rfl dX1_dropSecondHand_32 ?_
          refine kx_iast hx hb hG hw hS (fun _ => (kC_F1 (by first | assumption | omega) hw.2.2.1)) (q - 1) (by rw [show nI q - 1 = nI (q - 1) from pk_sub (a := q) (b := 1) (by omega)]; exact cl_nI (by omega)) (by rw [show nI q - 1 = nI (q - 1) from pk_sub (a := q) (b := 1) (by omega)]; exact vp_in_nI (by omega) (by decide)) dX1_dropSecondHand_33 (fun H locs hw hS => ?_)
          refine lv_aload_n hx hb dX1_dropSecondHand_34 rfl (lv_at hl 1 rfl) ?_
          refine kx_getF (v := .ref (ad (100 + 3 * i + 2))) hx hb hts hown hG hw i1 i (by first | assumption | omega) 6 (by decide) f_15 rfl dX1_dropSecondHand_35 ?_
          refine lv_iload_n hx hb dX1_dropSecondHand_38 rfl (lv_at hl 0 rfl) ?_
          refine lv_iconst (v := 1) hx hb dX1_dropSecondHand_39 (by decide) ?_
          refine lv_isub hx hb dX1_dropSecondHand_40 ?_
          refine lv_aload_n hx hb dX1_dropSecondHand_41 rfl (lv_at hl 1 rfl) ?_
          refine kx_getF (v := .ref (ad (100 + 3 * i + 2))) hx hb hts hown hG hw i1 i (by first | assumption | omega) 6 (by decide) f_15 rfl dX1_dropSecondHand_42 ?_
          refine lv_iload_n hx hb dX1_dropSecondHand_45 rfl (lv_at hl 0 rfl) ?_
          refine kx_iald (v := ((cdL g i q) (100 + 3 * i + 2) q)) hx hb hG hw (kC_F2 (by first | assumption | omega) hw.2.2.1) q (nI_clamp (by omega)) (vp_in_nI (by omega) (by decide)) (sU_k _ _ _ _ (by omega)) dX1_dropSecondHand_46 ?_
          refine kx_iast hx hb hG hw hS (fun _ => (kC_F2 (by first | assumption | omega) hw.2.2.1)) (q - 1) (by rw [show nI q - 1 = nI (q - 1) from pk_sub (a := q) (b := 1) (by omega)]; exact cl_nI (by omega)) (by rw [show nI q - 1 = nI (q - 1) from pk_sub (a := q) (b := 1) (by omega)]; exact vp_in_nI (by omega) (by decide)) dX1_dropSecondHand_47 (fun H locs hw hS => ?_)
          refine lv_iinc (v := (nI q + (1 : Int32))) (lv' := [(1, .int (nI q + (1 : Int32))), (0, .ref (ad (100 + 3 * i)))]) hx hb dX1_dropSecondHand_48 hl (k := 0) rfl rfl (by decide) rfl (fun ls hl => ?_)
          refine lv_goto (tgt := 2) hx hb dX1_dropSecondHand_51 (by decide) ?_
          exact ih_2 (q + 1) (by omega) (by omega) _ _ _ (show kW D cy base ad n nc (cdL g i (q + 1)) H from (show (sU (sU (cdL g i q) (100 + 3 * i + 1) (q - 1) ((cdL g i q) (100 + 3 * i + 1) q)) (100 + 3 * i + 2) (q - 1) ((cdL g i q) (100 + 3 * i + 2) q)) = (cdL g i (q + 1)) from cdL_s (by omega)) ▸ hw) hS (kx_lv (l := [(1, .int (nI q + (1 : Int32))), (0, .ref (ad (100 + 3 * i)))]) (l' := [(1, .int (nI (q + 1))), (0, .ref (ad (100 + 3 * i)))]) (lv_sub hl [0, 1] rfl) (by rw [nI_1])) (by omega)
  exact lp_2 (12 + 1) 2 (by omega) (by omega) _ _ _ (by rw [cdL_0]; exact hw) hS (kx_lv (l := [(1, .int (2 : Int32)), (0, .ref (ad (100 + 3 * i)))]) (l' := [(1, .int (nI 2)), (0, .ref (ad (100 + 3 * i)))]) (lv_sub hl [0, 1] rfl) (rfl)) (Nat.le_refl _)
theorem hd_X1_comeTo : yX1_comeTo.cls = RX1 ∧ yX1_comeTo.cls ≠ "java/lang/invoke/MethodHandle" ∧ yX1_comeTo.cls ≠ "java/lang/invoke/VarHandle" ∧ (parseMethodDescriptor yX1_comeTo.desc).map (fun d => d.parameters.length) = some 2 := by decide +kernel
set_option maxHeartbeats 4000000 in
set_option maxRecDepth 100000 in
theorem c_X1_comeTo (l : Launch) (hfl : l.stackTraces = false) (D : va_G) (cy : Nat → ClassId) (base : Nat → Prop) (ad : Nat → Nat) (n nc : Nat) (g : sg) (i : Nat) (room : Int32) (day : Int32) (hi : i < n) (hh : ∃ h : Nat, h ≤ 12 ∧ g (100 + 3 * i) 7 = nI h) : kM l yX1_comeTo wsX1_comeTo (kR 1 0 0) D cy base ad n nc g [.ref (ad (100 + 3 * i)), .int room, .int day] (kD True none ad n nc (cComes g i room day)) kNo 0 0 := by
  refine kx_meth (cc := cX1_comeTo) (maxL := 3) (ret := none) (by decide) rfl (Nat.le_of_ble_eq_true rfl) ?_
  intro p e s m args below meth c ls hx hb hr hml hown hts hlk hT hG hw0 hS0 hl Q H locs hQ hw hS hH0 hlocs0
  have hl : lv_has ls 3 [(0, .ref (ad (100 + 3 * i))), (1, .int room), (2, .int day)] := hl
  have hown : s.vm.findClass RX1 = some m.cls := hown
  have hF : CallFix p m c cX1_comeTo 3 s args wsX1_comeTo RX1 := ⟨hx, hb, hml, hown, hts⟩
  have hn30 : n ≤ 30 := hw.2.2.1
  have hc20 : nc ≤ 20 := hw.2.2.2
  clear hw0 hS0 hH0 hlocs0
  have i1 : ∀ w ∈ wsX10, w ∈ wsX1_comeTo := by decide +kernel
  have f_9 := hts (.fieldLink RX1 9 "Lostroom$Found" "handRooms" "[I") (by decide +kernel)
  have f_15 := hts (.fieldLink RX1 15 "Lostroom$Found" "handDays" "[I") (by decide +kernel)
  have f_18 := hts (.fieldLink RX1 18 "Lostroom$Found" "hands" "I") (by decide +kernel)
  have f_22 := hts (.fieldLink RX1 22 "Lostroom$Found" "state" "I") (by decide +kernel)
  have f_25 := hts (.fieldLink RX1 25 "Lostroom$Found" "room" "I") (by decide +kernel)
  obtain ⟨h, hh1, hh2⟩ := hh
  refine lv_aload_n hx hb dX1_comeTo_0 rfl (lv_at hl 0 rfl) ?_
  refine lv_iconst (v := 0) hx hb dX1_comeTo_1 (by decide) ?_
  refine kx_putF (v := (0 : Int32)) hx hb hts hown hG hw hS i1 i (by first | assumption | omega) 9 (by decide) f_22 (by decide) (by decide) rfl rfl rfl dX1_comeTo_2 (fun H locs hw hS => ?_)
  refine lv_aload_n hx hb dX1_comeTo_5 rfl (lv_at hl 0 rfl) ?_
  refine lv_iload_n hx hb dX1_comeTo_6 rfl (lv_at hl 1 rfl) ?_
  refine kx_putF (v := room) hx hb hts hown hG hw hS i1 i (by first | assumption | omega) 10 (by decide) f_25 (by decide) (by decide) rfl rfl rfl dX1_comeTo_7 (fun H locs hw hS => ?_)
  refine lv_aload_n hx hb dX1_comeTo_10 rfl (lv_at hl 0 rfl) ?_
  refine kx_getF (v := .int (nI h)) hx hb hts hown hG hw i1 i (by first | assumption | omega) 7 (by decide) f_18 (congrArg Value.int ((sU_j _ _ _ _ (by decide)).trans ((sU_j _ _ _ _ (by decide)).trans (hh2)))) dX1_comeTo_11 ?_
  refine lv_bipush (v := 12) hx hb dX1_comeTo_14 (by decide) ?_
  refine lv_icmp_lt (tgt := 23) hx hb dX1_comeTo_16 (by decide) (fun c_16 => ?_) (fun c_16 => ?_)
  · have hh3 : h < 12 := (nI_ltI (a := h) (b := 12) (by omega) (by omega)).mp c_16
    refine lv_aload_n hx hb dX1_comeTo_23 rfl (lv_at hl 0 rfl) ?_
    refine kx_getF (v := .int (nI h)) hx hb hts hown hG hw i1 i (by first | assumption | omega) 7 (by decide) f_18 (congrArg Value.int ((sU_j _ _ _ _ (by decide)).trans ((sU_j _ _ _ _ (by decide)).trans (hh2)))) dX1_comeTo_24 ?_
    refine lv_if_lt (tgt := 84) hx hb dX1_comeTo_27 (by decide) (fun c_27 => ?_) (fun c_27 => ?_)
    · exact absurd c_27 (by first | exact nI_pos (by omega) | decide)
    · refine lv_aload_n hx hb dX1_comeTo_30 rfl (lv_at hl 0 rfl) ?_
      refine kx_getF (v := .int (nI h)) hx hb hts hown hG hw i1 i (by first | assumption | omega) 7 (by decide) f_18 (congrArg Value.int ((sU_j _ _ _ _ (by decide)).trans ((sU_j _ _ _ _ (by decide)).trans (hh2)))) dX1_comeTo_31 ?_
      refine lv_aload_n hx hb dX1_comeTo_34 rfl (lv_at hl 0 rfl) ?_
      refine kx_getF (v := .ref (ad (100 + 3 * i + 1))) hx hb hts hown hG hw i1 i (by first | assumption | omega) 5 (by decide) f_9 rfl dX1_comeTo_35 ?_
      refine kx_alen (v := 12) hx hb hG hw (kC_F1 (by first | assumption | omega) hw.2.2.1) 0 rfl rfl dX1_comeTo_38 ?_
      refine lv_icmp_ge (tgt := 84) hx hb dX1_comeTo_39 (by decide) (fun c_39 => ?_) (fun c_39 => ?_)
      · exact absurd c_39 (by first | exact nI_ge (a := h) (b := 12) (by omega) (by decide) | decide)
      · refine lv_aload_n hx hb dX1_comeTo_42 rfl (lv_at hl 0 rfl) ?_
        refine kx_getF (v := .int (nI h)) hx hb hts hown hG hw i1 i (by first | assumption | omega) 7 (by decide) f_18 (congrArg Value.int ((sU_j _ _ _ _ (by decide)).trans ((sU_j _ _ _ _ (by decide)).trans (hh2)))) dX1_comeTo_43 ?_
        refine lv_aload_n hx hb dX1_comeTo_46 rfl (lv_at hl 0 rfl) ?_
        refine kx_getF (v := .ref (ad (100 + 3 * i + 2))) hx hb hts hown hG hw i1 i (by first | assumption | omega) 6 (by decide) f_15 rfl dX1_comeTo_47 ?_
        refine kx_alen (v := 12) hx hb hG hw (kC_F2 (by first | assumption | omega) hw.2.2.1) 0 rfl rfl dX1_comeTo_50 ?_
        refine lv_icmp_ge (tgt := 84) hx hb dX1_comeTo_51 (by decide) (fun c_51 => ?_) (fun c_51 => ?_)
        · exact absurd c_51 (by first | exact nI_ge (a := h) (b := 12) (by omega) (by decide) | decide)
        · refine lv_aload_n hx hb dX1_comeTo_54 rfl (lv_at hl 0 rfl) ?_
          refine kx_getF (v := .ref (ad (100 + 3 * i + 1))) hx hb hts hown hG hw i1 i (by first | assumption | omega) 5 (by decide) f_9 rfl dX1_comeTo_55 ?_
          refine lv_aload_n hx hb dX1_comeTo_58 rfl (lv_at hl 0 rfl) ?_
          refine kx_getF (v := .int (nI h)) hx hb hts hown hG hw i1 i (by first | assumption | omega) 7 (by decide) f_18 (congrArg Value.int ((sU_j _ _ _ _ (by decide)).trans ((sU_j _ _ _ _ (by decide)).trans (hh2)))) dX1_comeTo_59 ?_
          refine lv_iload_n hx hb dX1_comeTo_62 rfl (lv_at hl 1 rfl) ?_
          refine kx_iast hx hb hG hw hS (fun _ => (kC_F1 (by first | assumption | omega) hw.2.2.1)) h (cl_nI (by omega)) (vp_in_nI (by omega) (by decide)) dX1_comeTo_63 (fun H locs hw hS => ?_)
          refine lv_aload_n hx hb dX1_comeTo_64 rfl (lv_at hl 0 rfl) ?_
          refine kx_getF (v := .ref (ad (100 + 3 * i + 2))) hx hb hts hown hG hw i1 i (by first | assumption | omega) 6 (by decide) f_15 rfl dX1_comeTo_65 ?_
          refine lv_aload_n hx hb dX1_comeTo_68 rfl (lv_at hl 0 rfl) ?_
          refine kx_getF (v := .int (nI h)) hx hb hts hown hG hw i1 i (by first | assumption | omega) 7 (by decide) f_18 (congrArg Value.int ((sU_k _ _ _ _ (by omega)).trans ((sU_j _ _ _ _ (by decide)).trans ((sU_j _ _ _ _ (by decide)).trans (hh2))))) dX1_comeTo_69 ?_
          refine lv_iload_n hx hb dX1_comeTo_72 rfl (lv_at hl 2 rfl) ?_
          refine kx_iast hx hb hG hw hS (fun _ => (kC_F2 (by first | assumption | omega) hw.2.2.1)) h (cl_nI (by omega)) (vp_in_nI (by omega) (by decide)) dX1_comeTo_73 (fun H locs hw hS => ?_)
          refine lv_aload_n hx hb dX1_comeTo_74 rfl (lv_at hl 0 rfl) ?_
          refine lv_dup hx hb dX1_comeTo_75 rfl ?_
          refine kx_getF (v := .int (nI h)) hx hb hts hown hG hw i1 i (by first | assumption | omega) 7 (by decide) f_18 (congrArg Value.int ((sU_k _ _ _ _ (by omega)).trans ((sU_k _ _ _ _ (by omega)).trans ((sU_j _ _ _ _ (by decide)).trans ((sU_j _ _ _ _ (by decide)).trans (hh2)))))) dX1_comeTo_76 ?_
          refine lv_iconst (v := 1) hx hb dX1_comeTo_79 (by decide) ?_
          refine lv_iadd hx hb dX1_comeTo_80 ?_
          refine kx_putF (v := ((nI h) + (1 : Int32))) hx hb hts hown hG hw hS i1 i (by first | assumption | omega) 7 (by decide) f_18 (by decide) (by decide) rfl rfl rfl dX1_comeTo_81 (fun H locs hw hS => ?_)
          exact kx_retV hQ hx hb hr hlk hw hS (Nat.le_of_ble_eq_true rfl) (Nat.le_of_ble_eq_true rfl) dX1_comeTo_84 (kd_v (trivial) (cc_end hh2 hh3))
  · have hh3 : h = 12 := by have := (Int32.not_lt.mp c_16 : (12 : Int32) ≤ nI h); have := (nI_leI (a := 12) (b := h) (by omega) (by omega)).mp this; omega
    refine lv_aload_n hx hb dX1_comeTo_19 rfl (lv_at hl 0 rfl) ?_
    refine kx_do0 (st1 := []) (kx_cv (As := []) (rest := []) hF hG hw hS hl.1 (kC_F (by first | assumption | omega) hw.2.2.1) rfl (c_X1_dropSecondHand l hfl D cy base ad n nc (sU (sU g (100 + 3 * i) 9 (0 : Int32)) (100 + 3 * i) 10 room) i (by first | assumption | omega | exact mR_9 (by assumption) _ _ | simp [sU, hi, hh])) gX1_comeTo_X1_dropSecondHand rfl rfl rfl hd_X1_dropSecondHand ⟨Nat.le_of_ble_eq_true rfl, Nat.le_of_ble_eq_true rfl⟩ rfl rfl (Nat.le_of_ble_eq_true rfl) dX1_comeTo_20 ⟨Nat.le_of_ble_eq_true rfl, Nat.le_of_ble_eq_true rfl⟩) hS rfl (fun H locs hw hS => ?_)
    refine lv_aload_n hx hb dX1_comeTo_23 rfl (lv_at hl 0 rfl) ?_
    refine kx_getF (v := .int (11 : Int32)) hx hb hts hown hG hw i1 i (by first | assumption | omega) 7 (by decide) f_18 (congrArg Value.int ((by unfold cDrop; exact sU_s _ _ _ _))) dX1_comeTo_24 ?_
    refine lv_if_lt (tgt := 84) hx hb dX1_comeTo_27 (by decide) (fun c => absurd c (by decide +kernel)) (fun _ => ?_)
    refine lv_aload_n hx hb dX1_comeTo_30 rfl (lv_at hl 0 rfl) ?_
    refine kx_getF (v := .int (11 : Int32)) hx hb hts hown hG hw i1 i (by first | assumption | omega) 7 (by decide) f_18 (congrArg Value.int ((by unfold cDrop; exact sU_s _ _ _ _))) dX1_comeTo_31 ?_
    refine lv_aload_n hx hb dX1_comeTo_34 rfl (lv_at hl 0 rfl) ?_
    refine kx_getF (v := .ref (ad (100 + 3 * i + 1))) hx hb hts hown hG hw i1 i (by first | assumption | omega) 5 (by decide) f_9 rfl dX1_comeTo_35 ?_
    refine kx_alen (v := 12) hx hb hG hw (kC_F1 (by first | assumption | omega) hw.2.2.1) 0 rfl rfl dX1_comeTo_38 ?_
    refine lv_icmp_ge (tgt := 84) hx hb dX1_comeTo_39 (by decide) (fun c => absurd c (by decide +kernel)) (fun _ => ?_)
    refine lv_aload_n hx hb dX1_comeTo_42 rfl (lv_at hl 0 rfl) ?_
    refine kx_getF (v := .int (11 : Int32)) hx hb hts hown hG hw i1 i (by first | assumption | omega) 7 (by decide) f_18 (congrArg Value.int ((by unfold cDrop; exact sU_s _ _ _ _))) dX1_comeTo_43 ?_
    refine lv_aload_n hx hb dX1_comeTo_46 rfl (lv_at hl 0 rfl) ?_
    refine kx_getF (v := .ref (ad (100 + 3 * i + 2))) hx hb hts hown hG hw i1 i (by first | assumption | omega) 6 (by decide) f_15 rfl dX1_comeTo_47 ?_
    refine kx_alen (v := 12) hx hb hG hw (kC_F2 (by first | assumption | omega) hw.2.2.1) 0 rfl rfl dX1_comeTo_50 ?_
    refine lv_icmp_ge (tgt := 84) hx hb dX1_comeTo_51 (by decide) (fun c => absurd c (by decide +kernel)) (fun _ => ?_)
    refine lv_aload_n hx hb dX1_comeTo_54 rfl (lv_at hl 0 rfl) ?_
    refine kx_getF (v := .ref (ad (100 + 3 * i + 1))) hx hb hts hown hG hw i1 i (by first | assumption | omega) 5 (by decide) f_9 rfl dX1_comeTo_55 ?_
    refine lv_aload_n hx hb dX1_comeTo_58 rfl (lv_at hl 0 rfl) ?_
    refine kx_getF (v := .int (11 : Int32)) hx hb hts hown hG hw i1 i (by first | assumption | omega) 7 (by decide) f_18 (congrArg Value.int ((by unfold cDrop; exact sU_s _ _ _ _))) dX1_comeTo_59 ?_
    refine lv_iload_n hx hb dX1_comeTo_62 rfl (lv_at hl 1 rfl) ?_
    refine kx_iast hx hb hG hw hS (fun _ => (kC_F1 (by first | assumption | omega) hw.2.2.1)) 11 rfl (vp_in_nI (n := 11) (by decide) (by decide)) dX1_comeTo_63 (fun H locs hw hS => ?_)
    refine lv_aload_n hx hb dX1_comeTo_64 rfl (lv_at hl 0 rfl) ?_
    refine kx_getF (v := .ref (ad (100 + 3 * i + 2))) hx hb hts hown hG hw i1 i (by first | assumption | omega) 6 (by decide) f_15 rfl dX1_comeTo_65 ?_
    refine lv_aload_n hx hb dX1_comeTo_68 rfl (lv_at hl 0 rfl) ?_
    refine kx_getF (v := .int (11 : Int32)) hx hb hts hown hG hw i1 i (by first | assumption | omega) 7 (by decide) f_18 (congrArg Value.int ((sU_k _ _ _ _ (by omega)).trans ((by unfold cDrop; exact sU_s _ _ _ _)))) dX1_comeTo_69 ?_
    refine lv_iload_n hx hb dX1_comeTo_72 rfl (lv_at hl 2 rfl) ?_
    refine kx_iast hx hb hG hw hS (fun _ => (kC_F2 (by first | assumption | omega) hw.2.2.1)) 11 rfl (vp_in_nI (n := 11) (by decide) (by decide)) dX1_comeTo_73 (fun H locs hw hS => ?_)
    refine lv_aload_n hx hb dX1_comeTo_74 rfl (lv_at hl 0 rfl) ?_
    refine lv_dup hx hb dX1_comeTo_75 rfl ?_
    refine kx_getF (v := .int (11 : Int32)) hx hb hts hown hG hw i1 i (by first | assumption | omega) 7 (by decide) f_18 (congrArg Value.int ((sU_k _ _ _ _ (by omega)).trans ((sU_k _ _ _ _ (by omega)).trans ((by unfold cDrop; exact sU_s _ _ _ _))))) dX1_comeTo_76 ?_
    refine lv_iconst (v := 1) hx hb dX1_comeTo_79 (by decide) ?_
    refine lv_iadd hx hb dX1_comeTo_80 ?_
    refine kx_putF (v := ((11 : Int32) + (1 : Int32))) hx hb hts hown hG hw hS i1 i (by first | assumption | omega) 7 (by decide) f_18 (by decide) (by decide) rfl rfl rfl dX1_comeTo_81 (fun H locs hw hS => ?_)
    exact kx_retV hQ hx hb hr hlk hw hS (Nat.le_of_ble_eq_true rfl) (Nat.le_of_ble_eq_true rfl) dX1_comeTo_84 (kd_v (trivial) (cc_end12 (by rw [hh2, hh3])))
