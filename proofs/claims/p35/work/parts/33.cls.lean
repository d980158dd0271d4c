/-! walks laid by wip/p35/kgen.py, kall.py -/
theorem hd_X2_see : yX2_see.cls = RX2 ∧ yX2_see.cls ≠ "java/lang/invoke/MethodHandle" ∧ yX2_see.cls ≠ "java/lang/invoke/VarHandle" ∧ (parseMethodDescriptor yX2_see.desc).map (fun d => d.parameters.length) = some 2 := by decide +kernel
set_option maxHeartbeats 4000000 in
set_option maxRecDepth 100000 in
theorem c_X2_see (l : Launch) (hfl : l.stackTraces = false) (D : va_G) (cy : Nat → ClassId) (base : Nat → Prop) (ad : Nat → Nat) (n nc : Nat) (g : sg) (x : Int32) (set : Int32) (hfr : ∀ j, j < 30 → g 6 j = if j < n then 1 else 0) (hR : cR n nc g) : kM l yX2_see wsX2_see (kR 7 3 18) D cy base ad n nc g [.ref (ad 0), .int x, .int set] (kD (kd3 (isF n x) (inn set 0 16777215 && decide ((set &&& g (100 + 3 * x.toNatClampNeg) 3) = 0)) (decide (g (100 + 3 * x.toNatClampNeg) 9 = 0)) = 0) (some (.int (bits (g (100 + 3 * x.toNatClampNeg) 8 ||| set)))) ad n nc (sU g (100 + 3 * x.toNatClampNeg) 8 (g (100 + 3 * x.toNatClampNeg) 8 ||| set))) (kEx (kd3 (isF n x) (inn set 0 16777215 && decide ((set &&& g (100 + 3 * x.toNatClampNeg) 3) = 0)) (decide (g (100 + 3 * x.toNatClampNeg) 9 = 0)))) 3 18 := by
  refine kx_meth (cc := cX2_see) (maxL := 4) (ret := (some .int)) (by decide) rfl (Nat.le_of_ble_eq_true rfl) ?_
  intro p e s m args below meth c ls hx hb hr hml hown hts hlk hT hG hw0 hS0 hl Q H locs hQ hw hS hH0 hlocs0
  have hl : lv_has ls 4 [(0, .ref (ad 0)), (1, .int x), (2, .int set)] := hl
  have hown : s.vm.findClass RX2 = some m.cls := hown
  have hF : CallFix p m c cX2_see 4 s args wsX2_see RX2 := ⟨hx, hb, hml, hown, hts⟩
  have hn30 : n ≤ 30 := hw.2.2.1
  have hc20 : nc ≤ 20 := hw.2.2.2
  clear hw0 hS0 hH0 hlocs0
  have i1 : ∀ w ∈ wsX10, w ∈ wsX2_see := by decide +kernel
  have f_137 := hts (.fieldLink RX2 137 "Lostroom$Found" "secret" "I") (by decide +kernel)
  have f_142 := hts (.fieldLink RX2 142 "Lostroom$Found" "state" "I") (by decide +kernel)
  have f_147 := hts (.fieldLink RX2 147 "Lostroom$Found" "words" "I") (by decide +kernel)
  have xk_IA := hts (.classLink RX2 77 "java/lang/IllegalArgumentException") (by decide +kernel)
  have xi_IA := hts (.initialized "java/lang/IllegalArgumentException") (by decide +kernel)
  have xa_IA : ∀ w ∈ (vx_atS RX2 81 "java/lang/IllegalArgumentException" kNm).filter goodWord, w.before args s = true := fun w h => hts w ((by decide +kernel : ∀ w ∈ (vx_atS RX2 81 "java/lang/IllegalArgumentException" kNm).filter goodWord, w ∈ wsX2_see) w h)
  have xk_IS := hts (.classLink RX2 90 "java/lang/IllegalStateException") (by decide +kernel)
  have xi_IS := hts (.initialized "java/lang/IllegalStateException") (by decide +kernel)
  have xa_IS : ∀ w ∈ (vx_atS RX2 94 "java/lang/IllegalStateException" kNm).filter goodWord, w.before args s = true := fun w h => hts w ((by decide +kernel : ∀ w ∈ (vx_atS RX2 94 "java/lang/IllegalStateException" kNm).filter goodWord, w ∈ wsX2_see) w h)
  refine lv_aload_n hx hb dX2_see_0 rfl (lv_at hl 0 rfl) ?_
  refine lv_iload_n hx hb dX2_see_1 rfl (lv_at hl 1 rfl) ?_
  refine kx_do (st1 := [.ref (ad (100 + 3 * x.toNatClampNeg))]) (kx_cv (As := [.int x]) (rest := []) hF hG hw hS hl.1 kC_0 rfl (c_X2_foundAt l hfl D cy base ad n nc g x (by first | assumption | omega | exact mR_9 (by assumption) _ _ | simp [sU, hfr, hR])) gX2_see_X2_foundAt rfl rfl rfl hd_X2_foundAt ⟨Nat.le_of_ble_eq_true rfl, Nat.le_of_ble_eq_true rfl⟩ rfl rfl (Nat.le_of_ble_eq_true rfl) dX2_see_2 ⟨Nat.le_of_ble_eq_true rfl, Nat.le_of_ble_eq_true rfl⟩) hS rfl (fun E9 ce9 q9 H locs hX9 hw hS hc9 hv9 hcl9 => kx_out hQ hT hlk hw hS (kEx_to hX9 (by cases h9 : isF n x <;> simp [rq, kd3, h9])) hc9 hv9 hcl9 (Nat.le_of_ble_eq_true rfl) (Nat.le_of_ble_eq_true rfl)) (fun ok_2 H locs hw hS => ?_)
  obtain ⟨i_x, hi_x, rfl⟩ := isF_ex ok_2 hn30
  have hcl_x : (nI i_x).toNatClampNeg = i_x := cl_nI (by omega)
  rw [hcl_x]
  have hr1 := hR.1 i_x hi_x
  refine lv_astore_n (lv' := [(3, .ref (ad (100 + 3 * i_x))), (0, .ref (ad 0)), (1, .int (nI i_x)), (2, .int set)]) hx hb dX2_see_5 rfl hl (by decide) rfl (fun ls hl => ?_)
  refine lv_iload_n hx hb dX2_see_6 rfl (lv_at hl 3 rfl) ?_
  refine kx_do (st1 := []) (kx_cs (As := [.int set]) (rest := []) hF hG hw hS hl.1 (c_X2_requireWords l hfl D cy base ad n nc g set ) gX2_see_X2_requireWords rfl rfl rfl hd_X2_requireWords ⟨Nat.le_of_ble_eq_true rfl, Nat.le_of_ble_eq_true rfl⟩ rfl rfl (Nat.le_of_ble_eq_true rfl) dX2_see_7 ⟨Nat.le_of_ble_eq_true rfl, Nat.le_of_ble_eq_true rfl⟩) hS rfl (fun E9 ce9 q9 H locs hX9 hw hS hc9 hv9 hcl9 => kx_out hQ hT hlk hw hS (kEx_to hX9 (by cases h9 : inn set 0 16777215 <;> simp [rq, kd3, h9, ok_2, hcl_x])) hc9 hv9 hcl9 (Nat.le_of_ble_eq_true rfl) (Nat.le_of_ble_eq_true rfl)) (fun ok_7 H locs hw hS => ?_)
  refine lv_iload_n hx hb dX2_see_10 rfl (lv_at hl 3 rfl) ?_
  refine lv_aload_n hx hb dX2_see_11 rfl (lv_at hl 0 rfl) ?_
  refine kx_getF (v := .int (g (100 + 3 * i_x) 3)) hx hb hts hown hG hw i1 i_x (by first | assumption | omega) 3 (by decide) f_137 rfl dX2_see_12 ?_
  refine lv_iand hx hb dX2_see_15 ?_
  refine lv_if_eq (tgt := 29) hx hb dX2_see_16 (by decide) (fun c_16 => ?_) (fun c_16 => ?_)
  · refine lv_aload_n hx hb dX2_see_29 rfl (lv_at hl 0 rfl) ?_
    refine kx_getF (v := .int (g (100 + 3 * i_x) 9)) hx hb hts hown hG hw i1 i_x (by first | assumption | omega) 9 (by decide) f_142 rfl dX2_see_30 ?_
    refine lv_if_eq (tgt := 46) hx hb dX2_see_33 (by decide) (fun c_33 => ?_) (fun c_33 => ?_)
    · refine lv_aload_n hx hb dX2_see_46 rfl (lv_at hl 0 rfl) ?_
      refine lv_dup hx hb dX2_see_47 rfl ?_
      refine kx_getF (v := .int (g (100 + 3 * i_x) 8)) hx hb hts hown hG hw i1 i_x (by first | assumption | omega) 8 (by decide) f_147 rfl dX2_see_48 ?_
      refine lv_iload_n hx hb dX2_see_51 rfl (lv_at hl 3 rfl) ?_
      refine lv_ior hx hb dX2_see_52 ?_
      refine kx_putF (v := ((g (100 + 3 * i_x) 8) ||| set)) hx hb hts hown hG hw hS i1 i_x (by first | assumption | omega) 8 (by decide) f_147 (by decide) (by decide) rfl rfl rfl dX2_see_53 (fun H locs hw hS => ?_)
      refine lv_aload_n hx hb dX2_see_56 rfl (lv_at hl 0 rfl) ?_
      refine kx_getF (v := .int ((g (100 + 3 * i_x) 8) ||| set)) hx hb hts hown hG hw i1 i_x (by first | assumption | omega) 8 (by decide) f_147 (congrArg Value.int (sU_s _ _ _ _)) dX2_see_57 ?_
      refine kx_do0 (st1 := [.int (bits ((g (100 + 3 * i_x) 8) ||| set))]) (kx_cs (As := [.int ((g (100 + 3 * i_x) 8) ||| set)]) (rest := []) hF hG hw hS hl.1 (c_J6_bitCount_0f7a4 l hfl D cy base ad n nc (sU g (100 + 3 * i_x) 8 ((g (100 + 3 * i_x) 8) ||| set)) ((g (100 + 3 * i_x) 8) ||| set) (sB_or hr1.2.2.2.1 (inn_sB ok_7))) gX2_see_J6_bitCount_0f7a4 rfl rfl rfl hd_J6_bitCount_0f7a4 ⟨Nat.le_of_ble_eq_true rfl, Nat.le_of_ble_eq_true rfl⟩ rfl rfl (Nat.le_of_ble_eq_true rfl) dX2_see_60 ⟨Nat.le_of_ble_eq_true rfl, Nat.le_of_ble_eq_true rfl⟩) hS rfl (fun H locs hw hS => ?_)
      exact kx_retI hQ hx hb hr hlk hw hS (Nat.le_of_ble_eq_true rfl) (Nat.le_of_ble_eq_true rfl) dX2_see_63 (kd_i (by first | (simp only [kd3, ok_2, hcl_x, ok_7, decide_eq_true c_16, if_pos c_16, decide_eq_true c_33, if_pos c_33]; done) | (simp only [kd3, ok_2, hcl_x, ok_7, decide_eq_true c_16, if_pos c_16, decide_eq_true c_33, if_pos c_33]; rfl) | (simp [kd3, ok_2, hcl_x, ok_7, decide_eq_true c_16, if_pos c_16, decide_eq_true c_33, if_pos c_33]; done)) (by first | (simp only [hcl_x]; done) | (simp only [hcl_x]; rfl) | rfl) (by first | (simp only [hcl_x]; done) | (simp only [hcl_x]; rfl) | rfl))
    · exact kx_throwIS (text := "not kept") (is := 145) hQ hx hb hfl hown hG hw hS false (by decide +kernel) xk_IS xi_IS xa_IS (kEx_3 (by first | (simp only [kd3, ok_2, hcl_x, ok_7, decide_eq_true c_16, if_pos c_16, decide_eq_false c_33, if_neg c_33]; done) | (simp only [kd3, ok_2, hcl_x, ok_7, decide_eq_true c_16, if_pos c_16, decide_eq_false c_33, if_neg c_33]; rfl) | (simp [kd3, ok_2, hcl_x, ok_7, decide_eq_true c_16, if_pos c_16, decide_eq_false c_33, if_neg c_33]; done))) (hl.1.trans hml.symm) hT rfl dX2_see_36 dX2_see_39 dX2_see_40 dX2_see_42 dX2_see_45 ⟨by decide, Nat.le_of_ble_eq_true rfl, Nat.le_of_ble_eq_true rfl, Nat.le_of_ble_eq_true rfl⟩ hlk (Nat.le_of_ble_eq_true rfl) (Nat.le_of_ble_eq_true rfl)
  · exact kx_throwIA (text := "a hidden word") (is := 140) hQ hx hb hfl hown hG hw hS false (by decide +kernel) xk_IA xi_IA xa_IA (kEx_2 (by first | (simp only [kd3, ok_2, hcl_x, ok_7, decide_eq_false c_16, if_neg c_16]; done) | (simp only [kd3, ok_2, hcl_x, ok_7, decide_eq_false c_16, if_neg c_16]; rfl) | (simp [kd3, ok_2, hcl_x, ok_7, decide_eq_false c_16, if_neg c_16]; done))) (hl.1.trans hml.symm) hT rfl dX2_see_19 dX2_see_22 dX2_see_23 dX2_see_25 dX2_see_28 ⟨by decide, Nat.le_of_ble_eq_true rfl, Nat.le_of_ble_eq_true rfl, Nat.le_of_ble_eq_true rfl⟩ hlk (Nat.le_of_ble_eq_true rfl) (Nat.le_of_ble_eq_true rfl)
theorem hd_X2_send : yX2_send.cls = RX2 ∧ yX2_send.cls ≠ "java/lang/invoke/MethodHandle" ∧ yX2_send.cls ≠ "java/lang/invoke/VarHandle" ∧ (parseMethodDescriptor yX2_send.desc).map (fun d => d.parameters.length) = some 2 := by decide +kernel
set_option maxHeartbeats 4000000 in
set_option maxRecDepth 100000 in
theorem c_X2_send (l : Launch) (hfl : l.stackTraces = false) (D : va_G) (cy : Nat → ClassId) (base : Nat → Prop) (ad : Nat → Nat) (n nc : Nat) (g : sg) (x : Int32) (room : Int32) (hfr : ∀ j, j < 30 → g 6 j = if j < n then 1 else 0) : kM l yX2_send wsX2_send (kR 7 3 18) D cy base ad n nc g [.ref (ad 0), .int x, .int room] (kD (kd2 (isF n x && inn room 0 5) (decide (g (100 + 3 * x.toNatClampNeg) 9 = 0) && !decide (g (100 + 3 * x.toNatClampNeg) 10 = room)) = 0) (some (.int (g (100 + 3 * x.toNatClampNeg) 10))) ad n nc (sU (sU g (100 + 3 * x.toNatClampNeg) 9 1) (100 + 3 * x.toNatClampNeg) 10 room)) (kEx (e13 (kd2 (isF n x && inn room 0 5) (decide (g (100 + 3 * x.toNatClampNeg) 9 = 0) && !decide (g (100 + 3 * x.toNatClampNeg) 10 = room))))) 3 18 := by
  refine kx_meth (cc := cX2_send) (maxL := 5) (ret := (some .int)) (by decide) rfl (Nat.le_of_ble_eq_true rfl) ?_
  intro p e s m args below meth c ls hx hb hr hml hown hts hlk hT hG hw0 hS0 hl Q H locs hQ hw hS hH0 hlocs0
  have hl : lv_has ls 5 [(0, .ref (ad 0)), (1, .int x), (2, .int room)] := hl
  have hown : s.vm.findClass RX2 = some m.cls := hown
  have hF : CallFix p m c cX2_send 5 s args wsX2_send RX2 := ⟨hx, hb, hml, hown, hts⟩
  have hn30 : n ≤ 30 := hw.2.2.1
  have hc20 : nc ≤ 20 := hw.2.2.2
  clear hw0 hS0 hH0 hlocs0
  have i1 : ∀ w ∈ wsX10, w ∈ wsX2_send := by decide +kernel
  have f_142 := hts (.fieldLink RX2 142 "Lostroom$Found" "state" "I") (by decide +kernel)
  have f_150 := hts (.fieldLink RX2 150 "Lostroom$Found" "room" "I") (by decide +kernel)
  have xk_IS := hts (.classLink RX2 90 "java/lang/IllegalStateException") (by decide +kernel)
  have xi_IS := hts (.initialized "java/lang/IllegalStateException") (by decide +kernel)
  have xa_IS : ∀ w ∈ (vx_atS RX2 94 "java/lang/IllegalStateException" kNm).filter goodWord, w.before args s = true := fun w h => hts w ((by decide +kernel : ∀ w ∈ (vx_atS RX2 94 "java/lang/IllegalStateException" kNm).filter goodWord, w ∈ wsX2_send) w h)
  refine lv_aload_n hx hb dX2_send_0 rfl (lv_at hl 0 rfl) ?_
  refine lv_iload_n hx hb dX2_send_1 rfl (lv_at hl 1 rfl) ?_
  refine kx_do (st1 := [.ref (ad (100 + 3 * x.toNatClampNeg))]) (kx_cv (As := [.int x]) (rest := []) hF hG hw hS hl.1 kC_0 rfl (c_X2_foundAt l hfl D cy base ad n nc g x (by first | assumption | omega | exact mR_9 (by assumption) _ _ | simp [sU, hfr])) gX2_send_X2_foundAt rfl rfl rfl hd_X2_foundAt ⟨Nat.le_of_ble_eq_true rfl, Nat.le_of_ble_eq_true rfl⟩ rfl rfl (Nat.le_of_ble_eq_true rfl) dX2_send_2 ⟨Nat.le_of_ble_eq_true rfl, Nat.le_of_ble_eq_true rfl⟩) hS rfl (fun E9 ce9 q9 H locs hX9 hw hS hc9 hv9 hcl9 => kx_out hQ hT hlk hw hS (kEx_to hX9 (by cases h9 : isF n x <;> simp [rq, kd2, e13, h9])) hc9 hv9 hcl9 (Nat.le_of_ble_eq_true rfl) (Nat.le_of_ble_eq_true rfl)) (fun ok_2 H locs hw hS => ?_)
  obtain ⟨i_x, hi_x, rfl⟩ := isF_ex ok_2 hn30
  have hcl_x : (nI i_x).toNatClampNeg = i_x := cl_nI (by omega)
  rw [hcl_x]
  refine lv_astore_n (lv' := [(3, .ref (ad (100 + 3 * i_x))), (0, .ref (ad 0)), (1, .int (nI i_x)), (2, .int room)]) hx hb dX2_send_5 rfl hl (by decide) rfl (fun ls hl => ?_)
  refine lv_iload_n hx hb dX2_send_6 rfl (lv_at hl 3 rfl) ?_
  refine kx_do (st1 := []) (kx_cs (As := [.int room]) (rest := []) hF hG hw hS hl.1 (c_X2_requireRoom l hfl D cy base ad n nc g room ) gX2_send_X2_requireRoom rfl rfl rfl hd_X2_requireRoom ⟨Nat.le_of_ble_eq_true rfl, Nat.le_of_ble_eq_true rfl⟩ rfl rfl (Nat.le_of_ble_eq_true rfl) dX2_send_7 ⟨Nat.le_of_ble_eq_true rfl, Nat.le_of_ble_eq_true rfl⟩) hS rfl (fun E9 ce9 q9 H locs hX9 hw hS hc9 hv9 hcl9 => kx_out hQ hT hlk hw hS (kEx_to hX9 (by cases h9 : inn room 0 5 <;> simp [rq, kd2, e13, h9, ok_2, hcl_x])) hc9 hv9 hcl9 (Nat.le_of_ble_eq_true rfl) (Nat.le_of_ble_eq_true rfl)) (fun ok_7 H locs hw hS => ?_)
  have v_room : vp_in room 6 := inn_vp (ok_7) (by decide)
  refine lv_aload_n hx hb dX2_send_10 rfl (lv_at hl 0 rfl) ?_
  refine kx_getF (v := .int (g (100 + 3 * i_x) 9)) hx hb hts hown hG hw i1 i_x (by first | assumption | omega) 9 (by decide) f_142 rfl dX2_send_11 ?_
  refine lv_if_eq (tgt := 27) hx hb dX2_send_14 (by decide) (fun c_14 => ?_) (fun c_14 => ?_)
  · refine lv_aload_n hx hb dX2_send_27 rfl (lv_at hl 0 rfl) ?_
    refine kx_getF (v := .int (g (100 + 3 * i_x) 10)) hx hb hts hown hG hw i1 i_x (by first | assumption | omega) 10 (by decide) f_150 rfl dX2_send_28 ?_
    refine lv_iload_n hx hb dX2_send_31 rfl (lv_at hl 3 rfl) ?_
    refine lv_icmp_ne (tgt := 45) hx hb dX2_send_32 (by decide) (fun c_32 => ?_) (fun c_32 => ?_)
    · refine lv_aload_n hx hb dX2_send_45 rfl (lv_at hl 0 rfl) ?_
      refine kx_getF (v := .int (g (100 + 3 * i_x) 10)) hx hb hts hown hG hw i1 i_x (by first | assumption | omega) 10 (by decide) f_150 rfl dX2_send_46 ?_
      refine lv_istore (lv' := [(4, .int (g (100 + 3 * i_x) 10)), (3, .ref (ad (100 + 3 * i_x))), (0, .ref (ad 0)), (1, .int (nI i_x)), (2, .int room)]) hx hb dX2_send_49 hl (by decide) rfl (fun ls hl => ?_)
      refine lv_aload_n hx hb dX2_send_51 rfl (lv_at hl 1 rfl) ?_
      refine lv_iconst (v := 1) hx hb dX2_send_52 (by decide) ?_
      refine kx_putF (v := (1 : Int32)) hx hb hts hown hG hw hS i1 i_x (by first | assumption | omega) 9 (by decide) f_142 (by decide) (by decide) rfl rfl rfl dX2_send_53 (fun H locs hw hS => ?_)
      refine lv_aload_n hx hb dX2_send_56 rfl (lv_at hl 1 rfl) ?_
      refine lv_iload_n hx hb dX2_send_57 rfl (lv_at hl 4 rfl) ?_
      refine kx_putF (v := room) hx hb hts hown hG hw hS i1 i_x (by first | assumption | omega) 10 (by decide) f_150 (by decide) (by decide) rfl rfl rfl dX2_send_58 (fun H locs hw hS => ?_)
      refine lv_iload hx hb dX2_send_61 (lv_at hl 0 rfl) ?_
      exact kx_retI hQ hx hb hr hlk hw hS (Nat.le_of_ble_eq_true rfl) (Nat.le_of_ble_eq_true rfl) dX2_send_63 (kd_i (by first | (simp only [kd2, e13, ok_2, hcl_x, ok_7, decide_eq_true c_14, if_pos c_14, decide_eq_false c_32, if_neg c_32]; done) | (simp only [kd2, e13, ok_2, hcl_x, ok_7, decide_eq_true c_14, if_pos c_14, decide_eq_false c_32, if_neg c_32]; rfl) | (simp [kd2, e13, ok_2, hcl_x, ok_7, decide_eq_true c_14, if_pos c_14, decide_eq_false c_32, if_neg c_32]; done)) (by first | (simp only [hcl_x]; done) | (simp only [hcl_x]; rfl) | rfl) (by first | (simp only [hcl_x]; done) | (simp only [hcl_x]; rfl) | rfl))
    · exact kx_throwIS (text := "it is there") (is := 153) hQ hx hb hfl hown hG hw hS false (by decide +kernel) xk_IS xi_IS xa_IS (kEx_3 (by first | (simp only [kd2, e13, ok_2, hcl_x, ok_7, decide_eq_true c_14, if_pos c_14, decide_eq_true c_32, if_pos c_32]; done) | (simp only [kd2, e13, ok_2, hcl_x, ok_7, decide_eq_true c_14, if_pos c_14, decide_eq_true c_32, if_pos c_32]; rfl) | (simp [kd2, e13, ok_2, hcl_x, ok_7, decide_eq_true c_14, if_pos c_14, decide_eq_true c_32, if_pos c_32]; done))) (hl.1.trans hml.symm) hT rfl dX2_send_35 dX2_send_38 dX2_send_39 dX2_send_41 dX2_send_44 ⟨by decide, Nat.le_of_ble_eq_true rfl, Nat.le_of_ble_eq_true rfl, Nat.le_of_ble_eq_true rfl⟩ hlk (Nat.le_of_ble_eq_true rfl) (Nat.le_of_ble_eq_true rfl)
  · exact kx_throwIS (text := "not kept") (is := 145) hQ hx hb hfl hown hG hw hS false (by decide +kernel) xk_IS xi_IS xa_IS (kEx_3 (by first | (simp only [kd2, e13, ok_2, hcl_x, ok_7, decide_eq_false c_14, if_neg c_14]; done) | (simp only [kd2, e13, ok_2, hcl_x, ok_7, decide_eq_false c_14, if_neg c_14]; rfl) | (simp [kd2, e13, ok_2, hcl_x, ok_7, decide_eq_false c_14, if_neg c_14]; done))) (hl.1.trans hml.symm) hT rfl dX2_send_17 dX2_send_20 dX2_send_21 dX2_send_23 dX2_send_26 ⟨by decide, Nat.le_of_ble_eq_true rfl, Nat.le_of_ble_eq_true rfl, Nat.le_of_ble_eq_true rfl⟩ hlk (Nat.le_of_ble_eq_true rfl) (Nat.le_of_ble_eq_true rfl)
theorem hd_X2_turnUp : yX2_turnUp.cls = RX2 ∧ yX2_turnUp.cls ≠ "java/lang/invoke/MethodHandle" ∧ yX2_turnUp.cls ≠ "java/lang/invoke/VarHandle" ∧ (parseMethodDescriptor yX2_turnUp.desc).map (fun d => d.parameters.length) = some 2 := by decide +kernel
set_option maxHeartbeats 4000000 in
set_option maxRecDepth 100000 in
theorem c_X2_turnUp (l : Launch) (hfl : l.stackTraces = false) (D : va_G) (cy : Nat → ClassId) (base : Nat → Prop) (ad : Nat → Nat) (n nc : Nat) (g : sg) (x : Int32) (room : Int32) (hfr : ∀ j, j < 30 → g 6 j = if j < n then 1 else 0) (hh : ∀ i, i < n → ∃ h : Nat, h ≤ 12 ∧ g (100 + 3 * i) 7 = nI h) : kM l yX2_turnUp wsX2_turnUp (kR 7 3 18) D cy base ad n nc g [.ref (ad 0), .int x, .int room] (kD (kd2 (isF n x && inn room 0 5) (decide (g (100 + 3 * x.toNatClampNeg) 9 = 2)) = 0) (some (.int (cmH (g (100 + 3 * x.toNatClampNeg) 7)))) ad n nc (cComes g x.toNatClampNeg room (g 0 10))) (kEx (e13 (kd2 (isF n x && inn room 0 5) (decide (g (100 + 3 * x.toNatClampNeg) 9 = 2))))) 3 18 := by
  refine kx_meth (cc := cX2_turnUp) (maxL := 4) (ret := (some .int)) (by decide) rfl (Nat.le_of_ble_eq_true rfl) ?_
  intro p e s m args below meth c ls hx hb hr hml hown hts hlk hT hG hw0 hS0 hl Q H locs hQ hw hS hH0 hlocs0
  have hl : lv_has ls 4 [(0, .ref (ad 0)), (1, .int x), (2, .int room)] := hl
  have hown : s.vm.findClass RX2 = some m.cls := hown
  have hF : CallFix p m c cX2_turnUp 4 s args wsX2_turnUp RX2 := ⟨hx, hb, hml, hown, hts⟩
  have hn30 : n ≤ 30 := hw.2.2.1
  have hc20 : nc ≤ 20 := hw.2.2.2
  clear hw0 hS0 hH0 hlocs0
  have i1 : ∀ w ∈ wsX10, w ∈ wsX2_turnUp := by decide +kernel
  have i2 : ∀ w ∈ wsX20, w ∈ wsX2_turnUp := by decide +kernel
  have f_47 := hts (.fieldLink RX2 47 "Lostroom" "day" "I") (by decide +kernel)
  have f_142 := hts (.fieldLink RX2 142 "Lostroom$Found" "state" "I") (by decide +kernel)
  have f_157 := hts (.fieldLink RX2 157 "Lostroom$Found" "hands" "I") (by decide +kernel)
  have xk_IS := hts (.classLink RX2 90 "java/lang/IllegalStateException") (by decide +kernel)
  have xi_IS := hts (.initialized "java/lang/IllegalStateException") (by decide +kernel)
  have xa_IS : ∀ w ∈ (vx_atS RX2 94 "java/lang/IllegalStateException" kNm).filter goodWord, w.before args s = true := fun w h => hts w ((by decide +kernel : ∀ w ∈ (vx_atS RX2 94 "java/lang/IllegalStateException" kNm).filter goodWord, w ∈ wsX2_turnUp) w h)
  refine lv_aload_n hx hb dX2_turnUp_0 rfl (lv_at hl 0 rfl) ?_
  refine lv_iload_n hx hb dX2_turnUp_1 rfl (lv_at hl 1 rfl) ?_
  refine kx_do (st1 := [.ref (ad (100 + 3 * x.toNatClampNeg))]) (kx_cv (As := [.int x]) (rest := []) hF hG hw hS hl.1 kC_0 rfl (c_X2_foundAt l hfl D cy base ad n nc g x (by first | assumption | omega | exact mR_9 (by assumption) _ _ | simp [sU, hfr, hh])) gX2_turnUp_X2_foundAt rfl rfl rfl hd_X2_foundAt ⟨Nat.le_of_ble_eq_true rfl, Nat.le_of_ble_eq_true rfl⟩ rfl rfl (Nat.le_of_ble_eq_true rfl) dX2_turnUp_2 ⟨Nat.le_of_ble_eq_true rfl, Nat.le_of_ble_eq_true rfl⟩) hS rfl (fun E9 ce9 q9 H locs hX9 hw hS hc9 hv9 hcl9 => kx_out hQ hT hlk hw hS (kEx_to hX9 (by cases h9 : isF n x <;> simp [rq, kd2, e13, h9])) hc9 hv9 hcl9 (Nat.le_of_ble_eq_true rfl) (Nat.le_of_ble_eq_true rfl)) (fun ok_2 H locs hw hS => ?_)
  obtain ⟨i_x, hi_x, rfl⟩ := isF_ex ok_2 hn30
  have hcl_x : (nI i_x).toNatClampNeg = i_x := cl_nI (by omega)
  rw [hcl_x]
  refine lv_astore_n (lv' := [(3, .ref (ad (100 + 3 * i_x))), (0, .ref (ad 0)), (1, .int (nI i_x)), (2, .int room)]) hx hb dX2_turnUp_5 rfl hl (by decide) rfl (fun ls hl => ?_)
  refine lv_iload_n hx hb dX2_turnUp_6 rfl (lv_at hl 3 rfl) ?_
  refine kx_do (st1 := []) (kx_cs (As := [.int room]) (rest := []) hF hG hw hS hl.1 (c_X2_requireRoom l hfl D cy base ad n nc g room ) gX2_turnUp_X2_requireRoom rfl rfl rfl hd_X2_requireRoom ⟨Nat.le_of_ble_eq_true rfl, Nat.le_of_ble_eq_true rfl⟩ rfl rfl (Nat.le_of_ble_eq_true rfl) dX2_turnUp_7 ⟨Nat.le_of_ble_eq_true rfl, Nat.le_of_ble_eq_true rfl⟩) hS rfl (fun E9 ce9 q9 H locs hX9 hw hS hc9 hv9 hcl9 => kx_out hQ hT hlk hw hS (kEx_to hX9 (by cases h9 : inn room 0 5 <;> simp [rq, kd2, e13, h9, ok_2, hcl_x])) hc9 hv9 hcl9 (Nat.le_of_ble_eq_true rfl) (Nat.le_of_ble_eq_true rfl)) (fun ok_7 H locs hw hS => ?_)
  have v_room : vp_in room 6 := inn_vp (ok_7) (by decide)
  refine lv_aload_n hx hb dX2_turnUp_10 rfl (lv_at hl 0 rfl) ?_
  refine kx_getF (v := .int (g (100 + 3 * i_x) 9)) hx hb hts hown hG hw i1 i_x (by first | assumption | omega) 9 (by decide) f_142 rfl dX2_turnUp_11 ?_
  refine lv_iconst (v := 2) hx hb dX2_turnUp_14 (by decide) ?_
  refine lv_icmp_eq (tgt := 28) hx hb dX2_turnUp_15 (by decide) (fun c_15 => ?_) (fun c_15 => ?_)
  · refine lv_aload_n hx hb dX2_turnUp_28 rfl (lv_at hl 0 rfl) ?_
    refine lv_iload_n hx hb dX2_turnUp_29 rfl (lv_at hl 3 rfl) ?_
    refine lv_aload_n hx hb dX2_turnUp_30 rfl (lv_at hl 1 rfl) ?_
    refine kx_getL (v := .int (g 0 10)) hx hb hts hown hG hw i2 10 (by decide) f_47 rfl dX2_turnUp_31 ?_
    refine kx_do0 (st1 := []) (kx_cv (As := [.int room, .int (g 0 10)]) (rest := []) hF hG hw hS hl.1 (kC_F (by first | assumption | omega) hw.2.2.1) rfl (c_X1_comeTo l hfl D cy base ad n nc g i_x room (g 0 10) hi_x (hh i_x hi_x)) gX2_turnUp_X1_comeTo rfl rfl rfl hd_X1_comeTo ⟨Nat.le_of_ble_eq_true rfl, Nat.le_of_ble_eq_true rfl⟩ rfl rfl (Nat.le_of_ble_eq_true rfl) dX2_turnUp_34 ⟨Nat.le_of_ble_eq_true rfl, Nat.le_of_ble_eq_true rfl⟩) hS rfl (fun H locs hw hS => ?_)
    refine lv_aload_n hx hb dX2_turnUp_37 rfl (lv_at hl 0 rfl) ?_
    refine kx_getF (v := .int (cmH (g (100 + 3 * i_x) 7))) hx hb hts hown hG hw i1 i_x (by first | assumption | omega) 7 (by decide) f_157 (congrArg Value.int ((cc_7 _ _ _ _))) dX2_turnUp_38 ?_
    exact kx_retI hQ hx hb hr hlk hw hS (Nat.le_of_ble_eq_true rfl) (Nat.le_of_ble_eq_true rfl) dX2_turnUp_41 (kd_i (by first | (simp only [kd2, e13, ok_2, hcl_x, ok_7, decide_eq_true c_15, if_pos c_15]; done) | (simp only [kd2, e13, ok_2, hcl_x, ok_7, decide_eq_true c_15, if_pos c_15]; rfl) | (simp [kd2, e13, ok_2, hcl_x, ok_7, decide_eq_true c_15, if_pos c_15]; done)) (by first | (simp only [hcl_x]; done) | (simp only [hcl_x]; rfl) | rfl) (by first | (simp only [hcl_x]; done) | (simp only [hcl_x]; rfl) | rfl))
  · exact kx_throwIS (text := "not missing") (is := 155) hQ hx hb hfl hown hG hw hS false (by decide +kernel) xk_IS xi_IS xa_IS (kEx_3 (by first | (simp only [kd2, e13, ok_2, hcl_x, ok_7, decide_eq_false c_15, if_neg c_15]; done) | (simp only [kd2, e13, ok_2, hcl_x, ok_7, decide_eq_false c_15, if_neg c_15]; rfl) | (simp [kd2, e13, ok_2, hcl_x, ok_7, decide_eq_false c_15, if_neg c_15]; done))) (hl.1.trans hml.symm) hT rfl dX2_turnUp_18 dX2_turnUp_21 dX2_turnUp_22 dX2_turnUp_24 dX2_turnUp_27 ⟨by decide, Nat.le_of_ble_eq_true rfl, Nat.le_of_ble_eq_true rfl, Nat.le_of_ble_eq_true rfl⟩ hlk (Nat.le_of_ble_eq_true rfl) (Nat.le_of_ble_eq_true rfl)
theorem hd_X2_hold : yX2_hold.cls = RX2 ∧ yX2_hold.cls ≠ "java/lang/invoke/MethodHandle" ∧ yX2_hold.cls ≠ "java/lang/invoke/VarHandle" ∧ (parseMethodDescriptor yX2_hold.desc).map (fun d => d.parameters.length) = some 2 := by decide +kernel
set_option maxHeartbeats 4000000 in
set_option maxRecDepth 100000 in
theorem c_X2_hold (l : Launch) (hfl : l.stackTraces = false) (D : va_G) (cy : Nat → ClassId) (base : Nat → Prop) (ad : Nat → Nat) (n nc : Nat) (g : sg) (x : Int32) (is : Bool) (hfr : ∀ j, j < 30 → g 6 j = if j < n then 1 else 0) (hz : ∀ i, i < n → g (100 + 3 * i) 12 = 0 ∨ g (100 + 3 * i) 12 = 1) : kM l yX2_hold wsX2_hold (kR 7 2 12) D cy base ad n nc g [.ref (ad 0), .int x, .int (b2 is)] (kD (kd2 (isF n x) (cHere g x.toNatClampNeg) = 0) (some (.int (b2 (!decide (g (100 + 3 * x.toNatClampNeg) 12 = 0))))) ad n nc (sU g (100 + 3 * x.toNatClampNeg) 12 (b2 is))) (kEx (e13 (kd2 (isF n x) (cHere g x.toNatClampNeg)))) 2 12 := by
  refine kx_meth (cc := cX2_hold) (maxL := 5) (ret := (some .boolean)) (by decide) rfl (Nat.le_of_ble_eq_true rfl) ?_
  intro p e s m args below meth c ls hx hb hr hml hown hts hlk hT hG hw0 hS0 hl Q H locs hQ hw hS hH0 hlocs0
  have hl : lv_has ls 5 [(0, .ref (ad 0)), (1, .int x), (2, .int (b2 is))] := hl
  have hown : s.vm.findClass RX2 = some m.cls := hown
  have hF : CallFix p m c cX2_hold 5 s args wsX2_hold RX2 := ⟨hx, hb, hml, hown, hts⟩
  have hn30 : n ≤ 30 := hw.2.2.1
  have hc20 : nc ≤ 20 := hw.2.2.2
  clear hw0 hS0 hH0 hlocs0
  have i1 : ∀ w ∈ wsX10, w ∈ wsX2_hold := by decide +kernel
  have f_166 := hts (.fieldLink RX2 166 "Lostroom$Found" "isHeld" "Z") (by decide +kernel)
  have xk_IS := hts (.classLink RX2 90 "java/lang/IllegalStateException") (by decide +kernel)
  have xi_IS := hts (.initialized "java/lang/IllegalStateException") (by decide +kernel)
  have xa_IS : ∀ w ∈ (vx_atS RX2 94 "java/lang/IllegalStateException" kNm).filter goodWord, w.before args s = true := fun w h => hts w ((by decide +kernel : ∀ w ∈ (vx_atS RX2 94 "java/lang/IllegalStateException" kNm).filter goodWord, w ∈ wsX2_hold) w h)
  refine lv_aload_n hx hb dX2_hold_0 rfl (lv_at hl 0 rfl) ?_
  refine lv_iload_n hx hb dX2_hold_1 rfl (lv_at hl 1 rfl) ?_
  refine kx_do (st1 := [.ref (ad (100 + 3 * x.toNatClampNeg))]) (kx_cv (As := [.int x]) (rest := []) hF hG hw hS hl.1 kC_0 rfl (c_X2_foundAt l hfl D cy base ad n nc g x (by first | assumption | omega | exact mR_9 (by assumption) _ _ | simp [sU, hfr, hz])) gX2_hold_X2_foundAt rfl rfl rfl hd_X2_foundAt ⟨Nat.le_of_ble_eq_true rfl, Nat.le_of_ble_eq_true rfl⟩ rfl rfl (Nat.le_of_ble_eq_true rfl) dX2_hold_2 ⟨Nat.le_of_ble_eq_true rfl, Nat.le_of_ble_eq_true rfl⟩) hS rfl (fun E9 ce9 q9 H locs hX9 hw hS hc9 hv9 hcl9 => kx_out hQ hT hlk hw hS (kEx_to hX9 (by cases h9 : isF n x <;> simp [rq, kd2, e13, h9])) hc9 hv9 hcl9 (Nat.le_of_ble_eq_true rfl) (Nat.le_of_ble_eq_true rfl)) (fun ok_2 H locs hw hS => ?_)
  obtain ⟨i_x, hi_x, rfl⟩ := isF_ex ok_2 hn30
  have hcl_x : (nI i_x).toNatClampNeg = i_x := cl_nI (by omega)
  rw [hcl_x]
  refine lv_astore_n (lv' := [(3, .ref (ad (100 + 3 * i_x))), (0, .ref (ad 0)), (1, .int (nI i_x)), (2, .int (b2 is))]) hx hb dX2_hold_5 rfl hl (by decide) rfl (fun ls hl => ?_)
  refine lv_aload_n hx hb dX2_hold_6 rfl (lv_at hl 0 rfl) ?_
  refine kx_do0 (st1 := [.int (b2 (cHere g i_x))]) (kx_cv (As := []) (rest := []) hF hG hw hS hl.1 (kC_F (by first | assumption | omega) hw.2.2.1) rfl (c_X1_isHere l hfl D cy base ad n nc g i_x hi_x) gX2_hold_X1_isHere rfl rfl rfl hd_X1_isHere ⟨Nat.le_of_ble_eq_true rfl, Nat.le_of_ble_eq_true rfl⟩ rfl rfl (Nat.le_of_ble_eq_true rfl) dX2_hold_7 ⟨Nat.le_of_ble_eq_true rfl, Nat.le_of_ble_eq_true rfl⟩) hS rfl (fun H locs hw hS => ?_)
  refine kb_ne (tgt := 23) hx hb dX2_hold_10 (by decide) (fun c_10 => ?_) (fun c_10 => ?_)
  · refine lv_aload_n hx hb dX2_hold_23 rfl (lv_at hl 0 rfl) ?_
    refine kx_getF (v := .int (g (100 + 3 * i_x) 12)) hx hb hts hown hG hw i1 i_x (by first | assumption | omega) 12 (by decide) f_166 rfl dX2_hold_24 ?_
    refine lv_istore (lv' := [(4, .int (g (100 + 3 * i_x) 12)), (3, .ref (ad (100 + 3 * i_x))), (0, .ref (ad 0)), (1, .int (nI i_x)), (2, .int (b2 is))]) hx hb dX2_hold_27 hl (by decide) rfl (fun ls hl => ?_)
    refine lv_aload_n hx hb dX2_hold_29 rfl (lv_at hl 1 rfl) ?_
    refine lv_iload_n hx hb dX2_hold_30 rfl (lv_at hl 4 rfl) ?_
    refine kx_putF (v := (b2 is)) hx hb hts hown hG hw hS i1 i_x (by first | assumption | omega) 12 (by decide) f_166 (by decide) (by decide) rfl (nar_b2 _) (fit_b2 _) dX2_hold_31 (fun H locs hw hS => ?_)
    refine lv_iload hx hb dX2_hold_34 (lv_at hl 0 rfl) ?_
    exact kx_retZ hQ hx hb hr hlk hw hS (Nat.le_of_ble_eq_true rfl) (Nat.le_of_ble_eq_true rfl) dX2_hold_36 (by rcases hz i_x hi_x with h9 | h9 <;> rw [h9] <;> rfl) (kd_i (by first | (simp only [kd2, e13, ok_2, hcl_x, c_10]; done) | (simp only [kd2, e13, ok_2, hcl_x, c_10]; rfl) | (simp [kd2, e13, ok_2, hcl_x, c_10]; done)) (by rcases hz i_x hi_x with h9 | h9 <;> simp [b2, h9, hcl_x]) (by first | (simp only [hcl_x]; done) | (simp only [hcl_x]; rfl) | rfl))
  · exact kx_throwIS (text := "not here") (is := 164) hQ hx hb hfl hown hG hw hS false (by decide +kernel) xk_IS xi_IS xa_IS (kEx_3 (by first | (simp only [kd2, e13, ok_2, hcl_x, c_10]; done) | (simp only [kd2, e13, ok_2, hcl_x, c_10]; rfl) | (simp [kd2, e13, ok_2, hcl_x, c_10]; done))) (hl.1.trans hml.symm) hT rfl dX2_hold_13 dX2_hold_16 dX2_hold_17 dX2_hold_19 dX2_hold_22 ⟨by decide, Nat.le_of_ble_eq_true rfl, Nat.le_of_ble_eq_true rfl, Nat.le_of_ble_eq_true rfl⟩ hlk (Nat.le_of_ble_eq_true rfl) (Nat.le_of_ble_eq_true rfl)
theorem hd_X2_say : yX2_say.cls = RX2 ∧ yX2_say.cls ≠ "java/lang/invoke/MethodHandle" ∧ yX2_say.cls ≠ "java/lang/invoke/VarHandle" ∧ (parseMethodDescriptor yX2_say.desc).map (fun d => d.parameters.length) = some 2 := by decide +kernel
set_option maxHeartbeats 4000000 in
set_option maxRecDepth 100000 in
theorem c_X2_say (l : Launch) (hfl : l.stackTraces = false) (D : va_G) (cy : Nat → ClassId) (base : Nat → Prop) (ad : Nat → Nat) (n nc : Nat) (g : sg) (x : Int32) (set : Int32) (hcr : ∀ j, j < 20 → g 7 j = if j < nc then 1 else 0) (hR : cR n nc g) : kM l yX2_say wsX2_say (kR 7 3 18) D cy base ad n nc g [.ref (ad 0), .int x, .int set] (kD (kd3 (isF nc x) (inn set 0 16777215) (decide (g (200 + x.toNatClampNeg) 7 = 0)) = 0) (some (.int (bits (g (200 + x.toNatClampNeg) 5 ||| set)))) ad n nc (sU g (200 + x.toNatClampNeg) 5 (g (200 + x.toNatClampNeg) 5 ||| set))) (kEx (kd3 (isF nc x) (inn set 0 16777215) (decide (g (200 + x.toNatClampNeg) 7 = 0)))) 3 18 := by
  refine kx_meth (cc := cX2_say) (maxL := 4) (ret := (some .int)) (by decide) rfl (Nat.le_of_ble_eq_true rfl) ?_
  intro p e s m args below meth c ls hx hb hr hml hown hts hlk hT hG hw0 hS0 hl Q H locs hQ hw hS hH0 hlocs0
  have hl : lv_has ls 4 [(0, .ref (ad 0)), (1, .int x), (2, .int set)] := hl
  have hown : s.vm.findClass RX2 = some m.cls := hown
  have hF : CallFix p m c cX2_say 4 s args wsX2_say RX2 := ⟨hx, hb, hml, hown, hts⟩
  have hn30 : n ≤ 30 := hw.2.2.1
  have hc20 : nc ≤ 20 := hw.2.2.2
  clear hw0 hS0 hH0 hlocs0
  have i0 : ∀ w ∈ wsX00, w ∈ wsX2_say := by decide +kernel
  have f_185 := hts (.fieldLink RX2 185 "Lostroom$Claim" "words" "I") (by decide +kernel)
  refine lv_aload_n hx hb dX2_say_0 rfl (lv_at hl 0 rfl) ?_
  refine lv_iload_n hx hb dX2_say_1 rfl (lv_at hl 1 rfl) ?_
  refine kx_do (st1 := [.ref (ad (200 + x.toNatClampNeg))]) (kx_cv (As := [.int x]) (rest := []) hF hG hw hS hl.1 kC_0 rfl (c_X2_claimAt l hfl D cy base ad n nc g x (by first | assumption | omega | exact mR_9 (by assumption) _ _ | simp [sU, hcr, hR])) gX2_say_X2_claimAt rfl rfl rfl hd_X2_claimAt ⟨Nat.le_of_ble_eq_true rfl, Nat.le_of_ble_eq_true rfl⟩ rfl rfl (Nat.le_of_ble_eq_true rfl) dX2_say_2 ⟨Nat.le_of_ble_eq_true rfl, Nat.le_of_ble_eq_true rfl⟩) hS rfl (fun E9 ce9 q9 H locs hX9 hw hS hc9 hv9 hcl9 => kx_out hQ hT hlk hw hS (kEx_to hX9 (by cases h9 : isF nc x <;> simp [rq, kd3, h9])) hc9 hv9 hcl9 (Nat.le_of_ble_eq_true rfl) (Nat.le_of_ble_eq_true rfl)) (fun ok_2 H locs hw hS => ?_)
  obtain ⟨i_x, hi_x, rfl⟩ := isF_ex ok_2 (Nat.le_trans hc20 (by decide))
  have hcl_x : (nI i_x).toNatClampNeg = i_x := cl_nI (by omega)
  rw [hcl_x]
  have hr2 := hR.2.1 i_x hi_x
  refine lv_astore_n (lv' := [(3, .ref (ad (200 + i_x))), (0, .ref (ad 0)), (1, .int (nI i_x)), (2, .int set)]) hx hb dX2_say_5 rfl hl (by decide) rfl (fun ls hl => ?_)
  refine lv_iload_n hx hb dX2_say_6 rfl (lv_at hl 3 rfl) ?_
  refine kx_do (st1 := []) (kx_cs (As := [.int set]) (rest := []) hF hG hw hS hl.1 (c_X2_requireWords l hfl D cy base ad n nc g set ) gX2_say_X2_requireWords rfl rfl rfl hd_X2_requireWords ⟨Nat.le_of_ble_eq_true rfl, Nat.le_of_ble_eq_true rfl⟩ rfl rfl (Nat.le_of_ble_eq_true rfl) dX2_say_7 ⟨Nat.le_of_ble_eq_true rfl, Nat.le_of_ble_eq_true rfl⟩) hS rfl (fun E9 ce9 q9 H locs hX9 hw hS hc9 hv9 hcl9 => kx_out hQ hT hlk hw hS (kEx_to hX9 (by cases h9 : inn set 0 16777215 <;> simp [rq, kd3, h9, ok_2, hcl_x])) hc9 hv9 hcl9 (Nat.le_of_ble_eq_true rfl) (Nat.le_of_ble_eq_true rfl)) (fun ok_7 H locs hw hS => ?_)
  refine lv_aload_n hx hb dX2_say_10 rfl (lv_at hl 0 rfl) ?_
  refine kx_do (st1 := []) (kx_cs (As := [.ref (ad (200 + i_x))]) (rest := []) hF hG hw hS hl.1 (c_X2_requireOpen l hfl D cy base ad n nc g i_x hi_x) gX2_say_X2_requireOpen rfl rfl rfl hd_X2_requireOpen ⟨Nat.le_of_ble_eq_true rfl, Nat.le_of_ble_eq_true rfl⟩ rfl rfl (Nat.le_of_ble_eq_true rfl) dX2_say_11 ⟨Nat.le_of_ble_eq_true rfl, Nat.le_of_ble_eq_true rfl⟩) hS rfl (fun E9 ce9 q9 H locs hX9 hw hS hc9 hv9 hcl9 => kx_out hQ hT hlk hw hS (kEx_to hX9 (by cases h9 : decide (g (200 + i_x) 7 = 0) <;> simp [rq, kd3, h9, ok_2, hcl_x, ok_7])) hc9 hv9 hcl9 (Nat.le_of_ble_eq_true rfl) (Nat.le_of_ble_eq_true rfl)) (fun ok_11 H locs hw hS => ?_)
  refine lv_aload_n hx hb dX2_say_14 rfl (lv_at hl 0 rfl) ?_
  refine lv_dup hx hb dX2_say_15 rfl ?_
  refine kx_getC (v := .int (g (200 + i_x) 5)) hx hb hts hown hG hw i0 i_x (by first | assumption | omega) 5 (by decide) f_185 rfl dX2_say_16 ?_
  refine lv_iload_n hx hb dX2_say_19 rfl (lv_at hl 3 rfl) ?_
  refine lv_ior hx hb dX2_say_20 ?_
  refine kx_putC (v := ((g (200 + i_x) 5) ||| set)) hx hb hts hown hG hw hS i0 i_x (by first | assumption | omega) 5 (by decide) f_185 rfl rfl rfl dX2_say_21 (fun H locs hw hS => ?_)
  refine lv_aload_n hx hb dX2_say_24 rfl (lv_at hl 0 rfl) ?_
  refine kx_getC (v := .int ((g (200 + i_x) 5) ||| set)) hx hb hts hown hG hw i0 i_x (by first | assumption | omega) 5 (by decide) f_185 (congrArg Value.int (sU_s _ _ _ _)) dX2_say_25 ?_
  refine kx_do0 (st1 := [.int (bits ((g (200 + i_x) 5) ||| set))]) (kx_cs (As := [.int ((g (200 + i_x) 5) ||| set)]) (rest := []) hF hG hw hS hl.1 (c_J6_bitCount_0f7a4 l hfl D cy base ad n nc (sU g (200 + i_x) 5 ((g (200 + i_x) 5) ||| set)) ((g (200 + i_x) 5) ||| set) (sB_or hr2.2.2.2.1 (inn_sB ok_7))) gX2_say_J6_bitCount_0f7a4 rfl rfl rfl hd_J6_bitCount_0f7a4 ⟨Nat.le_of_ble_eq_true rfl, Nat.le_of_ble_eq_true rfl⟩ rfl rfl (Nat.le_of_ble_eq_true rfl) dX2_say_28 ⟨Nat.le_of_ble_eq_true rfl, Nat.le_of_ble_eq_true rfl⟩) hS rfl (fun H locs hw hS => ?_)
  exact kx_retI hQ hx hb hr hlk hw hS (Nat.le_of_ble_eq_true rfl) (Nat.le_of_ble_eq_true rfl) dX2_say_31 (kd_i (by first | (simp only [kd3, ok_2, hcl_x, ok_7, ok_11]; done) | (simp only [kd3, ok_2, hcl_x, ok_7, ok_11]; rfl) | (simp [kd3, ok_2, hcl_x, ok_7, ok_11]; done)) (by first | (simp only [hcl_x]; done) | (simp only [hcl_x]; rfl) | rfl) (by first | (simp only [hcl_x]; done) | (simp only [hcl_x]; rfl) | rfl))
theorem hd_X2_tell : yX2_tell.cls = RX2 ∧ yX2_tell.cls ≠ "java/lang/invoke/MethodHandle" ∧ yX2_tell.cls ≠ "java/lang/invoke/VarHandle" ∧ (parseMethodDescriptor yX2_tell.desc).map (fun d => d.parameters.length) = some 2 := by decide +kernel
set_option maxHeartbeats 4000000 in
set_option maxRecDepth 100000 in
theorem c_X2_tell (l : Launch) (hfl : l.stackTraces = false) (D : va_G) (cy : Nat → ClassId) (base : Nat → Prop) (ad : Nat → Nat) (n nc : Nat) (g : sg) (x : Int32) (set : Int32) (hcr : ∀ j, j < 20 → g 7 j = if j < nc then 1 else 0) (hR : cR n nc g) : kM l yX2_tell wsX2_tell (kR 7 3 18) D cy base ad n nc g [.ref (ad 0), .int x, .int set] (kD (kd3 (isF nc x) (inn set 0 16777215) (decide (g (200 + x.toNatClampNeg) 7 = 0)) = 0) (some (.int (bits (g (200 + x.toNatClampNeg) 6 ||| set)))) ad n nc (sU (sU g (200 + x.toNatClampNeg) 5 (g (200 + x.toNatClampNeg) 5 ||| set)) (200 + x.toNatClampNeg) 6 (g (200 + x.toNatClampNeg) 6 ||| set))) (kEx (kd3 (isF nc x) (inn set 0 16777215) (decide (g (200 + x.toNatClampNeg) 7 = 0)))) 3 18 := by
  refine kx_meth (cc := cX2_tell) (maxL := 4) (ret := (some .int)) (by decide) rfl (Nat.le_of_ble_eq_true rfl) ?_
  intro p e s m args below meth c ls hx hb hr hml hown hts hlk hT hG hw0 hS0 hl Q H locs hQ hw hS hH0 hlocs0
  have hl : lv_has ls 4 [(0, .ref (ad 0)), (1, .int x), (2, .int set)] := hl
  have hown : s.vm.findClass RX2 = some m.cls := hown
  have hF : CallFix p m c cX2_tell 4 s args wsX2_tell RX2 := ⟨hx, hb, hml, hown, hts⟩
  have hn30 : n ≤ 30 := hw.2.2.1
  have hc20 : nc ≤ 20 := hw.2.2.2
  clear hw0 hS0 hH0 hlocs0
  have i0 : ∀ w ∈ wsX00, w ∈ wsX2_tell := by decide +kernel
  have f_185 := hts (.fieldLink RX2 185 "Lostroom$Claim" "words" "I") (by decide +kernel)
  have f_186 := hts (.fieldLink RX2 186 "Lostroom$Claim" "told" "I") (by decide +kernel)
  refine lv_aload_n hx hb dX2_tell_0 rfl (lv_at hl 0 rfl) ?_
  refine lv_iload_n hx hb dX2_tell_1 rfl (lv_at hl 1 rfl) ?_
  refine kx_do (st1 := [.ref (ad (200 + x.toNatClampNeg))]) (kx_cv (As := [.int x]) (rest := []) hF hG hw hS hl.1 kC_0 rfl (c_X2_claimAt l hfl D cy base ad n nc g x (by first | assumption | omega | exact mR_9 (by assumption) _ _ | simp [sU, hcr, hR])) gX2_tell_X2_claimAt rfl rfl rfl hd_X2_claimAt ⟨Nat.le_of_ble_eq_true rfl, Nat.le_of_ble_eq_true rfl⟩ rfl rfl (Nat.le_of_ble_eq_true rfl) dX2_tell_2 ⟨Nat.le_of_ble_eq_true rfl, Nat.le_of_ble_eq_true rfl⟩) hS rfl (fun E9 ce9 q9 H locs hX9 hw hS hc9 hv9 hcl9 => kx_out hQ hT hlk hw hS (kEx_to hX9 (by cases h9 : isF nc x <;> simp [rq, kd3, h9])) hc9 hv9 hcl9 (Nat.le_of_ble_eq_true rfl) (Nat.le_of_ble_eq_true rfl)) (fun ok_2 H locs hw hS => ?_)
  obtain ⟨i_x, hi_x, rfl⟩ := isF_ex ok_2 (Nat.le_trans hc20 (by decide))
  have hcl_x : (nI i_x).toNatClampNeg = i_x := cl_nI (by omega)
  rw [hcl_x]
  have hr2 := hR.2.1 i_x hi_x
  refine lv_astore_n (lv' := [(3, .ref (ad (200 + i_x))), (0, .ref (ad 0)), (1, .int (nI i_x)), (2, .int set)]) hx hb dX2_tell_5 rfl hl (by decide) rfl (fun ls hl => ?_)
  refine lv_iload_n hx hb dX2_tell_6 rfl (lv_at hl 3 rfl) ?_
  refine kx_do (st1 := []) (kx_cs (As := [.int set]) (rest := []) hF hG hw hS hl.1 (c_X2_requireWords l hfl D cy base ad n nc g set ) gX2_tell_X2_requireWords rfl rfl rfl hd_X2_requireWords ⟨Nat.le_of_ble_eq_true rfl, Nat.le_of_ble_eq_true rfl⟩ rfl rfl (Nat.le_of_ble_eq_true rfl) dX2_tell_7 ⟨Nat.le_of_ble_eq_true rfl, Nat.le_of_ble_eq_true rfl⟩) hS rfl (fun E9 ce9 q9 H locs hX9 hw hS hc9 hv9 hcl9 => kx_out hQ hT hlk hw hS (kEx_to hX9 (by cases h9 : inn set 0 16777215 <;> simp [rq, kd3, h9, ok_2, hcl_x])) hc9 hv9 hcl9 (Nat.le_of_ble_eq_true rfl) (Nat.le_of_ble_eq_true rfl)) (fun ok_7 H locs hw hS => ?_)
  refine lv_aload_n hx hb dX2_tell_10 rfl (lv_at hl 0 rfl) ?_
  refine kx_do (st1 := []) (kx_cs (As := [.ref (ad (200 + i_x))]) (rest := []) hF hG hw hS hl.1 (c_X2_requireOpen l hfl D cy base ad n nc g i_x hi_x) gX2_tell_X2_requireOpen rfl rfl rfl hd_X2_requireOpen ⟨Nat.le_of_ble_eq_true rfl, Nat.le_of_ble_eq_true rfl⟩ rfl rfl (Nat.le_of_ble_eq_true rfl) dX2_tell_11 ⟨Nat.le_of_ble_eq_true rfl, Nat.le_of_ble_eq_true rfl⟩) hS rfl (fun E9 ce9 q9 H locs hX9 hw hS hc9 hv9 hcl9 => kx_out hQ hT hlk hw hS (kEx_to hX9 (by cases h9 : decide (g (200 + i_x) 7 = 0) <;> simp [rq, kd3, h9, ok_2, hcl_x, ok_7])) hc9 hv9 hcl9 (Nat.le_of_ble_eq_true rfl) (Nat.le_of_ble_eq_true rfl)) (fun ok_11 H locs hw hS => ?_)
  refine lv_aload_n hx hb dX2_tell_14 rfl (lv_at hl 0 rfl) ?_
  refine lv_dup hx hb dX2_tell_15 rfl ?_
  refine kx_getC (v := .int (g (200 + i_x) 5)) hx hb hts hown hG hw i0 i_x (by first | assumption | omega) 5 (by decide) f_185 rfl dX2_tell_16 ?_
  refine lv_iload_n hx hb dX2_tell_19 rfl (lv_at hl 3 rfl) ?_
  refine lv_ior hx hb dX2_tell_20 ?_
  refine kx_putC (v := ((g (200 + i_x) 5) ||| set)) hx hb hts hown hG hw hS i0 i_x (by first | assumption | omega) 5 (by decide) f_185 rfl rfl rfl dX2_tell_21 (fun H locs hw hS => ?_)
  refine lv_aload_n hx hb dX2_tell_24 rfl (lv_at hl 0 rfl) ?_
  refine lv_dup hx hb dX2_tell_25 rfl ?_
  refine kx_getC (v := .int (g (200 + i_x) 6)) hx hb hts hown hG hw i0 i_x (by first | assumption | omega) 6 (by decide) f_186 (congrArg Value.int (sU_j _ _ _ _ (by decide))) dX2_tell_26 ?_
  refine lv_iload_n hx hb dX2_tell_29 rfl (lv_at hl 3 rfl) ?_
  refine lv_ior hx hb dX2_tell_30 ?_
  refine kx_putC (v := ((g (200 + i_x) 6) ||| set)) hx hb hts hown hG hw hS i0 i_x (by first | assumption | omega) 6 (by decide) f_186 rfl rfl rfl dX2_tell_31 (fun H locs hw hS => ?_)
  refine lv_aload_n hx hb dX2_tell_34 rfl (lv_at hl 0 rfl) ?_
  refine kx_getC (v := .int ((g (200 + i_x) 6) ||| set)) hx hb hts hown hG hw i0 i_x (by first | assumption | omega) 6 (by decide) f_186 (congrArg Value.int (sU_s _ _ _ _)) dX2_tell_35 ?_
  refine kx_do0 (st1 := [.int (bits ((g (200 + i_x) 6) ||| set))]) (kx_cs (As := [.int ((g (200 + i_x) 6) ||| set)]) (rest := []) hF hG hw hS hl.1 (c_J6_bitCount_0f7a4 l hfl D cy base ad n nc (sU (sU g (200 + i_x) 5 ((g (200 + i_x) 5) ||| set)) (200 + i_x) 6 ((g (200 + i_x) 6) ||| set)) ((g (200 + i_x) 6) ||| set) (sB_or hr2.2.2.2.2.1 (inn_sB ok_7))) gX2_tell_J6_bitCount_0f7a4 rfl rfl rfl hd_J6_bitCount_0f7a4 ⟨Nat.le_of_ble_eq_true rfl, Nat.le_of_ble_eq_true rfl⟩ rfl rfl (Nat.le_of_ble_eq_true rfl) dX2_tell_38 ⟨Nat.le_of_ble_eq_true rfl, Nat.le_of_ble_eq_true rfl⟩) hS rfl (fun H locs hw hS => ?_)
  exact kx_retI hQ hx hb hr hlk hw hS (Nat.le_of_ble_eq_true rfl) (Nat.le_of_ble_eq_true rfl) dX2_tell_41 (kd_i (by first | (simp only [kd3, ok_2, hcl_x, ok_7, ok_11]; done) | (simp only [kd3, ok_2, hcl_x, ok_7, ok_11]; rfl) | (simp [kd3, ok_2, hcl_x, ok_7, ok_11]; done)) (by first | (simp only [hcl_x]; done) | (simp only [hcl_x]; rfl) | rfl) (by first | (simp only [hcl_x]; done) | (simp only [hcl_x]; rfl) | rfl))
theorem hd_X2_withdraw : yX2_withdraw.cls = RX2 ∧ yX2_withdraw.cls ≠ "java/lang/invoke/MethodHandle" ∧ yX2_withdraw.cls ≠ "java/lang/invoke/VarHandle" ∧ (parseMethodDescriptor yX2_withdraw.desc).map (fun d => d.parameters.length) = some 1 := by decide +kernel
set_option maxHeartbeats 4000000 in
set_option maxRecDepth 100000 in
theorem c_X2_withdraw (l : Launch) (hfl : l.stackTraces = false) (D : va_G) (cy : Nat → ClassId) (base : Nat → Prop) (ad : Nat → Nat) (n nc : Nat) (g : sg) (x : Int32) (hcr : ∀ j, j < 20 → g 7 j = if j < nc then 1 else 0) : kM l yX2_withdraw wsX2_withdraw (kR 7 2 12) D cy base ad n nc g [.ref (ad 0), .int x] (kD (kd2 (isF nc x) (decide (g (200 + x.toNatClampNeg) 7 = 0)) = 0) (some (.int (g 0 10))) ad n nc (sU (sU g (200 + x.toNatClampNeg) 7 2) (200 + x.toNatClampNeg) 9 (g 0 10))) (kEx (e13 (kd2 (isF nc x) (decide (g (200 + x.toNatClampNeg) 7 = 0))))) 2 12 := by
  refine kx_meth (cc := cX2_withdraw) (maxL := 3) (ret := (some .int)) (by decide) rfl (Nat.le_of_ble_eq_true rfl) ?_
  intro p e s m args below meth c ls hx hb hr hml hown hts hlk hT hG hw0 hS0 hl Q H locs hQ hw hS hH0 hlocs0
  have hl : lv_has ls 3 [(0, .ref (ad 0)), (1, .int x)] := hl
  have hown : s.vm.findClass RX2 = some m.cls := hown
  have hF : CallFix p m c cX2_withdraw 3 s args wsX2_withdraw RX2 := ⟨hx, hb, hml, hown, hts⟩
  have hn30 : n ≤ 30 := hw.2.2.1
  have hc20 : nc ≤ 20 := hw.2.2.2
  clear hw0 hS0 hH0 hlocs0
  have i2 : ∀ w ∈ wsX20, w ∈ wsX2_withdraw := by decide +kernel
  have f_47 := hts (.fieldLink RX2 47 "Lostroom" "day" "I") (by decide +kernel)
  refine lv_aload_n hx hb dX2_withdraw_0 rfl (lv_at hl 0 rfl) ?_
  refine lv_iload_n hx hb dX2_withdraw_1 rfl (lv_at hl 1 rfl) ?_
  refine kx_do (st1 := [.ref (ad (200 + x.toNatClampNeg))]) (kx_cv (As := [.int x]) (rest := []) hF hG hw hS hl.1 kC_0 rfl (c_X2_claimAt l hfl D cy base ad n nc g x (by first | assumption | omega | exact mR_9 (by assumption) _ _ | simp [sU, hcr])) gX2_withdraw_X2_claimAt rfl rfl rfl hd_X2_claimAt ⟨Nat.le_of_ble_eq_true rfl, Nat.le_of_ble_eq_true rfl⟩ rfl rfl (Nat.le_of_ble_eq_true rfl) dX2_withdraw_2 ⟨Nat.le_of_ble_eq_true rfl, Nat.le_of_ble_eq_true rfl⟩) hS rfl (fun E9 ce9 q9 H locs hX9 hw hS hc9 hv9 hcl9 => kx_out hQ hT hlk hw hS (kEx_to hX9 (by cases h9 : isF nc x <;> simp [rq, kd2, e13, h9])) hc9 hv9 hcl9 (Nat.le_of_ble_eq_true rfl) (Nat.le_of_ble_eq_true rfl)) (fun ok_2 H locs hw hS => ?_)
  obtain ⟨i_x, hi_x, rfl⟩ := isF_ex ok_2 (Nat.le_trans hc20 (by decide))
  have hcl_x : (nI i_x).toNatClampNeg = i_x := cl_nI (by omega)
  rw [hcl_x]
  refine lv_astore_n (lv' := [(2, .ref (ad (200 + i_x))), (0, .ref (ad 0)), (1, .int (nI i_x))]) hx hb dX2_withdraw_5 rfl hl (by decide) rfl (fun ls hl => ?_)
  refine lv_aload_n hx hb dX2_withdraw_6 rfl (lv_at hl 0 rfl) ?_
  refine kx_do (st1 := []) (kx_cs (As := [.ref (ad (200 + i_x))]) (rest := []) hF hG hw hS hl.1 (c_X2_requireOpen l hfl D cy base ad n nc g i_x hi_x) gX2_withdraw_X2_requireOpen rfl rfl rfl hd_X2_requireOpen ⟨Nat.le_of_ble_eq_true rfl, Nat.le_of_ble_eq_true rfl⟩ rfl rfl (Nat.le_of_ble_eq_true rfl) dX2_withdraw_7 ⟨Nat.le_of_ble_eq_true rfl, Nat.le_of_ble_eq_true rfl⟩) hS rfl (fun E9 ce9 q9 H locs hX9 hw hS hc9 hv9 hcl9 => kx_out hQ hT hlk hw hS (kEx_to hX9 (by cases h9 : decide (g (200 + i_x) 7 = 0) <;> simp [rq, kd2, e13, h9, ok_2, hcl_x])) hc9 hv9 hcl9 (Nat.le_of_ble_eq_true rfl) (Nat.le_of_ble_eq_true rfl)) (fun ok_7 H locs hw hS => ?_)
  refine lv_aload_n hx hb dX2_withdraw_10 rfl (lv_at hl 0 rfl) ?_
  refine lv_iconst (v := 2) hx hb dX2_withdraw_11 (by decide) ?_
  refine lv_aload_n hx hb dX2_withdraw_12 rfl (lv_at hl 1 rfl) ?_
  refine kx_getL (v := .int (g 0 10)) hx hb hts hown hG hw i2 10 (by decide) f_47 rfl dX2_withdraw_13 ?_
  refine kx_do0 (st1 := []) (kx_cv (As := [.int (2 : Int32), .int (g 0 10)]) (rest := []) hF hG hw hS hl.1 (kC_C (by first | assumption | omega)) rfl (c_X0_end l hfl D cy base ad n nc g i_x (2 : Int32) (g 0 10) hi_x) gX2_withdraw_X0_end rfl rfl rfl hd_X0_end ⟨Nat.le_of_ble_eq_true rfl, Nat.le_of_ble_eq_true rfl⟩ rfl rfl (Nat.le_of_ble_eq_true rfl) dX2_withdraw_16 ⟨Nat.le_of_ble_eq_true rfl, Nat.le_of_ble_eq_true rfl⟩) hS rfl (fun H locs hw hS => ?_)
  refine lv_aload_n hx hb dX2_withdraw_19 rfl (lv_at hl 1 rfl) ?_
  refine kx_getL (v := .int (g 0 10)) hx hb hts hown hG hw i2 10 (by decide) f_47 (congrArg Value.int ((sU_k _ _ _ _ (by omega)).trans (sU_k _ _ _ _ (by omega)))) dX2_withdraw_20 ?_
  exact kx_retI hQ hx hb hr hlk hw hS (Nat.le_of_ble_eq_true rfl) (Nat.le_of_ble_eq_true rfl) dX2_withdraw_23 (kd_i (by first | (simp only [kd2, e13, ok_2, hcl_x, ok_7]; done) | (simp only [kd2, e13, ok_2, hcl_x, ok_7]; rfl) | (simp [kd2, e13, ok_2, hcl_x, ok_7]; done)) (rfl) (by first | (simp only [hcl_x]; done) | (simp only [hcl_x]; rfl) | rfl))
theorem hd_X2_lose : yX2_lose.cls = RX2 ∧ yX2_lose.cls ≠ "java/lang/invoke/MethodHandle" ∧ yX2_lose.cls ≠ "java/lang/invoke/VarHandle" ∧ (parseMethodDescriptor yX2_lose.desc).map (fun d => d.parameters.length) = some 1 := by decide +kernel
set_option maxHeartbeats 4000000 in
set_option maxRecDepth 100000 in
theorem c_X2_lose (l : Launch) (hfl : l.stackTraces = false) (D : va_G) (cy : Nat → ClassId) (base : Nat → Prop) (ad : Nat → Nat) (n nc : Nat) (g : sg) (room : Int32) (hfr : ∀ j, j < 30 → g 6 j = if j < n then 1 else 0) : kM l yX2_lose wsX2_lose (kR 7 1 6) D cy base ad n nc g [.ref (ad 0), .int room] (kD (kd1 (inn room 0 5) = 0) (some (.int (lcN g room n 30))) ad n nc (lcS g room n 30)) (kEx (kd1 (inn room 0 5))) 1 6 := by
  refine kx_meth (cc := cX2_lose) (maxL := 7) (ret := (some .int)) (by decide) rfl (Nat.le_of_ble_eq_true rfl) ?_
  intro p e s m args below meth c ls hx hb hr hml hown hts hlk hT hG hw0 hS0 hl Q H locs hQ hw hS hH0 hlocs0
  have hl : lv_has ls 7 [(0, .ref (ad 0)), (1, .int room)] := hl
  have hown : s.vm.findClass RX2 = some m.cls := hown
  have hF : CallFix p m c cX2_lose 7 s args wsX2_lose RX2 := ⟨hx, hb, hml, hown, hts⟩
  have hn30 : n ≤ 30 := hw.2.2.1
  have hc20 : nc ≤ 20 := hw.2.2.2
  clear hw0 hS0 hH0 hlocs0
  have i1 : ∀ w ∈ wsX10, w ∈ wsX2_lose := by decide +kernel
  have i2 : ∀ w ∈ wsX20, w ∈ wsX2_lose := by decide +kernel
  have f_27 := hts (.fieldLink RX2 27 "Lostroom" "finds" "[LLostroom$Found;") (by decide +kernel)
  have f_142 := hts (.fieldLink RX2 142 "Lostroom$Found" "state" "I") (by decide +kernel)
  have f_150 := hts (.fieldLink RX2 150 "Lostroom$Found" "room" "I") (by decide +kernel)
  refine lv_iload_n hx hb dX2_lose_0 rfl (lv_at hl 1 rfl) ?_
  refine kx_do (st1 := []) (kx_cs (As := [.int room]) (rest := []) hF hG hw hS hl.1 (c_X2_requireRoom l hfl D cy base ad n nc g room ) gX2_lose_X2_requireRoom rfl rfl rfl hd_X2_requireRoom ⟨Nat.le_of_ble_eq_true rfl, Nat.le_of_ble_eq_true rfl⟩ rfl rfl (Nat.le_of_ble_eq_true rfl) dX2_lose_1 ⟨Nat.le_of_ble_eq_true rfl, Nat.le_of_ble_eq_true rfl⟩) hS rfl (fun E9 ce9 q9 H locs hX9 hw hS hc9 hv9 hcl9 => kx_out hQ hT hlk hw hS (kEx_to hX9 (by cases h9 : inn room 0 5 <;> simp [rq, kd1, h9])) hc9 hv9 hcl9 (Nat.le_of_ble_eq_true rfl) (Nat.le_of_ble_eq_true rfl)) (fun ok_1 H locs hw hS => ?_)
  have v_room : vp_in room 6 := inn_vp (ok_1) (by decide)
  refine lv_iconst (v := 0) hx hb dX2_lose_4 (by decide) ?_
  refine lv_istore_n (lv' := [(2, .int (0 : Int32)), (0, .ref (ad 0)), (1, .int room)]) hx hb dX2_lose_5 rfl hl (by decide) rfl (fun ls hl => ?_)
  refine lv_aload_n hx hb dX2_lose_6 rfl (lv_at hl 1 rfl) ?_
  refine kx_getL (v := .ref (ad 6)) hx hb hts hown hG hw i2 5 (by decide) f_27 rfl dX2_lose_7 ?_
  refine lv_astore_n (lv' := [(3, .ref (ad 6)), (2, .int (0 : Int32)), (0, .ref (ad 0)), (1, .int room)]) hx hb dX2_lose_10 rfl hl (by decide) rfl (fun ls hl => ?_)
  refine lv_aload_n hx hb dX2_lose_11 rfl (lv_at hl 0 rfl) ?_
  refine kx_alen (v := 30) hx hb hG hw kC_6 1 rfl rfl dX2_lose_12 ?_
  refine lv_istore (lv' := [(4, .int (30 : Int32)), (3, .ref (ad 6)), (2, .int (0 : Int32)), (0, .ref (ad 0)), (1, .int room)]) hx hb dX2_lose_13 hl (by decide) rfl (fun ls hl => ?_)
  refine lv_iconst (v := 0) hx hb dX2_lose_15 (by decide) ?_
  refine lv_istore (lv' := [(5, .int (0 : Int32)), (4, .int (30 : Int32)), (3, .ref (ad 6)), (2, .int (0 : Int32)), (0, .ref (ad 0)), (1, .int room)]) hx hb dX2_lose_16 hl (by decide) rfl (fun ls hl => ?_)
  have lp_18 : ∀ (nn k : Nat), k ≤ 30 → 30 < k + nn → ∀ (H : Heap) (locs : List Loc) (ls : Array Slot), kW D cy base ad n nc (lcS g room n k) H → va_S (kA base) s.heap H locs → lv_has ls 7 [(5, .int (nI k)), (4, .int (30 : Int32)), (3, .ref (ad 6)), (2, .int (lcN g room n k)), (0, .ref (ad 0)), (1, .int room)] → W p l e (kR 7 1 6) s m args below meth c H locs 1 6 Q (F0 m 18 ls []) := by
    intro nn
    induction nn with
    | zero => intro k h1 h2; exact absurd h2 (by omega)
    | succ nn ih_18 =>
      intro k hk_k hkn_k H locs ls hw hS hl
      refine lv_iload hx hb dX2_lose_18 (lv_at hl 0 rfl) ?_
      refine lv_iload hx hb dX2_lose_20 (lv_at hl 1 rfl) ?_
      refine lv_icmp_ge (tgt := 69) hx hb dX2_lose_22 (by decide) (fun c_22 => ?_) (fun c_22 => ?_)
      · have e_k : k = 30 := Nat.le_antisymm hk_k (le_nI (a := 30) (b := k) c_22 (by omega) (by omega))
        refine lv_iload_n hx hb dX2_lose_69 rfl (lv_at hl 3 rfl) ?_
        exact kx_retI hQ hx hb hr hlk hw hS (Nat.le_of_ble_eq_true rfl) (Nat.le_of_ble_eq_true rfl) dX2_lose_70 (kd_i (by first | (simp only [kd1, ok_1, decide_eq_true c_22, if_pos c_22, e_k]; done) | (simp only [kd1, ok_1, decide_eq_true c_22, if_pos c_22, e_k]; rfl) | (simp [kd1, ok_1, decide_eq_true c_22, if_pos c_22, e_k]; done)) (by rw [e_k]) (by rw [e_k]))
      · have hlt_k : k < 30 := lt_nI (a := 30) (b := k) c_22 (by omega) (by omega)
        refine lv_aload_n hx hb dX2_lose_25 rfl (lv_at hl 2 rfl) ?_
        refine lv_iload hx hb dX2_lose_26 (lv_at hl 0 rfl) ?_
        have hq2 : k < 30 := by omega
        rcases Nat.lt_or_ge k n with ha1 | ha1
        · refine kx_aaldF (v := .ref (ad (100 + 3 * k))) hx hb hG hw k (nI_clamp (by omega)) (vp_in_nI (by omega) (by decide)) (by rw [show (lcS g room n k) 6 k = g 6 k from (by rw [lcS_row _ _ _ _ (Or.inl (by decide))]), hfr k hq2, if_pos ha1]; rfl) dX2_lose_28 ?_
          refine lv_astore (lv' := [(6, .ref (ad (100 + 3 * k))), (5, .int (nI k)), (4, .int (30 : Int32)), (3, .ref (ad 6)), (2, .int (lcN g room n k)), (0, .ref (ad 0)), (1, .int room)]) hx hb dX2_lose_29 hl (by decide) rfl (fun ls hl => ?_)
          refine lv_aload hx hb dX2_lose_31 (lv_at hl 0 rfl) ?_
          refine lv_ifnull hx hb dX2_lose_33 ?_
          refine lv_aload hx hb dX2_lose_36 (lv_at hl 0 rfl) ?_
          refine kx_getF (v := .int (g (100 + 3 * k) 9)) hx hb hts hown hG hw i1 k (by first | assumption | omega) 9 (by decide) f_142 (congrArg Value.int ((lcS_9 _ _ _ _))) dX2_lose_38 ?_
          refine lv_iconst (v := 1) hx hb dX2_lose_41 (by decide) ?_
          refine lv_icmp_ne (tgt := 63) hx hb dX2_lose_42 (by decide) (fun c_42 => ?_) (fun c_42 => ?_)
          · refine lv_iinc (v := (nI k + (1 : Int32))) (lv' := [(5, .int (nI k + (1 : Int32))), (6, .ref (ad (100 + 3 * k))), (4, .int (30 : Int32)), (3, .ref (ad 6)), (2, .int (lcN g room n k)), (0, .ref (ad 0)), (1, .int room)]) hx hb dX2_lose_63 hl (k := 1) rfl rfl (by decide) rfl (fun ls hl => ?_)
            refine lv_goto (tgt := 18) hx hb dX2_lose_66 (by decide) ?_
            exact ih_18 (k + 1) (by omega) (by omega) _ _ _ (show kW D cy base ad n nc (lcS g room n (k + 1)) H from (show (lcS g room n k) = (lcS g room n (k + 1)) from (by first | exact lcS_n (by assumption) | exact lcS_y (by assumption) hn30 c_42 c_51 | exact lcS_f (by intro q; first | exact c_42 q.1 | exact c_51 q.2))) ▸ hw) hS (kx_lv (l := [(5, .int (nI k + (1 : Int32))), (4, .int (30 : Int32)), (3, .ref (ad 6)), (2, .int (lcN g room n k)), (0, .ref (ad 0)), (1, .int room)]) (l' := [(5, .int (nI (k + 1))), (4, .int (30 : Int32)), (3, .ref (ad 6)), (2, .int (lcN g room n (k + 1))), (0, .ref (ad 0)), (1, .int room)]) (lv_sub hl [0, 2, 3, 4, 5, 6] rfl) (by first | rw [lcN_n (by assumption), nI_1] | rw [lcN_y (by assumption) c_42 c_51, nI_1] | rw [lcN_f (by intro q; first | exact c_42 q.1 | exact c_51 q.2), nI_1])) 
          · refine lv_aload hx hb dX2_lose_45 (lv_at hl 0 rfl) ?_
            refine kx_getF (v := .int (g (100 + 3 * k) 10)) hx hb hts hown hG hw i1 k (by first | assumption | omega) 10 (by decide) f_150 (congrArg Value.int ((lcS_10 _ _ _ _ _))) dX2_lose_47 ?_
            refine lv_iload_n hx hb dX2_lose_50 rfl (lv_at hl 6 rfl) ?_
            refine lv_icmp_ne (tgt := 63) hx hb dX2_lose_51 (by decide) (fun c_51 => ?_) (fun c_51 => ?_)
            · refine lv_iinc (v := (nI k + (1 : Int32))) (lv' := [(5, .int (nI k + (1 : Int32))), (6, .ref (ad (100 + 3 * k))), (4, .int (30 : Int32)), (3, .ref (ad 6)), (2, .int (lcN g room n k)), (0, .ref (ad 0)), (1, .int room)]) hx hb dX2_lose_63 hl (k := 1) rfl rfl (by decide) rfl (fun ls hl => ?_)
              refine lv_goto (tgt := 18) hx hb dX2_lose_66 (by decide) ?_
              exact ih_18 (k + 1) (by omega) (by omega) _ _ _ (show kW D cy base ad n nc (lcS g room n (k + 1)) H from (show (lcS g room n k) = (lcS g room n (k + 1)) from (by first | exact lcS_n (by assumption) | exact lcS_y (by assumption) hn30 c_42 c_51 | exact lcS_f (by intro q; first | exact c_42 q.1 | exact c_51 q.2))) ▸ hw) hS (kx_lv (l := [(5, .int (nI k + (1 : Int32))), (4, .int (30 : Int32)), (3, .ref (ad 6)), (2, .int (lcN g room n k)), (0, .ref (ad 0)), (1, .int room)]) (l' := [(5, .int (nI (k + 1))), (4, .int (30 : Int32)), (3, .ref (ad 6)), (2, .int (lcN g room n (k + 1))), (0, .ref (ad 0)), (1, .int room)]) (lv_sub hl [0, 2, 3, 4, 5, 6] rfl) (by first | rw [lcN_n (by assumption), nI_1] | rw [lcN_y (by assumption) c_42 c_51, nI_1] | rw [lcN_f (by intro q; first | exact c_42 q.1 | exact c_51 q.2), nI_1])) 
            · refine lv_aload hx hb dX2_lose_54 (lv_at hl 0 rfl) ?_
              refine lv_iconst (v := 2) hx hb dX2_lose_56 (by decide) ?_
              refine kx_putF (v := (2 : Int32)) hx hb hts hown hG hw hS i1 k (by first | assumption | omega) 9 (by decide) f_142 (by decide) (by decide) rfl rfl rfl dX2_lose_57 (fun H locs hw hS => ?_)
              refine lv_iinc (v := (lcN g room n k + (1 : Int32))) (lv' := [(2, .int (lcN g room n k + (1 : Int32))), (6, .ref (ad (100 + 3 * k))), (5, .int (nI k)), (4, .int (30 : Int32)), (3, .ref (ad 6)), (0, .ref (ad 0)), (1, .int room)]) hx hb dX2_lose_60 hl (k := 4) rfl rfl (by decide) rfl (fun ls hl => ?_)
              refine lv_iinc (v := (nI k + (1 : Int32))) (lv' := [(5, .int (nI k + (1 : Int32))), (2, .int (lcN g room n k + (1 : Int32))), (6, .ref (ad (100 + 3 * k))), (4, .int (30 : Int32)), (3, .ref (ad 6)), (0, .ref (ad 0)), (1, .int room)]) hx hb dX2_lose_63 hl (k := 2) rfl rfl (by decide) rfl (fun ls hl => ?_)
              refine lv_goto (tgt := 18) hx hb dX2_lose_66 (by decide) ?_
              exact ih_18 (k + 1) (by omega) (by omega) _ _ _ (show kW D cy base ad n nc (lcS g room n (k + 1)) H from (show (sU (lcS g room n k) (100 + 3 * k) 9 (2 : Int32)) = (lcS g room n (k + 1)) from (by first | exact lcS_n (by assumption) | exact lcS_y (by assumption) hn30 c_42 c_51 | exact lcS_f (by intro q; first | exact c_42 q.1 | exact c_51 q.2))) ▸ hw) hS (kx_lv (l := [(5, .int (nI k + (1 : Int32))), (4, .int (30 : Int32)), (3, .ref (ad 6)), (2, .int (lcN g room n k + (1 : Int32))), (0, .ref (ad 0)), (1, .int room)]) (l' := [(5, .int (nI (k + 1))), (4, .int (30 : Int32)), (3, .ref (ad 6)), (2, .int (lcN g room n (k + 1))), (0, .ref (ad 0)), (1, .int room)]) (lv_sub hl [0, 3, 4, 1, 5, 6] rfl) (by first | rw [lcN_n (by assumption), nI_1] | rw [lcN_y (by assumption) c_42 c_51, nI_1] | rw [lcN_f (by intro q; first | exact c_42 q.1 | exact c_51 q.2), nI_1])) 
        · refine kx_aaldF (v := .null) hx hb hG hw k (nI_clamp (by omega)) (vp_in_nI (by omega) (by decide)) (by rw [show (lcS g room n k) 6 k = g 6 k from (by rw [lcS_row _ _ _ _ (Or.inl (by decide))]), hfr k hq2, if_neg (Nat.not_lt.mpr ha1)]; rfl) dX2_lose_28 ?_
          refine lv_astoreN (lv' := [(6, .null), (5, .int (nI k)), (4, .int (30 : Int32)), (3, .ref (ad 6)), (2, .int (lcN g room n k)), (0, .ref (ad 0)), (1, .int room)]) hx hb dX2_lose_29 hl (by decide) rfl (fun ls hl => ?_)
          refine lv_aloadN hx hb dX2_lose_31 (lv_at hl 0 rfl) ?_
          refine lv_ifnullN (tgt := 63) hx hb dX2_lose_33 (by decide) ?_
          refine lv_iinc (v := (nI k + (1 : Int32))) (lv' := [(5, .int (nI k + (1 : Int32))), (6, .null), (4, .int (30 : Int32)), (3, .ref (ad 6)), (2, .int (lcN g room n k)), (0, .ref (ad 0)), (1, .int room)]) hx hb dX2_lose_63 hl (k := 1) rfl rfl (by decide) rfl (fun ls hl => ?_)
          refine lv_goto (tgt := 18) hx hb dX2_lose_66 (by decide) ?_
          exact ih_18 (k + 1) (by omega) (by omega) _ _ _ (show kW D cy base ad n nc (lcS g room n (k + 1)) H from (show (lcS g room n k) = (lcS g room n (k + 1)) from (by first | exact lcS_n (by assumption) | exact lcS_y (by assumption) hn30 c_42 c_51 | exact lcS_f (by intro q; first | exact c_42 q.1 | exact c_51 q.2))) ▸ hw) hS (kx_lv (l := [(5, .int (nI k + (1 : Int32))), (4, .int (30 : Int32)), (3, .ref (ad 6)), (2, .int (lcN g room n k)), (0, .ref (ad 0)), (1, .int room)]) (l' := [(5, .int (nI (k + 1))), (4, .int (30 : Int32)), (3, .ref (ad 6)), (2, .int (lcN g room n (k + 1))), (0, .ref (ad 0)), (1, .int room)]) (lv_sub hl [0, 2, 3, 4, 5, 6] rfl) (by first | rw [lcN_n (by assumption), nI_1] | rw [lcN_y (by assumption) c_42 c_51, nI_1] | rw [lcN_f (by intro q; first | exact c_42 q.1 | exact c_51 q.2), nI_1])) 
  exact lp_18 (30 + 1) 0 (by omega) (by omega) _ _ _ (by rw [lcS_0]; exact hw) hS (kx_lv (l := [(5, .int (0 : Int32)), (4, .int (30 : Int32)), (3, .ref (ad 6)), (2, .int (0 : Int32)), (0, .ref (ad 0)), (1, .int room)]) (l' := [(5, .int (nI 0)), (4, .int (30 : Int32)), (3, .ref (ad 6)), (2, .int (lcN g room n 0)), (0, .ref (ad 0)), (1, .int room)]) (lv_sub hl [0, 1, 2, 3, 4, 5] rfl) (rfl)) 
theorem hd_X2_release : yX2_release.cls = RX2 ∧ yX2_release.cls ≠ "java/lang/invoke/MethodHandle" ∧ yX2_release.cls ≠ "java/lang/invoke/VarHandle" ∧ (parseMethodDescriptor yX2_release.desc).map (fun d => d.parameters.length) = some 2 := by decide +kernel
set_option maxHeartbeats 4000000 in
set_option maxRecDepth 100000 in
theorem c_X2_release (l : Launch) (hfl : l.stackTraces = false) (D : va_G) (cy : Nat → ClassId) (base : Nat → Prop) (ad : Nat → Nat) (n nc : Nat) (g : sg) (x : Int32) (y : Int32) (hfr : ∀ j, j < 30 → g 6 j = if j < n then 1 else 0) (hcr : ∀ j, j < 20 → g 7 j = if j < nc then 1 else 0) (hR : cR n nc g) : kM l yX2_release wsX2_release (kR 7 3 18) D cy base ad n nc g [.ref (ad 0), .int x, .int y] (kD (kd2 (isF n x && isF nc y) (decide (g (100 + 3 * x.toNatClampNeg) 9 = 0) && (decide (g (100 + 3 * x.toNatClampNeg) 12 = 0) && cServe g nc x.toNatClampNeg y.toNatClampNeg)) = 0) (some (.int (5 + ((g (100 + 3 * x.toNatClampNeg) 4 * g 5 (g (100 + 3 * x.toNatClampNeg) 0).toNatClampNeg) / 100)))) ad n nc (sU (sU (sU (sU (sU (sU g (100 + 3 * x.toNatClampNeg) 9 3) (200 + y.toNatClampNeg) 7 1) (200 + y.toNatClampNeg) 9 (g 0 10)) (200 + y.toNatClampNeg) 8 x) 0 12 (g 0 12 + 5)) 0 13 (g 0 13 + ((g (100 + 3 * x.toNatClampNeg) 4 * g 5 (g (100 + 3 * x.toNatClampNeg) 0).toNatClampNeg) / 100)))) (kEx (e13 (kd2 (isF n x && isF nc y) (decide (g (100 + 3 * x.toNatClampNeg) 9 = 0) && (decide (g (100 + 3 * x.toNatClampNeg) 12 = 0) && cServe g nc x.toNatClampNeg y.toNatClampNeg))))) 3 18 := by
  refine kx_meth (cc := cX2_release) (maxL := 6) (ret := (some .int)) (by decide) rfl (Nat.le_of_ble_eq_true rfl) ?_
  intro p e s m args below meth c ls hx hb hr hml hown hts hlk hT hG hw0 hS0 hl Q H locs hQ hw hS hH0 hlocs0
  have hl : lv_has ls 6 [(0, .ref (ad 0)), (1, .int x), (2, .int y)] := hl
  have hown : s.vm.findClass RX2 = some m.cls := hown
  have hF : CallFix p m c cX2_release 6 s args wsX2_release RX2 := ⟨hx, hb, hml, hown, hts⟩
  have hn30 : n ≤ 30 := hw.2.2.1
  have hc20 : nc ≤ 20 := hw.2.2.2
  clear hw0 hS0 hH0 hlocs0
  have i0 : ∀ w ∈ wsX00, w ∈ wsX2_release := by decide +kernel
  have i1 : ∀ w ∈ wsX10, w ∈ wsX2_release := by decide +kernel
  have i2 : ∀ w ∈ wsX20, w ∈ wsX2_release := by decide +kernel
  have f_47 := hts (.fieldLink RX2 47 "Lostroom" "day" "I") (by decide +kernel)
  have f_53 := hts (.fieldLink RX2 53 "Lostroom" "fees" "I") (by decide +kernel)
  have f_56 := hts (.fieldLink RX2 56 "Lostroom" "rewards" "I") (by decide +kernel)
  have f_142 := hts (.fieldLink RX2 142 "Lostroom$Found" "state" "I") (by decide +kernel)
  have f_166 := hts (.fieldLink RX2 166 "Lostroom$Found" "isHeld" "Z") (by decide +kernel)
  have f_198 := hts (.fieldLink RX2 198 "Lostroom$Found" "value" "I") (by decide +kernel)
  have f_201 := hts (.fieldLink RX2 201 "Lostroom$Found" "kind" "I") (by decide +kernel)
  have f_207 := hts (.fieldLink RX2 207 "Lostroom$Claim" "servedBy" "I") (by decide +kernel)
  have xk_IS := hts (.classLink RX2 90 "java/lang/IllegalStateException") (by decide +kernel)
  have xi_IS := hts (.initialized "java/lang/IllegalStateException") (by decide +kernel)
  have xa_IS : ∀ w ∈ (vx_atS RX2 94 "java/lang/IllegalStateException" kNm).filter goodWord, w.before args s = true := fun w h => hts w ((by decide +kernel : ∀ w ∈ (vx_atS RX2 94 "java/lang/IllegalStateException" kNm).filter goodWord, w ∈ wsX2_release) w h)
  refine lv_aload_n hx hb dX2_release_0 rfl (lv_at hl 0 rfl) ?_
  refine lv_iload_n hx hb dX2_release_1 rfl (lv_at hl 1 rfl) ?_
  refine kx_do (st1 := [.ref (ad (100 + 3 * x.toNatClampNeg))]) (kx_cv (As := [.int x]) (rest := []) hF hG hw hS hl.1 kC_0 rfl (c_X2_foundAt l hfl D cy base ad n nc g x (by first | assumption | omega | exact mR_9 (by assumption) _ _ | simp [sU, hfr, hcr, hR])) gX2_release_X2_foundAt rfl rfl rfl hd_X2_foundAt ⟨Nat.le_of_ble_eq_true rfl, Nat.le_of_ble_eq_true rfl⟩ rfl rfl (Nat.le_of_ble_eq_true rfl) dX2_release_2 ⟨Nat.le_of_ble_eq_true rfl, Nat.le_of_ble_eq_true rfl⟩) hS rfl (fun E9 ce9 q9 H locs hX9 hw hS hc9 hv9 hcl9 => kx_out hQ hT hlk hw hS (kEx_to hX9 (by cases h9 : isF n x <;> simp [rq, kd2, e13, h9])) hc9 hv9 hcl9 (Nat.le_of_ble_eq_true rfl) (Nat.le_of_ble_eq_true rfl)) (fun ok_2 H locs hw hS => ?_)
  obtain ⟨i_x, hi_x, rfl⟩ := isF_ex ok_2 hn30
  have hcl_x : (nI i_x).toNatClampNeg = i_x := cl_nI (by omega)
  rw [hcl_x]
  have hr1 := hR.1 i_x hi_x
  refine lv_astore_n (lv' := [(3, .ref (ad (100 + 3 * i_x))), (0, .ref (ad 0)), (1, .int (nI i_x)), (2, .int y)]) hx hb dX2_release_5 rfl hl (by decide) rfl (fun ls hl => ?_)
  refine lv_aload_n hx hb dX2_release_6 rfl (lv_at hl 1 rfl) ?_
  refine lv_iload_n hx hb dX2_release_7 rfl (lv_at hl 3 rfl) ?_
  refine kx_do (st1 := [.ref (ad (200 + y.toNatClampNeg))]) (kx_cv (As := [.int y]) (rest := []) hF hG hw hS hl.1 kC_0 rfl (c_X2_claimAt l hfl D cy base ad n nc g y (by first | assumption | omega | exact mR_9 (by assumption) _ _ | simp [sU, hfr, hcr, hR])) gX2_release_X2_claimAt rfl rfl rfl hd_X2_claimAt ⟨Nat.le_of_ble_eq_true rfl, Nat.le_of_ble_eq_true rfl⟩ rfl rfl (Nat.le_of_ble_eq_true rfl) dX2_release_8 ⟨Nat.le_of_ble_eq_true rfl, Nat.le_of_ble_eq_true rfl⟩) hS rfl (fun E9 ce9 q9 H locs hX9 hw hS hc9 hv9 hcl9 => kx_out hQ hT hlk hw hS (kEx_to hX9 (by cases h9 : isF nc y <;> simp [rq, kd2, e13, h9, ok_2, hcl_x])) hc9 hv9 hcl9 (Nat.le_of_ble_eq_true rfl) (Nat.le_of_ble_eq_true rfl)) (fun ok_8 H locs hw hS => ?_)
  obtain ⟨i_y, hi_y, rfl⟩ := isF_ex ok_8 (Nat.le_trans hc20 (by decide))
  have hcl_y : (nI i_y).toNatClampNeg = i_y := cl_nI (by omega)
  rw [hcl_y]
  refine lv_astore (lv' := [(4, .ref (ad (200 + i_y))), (3, .ref (ad (100 + 3 * i_x))), (0, .ref (ad 0)), (1, .int (nI i_x)), (2, .int (nI i_y))]) hx hb dX2_release_11 hl (by decide) rfl (fun ls hl => ?_)
  refine lv_aload_n hx hb dX2_release_13 rfl (lv_at hl 1 rfl) ?_
  refine kx_getF (v := .int (g (100 + 3 * i_x) 9)) hx hb hts hown hG hw i1 i_x (by first | assumption | omega) 9 (by decide) f_142 rfl dX2_release_14 ?_
  refine lv_if_ne (tgt := 27) hx hb dX2_release_17 (by decide) (fun c_17 => ?_) (fun c_17 => ?_)
  · exact kx_throwIS (text := "not to be given away") (is := 192) hQ hx hb hfl hown hG hw hS false (by decide +kernel) xk_IS xi_IS xa_IS (kEx_3 (by first | (simp only [kd2, e13, ok_2, hcl_x, ok_8, hcl_y, decide_eq_false c_17, if_neg c_17]; done) | (simp only [kd2, e13, ok_2, hcl_x, ok_8, hcl_y, decide_eq_false c_17, if_neg c_17]; rfl) | (simp [kd2, e13, ok_2, hcl_x, ok_8, hcl_y, decide_eq_false c_17, if_neg c_17]; done))) (hl.1.trans hml.symm) hT rfl dX2_release_27 dX2_release_30 dX2_release_31 dX2_release_33 dX2_release_36 ⟨by decide, Nat.le_of_ble_eq_true rfl, Nat.le_of_ble_eq_true rfl, Nat.le_of_ble_eq_true rfl⟩ hlk (Nat.le_of_ble_eq_true rfl) (Nat.le_of_ble_eq_true rfl)
  · refine lv_aload_n hx hb dX2_release_20 rfl (lv_at hl 1 rfl) ?_
    refine kx_getF (v := .int (g (100 + 3 * i_x) 12)) hx hb hts hown hG hw i1 i_x (by first | assumption | omega) 12 (by decide) f_166 rfl dX2_release_21 ?_
    refine lv_if_eq (tgt := 37) hx hb dX2_release_24 (by decide) (fun c_24 => ?_) (fun c_24 => ?_)
    · refine lv_aload_n hx hb dX2_release_37 rfl (lv_at hl 2 rfl) ?_
      refine lv_aload_n hx hb dX2_release_38 rfl (lv_at hl 1 rfl) ?_
      refine lv_aload hx hb dX2_release_39 (lv_at hl 0 rfl) ?_
      refine kx_do (st1 := []) (kx_cv (As := [.ref (ad (100 + 3 * i_x)), .ref (ad (200 + i_y))]) (rest := []) hF hG hw hS hl.1 kC_0 rfl (c_X2_requireEntitled l hfl D cy base ad n nc g i_x i_y hcr hi_x hi_y hR) gX2_release_X2_requireEntitled rfl rfl rfl hd_X2_requireEntitled ⟨Nat.le_of_ble_eq_true rfl, Nat.le_of_ble_eq_true rfl⟩ rfl rfl (Nat.le_of_ble_eq_true rfl) dX2_release_41 ⟨Nat.le_of_ble_eq_true rfl, Nat.le_of_ble_eq_true rfl⟩) hS rfl (fun E9 ce9 q9 H locs hX9 hw hS hc9 hv9 hcl9 => kx_out hQ hT hlk hw hS (kEx_to hX9 (by cases h9 : cServe g nc i_x i_y <;> simp [rq, kd2, e13, h9, ok_2, hcl_x, ok_8, hcl_y, decide_eq_true c_17, if_pos c_17, decide_eq_true c_24, if_pos c_24])) hc9 hv9 hcl9 (Nat.le_of_ble_eq_true rfl) (Nat.le_of_ble_eq_true rfl)) (fun ok_41 H locs hw hS => ?_)
      refine lv_aload_n hx hb dX2_release_44 rfl (lv_at hl 1 rfl) ?_
      refine kx_getF (v := .int (g (100 + 3 * i_x) 4)) hx hb hts hown hG hw i1 i_x (by first | assumption | omega) 4 (by decide) f_198 rfl dX2_release_45 ?_
      refine lv_aload_n hx hb dX2_release_48 rfl (lv_at hl 2 rfl) ?_
      refine lv_aload_n hx hb dX2_release_49 rfl (lv_at hl 1 rfl) ?_
      refine kx_getF (v := .int (g (100 + 3 * i_x) 0)) hx hb hts hown hG hw i1 i_x (by first | assumption | omega) 0 (by decide) f_201 rfl dX2_release_50 ?_
      refine kx_do0 (st1 := [.int (g 5 (g (100 + 3 * i_x) 0).toNatClampNeg), .int (g (100 + 3 * i_x) 4)]) (kx_cv (As := [.int (g (100 + 3 * i_x) 0)]) (rest := [.int (g (100 + 3 * i_x) 4)]) hF hG hw hS hl.1 kC_0 rfl (c_X2_rateOf l hfl D cy base ad n nc g (g (100 + 3 * i_x) 0) hr1.1) gX2_release_X2_rateOf rfl rfl rfl hd_X2_rateOf ⟨Nat.le_of_ble_eq_true rfl, Nat.le_of_ble_eq_true rfl⟩ rfl rfl (Nat.le_of_ble_eq_true rfl) dX2_release_53 ⟨Nat.le_of_ble_eq_true rfl, Nat.le_of_ble_eq_true rfl⟩) hS rfl (fun H locs hw hS => ?_)
      refine lv_imul hx hb dX2_release_56 ?_
      refine lv_bipush (v := 100) hx hb dX2_release_57 (by decide) ?_
      refine lv_idiv hx hb dX2_release_59 (by decide +kernel) ?_
      refine lv_istore (lv' := [(5, .int (((g (100 + 3 * i_x) 4) * (g 5 (g (100 + 3 * i_x) 0).toNatClampNeg)) / (100 : Int32))), (4, .ref (ad (200 + i_y))), (3, .ref (ad (100 + 3 * i_x))), (0, .ref (ad 0)), (1, .int (nI i_x)), (2, .int (nI i_y))]) hx hb dX2_release_60 hl (by decide) rfl (fun ls hl => ?_)
      refine lv_aload_n hx hb dX2_release_62 rfl (lv_at hl 2 rfl) ?_
      refine lv_iconst (v := 3) hx hb dX2_release_63 (by decide) ?_
      refine kx_putF (v := (3 : Int32)) hx hb hts hown hG hw hS i1 i_x (by first | assumption | omega) 9 (by decide) f_142 (by decide) (by decide) rfl rfl rfl dX2_release_64 (fun H locs hw hS => ?_)
      refine lv_aload hx hb dX2_release_67 (lv_at hl 1 rfl) ?_
      refine lv_iconst (v := 1) hx hb dX2_release_69 (by decide) ?_
      refine lv_aload_n hx hb dX2_release_70 rfl (lv_at hl 3 rfl) ?_
      refine kx_getL (v := .int (g 0 10)) hx hb hts hown hG hw i2 10 (by decide) f_47 (congrArg Value.int (sU_k _ _ _ _ (by omega))) dX2_release_71 ?_
      refine kx_do0 (st1 := []) (kx_cv (As := [.int (1 : Int32), .int (g 0 10)]) (rest := []) hF hG hw hS hl.1 (kC_C (by first | assumption | omega)) rfl (c_X0_end l hfl D cy base ad n nc (sU g (100 + 3 * i_x) 9 (3 : Int32)) i_y (1 : Int32) (g 0 10) hi_y) gX2_release_X0_end rfl rfl rfl hd_X0_end ⟨Nat.le_of_ble_eq_true rfl, Nat.le_of_ble_eq_true rfl⟩ rfl rfl (Nat.le_of_ble_eq_true rfl) dX2_release_74 ⟨Nat.le_of_ble_eq_true rfl, Nat.le_of_ble_eq_true rfl⟩) hS rfl (fun H locs hw hS => ?_)
      refine lv_aload hx hb dX2_release_77 (lv_at hl 1 rfl) ?_
      refine lv_iload_n hx hb dX2_release_79 rfl (lv_at hl 4 rfl) ?_
      refine kx_putC (v := (nI i_x)) hx hb hts hown hG hw hS i0 i_y (by first | assumption | omega) 8 (by decide) f_207 rfl rfl rfl dX2_release_80 (fun H locs hw hS => ?_)
      refine lv_aload_n hx hb dX2_release_83 rfl (lv_at hl 3 rfl) ?_
      refine lv_dup hx hb dX2_release_84 rfl ?_
      refine kx_getL (v := .int (g 0 12)) hx hb hts hown hG hw i2 12 (by decide) f_53 (congrArg Value.int ((sU_k _ _ _ _ (by omega)).trans ((sU_k _ _ _ _ (by omega)).trans ((sU_k _ _ _ _ (by omega)).trans (sU_k _ _ _ _ (by omega)))))) dX2_release_85 ?_
      refine lv_iconst (v := 5) hx hb dX2_release_88 (by decide) ?_
      refine lv_iadd hx hb dX2_release_89 ?_
      refine kx_putL (v := ((g 0 12) + (5 : Int32))) hx hb hts hown hG hw hS i2 12 (by decide) f_53 (by decide) rfl rfl rfl dX2_release_90 (fun H locs hw hS => ?_)
      refine lv_aload_n hx hb dX2_release_93 rfl (lv_at hl 3 rfl) ?_
      refine lv_dup hx hb dX2_release_94 rfl ?_
      refine kx_getL (v := .int (g 0 13)) hx hb hts hown hG hw i2 13 (by decide) f_56 (congrArg Value.int ((sU_j _ _ _ _ (by decide)).trans ((sU_k _ _ _ _ (by omega)).trans ((sU_k _ _ _ _ (by omega)).trans ((sU_k _ _ _ _ (by omega)).trans (sU_k _ _ _ _ (by omega))))))) dX2_release_95 ?_
      refine lv_iload hx hb dX2_release_98 (lv_at hl 0 rfl) ?_
      refine lv_iadd hx hb dX2_release_100 ?_
      refine kx_putL (v := ((g 0 13) + (((g (100 + 3 * i_x) 4) * (g 5 (g (100 + 3 * i_x) 0).toNatClampNeg)) / (100 : Int32)))) hx hb hts hown hG hw hS i2 13 (by decide) f_56 (by decide) rfl rfl rfl dX2_release_101 (fun H locs hw hS => ?_)
      refine lv_iconst (v := 5) hx hb dX2_release_104 (by decide) ?_
      refine lv_iload hx hb dX2_release_105 (lv_at hl 0 rfl) ?_
      refine lv_iadd hx hb dX2_release_107 ?_
      exact kx_retI hQ hx hb hr hlk hw hS (Nat.le_of_ble_eq_true rfl) (Nat.le_of_ble_eq_true rfl) dX2_release_108 (kd_i (by first | (simp only [kd2, e13, ok_2, hcl_x, ok_8, hcl_y, decide_eq_true c_17, if_pos c_17, decide_eq_true c_24, if_pos c_24, ok_41]; done) | (simp only [kd2, e13, ok_2, hcl_x, ok_8, hcl_y, decide_eq_true c_17, if_pos c_17, decide_eq_true c_24, if_pos c_24, ok_41]; rfl) | (simp [kd2, e13, ok_2, hcl_x, ok_8, hcl_y, decide_eq_true c_17, if_pos c_17, decide_eq_true c_24, if_pos c_24, ok_41]; done)) (by first | (simp only [hcl_x, hcl_y]; done) | (simp only [hcl_x, hcl_y]; rfl) | rfl) (by first | (simp only [hcl_x, hcl_y]; done) | (simp only [hcl_x, hcl_y]; rfl) | rfl))
    · exact kx_throwIS (text := "not to be given away") (is := 192) hQ hx hb hfl hown hG hw hS false (by decide +kernel) xk_IS xi_IS xa_IS (kEx_3 (by first | (simp only [kd2, e13, ok_2, hcl_x, ok_8, hcl_y, decide_eq_true c_17, if_pos c_17, decide_eq_false c_24, if_neg c_24]; done) | (simp only [kd2, e13, ok_2, hcl_x, ok_8, hcl_y, decide_eq_true c_17, if_pos c_17, decide_eq_false c_24, if_neg c_24]; rfl) | (simp [kd2, e13, ok_2, hcl_x, ok_8, hcl_y, decide_eq_true c_17, if_pos c_17, decide_eq_false c_24, if_neg c_24]; done))) (hl.1.trans hml.symm) hT rfl dX2_release_27 dX2_release_30 dX2_release_31 dX2_release_33 dX2_release_36 ⟨by decide, Nat.le_of_ble_eq_true rfl, Nat.le_of_ble_eq_true rfl, Nat.le_of_ble_eq_true rfl⟩ hlk (Nat.le_of_ble_eq_true rfl) (Nat.le_of_ble_eq_true rfl)
theorem hd_X2_extend : yX2_extend.cls = RX2 ∧ yX2_extend.cls ≠ "java/lang/invoke/MethodHandle" ∧ yX2_extend.cls ≠ "java/lang/invoke/VarHandle" ∧ (parseMethodDescriptor yX2_extend.desc).map (fun d => d.parameters.length) = some 2 := by decide +kernel
set_option maxHeartbeats 4000000 in
set_option maxRecDepth 100000 in
theorem c_X2_extend (l : Launch) (hfl : l.stackTraces = false) (D : va_G) (cy : Nat → ClassId) (base : Nat → Prop) (ad : Nat → Nat) (n nc : Nat) (g : sg) (x : Int32) (many : Int32) (hfr : ∀ j, j < 30 → g 6 j = if j < n then 1 else 0) : kM l yX2_extend wsX2_extend (kR 7 2 12) D cy base ad n nc g [.ref (ad 0), .int x, .int many] (kD (kd3 (isF n x) (inn many 1 365) (cHere g x.toNatClampNeg && !decide (g (100 + 3 * x.toNatClampNeg) 0 = 7)) = 0) (some (.int ((if g (100 + 3 * x.toNatClampNeg) 11 < g 0 10 + many then g 0 10 + many else g (100 + 3 * x.toNatClampNeg) 11)))) ad n nc (sU g (100 + 3 * x.toNatClampNeg) 11 (if g (100 + 3 * x.toNatClampNeg) 11 < g 0 10 + many then g 0 10 + many else g (100 + 3 * x.toNatClampNeg) 11))) (kEx (kd3 (isF n x) (inn many 1 365) (cHere g x.toNatClampNeg && !decide (g (100 + 3 * x.toNatClampNeg) 0 = 7)))) 2 12 := by
  refine kx_meth (cc := cX2_extend) (maxL := 4) (ret := (some .int)) (by decide) rfl (Nat.le_of_ble_eq_true rfl) ?_
  intro p e s m args below meth c ls hx hb hr hml hown hts hlk hT hG hw0 hS0 hl Q H locs hQ hw hS hH0 hlocs0
  have hl : lv_has ls 4 [(0, .ref (ad 0)), (1, .int x), (2, .int many)] := hl
  have hown : s.vm.findClass RX2 = some m.cls := hown
  have hF : CallFix p m c cX2_extend 4 s args wsX2_extend RX2 := ⟨hx, hb, hml, hown, hts⟩
  have hn30 : n ≤ 30 := hw.2.2.1
  have hc20 : nc ≤ 20 := hw.2.2.2
  clear hw0 hS0 hH0 hlocs0
  have i1 : ∀ w ∈ wsX10, w ∈ wsX2_extend := by decide +kernel
  have i2 : ∀ w ∈ wsX20, w ∈ wsX2_extend := by decide +kernel
  have f_47 := hts (.fieldLink RX2 47 "Lostroom" "day" "I") (by decide +kernel)
  have f_126 := hts (.fieldLink RX2 126 "Lostroom$Found" "lastDay" "I") (by decide +kernel)
  have f_201 := hts (.fieldLink RX2 201 "Lostroom$Found" "kind" "I") (by decide +kernel)
  have hmi := hts (.initialized "java/lang/Math") (by decide +kernel)
  have ms_max := hts (.static Lib.Math.max.name) (by decide +kernel)
  have mc_max := hts (.code Lib.Math.max.name Lib.Math.max.code 2 (some .int)) (by decide +kernel)
  have m_214 := hts (.methodLink RX2 214 Lib.Math.max.name) (by decide +kernel)
  have xk_IA := hts (.classLink RX2 77 "java/lang/IllegalArgumentException") (by decide +kernel)
  have xi_IA := hts (.initialized "java/lang/IllegalArgumentException") (by decide +kernel)
  have xa_IA : ∀ w ∈ (vx_atS RX2 81 "java/lang/IllegalArgumentException" kNm).filter goodWord, w.before args s = true := fun w h => hts w ((by decide +kernel : ∀ w ∈ (vx_atS RX2 81 "java/lang/IllegalArgumentException" kNm).filter goodWord, w ∈ wsX2_extend) w h)
  have xk_IS := hts (.classLink RX2 90 "java/lang/IllegalStateException") (by decide +kernel)
  have xi_IS := hts (.initialized "java/lang/IllegalStateException") (by decide +kernel)
  have xa_IS : ∀ w ∈ (vx_atS RX2 94 "java/lang/IllegalStateException" kNm).filter goodWord, w.before args s = true := fun w h => hts w ((by decide +kernel : ∀ w ∈ (vx_atS RX2 94 "java/lang/IllegalStateException" kNm).filter goodWord, w ∈ wsX2_extend) w h)
  refine lv_aload_n hx hb dX2_extend_0 rfl (lv_at hl 0 rfl) ?_
  refine lv_iload_n hx hb dX2_extend_1 rfl (lv_at hl 1 rfl) ?_
  refine kx_do (st1 := [.ref (ad (100 + 3 * x.toNatClampNeg))]) (kx_cv (As := [.int x]) (rest := []) hF hG hw hS hl.1 kC_0 rfl (c_X2_foundAt l hfl D cy base ad n nc g x (by first | assumption | omega | exact mR_9 (by assumption) _ _ | simp [sU, hfr])) gX2_extend_X2_foundAt rfl rfl rfl hd_X2_foundAt ⟨Nat.le_of_ble_eq_true rfl, Nat.le_of_ble_eq_true rfl⟩ rfl rfl (Nat.le_of_ble_eq_true rfl) dX2_extend_2 ⟨Nat.le_of_ble_eq_true rfl, Nat.le_of_ble_eq_true rfl⟩) hS rfl (fun E9 ce9 q9 H locs hX9 hw hS hc9 hv9 hcl9 => kx_out hQ hT hlk hw hS (kEx_to hX9 (by cases h9 : isF n x <;> simp [rq, kd3, h9])) hc9 hv9 hcl9 (Nat.le_of_ble_eq_true rfl) (Nat.le_of_ble_eq_true rfl)) (fun ok_2 H locs hw hS => ?_)
  obtain ⟨i_x, hi_x, rfl⟩ := isF_ex ok_2 hn30
  have hcl_x : (nI i_x).toNatClampNeg = i_x := cl_nI (by omega)
  rw [hcl_x]
  refine lv_astore_n (lv' := [(3, .ref (ad (100 + 3 * i_x))), (0, .ref (ad 0)), (1, .int (nI i_x)), (2, .int many)]) hx hb dX2_extend_5 rfl hl (by decide) rfl (fun ls hl => ?_)
  refine lv_iload_n hx hb dX2_extend_6 rfl (lv_at hl 3 rfl) ?_
  refine lv_iconst (v := 1) hx hb dX2_extend_7 (by decide) ?_
  refine lv_sipush (v := 365) hx hb dX2_extend_8 (by decide) ?_
  refine kx_do0 (st1 := [.int (b2 (inn many (1 : Int32) (365 : Int32)))]) (kx_cs (As := [.int many, .int (1 : Int32), .int (365 : Int32)]) (rest := []) hF hG hw hS hl.1 (c_X2_isWithin l hfl D cy base ad n nc g many (1 : Int32) (365 : Int32) ) gX2_extend_X2_isWithin rfl rfl rfl hd_X2_isWithin ⟨Nat.le_of_ble_eq_true rfl, Nat.le_of_ble_eq_true rfl⟩ rfl rfl (Nat.le_of_ble_eq_true rfl) dX2_extend_11 ⟨Nat.le_of_ble_eq_true rfl, Nat.le_of_ble_eq_true rfl⟩) hS rfl (fun H locs hw hS => ?_)
  refine kb_ne (tgt := 27) hx hb dX2_extend_14 (by decide) (fun c_14 => ?_) (fun c_14 => ?_)
  · refine lv_aload_n hx hb dX2_extend_27 rfl (lv_at hl 0 rfl) ?_
    refine kx_do0 (st1 := [.int (b2 (cHere g i_x))]) (kx_cv (As := []) (rest := []) hF hG hw hS hl.1 (kC_F (by first | assumption | omega) hw.2.2.1) rfl (c_X1_isHere l hfl D cy base ad n nc g i_x hi_x) gX2_extend_X1_isHere rfl rfl rfl hd_X1_isHere ⟨Nat.le_of_ble_eq_true rfl, Nat.le_of_ble_eq_true rfl⟩ rfl rfl (Nat.le_of_ble_eq_true rfl) dX2_extend_28 ⟨Nat.le_of_ble_eq_true rfl, Nat.le_of_ble_eq_true rfl⟩) hS rfl (fun H locs hw hS => ?_)
    refine kb_eq (tgt := 43) hx hb dX2_extend_31 (by decide) (fun c_31 => ?_) (fun c_31 => ?_)
    · exact kx_throwIS (text := "no term to extend") (is := 212) hQ hx hb hfl hown hG hw hS false (by decide +kernel) xk_IS xi_IS xa_IS (kEx_3 (by first | (simp only [kd3, ok_2, hcl_x, c_14, c_31]; done) | (simp only [kd3, ok_2, hcl_x, c_14, c_31]; rfl) | (simp [kd3, ok_2, hcl_x, c_14, c_31]; done))) (hl.1.trans hml.symm) hT rfl dX2_extend_43 dX2_extend_46 dX2_extend_47 dX2_extend_49 dX2_extend_52 ⟨by decide, Nat.le_of_ble_eq_true rfl, Nat.le_of_ble_eq_true rfl, Nat.le_of_ble_eq_true rfl⟩ hlk (Nat.le_of_ble_eq_true rfl) (Nat.le_of_ble_eq_true rfl)
    · refine lv_aload_n hx hb dX2_extend_34 rfl (lv_at hl 0 rfl) ?_
      refine kx_getF (v := .int (g (100 + 3 * i_x) 0)) hx hb hts hown hG hw i1 i_x (by first | assumption | omega) 0 (by decide) f_201 rfl dX2_extend_35 ?_
      refine lv_bipush (v := 7) hx hb dX2_extend_38 (by decide) ?_
      refine lv_icmp_ne (tgt := 53) hx hb dX2_extend_40 (by decide) (fun c_40 => ?_) (fun c_40 => ?_)
      · refine lv_aload_n hx hb dX2_extend_53 rfl (lv_at hl 0 rfl) ?_
        refine lv_aload_n hx hb dX2_extend_54 rfl (lv_at hl 0 rfl) ?_
        refine kx_getF (v := .int (g (100 + 3 * i_x) 11)) hx hb hts hown hG hw i1 i_x (by first | assumption | omega) 11 (by decide) f_126 rfl dX2_extend_55 ?_
        refine lv_aload_n hx hb dX2_extend_58 rfl (lv_at hl 1 rfl) ?_
        refine kx_getL (v := .int (g 0 10)) hx hb hts hown hG hw i2 10 (by decide) f_47 rfl dX2_extend_59 ?_
        refine lv_iload_n hx hb dX2_extend_62 rfl (lv_at hl 3 rfl) ?_
        refine lv_iadd hx hb dX2_extend_63 ?_
        refine va_mmax hx hb (hml.trans hl.1.symm) hown m_214 ms_max hmi mc_max (by decide) (Nat.le_of_ble_eq_true rfl) (Nat.le_of_ble_eq_true rfl) (Nat.le_of_ble_eq_true rfl) dX2_extend_64 ?_
        refine kx_putF (v := (if (g (100 + 3 * i_x) 11) < ((g 0 10) + many) then ((g 0 10) + many) else (g (100 + 3 * i_x) 11))) hx hb hts hown hG hw hS i1 i_x (by first | assumption | omega) 11 (by decide) f_126 (by decide) (by decide) rfl rfl rfl dX2_extend_67 (fun H locs hw hS => ?_)
        refine lv_aload_n hx hb dX2_extend_70 rfl (lv_at hl 0 rfl) ?_
        refine kx_getF (v := .int (if (g (100 + 3 * i_x) 11) < ((g 0 10) + many) then ((g 0 10) + many) else (g (100 + 3 * i_x) 11))) hx hb hts hown hG hw i1 i_x (by first | assumption | omega) 11 (by decide) f_126 (congrArg Value.int (sU_s _ _ _ _)) dX2_extend_71 ?_
        exact kx_retI hQ hx hb hr hlk hw hS (Nat.le_of_ble_eq_true rfl) (Nat.le_of_ble_eq_true rfl) dX2_extend_74 (kd_i (by first | (simp only [kd3, ok_2, hcl_x, c_14, c_31, decide_eq_false c_40, if_neg c_40]; done) | (simp only [kd3, ok_2, hcl_x, c_14, c_31, decide_eq_false c_40, if_neg c_40]; rfl) | (simp [kd3, ok_2, hcl_x, c_14, c_31, decide_eq_false c_40, if_neg c_40]; done)) (by first | (simp only [hcl_x]; done) | (simp only [hcl_x]; rfl) | rfl) (by first | (simp only [hcl_x]; done) | (simp only [hcl_x]; rfl) | rfl))
      · exact kx_throwIS (text := "no term to extend") (is := 212) hQ hx hb hfl hown hG hw hS false (by decide +kernel) xk_IS xi_IS xa_IS (kEx_3 (by first | (simp only [kd3, ok_2, hcl_x, c_14, c_31, decide_eq_true c_40, if_pos c_40]; done) | (simp only [kd3, ok_2, hcl_x, c_14, c_31, decide_eq_true c_40, if_pos c_40]; rfl) | (simp [kd3, ok_2, hcl_x, c_14, c_31, decide_eq_true c_40, if_pos c_40]; done))) (hl.1.trans hml.symm) hT rfl dX2_extend_43 dX2_extend_46 dX2_extend_47 dX2_extend_49 dX2_extend_52 ⟨by decide, Nat.le_of_ble_eq_true rfl, Nat.le_of_ble_eq_true rfl, Nat.le_of_ble_eq_true rfl⟩ hlk (Nat.le_of_ble_eq_true rfl) (Nat.le_of_ble_eq_true rfl)
  · exact kx_throwIA (text := "days out of range") (is := 210) hQ hx hb hfl hown hG hw hS false (by decide +kernel) xk_IA xi_IA xa_IA (kEx_2 (by first | (simp only [kd3, ok_2, hcl_x, c_14]; done) | (simp only [kd3, ok_2, hcl_x, c_14]; rfl) | (simp [kd3, ok_2, hcl_x, c_14]; done))) (hl.1.trans hml.symm) hT rfl dX2_extend_17 dX2_extend_20 dX2_extend_21 dX2_extend_23 dX2_extend_26 ⟨by decide, Nat.le_of_ble_eq_true rfl, Nat.le_of_ble_eq_true rfl, Nat.le_of_ble_eq_true rfl⟩ hlk (Nat.le_of_ble_eq_true rfl) (Nat.le_of_ble_eq_true rfl)
theorem hd_X2_sell : yX2_sell.cls = RX2 ∧ yX2_sell.cls ≠ "java/lang/invoke/MethodHandle" ∧ yX2_sell.cls ≠ "java/lang/invoke/VarHandle" ∧ (parseMethodDescriptor yX2_sell.desc).map (fun d => d.parameters.length) = some 2 := by decide +kernel
set_option maxHeartbeats 4000000 in
set_option maxRecDepth 100000 in
theorem c_X2_sell (l : Launch) (hfl : l.stackTraces = false) (D : va_G) (cy : Nat → ClassId) (base : Nat → Prop) (ad : Nat → Nat) (n nc : Nat) (g : sg) (x : Int32) (price : Int32) (hfr : ∀ j, j < 30 → g 6 j = if j < n then 1 else 0) (hcr : ∀ j, j < 20 → g 7 j = if j < nc then 1 else 0) (hR : cR n nc g) : kM l yX2_sell wsX2_sell (kR 7 2 12) D cy base ad n nc g [.ref (ad 0), .int x, .int price] (kD (kd3 (isF n x) (inn price 1 9999) (cOver g nc x.toNatClampNeg && !decide (g (100 + 3 * x.toNatClampNeg) 0 = 7)) = 0) (some (.int (g 0 14 + price))) ad n nc (sU (sU (sU (sU g (100 + 3 * x.toNatClampNeg) 9 4) (100 + 3 * x.toNatClampNeg) 13 price) (100 + 3 * x.toNatClampNeg) 14 (g 0 10)) 0 14 (g 0 14 + price))) (kEx (kd3 (isF n x) (inn price 1 9999) (cOver g nc x.toNatClampNeg && !decide (g (100 + 3 * x.toNatClampNeg) 0 = 7)))) 2 12 := by
  refine kx_meth (cc := cX2_sell) (maxL := 4) (ret := (some .int)) (by decide) rfl (Nat.le_of_ble_eq_true rfl) ?_
  intro p e s m args below meth c ls hx hb hr hml hown hts hlk hT hG hw0 hS0 hl Q H locs hQ hw hS hH0 hlocs0
  have hl : lv_has ls 4 [(0, .ref (ad 0)), (1, .int x), (2, .int price)] := hl
  have hown : s.vm.findClass RX2 = some m.cls := hown
  have hF : CallFix p m c cX2_sell 4 s args wsX2_sell RX2 := ⟨hx, hb, hml, hown, hts⟩
  have hn30 : n ≤ 30 := hw.2.2.1
  have hc20 : nc ≤ 20 := hw.2.2.2
  clear hw0 hS0 hH0 hlocs0
  have i1 : ∀ w ∈ wsX10, w ∈ wsX2_sell := by decide +kernel
  have i2 : ∀ w ∈ wsX20, w ∈ wsX2_sell := by decide +kernel
  have f_47 := hts (.fieldLink RX2 47 "Lostroom" "day" "I") (by decide +kernel)
  have f_59 := hts (.fieldLink RX2 59 "Lostroom" "proceeds" "I") (by decide +kernel)
  have f_142 := hts (.fieldLink RX2 142 "Lostroom$Found" "state" "I") (by decide +kernel)
  have f_201 := hts (.fieldLink RX2 201 "Lostroom$Found" "kind" "I") (by decide +kernel)
  have f_228 := hts (.fieldLink RX2 228 "Lostroom$Found" "price" "I") (by decide +kernel)
  have f_231 := hts (.fieldLink RX2 231 "Lostroom$Found" "soldOn" "I") (by decide +kernel)
  have xk_IA := hts (.classLink RX2 77 "java/lang/IllegalArgumentException") (by decide +kernel)
  have xi_IA := hts (.initialized "java/lang/IllegalArgumentException") (by decide +kernel)
  have xa_IA : ∀ w ∈ (vx_atS RX2 81 "java/lang/IllegalArgumentException" kNm).filter goodWord, w.before args s = true := fun w h => hts w ((by decide +kernel : ∀ w ∈ (vx_atS RX2 81 "java/lang/IllegalArgumentException" kNm).filter goodWord, w ∈ wsX2_sell) w h)
  have xk_IS := hts (.classLink RX2 90 "java/lang/IllegalStateException") (by decide +kernel)
  have xi_IS := hts (.initialized "java/lang/IllegalStateException") (by decide +kernel)
  have xa_IS : ∀ w ∈ (vx_atS RX2 94 "java/lang/IllegalStateException" kNm).filter goodWord, w.before args s = true := fun w h => hts w ((by decide +kernel : ∀ w ∈ (vx_atS RX2 94 "java/lang/IllegalStateException" kNm).filter goodWord, w ∈ wsX2_sell) w h)
  refine lv_aload_n hx hb dX2_sell_0 rfl (lv_at hl 0 rfl) ?_
  refine lv_iload_n hx hb dX2_sell_1 rfl (lv_at hl 1 rfl) ?_
  refine kx_do (st1 := [.ref (ad (100 + 3 * x.toNatClampNeg))]) (kx_cv (As := [.int x]) (rest := []) hF hG hw hS hl.1 kC_0 rfl (c_X2_foundAt l hfl D cy base ad n nc g x (by first | assumption | omega | exact mR_9 (by assumption) _ _ | simp [sU, hfr, hcr, hR])) gX2_sell_X2_foundAt rfl rfl rfl hd_X2_foundAt ⟨Nat.le_of_ble_eq_true rfl, Nat.le_of_ble_eq_true rfl⟩ rfl rfl (Nat.le_of_ble_eq_true rfl) dX2_sell_2 ⟨Nat.le_of_ble_eq_true rfl, Nat.le_of_ble_eq_true rfl⟩) hS rfl (fun E9 ce9 q9 H locs hX9 hw hS hc9 hv9 hcl9 => kx_out hQ hT hlk hw hS (kEx_to hX9 (by cases h9 : isF n x <;> simp [rq, kd3, h9])) hc9 hv9 hcl9 (Nat.le_of_ble_eq_true rfl) (Nat.le_of_ble_eq_true rfl)) (fun ok_2 H locs hw hS => ?_)
  obtain ⟨i_x, hi_x, rfl⟩ := isF_ex ok_2 hn30
  have hcl_x : (nI i_x).toNatClampNeg = i_x := cl_nI (by omega)
  rw [hcl_x]
  refine lv_astore_n (lv' := [(3, .ref (ad (100 + 3 * i_x))), (0, .ref (ad 0)), (1, .int (nI i_x)), (2, .int price)]) hx hb dX2_sell_5 rfl hl (by decide) rfl (fun ls hl => ?_)
  refine lv_iload_n hx hb dX2_sell_6 rfl (lv_at hl 3 rfl) ?_
  refine lv_iconst (v := 1) hx hb dX2_sell_7 (by decide) ?_
  refine lv_sipush (v := 9999) hx hb dX2_sell_8 (by decide) ?_
  refine kx_do0 (st1 := [.int (b2 (inn price (1 : Int32) (9999 : Int32)))]) (kx_cs (As := [.int price, .int (1 : Int32), .int (9999 : Int32)]) (rest := []) hF hG hw hS hl.1 (c_X2_isWithin l hfl D cy base ad n nc g price (1 : Int32) (9999 : Int32) ) gX2_sell_X2_isWithin rfl rfl rfl hd_X2_isWithin ⟨Nat.le_of_ble_eq_true rfl, Nat.le_of_ble_eq_true rfl⟩ rfl rfl (Nat.le_of_ble_eq_true rfl) dX2_sell_11 ⟨Nat.le_of_ble_eq_true rfl, Nat.le_of_ble_eq_true rfl⟩) hS rfl (fun H locs hw hS => ?_)
  refine kb_ne (tgt := 27) hx hb dX2_sell_14 (by decide) (fun c_14 => ?_) (fun c_14 => ?_)
  · refine lv_aload_n hx hb dX2_sell_27 rfl (lv_at hl 1 rfl) ?_
    refine lv_aload_n hx hb dX2_sell_28 rfl (lv_at hl 0 rfl) ?_
    refine kx_do0 (st1 := [.int (b2 (cOver g nc i_x))]) (kx_cv (As := [.ref (ad (100 + 3 * i_x))]) (rest := []) hF hG hw hS hl.1 kC_0 rfl (c_X2_isOver l hfl D cy base ad n nc g i_x hcr hi_x hR) gX2_sell_X2_isOver rfl rfl rfl hd_X2_isOver ⟨Nat.le_of_ble_eq_true rfl, Nat.le_of_ble_eq_true rfl⟩ rfl rfl (Nat.le_of_ble_eq_true rfl) dX2_sell_29 ⟨Nat.le_of_ble_eq_true rfl, Nat.le_of_ble_eq_true rfl⟩) hS rfl (fun H locs hw hS => ?_)
    refine kb_eq (tgt := 44) hx hb dX2_sell_32 (by decide) (fun c_32 => ?_) (fun c_32 => ?_)
    · exact kx_throwIS (text := "not for sale") (is := 226) hQ hx hb hfl hown hG hw hS false (by decide +kernel) xk_IS xi_IS xa_IS (kEx_3 (by first | (simp only [kd3, ok_2, hcl_x, c_14, c_32]; done) | (simp only [kd3, ok_2, hcl_x, c_14, c_32]; rfl) | (simp [kd3, ok_2, hcl_x, c_14, c_32]; done))) (hl.1.trans hml.symm) hT rfl dX2_sell_44 dX2_sell_47 dX2_sell_48 dX2_sell_50 dX2_sell_53 ⟨by decide, Nat.le_of_ble_eq_true rfl, Nat.le_of_ble_eq_true rfl, Nat.le_of_ble_eq_true rfl⟩ hlk (Nat.le_of_ble_eq_true rfl) (Nat.le_of_ble_eq_true rfl)
    · refine lv_aload_n hx hb dX2_sell_35 rfl (lv_at hl 0 rfl) ?_
      refine kx_getF (v := .int (g (100 + 3 * i_x) 0)) hx hb hts hown hG hw i1 i_x (by first | assumption | omega) 0 (by decide) f_201 rfl dX2_sell_36 ?_
      refine lv_bipush (v := 7) hx hb dX2_sell_39 (by decide) ?_
      refine lv_icmp_ne (tgt := 54) hx hb dX2_sell_41 (by decide) (fun c_41 => ?_) (fun c_41 => ?_)
      · refine lv_aload_n hx hb dX2_sell_54 rfl (lv_at hl 0 rfl) ?_
        refine lv_iconst (v := 4) hx hb dX2_sell_55 (by decide) ?_
        refine kx_putF (v := (4 : Int32)) hx hb hts hown hG hw hS i1 i_x (by first | assumption | omega) 9 (by decide) f_142 (by decide) (by decide) rfl rfl rfl dX2_sell_56 (fun H locs hw hS => ?_)
        refine lv_aload_n hx hb dX2_sell_59 rfl (lv_at hl 0 rfl) ?_
        refine lv_iload_n hx hb dX2_sell_60 rfl (lv_at hl 3 rfl) ?_
        refine kx_putF (v := price) hx hb hts hown hG hw hS i1 i_x (by first | assumption | omega) 13 (by decide) f_228 (by decide) (by decide) rfl rfl rfl dX2_sell_61 (fun H locs hw hS => ?_)
        refine lv_aload_n hx hb dX2_sell_64 rfl (lv_at hl 0 rfl) ?_
        refine lv_aload_n hx hb dX2_sell_65 rfl (lv_at hl 1 rfl) ?_
        refine kx_getL (v := .int (g 0 10)) hx hb hts hown hG hw i2 10 (by decide) f_47 (congrArg Value.int ((sU_k _ _ _ _ (by omega)).trans (sU_k _ _ _ _ (by omega)))) dX2_sell_66 ?_
        refine kx_putF (v := (g 0 10)) hx hb hts hown hG hw hS i1 i_x (by first | assumption | omega) 14 (by decide) f_231 (by decide) (by decide) rfl rfl rfl dX2_sell_69 (fun H locs hw hS => ?_)
        refine lv_aload_n hx hb dX2_sell_72 rfl (lv_at hl 1 rfl) ?_
        refine lv_dup hx hb dX2_sell_73 rfl ?_
        refine kx_getL (v := .int (g 0 14)) hx hb hts hown hG hw i2 14 (by decide) f_59 (congrArg Value.int ((sU_k _ _ _ _ (by omega)).trans ((sU_k _ _ _ _ (by omega)).trans (sU_k _ _ _ _ (by omega))))) dX2_sell_74 ?_
        refine lv_iload_n hx hb dX2_sell_77 rfl (lv_at hl 3 rfl) ?_
        refine lv_iadd hx hb dX2_sell_78 ?_
        refine kx_putL (v := ((g 0 14) + price)) hx hb hts hown hG hw hS i2 14 (by decide) f_59 (by decide) rfl rfl rfl dX2_sell_79 (fun H locs hw hS => ?_)
        refine lv_aload_n hx hb dX2_sell_82 rfl (lv_at hl 1 rfl) ?_
        refine kx_getL (v := .int ((g 0 14) + price)) hx hb hts hown hG hw i2 14 (by decide) f_59 (congrArg Value.int (sU_s _ _ _ _)) dX2_sell_83 ?_
        exact kx_retI hQ hx hb hr hlk hw hS (Nat.le_of_ble_eq_true rfl) (Nat.le_of_ble_eq_true rfl) dX2_sell_86 (kd_i (by first | (simp only [kd3, ok_2, hcl_x, c_14, c_32, decide_eq_false c_41, if_neg c_41]; done) | (simp only [kd3, ok_2, hcl_x, c_14, c_32, decide_eq_false c_41, if_neg c_41]; rfl) | (simp [kd3, ok_2, hcl_x, c_14, c_32, decide_eq_false c_41, if_neg c_41]; done)) (by first | (simp only [hcl_x]; done) | (simp only [hcl_x]; rfl) | rfl) (by first | (simp only [hcl_x]; done) | (simp only [hcl_x]; rfl) | rfl))
      · exact kx_throwIS (text := "not for sale") (is := 226) hQ hx hb hfl hown hG hw hS false (by decide +kernel) xk_IS xi_IS xa_IS (kEx_3 (by first | (simp only [kd3, ok_2, hcl_x, c_14, c_32, decide_eq_true c_41, if_pos c_41]; done) | (simp only [kd3, ok_2, hcl_x, c_14, c_32, decide_eq_true c_41, if_pos c_41]; rfl) | (simp [kd3, ok_2, hcl_x, c_14, c_32, decide_eq_true c_41, if_pos c_41]; done))) (hl.1.trans hml.symm) hT rfl dX2_sell_44 dX2_sell_47 dX2_sell_48 dX2_sell_50 dX2_sell_53 ⟨by decide, Nat.le_of_ble_eq_true rfl, Nat.le_of_ble_eq_true rfl, Nat.le_of_ble_eq_true rfl⟩ hlk (Nat.le_of_ble_eq_true rfl) (Nat.le_of_ble_eq_true rfl)
  · exact kx_throwIA (text := "price out of range") (is := 220) hQ hx hb hfl hown hG hw hS false (by decide +kernel) xk_IA xi_IA xa_IA (kEx_2 (by first | (simp only [kd3, ok_2, hcl_x, c_14]; done) | (simp only [kd3, ok_2, hcl_x, c_14]; rfl) | (simp [kd3, ok_2, hcl_x, c_14]; done))) (hl.1.trans hml.symm) hT rfl dX2_sell_17 dX2_sell_20 dX2_sell_21 dX2_sell_23 dX2_sell_26 ⟨by decide, Nat.le_of_ble_eq_true rfl, Nat.le_of_ble_eq_true rfl, Nat.le_of_ble_eq_true rfl⟩ hlk (Nat.le_of_ble_eq_true rfl) (Nat.le_of_ble_eq_true rfl)
theorem hd_X2_destroy : yX2_destroy.cls = RX2 ∧ yX2_destroy.cls ≠ "java/lang/invoke/MethodHandle" ∧ yX2_destroy.cls ≠ "java/lang/invoke/VarHandle" ∧ (parseMethodDescriptor yX2_destroy.desc).map (fun d => d.parameters.length) = some 1 := by decide +kernel
set_option maxHeartbeats 4000000 in
set_option maxRecDepth 100000 in
theorem c_X2_destroy (l : Launch) (hfl : l.stackTraces = false) (D : va_G) (cy : Nat → ClassId) (base : Nat → Prop) (ad : Nat → Nat) (n nc : Nat) (g : sg) (x : Int32) (hfr : ∀ j, j < 30 → g 6 j = if j < n then 1 else 0) (hcr : ∀ j, j < 20 → g 7 j = if j < nc then 1 else 0) (hR : cR n nc g) : kM l yX2_destroy wsX2_destroy (kR 7 2 12) D cy base ad n nc g [.ref (ad 0), .int x] (kD (kd2 (isF n x) (cOver g nc x.toNatClampNeg) = 0) (some (.int (g (100 + 3 * x.toNatClampNeg) 10))) ad n nc (sU g (100 + 3 * x.toNatClampNeg) 9 5)) (kEx (e13 (kd2 (isF n x) (cOver g nc x.toNatClampNeg)))) 2 12 := by
  refine kx_meth (cc := cX2_destroy) (maxL := 3) (ret := (some .int)) (by decide) rfl (Nat.le_of_ble_eq_true rfl) ?_
  intro p e s m args below meth c ls hx hb hr hml hown hts hlk hT hG hw0 hS0 hl Q H locs hQ hw hS hH0 hlocs0
  have hl : lv_has ls 3 [(0, .ref (ad 0)), (1, .int x)] := hl
  have hown : s.vm.findClass RX2 = some m.cls := hown
  have hF : CallFix p m c cX2_destroy 3 s args wsX2_destroy RX2 := ⟨hx, hb, hml, hown, hts⟩
  have hn30 : n ≤ 30 := hw.2.2.1
  have hc20 : nc ≤ 20 := hw.2.2.2
  clear hw0 hS0 hH0 hlocs0
  have i1 : ∀ w ∈ wsX10, w ∈ wsX2_destroy := by decide +kernel
  have f_142 := hts (.fieldLink RX2 142 "Lostroom$Found" "state" "I") (by decide +kernel)
  have f_150 := hts (.fieldLink RX2 150 "Lostroom$Found" "room" "I") (by decide +kernel)
  have xk_IS := hts (.classLink RX2 90 "java/lang/IllegalStateException") (by decide +kernel)
  have xi_IS := hts (.initialized "java/lang/IllegalStateException") (by decide +kernel)
  have xa_IS : ∀ w ∈ (vx_atS RX2 94 "java/lang/IllegalStateException" kNm).filter goodWord, w.before args s = true := fun w h => hts w ((by decide +kernel : ∀ w ∈ (vx_atS RX2 94 "java/lang/IllegalStateException" kNm).filter goodWord, w ∈ wsX2_destroy) w h)
  refine lv_aload_n hx hb dX2_destroy_0 rfl (lv_at hl 0 rfl) ?_
  refine lv_iload_n hx hb dX2_destroy_1 rfl (lv_at hl 1 rfl) ?_
  refine kx_do (st1 := [.ref (ad (100 + 3 * x.toNatClampNeg))]) (kx_cv (As := [.int x]) (rest := []) hF hG hw hS hl.1 kC_0 rfl (c_X2_foundAt l hfl D cy base ad n nc g x (by first | assumption | omega | exact mR_9 (by assumption) _ _ | simp [sU, hfr, hcr, hR])) gX2_destroy_X2_foundAt rfl rfl rfl hd_X2_foundAt ⟨Nat.le_of_ble_eq_true rfl, Nat.le_of_ble_eq_true rfl⟩ rfl rfl (Nat.le_of_ble_eq_true rfl) dX2_destroy_2 ⟨Nat.le_of_ble_eq_true rfl, Nat.le_of_ble_eq_true rfl⟩) hS rfl (fun E9 ce9 q9 H locs hX9 hw hS hc9 hv9 hcl9 => kx_out hQ hT hlk hw hS (kEx_to hX9 (by cases h9 : isF n x <;> simp [rq, kd2, e13, h9])) hc9 hv9 hcl9 (Nat.le_of_ble_eq_true rfl) (Nat.le_of_ble_eq_true rfl)) (fun ok_2 H locs hw hS => ?_)
  obtain ⟨i_x, hi_x, rfl⟩ := isF_ex ok_2 hn30
  have hcl_x : (nI i_x).toNatClampNeg = i_x := cl_nI (by omega)
  rw [hcl_x]
  refine lv_astore_n (lv' := [(2, .ref (ad (100 + 3 * i_x))), (0, .ref (ad 0)), (1, .int (nI i_x))]) hx hb dX2_destroy_5 rfl hl (by decide) rfl (fun ls hl => ?_)
  refine lv_aload_n hx hb dX2_destroy_6 rfl (lv_at hl 1 rfl) ?_
  refine lv_aload_n hx hb dX2_destroy_7 rfl (lv_at hl 0 rfl) ?_
  refine kx_do0 (st1 := [.int (b2 (cOver g nc i_x))]) (kx_cv (As := [.ref (ad (100 + 3 * i_x))]) (rest := []) hF hG hw hS hl.1 kC_0 rfl (c_X2_isOver l hfl D cy base ad n nc g i_x hcr hi_x hR) gX2_destroy_X2_isOver rfl rfl rfl hd_X2_isOver ⟨Nat.le_of_ble_eq_true rfl, Nat.le_of_ble_eq_true rfl⟩ rfl rfl (Nat.le_of_ble_eq_true rfl) dX2_destroy_8 ⟨Nat.le_of_ble_eq_true rfl, Nat.le_of_ble_eq_true rfl⟩) hS rfl (fun H locs hw hS => ?_)
  refine kb_ne (tgt := 24) hx hb dX2_destroy_11 (by decide) (fun c_11 => ?_) (fun c_11 => ?_)
  · refine lv_aload_n hx hb dX2_destroy_24 rfl (lv_at hl 0 rfl) ?_
    refine lv_iconst (v := 5) hx hb dX2_destroy_25 (by decide) ?_
    refine kx_putF (v := (5 : Int32)) hx hb hts hown hG hw hS i1 i_x (by first | assumption | omega) 9 (by decide) f_142 (by decide) (by decide) rfl rfl rfl dX2_destroy_26 (fun H locs hw hS => ?_)
    refine lv_aload_n hx hb dX2_destroy_29 rfl (lv_at hl 0 rfl) ?_
    refine kx_getF (v := .int (g (100 + 3 * i_x) 10)) hx hb hts hown hG hw i1 i_x (by first | assumption | omega) 10 (by decide) f_150 (congrArg Value.int (sU_j _ _ _ _ (by decide))) dX2_destroy_30 ?_
    exact kx_retI hQ hx hb hr hlk hw hS (Nat.le_of_ble_eq_true rfl) (Nat.le_of_ble_eq_true rfl) dX2_destroy_33 (kd_i (by first | (simp only [kd2, e13, ok_2, hcl_x, c_11]; done) | (simp only [kd2, e13, ok_2, hcl_x, c_11]; rfl) | (simp [kd2, e13, ok_2, hcl_x, c_11]; done)) (by first | (simp only [hcl_x]; done) | (simp only [hcl_x]; rfl) | rfl) (by first | (simp only [hcl_x]; done) | (simp only [hcl_x]; rfl) | rfl))
  · exact kx_throwIS (text := "its term is not over") (is := 234) hQ hx hb hfl hown hG hw hS false (by decide +kernel) xk_IS xi_IS xa_IS (kEx_3 (by first | (simp only [kd2, e13, ok_2, hcl_x, c_11]; done) | (simp only [kd2, e13, ok_2, hcl_x, c_11]; rfl) | (simp [kd2, e13, ok_2, hcl_x, c_11]; done))) (hl.1.trans hml.symm) hT rfl dX2_destroy_14 dX2_destroy_17 dX2_destroy_18 dX2_destroy_20 dX2_destroy_23 ⟨by decide, Nat.le_of_ble_eq_true rfl, Nat.le_of_ble_eq_true rfl, Nat.le_of_ble_eq_true rfl⟩ hlk (Nat.le_of_ble_eq_true rfl) (Nat.le_of_ble_eq_true rfl)
theorem hd_X2_payOut : yX2_payOut.cls = RX2 ∧ yX2_payOut.cls ≠ "java/lang/invoke/MethodHandle" ∧ yX2_payOut.cls ≠ "java/lang/invoke/VarHandle" ∧ (parseMethodDescriptor yX2_payOut.desc).map (fun d => d.parameters.length) = some 2 := by decide +kernel
set_option maxHeartbeats 4000000 in
set_option maxRecDepth 100000 in
theorem c_X2_payOut (l : Launch) (hfl : l.stackTraces = false) (D : va_G) (cy : Nat → ClassId) (base : Nat → Prop) (ad : Nat → Nat) (n nc : Nat) (g : sg) (x : Int32) (y : Int32) (hfr : ∀ j, j < 30 → g 6 j = if j < n then 1 else 0) (hcr : ∀ j, j < 20 → g 7 j = if j < nc then 1 else 0) (hR : cR n nc g) : kM l yX2_payOut wsX2_payOut (kR 7 3 18) D cy base ad n nc g [.ref (ad 0), .int x, .int y] (kD (kd2 (isF n x && isF nc y) (decide (g (100 + 3 * x.toNatClampNeg) 9 = 4) && (decide (g 0 10 - g (100 + 3 * x.toNatClampNeg) 14 ≤ 365) && cServe g nc x.toNatClampNeg y.toNatClampNeg)) = 0) (some (.int (g (100 + 3 * x.toNatClampNeg) 13 - (if g (100 + 3 * x.toNatClampNeg) 13 < 5 then g (100 + 3 * x.toNatClampNeg) 13 else 5)))) ad n nc (sU (sU (sU (sU (sU (sU g (100 + 3 * x.toNatClampNeg) 9 6) (200 + y.toNatClampNeg) 7 1) (200 + y.toNatClampNeg) 9 (g 0 10)) (200 + y.toNatClampNeg) 8 x) 0 12 (g 0 12 + (if g (100 + 3 * x.toNatClampNeg) 13 < 5 then g (100 + 3 * x.toNatClampNeg) 13 else 5))) 0 14 (g 0 14 - g (100 + 3 * x.toNatClampNeg) 13))) (kEx (e13 (kd2 (isF n x && isF nc y) (decide (g (100 + 3 * x.toNatClampNeg) 9 = 4) && (decide (g 0 10 - g (100 + 3 * x.toNatClampNeg) 14 ≤ 365) && cServe g nc x.toNatClampNeg y.toNatClampNeg))))) 3 18 := by
  refine kx_meth (cc := cX2_payOut) (maxL := 6) (ret := (some .int)) (by decide) rfl (Nat.le_of_ble_eq_true rfl) ?_
  intro p e s m args below meth c ls hx hb hr hml hown hts hlk hT hG hw0 hS0 hl Q H locs hQ hw hS hH0 hlocs0
  have hl : lv_has ls 6 [(0, .ref (ad 0)), (1, .int x), (2, .int y)] := hl
  have hown : s.vm.findClass RX2 = some m.cls := hown
  have hF : CallFix p m c cX2_payOut 6 s args wsX2_payOut RX2 := ⟨hx, hb, hml, hown, hts⟩
  have hn30 : n ≤ 30 := hw.2.2.1
  have hc20 : nc ≤ 20 := hw.2.2.2
  clear hw0 hS0 hH0 hlocs0
  have i0 : ∀ w ∈ wsX00, w ∈ wsX2_payOut := by decide +kernel
  have i1 : ∀ w ∈ wsX10, w ∈ wsX2_payOut := by decide +kernel
  have i2 : ∀ w ∈ wsX20, w ∈ wsX2_payOut := by decide +kernel
  have f_47 := hts (.fieldLink RX2 47 "Lostroom" "day" "I") (by decide +kernel)
  have f_53 := hts (.fieldLink RX2 53 "Lostroom" "fees" "I") (by decide +kernel)
  have f_59 := hts (.fieldLink RX2 59 "Lostroom" "proceeds" "I") (by decide +kernel)
  have f_142 := hts (.fieldLink RX2 142 "Lostroom$Found" "state" "I") (by decide +kernel)
  have f_207 := hts (.fieldLink RX2 207 "Lostroom$Claim" "servedBy" "I") (by decide +kernel)
  have f_228 := hts (.fieldLink RX2 228 "Lostroom$Found" "price" "I") (by decide +kernel)
  have f_231 := hts (.fieldLink RX2 231 "Lostroom$Found" "soldOn" "I") (by decide +kernel)
  have hmi := hts (.initialized "java/lang/Math") (by decide +kernel)
  have ms_min := hts (.static Lib.Math.min.name) (by decide +kernel)
  have mc_min := hts (.code Lib.Math.min.name Lib.Math.min.code 2 (some .int)) (by decide +kernel)
  have m_240 := hts (.methodLink RX2 240 Lib.Math.min.name) (by decide +kernel)
  have xk_IS := hts (.classLink RX2 90 "java/lang/IllegalStateException") (by decide +kernel)
  have xi_IS := hts (.initialized "java/lang/IllegalStateException") (by decide +kernel)
  have xa_IS : ∀ w ∈ (vx_atS RX2 94 "java/lang/IllegalStateException" kNm).filter goodWord, w.before args s = true := fun w h => hts w ((by decide +kernel : ∀ w ∈ (vx_atS RX2 94 "java/lang/IllegalStateException" kNm).filter goodWord, w ∈ wsX2_payOut) w h)
  refine lv_aload_n hx hb dX2_payOut_0 rfl (lv_at hl 0 rfl) ?_
  refine lv_iload_n hx hb dX2_payOut_1 rfl (lv_at hl 1 rfl) ?_
  refine kx_do (st1 := [.ref (ad (100 + 3 * x.toNatClampNeg))]) (kx_cv (As := [.int x]) (rest := []) hF hG hw hS hl.1 kC_0 rfl (c_X2_foundAt l hfl D cy base ad n nc g x (by first | assumption | omega | exact mR_9 (by assumption) _ _ | simp [sU, hfr, hcr, hR])) gX2_payOut_X2_foundAt rfl rfl rfl hd_X2_foundAt ⟨Nat.le_of_ble_eq_true rfl, Nat.le_of_ble_eq_true rfl⟩ rfl rfl (Nat.le_of_ble_eq_true rfl) dX2_payOut_2 ⟨Nat.le_of_ble_eq_true rfl, Nat.le_of_ble_eq_true rfl⟩) hS rfl (fun E9 ce9 q9 H locs hX9 hw hS hc9 hv9 hcl9 => kx_out hQ hT hlk hw hS (kEx_to hX9 (by cases h9 : isF n x <;> simp [rq, kd2, e13, h9])) hc9 hv9 hcl9 (Nat.le_of_ble_eq_true rfl) (Nat.le_of_ble_eq_true rfl)) (fun ok_2 H locs hw hS => ?_)
  obtain ⟨i_x, hi_x, rfl⟩ := isF_ex ok_2 hn30
  have hcl_x : (nI i_x).toNatClampNeg = i_x := cl_nI (by omega)
  rw [hcl_x]
  refine lv_astore_n (lv' := [(3, .ref (ad (100 + 3 * i_x))), (0, .ref (ad 0)), (1, .int (nI i_x)), (2, .int y)]) hx hb dX2_payOut_5 rfl hl (by decide) rfl (fun ls hl => ?_)
  refine lv_aload_n hx hb dX2_payOut_6 rfl (lv_at hl 1 rfl) ?_
  refine lv_iload_n hx hb dX2_payOut_7 rfl (lv_at hl 3 rfl) ?_
  refine kx_do (st1 := [.ref (ad (200 + y.toNatClampNeg))]) (kx_cv (As := [.int y]) (rest := []) hF hG hw hS hl.1 kC_0 rfl (c_X2_claimAt l hfl D cy base ad n nc g y (by first | assumption | omega | exact mR_9 (by assumption) _ _ | simp [sU, hfr, hcr, hR])) gX2_payOut_X2_claimAt rfl rfl rfl hd_X2_claimAt ⟨Nat.le_of_ble_eq_true rfl, Nat.le_of_ble_eq_true rfl⟩ rfl rfl (Nat.le_of_ble_eq_true rfl) dX2_payOut_8 ⟨Nat.le_of_ble_eq_true rfl, Nat.le_of_ble_eq_true rfl⟩) hS rfl (fun E9 ce9 q9 H locs hX9 hw hS hc9 hv9 hcl9 => kx_out hQ hT hlk hw hS (kEx_to hX9 (by cases h9 : isF nc y <;> simp [rq, kd2, e13, h9, ok_2, hcl_x])) hc9 hv9 hcl9 (Nat.le_of_ble_eq_true rfl) (Nat.le_of_ble_eq_true rfl)) (fun ok_8 H locs hw hS => ?_)
  obtain ⟨i_y, hi_y, rfl⟩ := isF_ex ok_8 (Nat.le_trans hc20 (by decide))
  have hcl_y : (nI i_y).toNatClampNeg = i_y := cl_nI (by omega)
  rw [hcl_y]
  refine lv_astore (lv' := [(4, .ref (ad (200 + i_y))), (3, .ref (ad (100 + 3 * i_x))), (0, .ref (ad 0)), (1, .int (nI i_x)), (2, .int (nI i_y))]) hx hb dX2_payOut_11 hl (by decide) rfl (fun ls hl => ?_)
  refine lv_aload_n hx hb dX2_payOut_13 rfl (lv_at hl 1 rfl) ?_
  refine kx_getF (v := .int (g (100 + 3 * i_x) 9)) hx hb hts hown hG hw i1 i_x (by first | assumption | omega) 9 (by decide) f_142 rfl dX2_payOut_14 ?_
  refine lv_iconst (v := 4) hx hb dX2_payOut_17 (by decide) ?_
  refine lv_icmp_eq (tgt := 31) hx hb dX2_payOut_18 (by decide) (fun c_18 => ?_) (fun c_18 => ?_)
  · refine lv_aload_n hx hb dX2_payOut_31 rfl (lv_at hl 2 rfl) ?_
    refine kx_getL (v := .int (g 0 10)) hx hb hts hown hG hw i2 10 (by decide) f_47 rfl dX2_payOut_32 ?_
    refine lv_aload_n hx hb dX2_payOut_35 rfl (lv_at hl 1 rfl) ?_
    refine kx_getF (v := .int (g (100 + 3 * i_x) 14)) hx hb hts hown hG hw i1 i_x (by first | assumption | omega) 14 (by decide) f_231 rfl dX2_payOut_36 ?_
    refine lv_isub hx hb dX2_payOut_39 ?_
    refine lv_sipush (v := 365) hx hb dX2_payOut_40 (by decide) ?_
    refine lv_icmp_le (tgt := 56) hx hb dX2_payOut_43 (by decide) (fun c_43 => ?_) (fun c_43 => ?_)
    · refine lv_aload_n hx hb dX2_payOut_56 rfl (lv_at hl 2 rfl) ?_
      refine lv_aload_n hx hb dX2_payOut_57 rfl (lv_at hl 1 rfl) ?_
      refine lv_aload hx hb dX2_payOut_58 (lv_at hl 0 rfl) ?_
      refine kx_do (st1 := []) (kx_cv (As := [.ref (ad (100 + 3 * i_x)), .ref (ad (200 + i_y))]) (rest := []) hF hG hw hS hl.1 kC_0 rfl (c_X2_requireEntitled l hfl D cy base ad n nc g i_x i_y hcr hi_x hi_y hR) gX2_payOut_X2_requireEntitled rfl rfl rfl hd_X2_requireEntitled ⟨Nat.le_of_ble_eq_true rfl, Nat.le_of_ble_eq_true rfl⟩ rfl rfl (Nat.le_of_ble_eq_true rfl) dX2_payOut_60 ⟨Nat.le_of_ble_eq_true rfl, Nat.le_of_ble_eq_true rfl⟩) hS rfl (fun E9 ce9 q9 H locs hX9 hw hS hc9 hv9 hcl9 => kx_out hQ hT hlk hw hS (kEx_to hX9 (by cases h9 : cServe g nc i_x i_y <;> simp [rq, kd2, e13, h9, ok_2, hcl_x, ok_8, hcl_y, decide_eq_true c_18, if_pos c_18, decide_eq_true c_43, if_pos c_43])) hc9 hv9 hcl9 (Nat.le_of_ble_eq_true rfl) (Nat.le_of_ble_eq_true rfl)) (fun ok_60 H locs hw hS => ?_)
      refine lv_iconst (v := 5) hx hb dX2_payOut_63 (by decide) ?_
      refine lv_aload_n hx hb dX2_payOut_64 rfl (lv_at hl 1 rfl) ?_
      refine kx_getF (v := .int (g (100 + 3 * i_x) 13)) hx hb hts hown hG hw i1 i_x (by first | assumption | omega) 13 (by decide) f_228 rfl dX2_payOut_65 ?_
      refine va_mmin hx hb (hml.trans hl.1.symm) hown m_240 ms_min hmi mc_min (by decide) (Nat.le_of_ble_eq_true rfl) (Nat.le_of_ble_eq_true rfl) (Nat.le_of_ble_eq_true rfl) dX2_payOut_68 ?_
      refine lv_istore (lv' := [(5, .int (if (g (100 + 3 * i_x) 13) < (5 : Int32) then (g (100 + 3 * i_x) 13) else (5 : Int32))), (4, .ref (ad (200 + i_y))), (3, .ref (ad (100 + 3 * i_x))), (0, .ref (ad 0)), (1, .int (nI i_x)), (2, .int (nI i_y))]) hx hb dX2_payOut_71 hl (by decide) rfl (fun ls hl => ?_)
      refine lv_aload_n hx hb dX2_payOut_73 rfl (lv_at hl 2 rfl) ?_
      refine lv_bipush (v := 6) hx hb dX2_payOut_74 (by decide) ?_
      refine kx_putF (v := (6 : Int32)) hx hb hts hown hG hw hS i1 i_x (by first | assumption | omega) 9 (by decide) f_142 (by decide) (by decide) rfl rfl rfl dX2_payOut_76 (fun H locs hw hS => ?_)
      refine lv_aload hx hb dX2_payOut_79 (lv_at hl 1 rfl) ?_
      refine lv_iconst (v := 1) hx hb dX2_payOut_81 (by decide) ?_
      refine lv_aload_n hx hb dX2_payOut_82 rfl (lv_at hl 3 rfl) ?_
      refine kx_getL (v := .int (g 0 10)) hx hb hts hown hG hw i2 10 (by decide) f_47 (congrArg Value.int (sU_k _ _ _ _ (by omega))) dX2_payOut_83 ?_
      refine kx_do0 (st1 := []) (kx_cv (As := [.int (1 : Int32), .int (g 0 10)]) (rest := []) hF hG hw hS hl.1 (kC_C (by first | assumption | omega)) rfl (c_X0_end l hfl D cy base ad n nc (sU g (100 + 3 * i_x) 9 (6 : Int32)) i_y (1 : Int32) (g 0 10) hi_y) gX2_payOut_X0_end rfl rfl rfl hd_X0_end ⟨Nat.le_of_ble_eq_true rfl, Nat.le_of_ble_eq_true rfl⟩ rfl rfl (Nat.le_of_ble_eq_true rfl) dX2_payOut_86 ⟨Nat.le_of_ble_eq_true rfl, Nat.le_of_ble_eq_true rfl⟩) hS rfl (fun H locs hw hS => ?_)
      refine lv_aload hx hb dX2_payOut_89 (lv_at hl 1 rfl) ?_
      refine lv_iload_n hx hb dX2_payOut_91 rfl (lv_at hl 4 rfl) ?_
      refine kx_putC (v := (nI i_x)) hx hb hts hown hG hw hS i0 i_y (by first | assumption | omega) 8 (by decide) f_207 rfl rfl rfl dX2_payOut_92 (fun H locs hw hS => ?_)
      refine lv_aload_n hx hb dX2_payOut_95 rfl (lv_at hl 3 rfl) ?_
      refine lv_dup hx hb dX2_payOut_96 rfl ?_
      refine kx_getL (v := .int (g 0 12)) hx hb hts hown hG hw i2 12 (by decide) f_53 (congrArg Value.int ((sU_k _ _ _ _ (by omega)).trans ((sU_k _ _ _ _ (by omega)).trans ((sU_k _ _ _ _ (by omega)).trans (sU_k _ _ _ _ (by omega)))))) dX2_payOut_97 ?_
      refine lv_iload hx hb dX2_payOut_100 (lv_at hl 0 rfl) ?_
      refine lv_iadd hx hb dX2_payOut_102 ?_
      refine kx_putL (v := ((g 0 12) + (if (g (100 + 3 * i_x) 13) < (5 : Int32) then (g (100 + 3 * i_x) 13) else (5 : Int32)))) hx hb hts hown hG hw hS i2 12 (by decide) f_53 (by decide) rfl rfl rfl dX2_payOut_103 (fun H locs hw hS => ?_)
      refine lv_aload_n hx hb dX2_payOut_106 rfl (lv_at hl 3 rfl) ?_
      refine lv_dup hx hb dX2_payOut_107 rfl ?_
      refine kx_getL (v := .int (g 0 14)) hx hb hts hown hG hw i2 14 (by decide) f_59 (congrArg Value.int ((sU_j _ _ _ _ (by decide)).trans ((sU_k _ _ _ _ (by omega)).trans ((sU_k _ _ _ _ (by omega)).trans ((sU_k _ _ _ _ (by omega)).trans (sU_k _ _ _ _ (by omega))))))) dX2_payOut_108 ?_
      refine lv_aload_n hx hb dX2_payOut_111 rfl (lv_at hl 2 rfl) ?_
      refine kx_getF (v := .int (g (100 + 3 * i_x) 13)) hx hb hts hown hG hw i1 i_x (by first | assumption | omega) 13 (by decide) f_228 (congrArg Value.int ((sU_k _ _ _ _ (by omega)).trans ((sU_k _ _ _ _ (by omega)).trans ((sU_k _ _ _ _ (by omega)).trans ((sU_k _ _ _ _ (by omega)).trans (sU_j _ _ _ _ (by decide))))))) dX2_payOut_112 ?_
      refine lv_isub hx hb dX2_payOut_115 ?_
      refine kx_putL (v := ((g 0 14) - (g (100 + 3 * i_x) 13))) hx hb hts hown hG hw hS i2 14 (by decide) f_59 (by decide) rfl rfl rfl dX2_payOut_116 (fun H locs hw hS => ?_)
      refine lv_aload_n hx hb dX2_payOut_119 rfl (lv_at hl 2 rfl) ?_
      refine kx_getF (v := .int (g (100 + 3 * i_x) 13)) hx hb hts hown hG hw i1 i_x (by first | assumption | omega) 13 (by decide) f_228 (congrArg Value.int ((sU_k _ _ _ _ (by omega)).trans ((sU_k _ _ _ _ (by omega)).trans ((sU_k _ _ _ _ (by omega)).trans ((sU_k _ _ _ _ (by omega)).trans ((sU_k _ _ _ _ (by omega)).trans (sU_j _ _ _ _ (by decide)))))))) dX2_payOut_120 ?_
      refine lv_iload hx hb dX2_payOut_123 (lv_at hl 0 rfl) ?_
      refine lv_isub hx hb dX2_payOut_125 ?_
      exact kx_retI hQ hx hb hr hlk hw hS (Nat.le_of_ble_eq_true rfl) (Nat.le_of_ble_eq_true rfl) dX2_payOut_126 (kd_i (by first | (simp only [kd2, e13, ok_2, hcl_x, ok_8, hcl_y, decide_eq_true c_18, if_pos c_18, decide_eq_true c_43, if_pos c_43, ok_60]; done) | (simp only [kd2, e13, ok_2, hcl_x, ok_8, hcl_y, decide_eq_true c_18, if_pos c_18, decide_eq_true c_43, if_pos c_43, ok_60]; rfl) | (simp [kd2, e13, ok_2, hcl_x, ok_8, hcl_y, decide_eq_true c_18, if_pos c_18, decide_eq_true c_43, if_pos c_43, ok_60]; done)) (by first | (simp only [hcl_x, hcl_y]; done) | (simp only [hcl_x, hcl_y]; rfl) | rfl) (by first | (simp only [hcl_x, hcl_y]; done) | (simp only [hcl_x, hcl_y]; rfl) | rfl))
    · exact kx_throwIS (text := "sold too long ago") (is := 238) hQ hx hb hfl hown hG hw hS false (by decide +kernel) xk_IS xi_IS xa_IS (kEx_3 (by first | (simp only [kd2, e13, ok_2, hcl_x, ok_8, hcl_y, decide_eq_true c_18, if_pos c_18, decide_eq_false c_43, if_neg c_43]; done) | (simp only [kd2, e13, ok_2, hcl_x, ok_8, hcl_y, decide_eq_true c_18, if_pos c_18, decide_eq_false c_43, if_neg c_43]; rfl) | (simp [kd2, e13, ok_2, hcl_x, ok_8, hcl_y, decide_eq_true c_18, if_pos c_18, decide_eq_false c_43, if_neg c_43]; done))) (hl.1.trans hml.symm) hT rfl dX2_payOut_46 dX2_payOut_49 dX2_payOut_50 dX2_payOut_52 dX2_payOut_55 ⟨by decide, Nat.le_of_ble_eq_true rfl, Nat.le_of_ble_eq_true rfl, Nat.le_of_ble_eq_true rfl⟩ hlk (Nat.le_of_ble_eq_true rfl) (Nat.le_of_ble_eq_true rfl)
  · exact kx_throwIS (text := "not sold") (is := 236) hQ hx hb hfl hown hG hw hS false (by decide +kernel) xk_IS xi_IS xa_IS (kEx_3 (by first | (simp only [kd2, e13, ok_2, hcl_x, ok_8, hcl_y, decide_eq_false c_18, if_neg c_18]; done) | (simp only [kd2, e13, ok_2, hcl_x, ok_8, hcl_y, decide_eq_false c_18, if_neg c_18]; rfl) | (simp [kd2, e13, ok_2, hcl_x, ok_8, hcl_y, decide_eq_false c_18, if_neg c_18]; done))) (hl.1.trans hml.symm) hT rfl dX2_payOut_21 dX2_payOut_24 dX2_payOut_25 dX2_payOut_27 dX2_payOut_30 ⟨by decide, Nat.le_of_ble_eq_true rfl, Nat.le_of_ble_eq_true rfl, Nat.le_of_ble_eq_true rfl⟩ hlk (Nat.le_of_ble_eq_true rfl) (Nat.le_of_ble_eq_true rfl)
theorem hd_X2_pass : yX2_pass.cls = RX2 ∧ yX2_pass.cls ≠ "java/lang/invoke/MethodHandle" ∧ yX2_pass.cls ≠ "java/lang/invoke/VarHandle" ∧ (parseMethodDescriptor yX2_pass.desc).map (fun d => d.parameters.length) = some 1 := by decide +kernel
set_option maxHeartbeats 4000000 in
set_option maxRecDepth 100000 in
theorem c_X2_pass (l : Launch) (hfl : l.stackTraces = false) (D : va_G) (cy : Nat → ClassId) (base : Nat → Prop) (ad : Nat → Nat) (n nc : Nat) (g : sg) (many : Int32) (hfr : ∀ j, j < 30 → g 6 j = if j < n then 1 else 0) (hcr : ∀ j, j < 20 → g 7 j = if j < nc then 1 else 0) (hh : ∀ i, i < n → ∃ h : Nat, h ≤ 12 ∧ g (100 + 3 * i) 7 = nI h) : kM l yX2_pass wsX2_pass (kR 7 1 6) D cy base ad n nc g [.ref (ad 0), .int many] (kD (kd2 (inn many 1 400) (decide (g 0 10 + many ≤ 9999)) = 0) (some (.int (cDays g n nc many.toNatClampNeg 0 10))) ad n nc (cDays g n nc many.toNatClampNeg)) (kEx (e23 (kd2 (inn many 1 400) (decide (g 0 10 + many ≤ 9999))))) 1 6 := by
  refine kx_meth (cc := cX2_pass) (maxL := 3) (ret := (some .int)) (by decide) rfl (Nat.le_of_ble_eq_true rfl) ?_
  intro p e s m args below meth c ls hx hb hr hml hown hts hlk hT hG hw0 hS0 hl Q H locs hQ hw hS hH0 hlocs0
  have hl : lv_has ls 3 [(0, .ref (ad 0)), (1, .int many)] := hl
  have hown : s.vm.findClass RX2 = some m.cls := hown
  have hF : CallFix p m c cX2_pass 3 s args wsX2_pass RX2 := ⟨hx, hb, hml, hown, hts⟩
  have hn30 : n ≤ 30 := hw.2.2.1
  have hc20 : nc ≤ 20 := hw.2.2.2
  clear hw0 hS0 hH0 hlocs0
  have i2 : ∀ w ∈ wsX20, w ∈ wsX2_pass := by decide +kernel
  have f_47 := hts (.fieldLink RX2 47 "Lostroom" "day" "I") (by decide +kernel)
  have xk_IA := hts (.classLink RX2 77 "java/lang/IllegalArgumentException") (by decide +kernel)
  have xi_IA := hts (.initialized "java/lang/IllegalArgumentException") (by decide +kernel)
  have xa_IA : ∀ w ∈ (vx_atS RX2 81 "java/lang/IllegalArgumentException" kNm).filter goodWord, w.before args s = true := fun w h => hts w ((by decide +kernel : ∀ w ∈ (vx_atS RX2 81 "java/lang/IllegalArgumentException" kNm).filter goodWord, w ∈ wsX2_pass) w h)
  have xk_IS := hts (.classLink RX2 90 "java/lang/IllegalStateException") (by decide +kernel)
  have xi_IS := hts (.initialized "java/lang/IllegalStateException") (by decide +kernel)
  have xa_IS : ∀ w ∈ (vx_atS RX2 94 "java/lang/IllegalStateException" kNm).filter goodWord, w.before args s = true := fun w h => hts w ((by decide +kernel : ∀ w ∈ (vx_atS RX2 94 "java/lang/IllegalStateException" kNm).filter goodWord, w ∈ wsX2_pass) w h)
  refine lv_iload_n hx hb dX2_pass_0 rfl (lv_at hl 1 rfl) ?_
  refine lv_iconst (v := 1) hx hb dX2_pass_1 (by decide) ?_
  refine lv_sipush (v := 400) hx hb dX2_pass_2 (by decide) ?_
  refine kx_do0 (st1 := [.int (b2 (inn many (1 : Int32) (400 : Int32)))]) (kx_cs (As := [.int many, .int (1 : Int32), .int (400 : Int32)]) (rest := []) hF hG hw hS hl.1 (c_X2_isWithin l hfl D cy base ad n nc g many (1 : Int32) (400 : Int32) ) gX2_pass_X2_isWithin rfl rfl rfl hd_X2_isWithin ⟨Nat.le_of_ble_eq_true rfl, Nat.le_of_ble_eq_true rfl⟩ rfl rfl (Nat.le_of_ble_eq_true rfl) dX2_pass_5 ⟨Nat.le_of_ble_eq_true rfl, Nat.le_of_ble_eq_true rfl⟩) hS rfl (fun H locs hw hS => ?_)
  refine kb_ne (tgt := 21) hx hb dX2_pass_8 (by decide) (fun c_8 => ?_) (fun c_8 => ?_)
  · refine lv_aload_n hx hb dX2_pass_21 rfl (lv_at hl 0 rfl) ?_
    refine kx_getL (v := .int (g 0 10)) hx hb hts hown hG hw i2 10 (by decide) f_47 rfl dX2_pass_22 ?_
    refine lv_iload_n hx hb dX2_pass_25 rfl (lv_at hl 1 rfl) ?_
    refine lv_iadd hx hb dX2_pass_26 ?_
    refine lv_sipush (v := 9999) hx hb dX2_pass_27 (by decide) ?_
    refine lv_icmp_le (tgt := 43) hx hb dX2_pass_30 (by decide) (fun c_30 => ?_) (fun c_30 => ?_)
    · obtain ⟨mm, hmm, rfl⟩ := inn_ex c_8 (N := 400) rfl (by decide)
      have hcl_many : (nI mm).toNatClampNeg = mm := cl_nI (by omega)
      refine lv_iconst (v := 0) hx hb dX2_pass_43 (by decide) ?_
      refine lv_istore_n (lv' := [(2, .int (0 : Int32)), (0, .ref (ad 0)), (1, .int (nI mm))]) hx hb dX2_pass_44 rfl hl (by decide) rfl (fun ls hl => ?_)
      have lp_45 : ∀ (nn k : Nat), k ≤ mm → mm < k + nn → ∀ (H : Heap) (locs : List Loc) (ls : Array Slot), kW D cy base ad n nc (cDays g n nc k) H → va_S (kA base) s.heap H locs → lv_has ls 3 [(2, .int (nI k)), (0, .ref (ad 0)), (1, .int (nI mm))] → W p l e (kR 7 1 6) s m args below meth c H locs 0 0 Q (F0 m 45 ls []) := by
        intro nn
        induction nn with
        | zero => intro k h1 h2; exact absurd h2 (by omega)
        | succ nn ih_45 =>
          intro k hk_k hkn_k H locs ls hw hS hl
          refine lv_iload_n hx hb dX2_pass_45 rfl (lv_at hl 0 rfl) ?_
          refine lv_iload_n hx hb dX2_pass_46 rfl (lv_at hl 2 rfl) ?_
          refine lv_icmp_ge (tgt := 74) hx hb dX2_pass_47 (by decide) (fun c_47 => ?_) (fun c_47 => ?_)
          · have e_k : k = mm := Nat.le_antisymm hk_k (le_nI (a := mm) (b := k) c_47 (by omega) (by omega))
            refine lv_aload_n hx hb dX2_pass_74 rfl (lv_at hl 1 rfl) ?_
            refine kx_getL (v := .int ((cDays g n nc k) 0 10)) hx hb hts hown hG hw i2 10 (by decide) f_47 rfl dX2_pass_75 ?_
            exact kx_retI hQ hx hb hr hlk hw hS (Nat.le_of_ble_eq_true rfl) (Nat.le_of_ble_eq_true rfl) dX2_pass_78 (kd_i (by first | (simp only [kd2, e23, c_8, decide_eq_true c_30, if_pos c_30, hcl_many, decide_eq_true c_47, if_pos c_47, e_k]; done) | (simp only [kd2, e23, c_8, decide_eq_true c_30, if_pos c_30, hcl_many, decide_eq_true c_47, if_pos c_47, e_k]; rfl) | (simp [kd2, e23, c_8, decide_eq_true c_30, if_pos c_30, hcl_many, decide_eq_true c_47, if_pos c_47, e_k]; done)) (by rw [e_k, hcl_many]) (by rw [e_k, hcl_many]))
          · have hlt_k : k < mm := lt_nI (a := mm) (b := k) c_47 (by omega) (by omega)
            refine lv_aload_n hx hb dX2_pass_50 rfl (lv_at hl 1 rfl) ?_
            refine lv_dup hx hb dX2_pass_51 rfl ?_
            refine kx_getL (v := .int ((cDays g n nc k) 0 10)) hx hb hts hown hG hw i2 10 (by decide) f_47 rfl dX2_pass_52 ?_
            refine lv_iconst (v := 1) hx hb dX2_pass_55 (by decide) ?_
            refine lv_iadd hx hb dX2_pass_56 ?_
            refine kx_putL (v := (((cDays g n nc k) 0 10) + (1 : Int32))) hx hb hts hown hG hw hS i2 10 (by decide) f_47 (by decide) rfl rfl rfl dX2_pass_57 (fun H locs hw hS => ?_)
            refine lv_aload_n hx hb dX2_pass_60 rfl (lv_at hl 1 rfl) ?_
            refine kx_do0 (st1 := []) (kx_cv (As := []) (rest := []) hF hG hw hS hl.1 kC_0 rfl (c_X2_bringBags l hfl D cy base ad n nc (sU (cDays g n nc k) 0 10 (((cDays g n nc k) 0 10) + (1 : Int32)))  (by intro j hj; rw [sU_row _ _ _ (by decide), cDays_row _ _ _ (by decide) (by decide) hn30]; exact hfr j hj) (by intro i hi; rw [sU_k _ _ _ _ (by omega)]; exact cDays_h (by omega) (hh i hi) k)) gX2_pass_X2_bringBags rfl rfl rfl hd_X2_bringBags ⟨Nat.le_of_ble_eq_true rfl, Nat.le_of_ble_eq_true rfl⟩ rfl rfl (Nat.le_of_ble_eq_true rfl) dX2_pass_61 ⟨Nat.le_of_ble_eq_true rfl, Nat.le_of_ble_eq_true rfl⟩) hS rfl (fun H locs hw hS => ?_)
            refine lv_aload_n hx hb dX2_pass_64 rfl (lv_at hl 1 rfl) ?_
            refine kx_do0 (st1 := []) (kx_cv (As := []) (rest := []) hF hG hw hS hl.1 kC_0 rfl (c_X2_eraseOldClaims l hfl D cy base ad n nc (cBag (sU (cDays g n nc k) 0 10 (((cDays g n nc k) 0 10) + (1 : Int32))) n 30)  (by intro j hj; rw [cBag_row _ _ (Or.inl (by decide)) hn30, sU_row _ _ _ (by decide), cDays_row _ _ _ (by decide) (by decide) hn30]; exact hcr j hj)) gX2_pass_X2_eraseOldClaims rfl rfl rfl hd_X2_eraseOldClaims ⟨Nat.le_of_ble_eq_true rfl, Nat.le_of_ble_eq_true rfl⟩ rfl rfl (Nat.le_of_ble_eq_true rfl) dX2_pass_65 ⟨Nat.le_of_ble_eq_true rfl, Nat.le_of_ble_eq_true rfl⟩) hS rfl (fun H locs hw hS => ?_)
            refine lv_iinc (v := (nI k + (1 : Int32))) (lv' := [(2, .int (nI k + (1 : Int32))), (0, .ref (ad 0)), (1, .int (nI mm))]) hx hb dX2_pass_68 hl (k := 0) rfl rfl (by decide) rfl (fun ls hl => ?_)
            refine lv_goto (tgt := 45) hx hb dX2_pass_71 (by decide) ?_
            exact ih_45 (k + 1) (by omega) (by omega) _ _ _ (show kW D cy base ad n nc (cDays g n nc (k + 1)) H from (show (cEr (cBag (sU (cDays g n nc k) 0 10 (((cDays g n nc k) 0 10) + (1 : Int32))) n 30) nc 20) = (cDays g n nc (k + 1)) from rfl) ▸ hw) hS (kx_lv (l := [(2, .int (nI k + (1 : Int32))), (0, .ref (ad 0)), (1, .int (nI mm))]) (l' := [(2, .int (nI (k + 1))), (0, .ref (ad 0)), (1, .int (nI mm))]) (lv_sub hl [0, 1, 2] rfl) (by rw [nI_1])) 
      exact lp_45 (mm + 1) 0 (by omega) (by omega) _ _ _ (hw) hS (kx_lv (l := [(2, .int (0 : Int32)), (0, .ref (ad 0)), (1, .int (nI mm))]) (l' := [(2, .int (nI 0)), (0, .ref (ad 0)), (1, .int (nI mm))]) (lv_sub hl [0, 1, 2] rfl) (rfl)) 
    · exact kx_throwIS (text := "beyond the last day") (is := 243) hQ hx hb hfl hown hG hw hS false (by decide +kernel) xk_IS xi_IS xa_IS (kEx_3 (by first | (simp only [kd2, e23, c_8, decide_eq_false c_30, if_neg c_30]; done) | (simp only [kd2, e23, c_8, decide_eq_false c_30, if_neg c_30]; rfl) | (simp [kd2, e23, c_8, decide_eq_false c_30, if_neg c_30]; done))) (hl.1.trans hml.symm) hT rfl dX2_pass_33 dX2_pass_36 dX2_pass_37 dX2_pass_39 dX2_pass_42 ⟨by decide, Nat.le_of_ble_eq_true rfl, Nat.le_of_ble_eq_true rfl, Nat.le_of_ble_eq_true rfl⟩ hlk (Nat.le_of_ble_eq_true rfl) (Nat.le_of_ble_eq_true rfl)
  · exact kx_throwIA (text := "days out of range") (is := 210) hQ hx hb hfl hown hG hw hS false (by decide +kernel) xk_IA xi_IA xa_IA (kEx_2 (by first | (simp only [kd2, e23, c_8]; done) | (simp only [kd2, e23, c_8]; rfl) | (simp [kd2, e23, c_8]; done))) (hl.1.trans hml.symm) hT rfl dX2_pass_11 dX2_pass_14 dX2_pass_15 dX2_pass_17 dX2_pass_20 ⟨by decide, Nat.le_of_ble_eq_true rfl, Nat.le_of_ble_eq_true rfl, Nat.le_of_ble_eq_true rfl⟩ hlk (Nat.le_of_ble_eq_true rfl) (Nat.le_of_ble_eq_true rfl)
theorem hd_X2_fit : yX2_fit.cls = RX2 ∧ yX2_fit.cls ≠ "java/lang/invoke/MethodHandle" ∧ yX2_fit.cls ≠ "java/lang/invoke/VarHandle" ∧ (parseMethodDescriptor yX2_fit.desc).map (fun d => d.parameters.length) = some 2 := by decide +kernel
set_option maxHeartbeats 4000000 in
set_option maxRecDepth 100000 in
theorem c_X2_fit (l : Launch) (hfl : l.stackTraces = false) (D : va_G) (cy : Nat → ClassId) (base : Nat → Prop) (ad : Nat → Nat) (n nc : Nat) (g : sg) (x : Int32) (y : Int32) (hfr : ∀ j, j < 30 → g 6 j = if j < n then 1 else 0) (hcr : ∀ j, j < 20 → g 7 j = if j < nc then 1 else 0) (hR : cR n nc g) : kM l yX2_fit wsX2_fit (kR 7 2 12) D cy base ad n nc g [.ref (ad 0), .int x, .int y] (kD (kd1 (isF n x && isF nc y) = 0) (some (.int (cSc g x.toNatClampNeg y.toNatClampNeg))) ad n nc g) (kEx (kd1 (isF n x && isF nc y))) 2 12 := by
  refine kx_meth (cc := cX2_fit) (maxL := 4) (ret := (some .int)) (by decide) rfl (Nat.le_of_ble_eq_true rfl) ?_
  intro p e s m args below meth c ls hx hb hr hml hown hts hlk hT hG hw0 hS0 hl Q H locs hQ hw hS hH0 hlocs0
  have hl : lv_has ls 4 [(0, .ref (ad 0)), (1, .int x), (2, .int y)] := hl
  have hown : s.vm.findClass RX2 = some m.cls := hown
  have hF : CallFix p m c cX2_fit 4 s args wsX2_fit RX2 := ⟨hx, hb, hml, hown, hts⟩
  have hn30 : n ≤ 30 := hw.2.2.1
  have hc20 : nc ≤ 20 := hw.2.2.2
  clear hw0 hS0 hH0 hlocs0
  refine lv_aload_n hx hb dX2_fit_0 rfl (lv_at hl 0 rfl) ?_
  refine lv_iload_n hx hb dX2_fit_1 rfl (lv_at hl 1 rfl) ?_
  refine kx_do (st1 := [.ref (ad (100 + 3 * x.toNatClampNeg))]) (kx_cv (As := [.int x]) (rest := []) hF hG hw hS hl.1 kC_0 rfl (c_X2_foundAt l hfl D cy base ad n nc g x (by first | assumption | omega | exact mR_9 (by assumption) _ _ | simp [sU, hfr, hcr, hR])) gX2_fit_X2_foundAt rfl rfl rfl hd_X2_foundAt ⟨Nat.le_of_ble_eq_true rfl, Nat.le_of_ble_eq_true rfl⟩ rfl rfl (Nat.le_of_ble_eq_true rfl) dX2_fit_2 ⟨Nat.le_of_ble_eq_true rfl, Nat.le_of_ble_eq_true rfl⟩) hS rfl (fun E9 ce9 q9 H locs hX9 hw hS hc9 hv9 hcl9 => kx_out hQ hT hlk hw hS (kEx_to hX9 (by cases h9 : isF n x <;> simp [rq, kd1, h9])) hc9 hv9 hcl9 (Nat.le_of_ble_eq_true rfl) (Nat.le_of_ble_eq_true rfl)) (fun ok_2 H locs hw hS => ?_)
  obtain ⟨i_x, hi_x, rfl⟩ := isF_ex ok_2 hn30
  have hcl_x : (nI i_x).toNatClampNeg = i_x := cl_nI (by omega)
  rw [hcl_x]
  refine lv_astore_n (lv' := [(3, .ref (ad (100 + 3 * i_x))), (0, .ref (ad 0)), (1, .int (nI i_x)), (2, .int y)]) hx hb dX2_fit_5 rfl hl (by decide) rfl (fun ls hl => ?_)
  refine lv_aload_n hx hb dX2_fit_6 rfl (lv_at hl 1 rfl) ?_
  refine lv_aload_n hx hb dX2_fit_7 rfl (lv_at hl 0 rfl) ?_
  refine lv_aload_n hx hb dX2_fit_8 rfl (lv_at hl 1 rfl) ?_
  refine lv_iload_n hx hb dX2_fit_9 rfl (lv_at hl 3 rfl) ?_
  refine kx_do (st1 := [.ref (ad (200 + y.toNatClampNeg)), .ref (ad (100 + 3 * i_x)), .ref (ad 0)]) (kx_cv (As := [.int y]) (rest := [.ref (ad (100 + 3 * i_x)), .ref (ad 0)]) hF hG hw hS hl.1 kC_0 rfl (c_X2_claimAt l hfl D cy base ad n nc g y (by first | assumption | omega | exact mR_9 (by assumption) _ _ | simp [sU, hfr, hcr, hR])) gX2_fit_X2_claimAt rfl rfl rfl hd_X2_claimAt ⟨Nat.le_of_ble_eq_true rfl, Nat.le_of_ble_eq_true rfl⟩ rfl rfl (Nat.le_of_ble_eq_true rfl) dX2_fit_10 ⟨Nat.le_of_ble_eq_true rfl, Nat.le_of_ble_eq_true rfl⟩) hS rfl (fun E9 ce9 q9 H locs hX9 hw hS hc9 hv9 hcl9 => kx_out hQ hT hlk hw hS (kEx_to hX9 (by cases h9 : isF nc y <;> simp [rq, kd1, h9, ok_2, hcl_x])) hc9 hv9 hcl9 (Nat.le_of_ble_eq_true rfl) (Nat.le_of_ble_eq_true rfl)) (fun ok_10 H locs hw hS => ?_)
  obtain ⟨i_y, hi_y, rfl⟩ := isF_ex ok_10 (Nat.le_trans hc20 (by decide))
  have hcl_y : (nI i_y).toNatClampNeg = i_y := cl_nI (by omega)
  rw [hcl_y]
  refine kx_do0 (st1 := [.int (cSc g i_x i_y)]) (kx_cv (As := [.ref (ad (100 + 3 * i_x)), .ref (ad (200 + i_y))]) (rest := []) hF hG hw hS hl.1 kC_0 rfl (c_X2_scoreOf l hfl D cy base ad n nc g i_x i_y hi_x hi_y hR) gX2_fit_X2_scoreOf rfl rfl rfl hd_X2_scoreOf ⟨Nat.le_of_ble_eq_true rfl, Nat.le_of_ble_eq_true rfl⟩ rfl rfl (Nat.le_of_ble_eq_true rfl) dX2_fit_13 ⟨Nat.le_of_ble_eq_true rfl, Nat.le_of_ble_eq_true rfl⟩) hS rfl (fun H locs hw hS => ?_)
  exact kx_retI hQ hx hb hr hlk hw hS (Nat.le_of_ble_eq_true rfl) (Nat.le_of_ble_eq_true rfl) dX2_fit_16 (kd_i (by first | (simp only [kd1, ok_2, hcl_x, ok_10, hcl_y]; done) | (simp only [kd1, ok_2, hcl_x, ok_10, hcl_y]; rfl) | (simp [kd1, ok_2, hcl_x, ok_10, hcl_y]; done)) (by first | (simp only [hcl_x, hcl_y]; done) | (simp only [hcl_x, hcl_y]; rfl) | rfl) (rfl))
theorem hd_X2_isProven : yX2_isProven.cls = RX2 ∧ yX2_isProven.cls ≠ "java/lang/invoke/MethodHandle" ∧ yX2_isProven.cls ≠ "java/lang/invoke/VarHandle" ∧ (parseMethodDescriptor yX2_isProven.desc).map (fun d => d.parameters.length) = some 2 := by decide +kernel
set_option maxHeartbeats 4000000 in
set_option maxRecDepth 100000 in
theorem c_X2_isProven (l : Launch) (hfl : l.stackTraces = false) (D : va_G) (cy : Nat → ClassId) (base : Nat → Prop) (ad : Nat → Nat) (n nc : Nat) (g : sg) (x : Int32) (y : Int32) (hfr : ∀ j, j < 30 → g 6 j = if j < n then 1 else 0) (hcr : ∀ j, j < 20 → g 7 j = if j < nc then 1 else 0) (hR : cR n nc g) : kM l yX2_isProven wsX2_isProven (kR 7 2 12) D cy base ad n nc g [.ref (ad 0), .int x, .int y] (kD (kd1 (isF n x && isF nc y) = 0) (some (.int (b2 (cPrv g x.toNatClampNeg y.toNatClampNeg)))) ad n nc g) (kEx (kd1 (isF n x && isF nc y))) 2 12 := by
  refine kx_meth (cc := cX2_isProven) (maxL := 4) (ret := (some .boolean)) (by decide) rfl (Nat.le_of_ble_eq_true rfl) ?_
  intro p e s m args below meth c ls hx hb hr hml hown hts hlk hT hG hw0 hS0 hl Q H locs hQ hw hS hH0 hlocs0
  have hl : lv_has ls 4 [(0, .ref (ad 0)), (1, .int x), (2, .int y)] := hl
  have hown : s.vm.findClass RX2 = some m.cls := hown
  have hF : CallFix p m c cX2_isProven 4 s args wsX2_isProven RX2 := ⟨hx, hb, hml, hown, hts⟩
  have hn30 : n ≤ 30 := hw.2.2.1
  have hc20 : nc ≤ 20 := hw.2.2.2
  clear hw0 hS0 hH0 hlocs0
  refine lv_aload_n hx hb dX2_isProven_0 rfl (lv_at hl 0 rfl) ?_
  refine lv_iload_n hx hb dX2_isProven_1 rfl (lv_at hl 1 rfl) ?_
  refine kx_do (st1 := [.ref (ad (100 + 3 * x.toNatClampNeg))]) (kx_cv (As := [.int x]) (rest := []) hF hG hw hS hl.1 kC_0 rfl (c_X2_foundAt l hfl D cy base ad n nc g x (by first | assumption | omega | exact mR_9 (by assumption) _ _ | simp [sU, hfr, hcr, hR])) gX2_isProven_X2_foundAt rfl rfl rfl hd_X2_foundAt ⟨Nat.le_of_ble_eq_true rfl, Nat.le_of_ble_eq_true rfl⟩ rfl rfl (Nat.le_of_ble_eq_true rfl) dX2_isProven_2 ⟨Nat.le_of_ble_eq_true rfl, Nat.le_of_ble_eq_true rfl⟩) hS rfl (fun E9 ce9 q9 H locs hX9 hw hS hc9 hv9 hcl9 => kx_out hQ hT hlk hw hS (kEx_to hX9 (by cases h9 : isF n x <;> simp [rq, kd1, h9])) hc9 hv9 hcl9 (Nat.le_of_ble_eq_true rfl) (Nat.le_of_ble_eq_true rfl)) (fun ok_2 H locs hw hS => ?_)
  obtain ⟨i_x, hi_x, rfl⟩ := isF_ex ok_2 hn30
  have hcl_x : (nI i_x).toNatClampNeg = i_x := cl_nI (by omega)
  rw [hcl_x]
  refine lv_astore_n (lv' := [(3, .ref (ad (100 + 3 * i_x))), (0, .ref (ad 0)), (1, .int (nI i_x)), (2, .int y)]) hx hb dX2_isProven_5 rfl hl (by decide) rfl (fun ls hl => ?_)
  refine lv_aload_n hx hb dX2_isProven_6 rfl (lv_at hl 1 rfl) ?_
  refine lv_iload_n hx hb dX2_isProven_7 rfl (lv_at hl 3 rfl) ?_
  refine kx_do (st1 := [.ref (ad (200 + y.toNatClampNeg))]) (kx_cv (As := [.int y]) (rest := []) hF hG hw hS hl.1 kC_0 rfl (c_X2_claimAt l hfl D cy base ad n nc g y (by first | assumption | omega | exact mR_9 (by assumption) _ _ | simp [sU, hfr, hcr, hR])) gX2_isProven_X2_claimAt rfl rfl rfl hd_X2_claimAt ⟨Nat.le_of_ble_eq_true rfl, Nat.le_of_ble_eq_true rfl⟩ rfl rfl (Nat.le_of_ble_eq_true rfl) dX2_isProven_8 ⟨Nat.le_of_ble_eq_true rfl, Nat.le_of_ble_eq_true rfl⟩) hS rfl (fun E9 ce9 q9 H locs hX9 hw hS hc9 hv9 hcl9 => kx_out hQ hT hlk hw hS (kEx_to hX9 (by cases h9 : isF nc y <;> simp [rq, kd1, h9, ok_2, hcl_x])) hc9 hv9 hcl9 (Nat.le_of_ble_eq_true rfl) (Nat.le_of_ble_eq_true rfl)) (fun ok_8 H locs hw hS => ?_)
  obtain ⟨i_y, hi_y, rfl⟩ := isF_ex ok_8 (Nat.le_trans hc20 (by decide))
  have hcl_y : (nI i_y).toNatClampNeg = i_y := cl_nI (by omega)
  rw [hcl_y]
  refine lv_aload_n hx hb dX2_isProven_11 rfl (lv_at hl 0 rfl) ?_
  refine kx_do0 (st1 := [.int (b2 (cPrv g i_x i_y))]) (kx_cv (As := [.ref (ad (100 + 3 * i_x))]) (rest := []) hF hG hw hS hl.1 (kC_C (by first | assumption | omega)) rfl (c_X0_proves l hfl D cy base ad n nc g i_y i_x hi_x hi_y hR) gX2_isProven_X0_proves rfl rfl rfl hd_X0_proves ⟨Nat.le_of_ble_eq_true rfl, Nat.le_of_ble_eq_true rfl⟩ rfl rfl (Nat.le_of_ble_eq_true rfl) dX2_isProven_12 ⟨Nat.le_of_ble_eq_true rfl, Nat.le_of_ble_eq_true rfl⟩) hS rfl (fun H locs hw hS => ?_)
  exact kx_retZ hQ hx hb hr hlk hw hS (Nat.le_of_ble_eq_true rfl) (Nat.le_of_ble_eq_true rfl) dX2_isProven_15 (nar_b2 _) (kd_i (by first | (simp only [kd1, ok_2, hcl_x, ok_8, hcl_y]; done) | (simp only [kd1, ok_2, hcl_x, ok_8, hcl_y]; rfl) | (simp [kd1, ok_2, hcl_x, ok_8, hcl_y]; done)) (by first | (simp only [hcl_x, hcl_y]; done) | (simp only [hcl_x, hcl_y]; rfl) | rfl) (rfl))
theorem hd_X2_isDue : yX2_isDue.cls = RX2 ∧ yX2_isDue.cls ≠ "java/lang/invoke/MethodHandle" ∧ yX2_isDue.cls ≠ "java/lang/invoke/VarHandle" ∧ (parseMethodDescriptor yX2_isDue.desc).map (fun d => d.parameters.length) = some 1 := by decide +kernel
set_option maxHeartbeats 4000000 in
set_option maxRecDepth 100000 in
theorem c_X2_isDue (l : Launch) (hfl : l.stackTraces = false) (D : va_G) (cy : Nat → ClassId) (base : Nat → Prop) (ad : Nat → Nat) (n nc : Nat) (g : sg) (x : Int32) (hfr : ∀ j, j < 30 → g 6 j = if j < n then 1 else 0) (hcr : ∀ j, j < 20 → g 7 j = if j < nc then 1 else 0) (hR : cR n nc g) : kM l yX2_isDue wsX2_isDue (kR 7 1 6) D cy base ad n nc g [.ref (ad 0), .int x] (kD (kd1 (isF n x) = 0) (some (.int (b2 (cOver g nc x.toNatClampNeg)))) ad n nc g) (kEx (kd1 (isF n x))) 1 6 := by
  refine kx_meth (cc := cX2_isDue) (maxL := 2) (ret := (some .boolean)) (by decide) rfl (Nat.le_of_ble_eq_true rfl) ?_
  intro p e s m args below meth c ls hx hb hr hml hown hts hlk hT hG hw0 hS0 hl Q H locs hQ hw hS hH0 hlocs0
  have hl : lv_has ls 2 [(0, .ref (ad 0)), (1, .int x)] := hl
  have hown : s.vm.findClass RX2 = some m.cls := hown
  have hF : CallFix p m c cX2_isDue 2 s args wsX2_isDue RX2 := ⟨hx, hb, hml, hown, hts⟩
  have hn30 : n ≤ 30 := hw.2.2.1
  have hc20 : nc ≤ 20 := hw.2.2.2
  clear hw0 hS0 hH0 hlocs0
  refine lv_aload_n hx hb dX2_isDue_0 rfl (lv_at hl 0 rfl) ?_
  refine lv_aload_n hx hb dX2_isDue_1 rfl (lv_at hl 0 rfl) ?_
  refine lv_iload_n hx hb dX2_isDue_2 rfl (lv_at hl 1 rfl) ?_
  refine kx_do (st1 := [.ref (ad (100 + 3 * x.toNatClampNeg)), .ref (ad 0)]) (kx_cv (As := [.int x]) (rest := [.ref (ad 0)]) hF hG hw hS hl.1 kC_0 rfl (c_X2_foundAt l hfl D cy base ad n nc g x (by first | assumption | omega | exact mR_9 (by assumption) _ _ | simp [sU, hfr, hcr, hR])) gX2_isDue_X2_foundAt rfl rfl rfl hd_X2_foundAt ⟨Nat.le_of_ble_eq_true rfl, Nat.le_of_ble_eq_true rfl⟩ rfl rfl (Nat.le_of_ble_eq_true rfl) dX2_isDue_3 ⟨Nat.le_of_ble_eq_true rfl, Nat.le_of_ble_eq_true rfl⟩) hS rfl (fun E9 ce9 q9 H locs hX9 hw hS hc9 hv9 hcl9 => kx_out hQ hT hlk hw hS (kEx_to hX9 (by cases h9 : isF n x <;> simp [rq, kd1, h9])) hc9 hv9 hcl9 (Nat.le_of_ble_eq_true rfl) (Nat.le_of_ble_eq_true rfl)) (fun ok_3 H locs hw hS => ?_)
  obtain ⟨i_x, hi_x, rfl⟩ := isF_ex ok_3 hn30
  have hcl_x : (nI i_x).toNatClampNeg = i_x := cl_nI (by omega)
  rw [hcl_x]
  refine kx_do0 (st1 := [.int (b2 (cOver g nc i_x))]) (kx_cv (As := [.ref (ad (100 + 3 * i_x))]) (rest := []) hF hG hw hS hl.1 kC_0 rfl (c_X2_isOver l hfl D cy base ad n nc g i_x hcr hi_x hR) gX2_isDue_X2_isOver rfl rfl rfl hd_X2_isOver ⟨Nat.le_of_ble_eq_true rfl, Nat.le_of_ble_eq_true rfl⟩ rfl rfl (Nat.le_of_ble_eq_true rfl) dX2_isDue_6 ⟨Nat.le_of_ble_eq_true rfl, Nat.le_of_ble_eq_true rfl⟩) hS rfl (fun H locs hw hS => ?_)
  exact kx_retZ hQ hx hb hr hlk hw hS (Nat.le_of_ble_eq_true rfl) (Nat.le_of_ble_eq_true rfl) dX2_isDue_9 (nar_b2 _) (kd_i (by first | (simp only [kd1, ok_3, hcl_x]; done) | (simp only [kd1, ok_3, hcl_x]; rfl) | (simp [kd1, ok_3, hcl_x]; done)) (by first | (simp only [hcl_x]; done) | (simp only [hcl_x]; rfl) | rfl) (rfl))
theorem hd_X2_ofFind : yX2_ofFind.cls = RX2 ∧ yX2_ofFind.cls ≠ "java/lang/invoke/MethodHandle" ∧ yX2_ofFind.cls ≠ "java/lang/invoke/VarHandle" ∧ (parseMethodDescriptor yX2_ofFind.desc).map (fun d => d.parameters.length) = some 2 := by decide +kernel
set_option maxHeartbeats 4000000 in
set_option maxRecDepth 100000 in
theorem c_X2_ofFind (l : Launch) (hfl : l.stackTraces = false) (D : va_G) (cy : Nat → ClassId) (base : Nat → Prop) (ad : Nat → Nat) (n nc : Nat) (g : sg) (x : Int32) (what : Int32) (hfr : ∀ j, j < 30 → g 6 j = if j < n then 1 else 0) : kM l yX2_ofFind wsX2_ofFind (kR 7 2 12) D cy base ad n nc g [.ref (ad 0), .int x, .int what] (kD (kd2 (isF n x) (inn what 0 4) = 0) (some (.int ((if what = nI 0 then g (100 + 3 * x.toNatClampNeg) 9 else if what = nI 1 then g (100 + 3 * x.toNatClampNeg) 10 else if what = nI 2 then g (100 + 3 * x.toNatClampNeg) 11 else if what = nI 3 then g (100 + 3 * x.toNatClampNeg) 8 else g (100 + 3 * x.toNatClampNeg) 7)))) ad n nc g) (kEx (kd2 (isF n x) (inn what 0 4))) 2 12 := by
  refine kx_meth (cc := cX2_ofFind) (maxL := 4) (ret := (some .int)) (by decide) rfl (Nat.le_of_ble_eq_true rfl) ?_
  intro p e s m args below meth c ls hx hb hr hml hown hts hlk hT hG hw0 hS0 hl Q H locs hQ hw hS hH0 hlocs0
  have hl : lv_has ls 4 [(0, .ref (ad 0)), (1, .int x), (2, .int what)] := hl
  have hown : s.vm.findClass RX2 = some m.cls := hown
  have hF : CallFix p m c cX2_ofFind 4 s args wsX2_ofFind RX2 := ⟨hx, hb, hml, hown, hts⟩
  have hn30 : n ≤ 30 := hw.2.2.1
  have hc20 : nc ≤ 20 := hw.2.2.2
  clear hw0 hS0 hH0 hlocs0
  have i1 : ∀ w ∈ wsX10, w ∈ wsX2_ofFind := by decide +kernel
  have f_126 := hts (.fieldLink RX2 126 "Lostroom$Found" "lastDay" "I") (by decide +kernel)
  have f_142 := hts (.fieldLink RX2 142 "Lostroom$Found" "state" "I") (by decide +kernel)
  have f_147 := hts (.fieldLink RX2 147 "Lostroom$Found" "words" "I") (by decide +kernel)
  have f_150 := hts (.fieldLink RX2 150 "Lostroom$Found" "room" "I") (by decide +kernel)
  have f_157 := hts (.fieldLink RX2 157 "Lostroom$Found" "hands" "I") (by decide +kernel)
  have xk_IA := hts (.classLink RX2 77 "java/lang/IllegalArgumentException") (by decide +kernel)
  have xi_IA := hts (.initialized "java/lang/IllegalArgumentException") (by decide +kernel)
  have xa_IA : ∀ w ∈ (vx_atS RX2 81 "java/lang/IllegalArgumentException" kNm).filter goodWord, w.before args s = true := fun w h => hts w ((by decide +kernel : ∀ w ∈ (vx_atS RX2 81 "java/lang/IllegalArgumentException" kNm).filter goodWord, w ∈ wsX2_ofFind) w h)
  refine lv_aload_n hx hb dX2_ofFind_0 rfl (lv_at hl 0 rfl) ?_
  refine lv_iload_n hx hb dX2_ofFind_1 rfl (lv_at hl 1 rfl) ?_
  refine kx_do (st1 := [.ref (ad (100 + 3 * x.toNatClampNeg))]) (kx_cv (As := [.int x]) (rest := []) hF hG hw hS hl.1 kC_0 rfl (c_X2_foundAt l hfl D cy base ad n nc g x (by first | assumption | omega | exact mR_9 (by assumption) _ _ | simp [sU, hfr])) gX2_ofFind_X2_foundAt rfl rfl rfl hd_X2_foundAt ⟨Nat.le_of_ble_eq_true rfl, Nat.le_of_ble_eq_true rfl⟩ rfl rfl (Nat.le_of_ble_eq_true rfl) dX2_ofFind_2 ⟨Nat.le_of_ble_eq_true rfl, Nat.le_of_ble_eq_true rfl⟩) hS rfl (fun E9 ce9 q9 H locs hX9 hw hS hc9 hv9 hcl9 => kx_out hQ hT hlk hw hS (kEx_to hX9 (by cases h9 : isF n x <;> simp [rq, kd2, h9])) hc9 hv9 hcl9 (Nat.le_of_ble_eq_true rfl) (Nat.le_of_ble_eq_true rfl)) (fun ok_2 H locs hw hS => ?_)
  obtain ⟨i_x, hi_x, rfl⟩ := isF_ex ok_2 hn30
  have hcl_x : (nI i_x).toNatClampNeg = i_x := cl_nI (by omega)
  rw [hcl_x]
  refine lv_astore_n (lv' := [(3, .ref (ad (100 + 3 * i_x))), (0, .ref (ad 0)), (1, .int (nI i_x)), (2, .int what)]) hx hb dX2_ofFind_5 rfl hl (by decide) rfl (fun ls hl => ?_)
  refine lv_iload_n hx hb dX2_ofFind_6 rfl (lv_at hl 3 rfl) ?_
  refine kx_sw (N := 4) (tgt := 65) hx hb dX2_ofFind_7 rfl (by decide) (by decide) (fun c_7 => ?_) (fun j9 hj9 c_7 => ?_)
  · exact kx_throwIA (text := "what out of range") (is := 273) hQ hx hb hfl hown hG hw hS true (by decide +kernel) xk_IA xi_IA xa_IA (kEx_2 (by first | (simp only [kd2, ok_2, hcl_x, c_7]; done) | (simp only [kd2, ok_2, show inn what 0 4 = false from ofw_f (M := 4) 4 (by decide) c_7]; rfl))) (hl.1.trans hml.symm) hT rfl dX2_ofFind_65 dX2_ofFind_68 dX2_ofFind_69 dX2_ofFind_72 dX2_ofFind_75 ⟨by decide, Nat.le_of_ble_eq_true rfl, Nat.le_of_ble_eq_true rfl, Nat.le_of_ble_eq_true rfl⟩ hlk (Nat.le_of_ble_eq_true rfl) (Nat.le_of_ble_eq_true rfl)
  · match j9, hj9 with
    | 0, _ =>
      refine ⟨33, 40, rfl, by decide, ?_⟩
      refine lv_aload_n hx hb dX2_ofFind_40 rfl (lv_at hl 0 rfl) ?_
      refine kx_getF (v := .int (g (100 + 3 * i_x) 9)) hx hb hts hown hG hw i1 i_x (by first | assumption | omega) 9 (by decide) f_142 rfl dX2_ofFind_41 ?_
      exact kx_retI hQ hx hb hr hlk hw hS (Nat.le_of_ble_eq_true rfl) (Nat.le_of_ble_eq_true rfl) dX2_ofFind_44 (kd_i (by first | (simp only [kd2, ok_2, hcl_x, c_7]; done) | (simp only [kd2, ok_2, hcl_x, c_7]; rfl) | (rw [c_7]; simp only [kd2, ok_2]; rfl)) (by simp only [hcl_x, ok_2, hcl_x, c_7]; first | done | rfl | simp [hcl_x, c_7]) (rfl))
    | 1, _ =>
      refine ⟨38, 45, rfl, by decide, ?_⟩
      refine lv_aload_n hx hb dX2_ofFind_45 rfl (lv_at hl 0 rfl) ?_
      refine kx_getF (v := .int (g (100 + 3 * i_x) 10)) hx hb hts hown hG hw i1 i_x (by first | assumption | omega) 10 (by decide) f_150 rfl dX2_ofFind_46 ?_
      exact kx_retI hQ hx hb hr hlk hw hS (Nat.le_of_ble_eq_true rfl) (Nat.le_of_ble_eq_true rfl) dX2_ofFind_49 (kd_i (by first | (simp only [kd2, ok_2, hcl_x, c_7]; done) | (simp only [kd2, ok_2, hcl_x, c_7]; rfl) | (rw [c_7]; simp only [kd2, ok_2]; rfl)) (by simp only [hcl_x, ok_2, hcl_x, c_7]; first | done | rfl | simp [hcl_x, c_7]) (rfl))
    | 2, _ =>
      refine ⟨43, 50, rfl, by decide, ?_⟩
      refine lv_aload_n hx hb dX2_ofFind_50 rfl (lv_at hl 0 rfl) ?_
      refine kx_getF (v := .int (g (100 + 3 * i_x) 11)) hx hb hts hown hG hw i1 i_x (by first | assumption | omega) 11 (by decide) f_126 rfl dX2_ofFind_51 ?_
      exact kx_retI hQ hx hb hr hlk hw hS (Nat.le_of_ble_eq_true rfl) (Nat.le_of_ble_eq_true rfl) dX2_ofFind_54 (kd_i (by first | (simp only [kd2, ok_2, hcl_x, c_7]; done) | (simp only [kd2, ok_2, hcl_x, c_7]; rfl) | (rw [c_7]; simp only [kd2, ok_2]; rfl)) (by simp only [hcl_x, ok_2, hcl_x, c_7]; first | done | rfl | simp [hcl_x, c_7]) (rfl))
    | 3, _ =>
      refine ⟨48, 55, rfl, by decide, ?_⟩
      refine lv_aload_n hx hb dX2_ofFind_55 rfl (lv_at hl 0 rfl) ?_
      refine kx_getF (v := .int (g (100 + 3 * i_x) 8)) hx hb hts hown hG hw i1 i_x (by first | assumption | omega) 8 (by decide) f_147 rfl dX2_ofFind_56 ?_
      exact kx_retI hQ hx hb hr hlk hw hS (Nat.le_of_ble_eq_true rfl) (Nat.le_of_ble_eq_true rfl) dX2_ofFind_59 (kd_i (by first | (simp only [kd2, ok_2, hcl_x, c_7]; done) | (simp only [kd2, ok_2, hcl_x, c_7]; rfl) | (rw [c_7]; simp only [kd2, ok_2]; rfl)) (by simp only [hcl_x, ok_2, hcl_x, c_7]; first | done | rfl | simp [hcl_x, c_7]) (rfl))
    | 4, _ =>
      refine ⟨53, 60, rfl, by decide, ?_⟩
      refine lv_aload_n hx hb dX2_ofFind_60 rfl (lv_at hl 0 rfl) ?_
      refine kx_getF (v := .int (g (100 + 3 * i_x) 7)) hx hb hts hown hG hw i1 i_x (by first | assumption | omega) 7 (by decide) f_157 rfl dX2_ofFind_61 ?_
      exact kx_retI hQ hx hb hr hlk hw hS (Nat.le_of_ble_eq_true rfl) (Nat.le_of_ble_eq_true rfl) dX2_ofFind_64 (kd_i (by first | (simp only [kd2, ok_2, hcl_x, c_7]; done) | (simp only [kd2, ok_2, hcl_x, c_7]; rfl) | (rw [c_7]; simp only [kd2, ok_2]; rfl)) (by simp only [hcl_x, ok_2, hcl_x, c_7]; first | done | rfl | simp [hcl_x, c_7]) (rfl))
    | j9 + 5, hj9 => omega
theorem hd_X2_hand : yX2_hand.cls = RX2 ∧ yX2_hand.cls ≠ "java/lang/invoke/MethodHandle" ∧ yX2_hand.cls ≠ "java/lang/invoke/VarHandle" ∧ (parseMethodDescriptor yX2_hand.desc).map (fun d => d.parameters.length) = some 3 := by decide +kernel
set_option maxHeartbeats 4000000 in
set_option maxRecDepth 100000 in
theorem c_X2_hand (l : Launch) (hfl : l.stackTraces = false) (D : va_G) (cy : Nat → ClassId) (base : Nat → Prop) (ad : Nat → Nat) (n nc : Nat) (g : sg) (x : Int32) (place : Int32) (isDay : Bool) (hfr : ∀ j, j < 30 → g 6 j = if j < n then 1 else 0) (hh : ∀ i, i < n → ∃ h : Nat, h ≤ 12 ∧ g (100 + 3 * i) 7 = nI h) : kM l yX2_hand wsX2_hand (kR 7 2 12) D cy base ad n nc g [.ref (ad 0), .int x, .int place, .int (b2 isDay)] (kD (kd1 (isF n x && inn place 0 (g (100 + 3 * x.toNatClampNeg) 7 - 1)) = 0) (some (.int ((if isDay = true then g (100 + 3 * x.toNatClampNeg + 2) place.toNatClampNeg else g (100 + 3 * x.toNatClampNeg + 1) place.toNatClampNeg)))) ad n nc g) (kEx (kd1 (isF n x && inn place 0 (g (100 + 3 * x.toNatClampNeg) 7 - 1)))) 2 12 := by
  refine kx_meth (cc := cX2_hand) (maxL := 5) (ret := (some .int)) (by decide) rfl (Nat.le_of_ble_eq_true rfl) ?_
  intro p e s m args below meth c ls hx hb hr hml hown hts hlk hT hG hw0 hS0 hl Q H locs hQ hw hS hH0 hlocs0
  have hl : lv_has ls 5 [(0, .ref (ad 0)), (1, .int x), (2, .int place), (3, .int (b2 isDay))] := hl
  have hown : s.vm.findClass RX2 = some m.cls := hown
  have hF : CallFix p m c cX2_hand 5 s args wsX2_hand RX2 := ⟨hx, hb, hml, hown, hts⟩
  have hn30 : n ≤ 30 := hw.2.2.1
  have hc20 : nc ≤ 20 := hw.2.2.2
  clear hw0 hS0 hH0 hlocs0
  have i1 : ∀ w ∈ wsX10, w ∈ wsX2_hand := by decide +kernel
  have f_157 := hts (.fieldLink RX2 157 "Lostroom$Found" "hands" "I") (by decide +kernel)
  have f_275 := hts (.fieldLink RX2 275 "Lostroom$Found" "handDays" "[I") (by decide +kernel)
  have f_278 := hts (.fieldLink RX2 278 "Lostroom$Found" "handRooms" "[I") (by decide +kernel)
  have xk_IO := hts (.classLink RX2 66 "java/lang/IndexOutOfBoundsException") (by decide +kernel)
  have xi_IO := hts (.initialized "java/lang/IndexOutOfBoundsException") (by decide +kernel)
  have xa_IO : ∀ w ∈ (vx_atS RX2 70 "java/lang/IndexOutOfBoundsException" kNm).filter goodWord, w.before args s = true := fun w h => hts w ((by decide +kernel : ∀ w ∈ (vx_atS RX2 70 "java/lang/IndexOutOfBoundsException" kNm).filter goodWord, w ∈ wsX2_hand) w h)
  refine lv_aload_n hx hb dX2_hand_0 rfl (lv_at hl 0 rfl) ?_
  refine lv_iload_n hx hb dX2_hand_1 rfl (lv_at hl 1 rfl) ?_
  refine kx_do (st1 := [.ref (ad (100 + 3 * x.toNatClampNeg))]) (kx_cv (As := [.int x]) (rest := []) hF hG hw hS hl.1 kC_0 rfl (c_X2_foundAt l hfl D cy base ad n nc g x (by first | assumption | omega | exact mR_9 (by assumption) _ _ | simp [sU, hfr, hh])) gX2_hand_X2_foundAt rfl rfl rfl hd_X2_foundAt ⟨Nat.le_of_ble_eq_true rfl, Nat.le_of_ble_eq_true rfl⟩ rfl rfl (Nat.le_of_ble_eq_true rfl) dX2_hand_2 ⟨Nat.le_of_ble_eq_true rfl, Nat.le_of_ble_eq_true rfl⟩) hS rfl (fun E9 ce9 q9 H locs hX9 hw hS hc9 hv9 hcl9 => kx_out hQ hT hlk hw hS (kEx_to hX9 (by cases h9 : isF n x <;> simp [rq, kd1, h9])) hc9 hv9 hcl9 (Nat.le_of_ble_eq_true rfl) (Nat.le_of_ble_eq_true rfl)) (fun ok_2 H locs hw hS => ?_)
  obtain ⟨i_x, hi_x, rfl⟩ := isF_ex ok_2 hn30
  have hcl_x : (nI i_x).toNatClampNeg = i_x := cl_nI (by omega)
  rw [hcl_x]
  refine lv_astore (lv' := [(4, .ref (ad (100 + 3 * i_x))), (0, .ref (ad 0)), (1, .int (nI i_x)), (2, .int place), (3, .int (b2 isDay))]) hx hb dX2_hand_5 hl (by decide) rfl (fun ls hl => ?_)
  obtain ⟨h, hh1, hh2⟩ := hh i_x hi_x
  refine lv_iload_n hx hb dX2_hand_7 rfl (lv_at hl 3 rfl) ?_
  refine lv_if_lt (tgt := 40) hx hb dX2_hand_8 (by decide) (fun c_8 => ?_) (fun c_8 => ?_)
  · exact kx_throwIO (text := "no such hand") (is := 281) hQ hx hb hfl hown hG hw hS true (by decide +kernel) xk_IO xi_IO xa_IO (kEx_1 (by first | (simp only [kd1, ok_2, hcl_x, inn_lt, decide_eq_true c_8]; rfl) | (simp only [kd1, ok_2, hcl_x, hd_f1 c_17 hh2 hh1]; rfl) | (simp only [kd1, ok_2, hcl_x, hd_f2 c_27 hh2 hh1]; rfl) | (simp only [kd1, ok_2, hcl_x, hd_f2 (Int32.not_lt.mp c_37) hh2 hh1]; rfl))) (hl.1.trans hml.symm) hT rfl dX2_hand_40 dX2_hand_43 dX2_hand_44 dX2_hand_47 dX2_hand_50 ⟨by decide, Nat.le_of_ble_eq_true rfl, Nat.le_of_ble_eq_true rfl, Nat.le_of_ble_eq_true rfl⟩ hlk (Nat.le_of_ble_eq_true rfl) (Nat.le_of_ble_eq_true rfl)
  · refine lv_iload_n hx hb dX2_hand_11 rfl (lv_at hl 3 rfl) ?_
    refine lv_aload hx hb dX2_hand_12 (lv_at hl 0 rfl) ?_
    refine kx_getF (v := .int (g (100 + 3 * i_x) 7)) hx hb hts hown hG hw i1 i_x (by first | assumption | omega) 7 (by decide) f_157 rfl dX2_hand_14 ?_
    refine lv_icmp_ge (tgt := 40) hx hb dX2_hand_17 (by decide) (fun c_17 => ?_) (fun c_17 => ?_)
    · exact kx_throwIO (text := "no such hand") (is := 281) hQ hx hb hfl hown hG hw hS true (by decide +kernel) xk_IO xi_IO xa_IO (kEx_1 (by first | (simp only [kd1, ok_2, hcl_x, inn_lt, decide_eq_true c_8]; rfl) | (simp only [kd1, ok_2, hcl_x, hd_f1 c_17 hh2 hh1]; rfl) | (simp only [kd1, ok_2, hcl_x, hd_f2 c_27 hh2 hh1]; rfl) | (simp only [kd1, ok_2, hcl_x, hd_f2 (Int32.not_lt.mp c_37) hh2 hh1]; rfl))) (hl.1.trans hml.symm) hT rfl dX2_hand_40 dX2_hand_43 dX2_hand_44 dX2_hand_47 dX2_hand_50 ⟨by decide, Nat.le_of_ble_eq_true rfl, Nat.le_of_ble_eq_true rfl, Nat.le_of_ble_eq_true rfl⟩ hlk (Nat.le_of_ble_eq_true rfl) (Nat.le_of_ble_eq_true rfl)
    · refine lv_iload_n hx hb dX2_hand_20 rfl (lv_at hl 3 rfl) ?_
      refine lv_aload hx hb dX2_hand_21 (lv_at hl 0 rfl) ?_
      refine kx_getF (v := .ref (ad (100 + 3 * i_x + 2))) hx hb hts hown hG hw i1 i_x (by first | assumption | omega) 6 (by decide) f_275 rfl dX2_hand_23 ?_
      refine kx_alen (v := 12) hx hb hG hw (kC_F2 (by first | assumption | omega) hw.2.2.1) 0 rfl rfl dX2_hand_26 ?_
      refine lv_icmp_ge (tgt := 40) hx hb dX2_hand_27 (by decide) (fun c_27 => ?_) (fun c_27 => ?_)
      · exact kx_throwIO (text := "no such hand") (is := 281) hQ hx hb hfl hown hG hw hS true (by decide +kernel) xk_IO xi_IO xa_IO (kEx_1 (by first | (simp only [kd1, ok_2, hcl_x, inn_lt, decide_eq_true c_8]; rfl) | (simp only [kd1, ok_2, hcl_x, hd_f1 c_17 hh2 hh1]; rfl) | (simp only [kd1, ok_2, hcl_x, hd_f2 c_27 hh2 hh1]; rfl) | (simp only [kd1, ok_2, hcl_x, hd_f2 (Int32.not_lt.mp c_37) hh2 hh1]; rfl))) (hl.1.trans hml.symm) hT rfl dX2_hand_40 dX2_hand_43 dX2_hand_44 dX2_hand_47 dX2_hand_50 ⟨by decide, Nat.le_of_ble_eq_true rfl, Nat.le_of_ble_eq_true rfl, Nat.le_of_ble_eq_true rfl⟩ hlk (Nat.le_of_ble_eq_true rfl) (Nat.le_of_ble_eq_true rfl)
      · refine lv_iload_n hx hb dX2_hand_30 rfl (lv_at hl 3 rfl) ?_
        refine lv_aload hx hb dX2_hand_31 (lv_at hl 0 rfl) ?_
        refine kx_getF (v := .ref (ad (100 + 3 * i_x + 1))) hx hb hts hown hG hw i1 i_x (by first | assumption | omega) 5 (by decide) f_278 rfl dX2_hand_33 ?_
        refine kx_alen (v := 12) hx hb hG hw (kC_F1 (by first | assumption | omega) hw.2.2.1) 0 rfl rfl dX2_hand_36 ?_
        refine lv_icmp_lt (tgt := 51) hx hb dX2_hand_37 (by decide) (fun c_37 => ?_) (fun c_37 => ?_)
        · have hpl := hd_c c_8 c_17 hh2 hh1
          refine lv_iload_n hx hb dX2_hand_51 rfl (lv_at hl 4 rfl) ?_
          have hj_72_0 : ∀ (H : Heap) (locs : List Loc) (ls : Array Slot), kW D cy base ad n nc g H → va_S (kA base) s.heap H locs → lv_has ls 5 [(4, .ref (ad (100 + 3 * i_x))), (0, .ref (ad 0)), (1, .int (nI i_x)), (2, .int place), (3, .int (b2 isDay))] → W p l e (kR 7 2 12) s m args below meth c H locs 1 6 Q (F0 m 72 ls [.int (if isDay = true then (g (100 + 3 * i_x + 2) place.toNatClampNeg) else (g (100 + 3 * i_x + 1) place.toNatClampNeg))]) := by
            intro H locs ls hw hS hl
            exact kx_retI hQ hx hb hr hlk hw hS (Nat.le_of_ble_eq_true rfl) (Nat.le_of_ble_eq_true rfl) dX2_hand_72 (kd_i (by simp only [kd1, ok_2, hcl_x, decide_eq_false c_8, if_neg c_8, decide_eq_false c_17, if_neg c_17, decide_eq_false c_27, if_neg c_27, decide_eq_true c_37, if_pos c_37, hpl]; rfl) (by first | (simp only [hcl_x]; done) | (simp only [hcl_x]; rfl) | rfl) (rfl))
          refine kb_eq (tgt := 65) hx hb dX2_hand_52 (by decide) (fun c_52 => ?_) (fun c_52 => ?_)
          · refine lv_aload hx hb dX2_hand_65 (lv_at hl 0 rfl) ?_
            refine kx_getF (v := .ref (ad (100 + 3 * i_x + 1))) hx hb hts hown hG hw i1 i_x (by first | assumption | omega) 5 (by decide) f_278 rfl dX2_hand_67 ?_
            refine lv_iload_n hx hb dX2_hand_70 rfl (lv_at hl 3 rfl) ?_
            refine kx_iald (v := (g (100 + 3 * i_x + 1) place.toNatClampNeg)) hx hb hG hw (kC_F1 (by first | assumption | omega) hw.2.2.1) place.toNatClampNeg rfl (ix_of c_8 c_27 rfl (by decide)) rfl dX2_hand_71 ?_
            exact kx_top (v := (if isDay = true then (g (100 + 3 * i_x + 2) place.toNatClampNeg) else (g (100 + 3 * i_x + 1) place.toNatClampNeg))) (by first | (simp only [bq, c_52]; done) | (simp only [bq, c_52]; rfl) | (simp [bq, c_52]; done)) (hj_72_0 _ _ _ hw hS hl)
          · refine lv_aload hx hb dX2_hand_55 (lv_at hl 0 rfl) ?_
            refine kx_getF (v := .ref (ad (100 + 3 * i_x + 2))) hx hb hts hown hG hw i1 i_x (by first | assumption | omega) 6 (by decide) f_275 rfl dX2_hand_57 ?_
            refine lv_iload_n hx hb dX2_hand_60 rfl (lv_at hl 3 rfl) ?_
            refine kx_iald (v := (g (100 + 3 * i_x + 2) place.toNatClampNeg)) hx hb hG hw (kC_F2 (by first | assumption | omega) hw.2.2.1) place.toNatClampNeg rfl (ix_of c_8 c_27 rfl (by decide)) rfl dX2_hand_61 ?_
            refine lv_goto (tgt := 72) hx hb dX2_hand_62 (by decide) ?_
            exact kx_top (v := (if isDay = true then (g (100 + 3 * i_x + 2) place.toNatClampNeg) else (g (100 + 3 * i_x + 1) place.toNatClampNeg))) (by first | (simp only [bq, c_52]; done) | (simp only [bq, c_52]; rfl) | (simp [bq, c_52]; done)) (hj_72_0 _ _ _ hw hS hl)
        · exact kx_throwIO (text := "no such hand") (is := 281) hQ hx hb hfl hown hG hw hS true (by decide +kernel) xk_IO xi_IO xa_IO (kEx_1 (by first | (simp only [kd1, ok_2, hcl_x, inn_lt, decide_eq_true c_8]; rfl) | (simp only [kd1, ok_2, hcl_x, hd_f1 c_17 hh2 hh1]; rfl) | (simp only [kd1, ok_2, hcl_x, hd_f2 c_27 hh2 hh1]; rfl) | (simp only [kd1, ok_2, hcl_x, hd_f2 (Int32.not_lt.mp c_37) hh2 hh1]; rfl))) (hl.1.trans hml.symm) hT rfl dX2_hand_40 dX2_hand_43 dX2_hand_44 dX2_hand_47 dX2_hand_50 ⟨by decide, Nat.le_of_ble_eq_true rfl, Nat.le_of_ble_eq_true rfl, Nat.le_of_ble_eq_true rfl⟩ hlk (Nat.le_of_ble_eq_true rfl) (Nat.le_of_ble_eq_true rfl)
theorem hd_X2_ofClaim : yX2_ofClaim.cls = RX2 ∧ yX2_ofClaim.cls ≠ "java/lang/invoke/MethodHandle" ∧ yX2_ofClaim.cls ≠ "java/lang/invoke/VarHandle" ∧ (parseMethodDescriptor yX2_ofClaim.desc).map (fun d => d.parameters.length) = some 2 := by decide +kernel
set_option maxHeartbeats 4000000 in
set_option maxRecDepth 100000 in
theorem c_X2_ofClaim (l : Launch) (hfl : l.stackTraces = false) (D : va_G) (cy : Nat → ClassId) (base : Nat → Prop) (ad : Nat → Nat) (n nc : Nat) (g : sg) (x : Int32) (what : Int32) (hcr : ∀ j, j < 20 → g 7 j = if j < nc then 1 else 0) : kM l yX2_ofClaim wsX2_ofClaim (kR 7 2 12) D cy base ad n nc g [.ref (ad 0), .int x, .int what] (kD (kd2 (isF nc x) (inn what 0 3) = 0) (some (.int ((if what = nI 0 then g (200 + x.toNatClampNeg) 7 else if what = nI 1 then g (200 + x.toNatClampNeg) 5 else if what = nI 2 then g (200 + x.toNatClampNeg) 6 else g (200 + x.toNatClampNeg) 8)))) ad n nc g) (kEx (kd2 (isF nc x) (inn what 0 3))) 2 12 := by
  refine kx_meth (cc := cX2_ofClaim) (maxL := 4) (ret := (some .int)) (by decide) rfl (Nat.le_of_ble_eq_true rfl) ?_
  intro p e s m args below meth c ls hx hb hr hml hown hts hlk hT hG hw0 hS0 hl Q H locs hQ hw hS hH0 hlocs0
  have hl : lv_has ls 4 [(0, .ref (ad 0)), (1, .int x), (2, .int what)] := hl
  have hown : s.vm.findClass RX2 = some m.cls := hown
  have hF : CallFix p m c cX2_ofClaim 4 s args wsX2_ofClaim RX2 := ⟨hx, hb, hml, hown, hts⟩
  have hn30 : n ≤ 30 := hw.2.2.1
  have hc20 : nc ≤ 20 := hw.2.2.2
  clear hw0 hS0 hH0 hlocs0
  have i0 : ∀ w ∈ wsX00, w ∈ wsX2_ofClaim := by decide +kernel
  have f_185 := hts (.fieldLink RX2 185 "Lostroom$Claim" "words" "I") (by decide +kernel)
  have f_186 := hts (.fieldLink RX2 186 "Lostroom$Claim" "told" "I") (by decide +kernel)
  have f_207 := hts (.fieldLink RX2 207 "Lostroom$Claim" "servedBy" "I") (by decide +kernel)
  have f_283 := hts (.fieldLink RX2 283 "Lostroom$Claim" "state" "I") (by decide +kernel)
  have xk_IA := hts (.classLink RX2 77 "java/lang/IllegalArgumentException") (by decide +kernel)
  have xi_IA := hts (.initialized "java/lang/IllegalArgumentException") (by decide +kernel)
  have xa_IA : ∀ w ∈ (vx_atS RX2 81 "java/lang/IllegalArgumentException" kNm).filter goodWord, w.before args s = true := fun w h => hts w ((by decide +kernel : ∀ w ∈ (vx_atS RX2 81 "java/lang/IllegalArgumentException" kNm).filter goodWord, w ∈ wsX2_ofClaim) w h)
  refine lv_aload_n hx hb dX2_ofClaim_0 rfl (lv_at hl 0 rfl) ?_
  refine lv_iload_n hx hb dX2_ofClaim_1 rfl (lv_at hl 1 rfl) ?_
  refine kx_do (st1 := [.ref (ad (200 + x.toNatClampNeg))]) (kx_cv (As := [.int x]) (rest := []) hF hG hw hS hl.1 kC_0 rfl (c_X2_claimAt l hfl D cy base ad n nc g x (by first | assumption | omega | exact mR_9 (by assumption) _ _ | simp [sU, hcr])) gX2_ofClaim_X2_claimAt rfl rfl rfl hd_X2_claimAt ⟨Nat.le_of_ble_eq_true rfl, Nat.le_of_ble_eq_true rfl⟩ rfl rfl (Nat.le_of_ble_eq_true rfl) dX2_ofClaim_2 ⟨Nat.le_of_ble_eq_true rfl, Nat.le_of_ble_eq_true rfl⟩) hS rfl (fun E9 ce9 q9 H locs hX9 hw hS hc9 hv9 hcl9 => kx_out hQ hT hlk hw hS (kEx_to hX9 (by cases h9 : isF nc x <;> simp [rq, kd2, h9])) hc9 hv9 hcl9 (Nat.le_of_ble_eq_true rfl) (Nat.le_of_ble_eq_true rfl)) (fun ok_2 H locs hw hS => ?_)
  obtain ⟨i_x, hi_x, rfl⟩ := isF_ex ok_2 (Nat.le_trans hc20 (by decide))
  have hcl_x : (nI i_x).toNatClampNeg = i_x := cl_nI (by omega)
  rw [hcl_x]
  refine lv_astore_n (lv' := [(3, .ref (ad (200 + i_x))), (0, .ref (ad 0)), (1, .int (nI i_x)), (2, .int what)]) hx hb dX2_ofClaim_5 rfl hl (by decide) rfl (fun ls hl => ?_)
  refine lv_iload_n hx hb dX2_ofClaim_6 rfl (lv_at hl 3 rfl) ?_
  refine kx_sw (N := 3) (tgt := 56) hx hb dX2_ofClaim_7 rfl (by decide) (by decide) (fun c_7 => ?_) (fun j9 hj9 c_7 => ?_)
  · exact kx_throwIA (text := "what out of range") (is := 273) hQ hx hb hfl hown hG hw hS true (by decide +kernel) xk_IA xi_IA xa_IA (kEx_2 (by first | (simp only [kd2, ok_2, hcl_x, c_7]; done) | (simp only [kd2, ok_2, show inn what 0 3 = false from ofw_f (M := 3) 3 (by decide) c_7]; rfl))) (hl.1.trans hml.symm) hT rfl dX2_ofClaim_56 dX2_ofClaim_59 dX2_ofClaim_60 dX2_ofClaim_63 dX2_ofClaim_66 ⟨by decide, Nat.le_of_ble_eq_true rfl, Nat.le_of_ble_eq_true rfl, Nat.le_of_ble_eq_true rfl⟩ hlk (Nat.le_of_ble_eq_true rfl) (Nat.le_of_ble_eq_true rfl)
  · match j9, hj9 with
    | 0, _ =>
      refine ⟨29, 36, rfl, by decide, ?_⟩
      refine lv_aload_n hx hb dX2_ofClaim_36 rfl (lv_at hl 0 rfl) ?_
      refine kx_getC (v := .int (g (200 + i_x) 7)) hx hb hts hown hG hw i0 i_x (by first | assumption | omega) 7 (by decide) f_283 rfl dX2_ofClaim_37 ?_
      exact kx_retI hQ hx hb hr hlk hw hS (Nat.le_of_ble_eq_true rfl) (Nat.le_of_ble_eq_true rfl) dX2_ofClaim_40 (kd_i (by first | (simp only [kd2, ok_2, hcl_x, c_7]; done) | (simp only [kd2, ok_2, hcl_x, c_7]; rfl) | (rw [c_7]; simp only [kd2, ok_2]; rfl)) (by simp only [hcl_x, ok_2, hcl_x, c_7]; first | done | rfl | simp [hcl_x, c_7]) (rfl))
    | 1, _ =>
      refine ⟨34, 41, rfl, by decide, ?_⟩
      refine lv_aload_n hx hb dX2_ofClaim_41 rfl (lv_at hl 0 rfl) ?_
      refine kx_getC (v := .int (g (200 + i_x) 5)) hx hb hts hown hG hw i0 i_x (by first | assumption | omega) 5 (by decide) f_185 rfl dX2_ofClaim_42 ?_
      exact kx_retI hQ hx hb hr hlk hw hS (Nat.le_of_ble_eq_true rfl) (Nat.le_of_ble_eq_true rfl) dX2_ofClaim_45 (kd_i (by first | (simp only [kd2, ok_2, hcl_x, c_7]; done) | (simp only [kd2, ok_2, hcl_x, c_7]; rfl) | (rw [c_7]; simp only [kd2, ok_2]; rfl)) (by simp only [hcl_x, ok_2, hcl_x, c_7]; first | done | rfl | simp [hcl_x, c_7]) (rfl))
    | 2, _ =>
      refine ⟨39, 46, rfl, by decide, ?_⟩
      refine lv_aload_n hx hb dX2_ofClaim_46 rfl (lv_at hl 0 rfl) ?_
      refine kx_getC (v := .int (g (200 + i_x) 6)) hx hb hts hown hG hw i0 i_x (by first | assumption | omega) 6 (by decide) f_186 rfl dX2_ofClaim_47 ?_
      exact kx_retI hQ hx hb hr hlk hw hS (Nat.le_of_ble_eq_true rfl) (Nat.le_of_ble_eq_true rfl) dX2_ofClaim_50 (kd_i (by first | (simp only [kd2, ok_2, hcl_x, c_7]; done) | (simp only [kd2, ok_2, hcl_x, c_7]; rfl) | (rw [c_7]; simp only [kd2, ok_2]; rfl)) (by simp only [hcl_x, ok_2, hcl_x, c_7]; first | done | rfl | simp [hcl_x, c_7]) (rfl))
    | 3, _ =>
      refine ⟨44, 51, rfl, by decide, ?_⟩
      refine lv_aload_n hx hb dX2_ofClaim_51 rfl (lv_at hl 0 rfl) ?_
      refine kx_getC (v := .int (g (200 + i_x) 8)) hx hb hts hown hG hw i0 i_x (by first | assumption | omega) 8 (by decide) f_207 rfl dX2_ofClaim_52 ?_
      exact kx_retI hQ hx hb hr hlk hw hS (Nat.le_of_ble_eq_true rfl) (Nat.le_of_ble_eq_true rfl) dX2_ofClaim_55 (kd_i (by first | (simp only [kd2, ok_2, hcl_x, c_7]; done) | (simp only [kd2, ok_2, hcl_x, c_7]; rfl) | (rw [c_7]; simp only [kd2, ok_2]; rfl)) (by simp only [hcl_x, ok_2, hcl_x, c_7]; first | done | rfl | simp [hcl_x, c_7]) (rfl))
    | j9 + 4, hj9 => omega
theorem hd_X2_money : yX2_money.cls = RX2 ∧ yX2_money.cls ≠ "java/lang/invoke/MethodHandle" ∧ yX2_money.cls ≠ "java/lang/invoke/VarHandle" ∧ (parseMethodDescriptor yX2_money.desc).map (fun d => d.parameters.length) = some 1 := by decide +kernel
set_option maxHeartbeats 4000000 in
set_option maxRecDepth 100000 in
theorem c_X2_money (l : Launch) (hfl : l.stackTraces = false) (D : va_G) (cy : Nat → ClassId) (base : Nat → Prop) (ad : Nat → Nat) (n nc : Nat) (g : sg) (what : Int32) : kM l yX2_money wsX2_money (kR 7 1 6) D cy base ad n nc g [.ref (ad 0), .int what] (kD (kd1 (inn what 0 2) = 0) (some (.int ((if what = nI 0 then g 0 12 else if what = nI 1 then g 0 13 else g 0 14)))) ad n nc g) (kEx (e2 (kd1 (inn what 0 2)))) 1 6 := by
  refine kx_meth (cc := cX2_money) (maxL := 2) (ret := (some .int)) (by decide) rfl (Nat.le_of_ble_eq_true rfl) ?_
  intro p e s m args below meth c ls hx hb hr hml hown hts hlk hT hG hw0 hS0 hl Q H locs hQ hw hS hH0 hlocs0
  have hl : lv_has ls 2 [(0, .ref (ad 0)), (1, .int what)] := hl
  have hown : s.vm.findClass RX2 = some m.cls := hown
  have hF : CallFix p m c cX2_money 2 s args wsX2_money RX2 := ⟨hx, hb, hml, hown, hts⟩
  have hn30 : n ≤ 30 := hw.2.2.1
  have hc20 : nc ≤ 20 := hw.2.2.2
  clear hw0 hS0 hH0 hlocs0
  have i2 : ∀ w ∈ wsX20, w ∈ wsX2_money := by decide +kernel
  have f_53 := hts (.fieldLink RX2 53 "Lostroom" "fees" "I") (by decide +kernel)
  have f_56 := hts (.fieldLink RX2 56 "Lostroom" "rewards" "I") (by decide +kernel)
  have f_59 := hts (.fieldLink RX2 59 "Lostroom" "proceeds" "I") (by decide +kernel)
  have xk_IA := hts (.classLink RX2 77 "java/lang/IllegalArgumentException") (by decide +kernel)
  have xi_IA := hts (.initialized "java/lang/IllegalArgumentException") (by decide +kernel)
  have xa_IA : ∀ w ∈ (vx_atS RX2 81 "java/lang/IllegalArgumentException" kNm).filter goodWord, w.before args s = true := fun w h => hts w ((by decide +kernel : ∀ w ∈ (vx_atS RX2 81 "java/lang/IllegalArgumentException" kNm).filter goodWord, w ∈ wsX2_money) w h)
  refine lv_iload_n hx hb dX2_money_0 rfl (lv_at hl 1 rfl) ?_
  refine kx_sw (N := 2) (tgt := 43) hx hb dX2_money_1 rfl (by decide) (by decide) (fun c_1 => ?_) (fun j9 hj9 c_1 => ?_)
  · exact kx_throwIA (text := "what out of range") (is := 273) hQ hx hb hfl hown hG hw hS true (by decide +kernel) xk_IA xi_IA xa_IA (kEx_2 (by first | (simp only [kd1, e2, show inn what 0 2 = false from ofw_f (M := 2) 2 (by decide) c_1]; rfl))) (hl.1.trans hml.symm) hT rfl dX2_money_43 dX2_money_46 dX2_money_47 dX2_money_50 dX2_money_53 ⟨by decide, Nat.le_of_ble_eq_true rfl, Nat.le_of_ble_eq_true rfl, Nat.le_of_ble_eq_true rfl⟩ hlk (Nat.le_of_ble_eq_true rfl) (Nat.le_of_ble_eq_true rfl)
  · match j9, hj9 with
    | 0, _ =>
      refine ⟨27, 28, rfl, by decide, ?_⟩
      refine lv_aload_n hx hb dX2_money_28 rfl (lv_at hl 0 rfl) ?_
      refine kx_getL (v := .int (g 0 12)) hx hb hts hown hG hw i2 12 (by decide) f_53 rfl dX2_money_29 ?_
      exact kx_retI hQ hx hb hr hlk hw hS (Nat.le_of_ble_eq_true rfl) (Nat.le_of_ble_eq_true rfl) dX2_money_32 (kd_i (by first | (simp only [kd1, e2, c_1]; done) | (simp only [kd1, e2, c_1]; rfl) | (rw [c_1]; rfl)) (by simp only [c_1]; first | done | rfl | simp [c_1]) (rfl))
    | 1, _ =>
      refine ⟨32, 33, rfl, by decide, ?_⟩
      refine lv_aload_n hx hb dX2_money_33 rfl (lv_at hl 0 rfl) ?_
      refine kx_getL (v := .int (g 0 13)) hx hb hts hown hG hw i2 13 (by decide) f_56 rfl dX2_money_34 ?_
      exact kx_retI hQ hx hb hr hlk hw hS (Nat.le_of_ble_eq_true rfl) (Nat.le_of_ble_eq_true rfl) dX2_money_37 (kd_i (by first | (simp only [kd1, e2, c_1]; done) | (simp only [kd1, e2, c_1]; rfl) | (rw [c_1]; rfl)) (by simp only [c_1]; first | done | rfl | simp [c_1]) (rfl))
    | 2, _ =>
      refine ⟨37, 38, rfl, by decide, ?_⟩
      refine lv_aload_n hx hb dX2_money_38 rfl (lv_at hl 0 rfl) ?_
      refine kx_getL (v := .int (g 0 14)) hx hb hts hown hG hw i2 14 (by decide) f_59 rfl dX2_money_39 ?_
      exact kx_retI hQ hx hb hr hlk hw hS (Nat.le_of_ble_eq_true rfl) (Nat.le_of_ble_eq_true rfl) dX2_money_42 (kd_i (by first | (simp only [kd1, e2, c_1]; done) | (simp only [kd1, e2, c_1]; rfl) | (rw [c_1]; rfl)) (by simp only [c_1]; first | done | rfl | simp [c_1]) (rfl))
    | j9 + 3, hj9 => omega
theorem hd_X2_audit : yX2_audit.cls = RX2 ∧ yX2_audit.cls ≠ "java/lang/invoke/MethodHandle" ∧ yX2_audit.cls ≠ "java/lang/invoke/VarHandle" ∧ (parseMethodDescriptor yX2_audit.desc).map (fun d => d.parameters.length) = some 1 := by decide +kernel
set_option maxHeartbeats 4000000 in
set_option maxRecDepth 100000 in
theorem c_X2_audit (l : Launch) (hfl : l.stackTraces = false) (D : va_G) (cy : Nat → ClassId) (base : Nat → Prop) (ad : Nat → Nat) (n nc : Nat) (g : sg) (room : Int32) (hfr : ∀ j, j < 30 → g 6 j = if j < n then 1 else 0) : kM l yX2_audit wsX2_audit (kR 7 1 6) D cy base ad n nc g [.ref (ad 0), .int room] (kD (kd1 (inn room 0 5) = 0) (some (.int (auC g room n 30))) ad n nc g) (kEx (kd1 (inn room 0 5))) 1 6 := by
  refine kx_meth (cc := cX2_audit) (maxL := 5) (ret := (some .int)) (by decide) rfl (Nat.le_of_ble_eq_true rfl) ?_
  intro p e s m args below meth c ls hx hb hr hml hown hts hlk hT hG hw0 hS0 hl Q H locs hQ hw hS hH0 hlocs0
  have hl : lv_has ls 5 [(0, .ref (ad 0)), (1, .int room)] := hl
  have hown : s.vm.findClass RX2 = some m.cls := hown
  have hF : CallFix p m c cX2_audit 5 s args wsX2_audit RX2 := ⟨hx, hb, hml, hown, hts⟩
  have hn30 : n ≤ 30 := hw.2.2.1
  have hc20 : nc ≤ 20 := hw.2.2.2
  clear hw0 hS0 hH0 hlocs0
  have i1 : ∀ w ∈ wsX10, w ∈ wsX2_audit := by decide +kernel
  have i2 : ∀ w ∈ wsX20, w ∈ wsX2_audit := by decide +kernel
  have f_27 := hts (.fieldLink RX2 27 "Lostroom" "finds" "[LLostroom$Found;") (by decide +kernel)
  have f_142 := hts (.fieldLink RX2 142 "Lostroom$Found" "state" "I") (by decide +kernel)
  have f_150 := hts (.fieldLink RX2 150 "Lostroom$Found" "room" "I") (by decide +kernel)
  refine lv_iload_n hx hb dX2_audit_0 rfl (lv_at hl 1 rfl) ?_
  refine kx_do (st1 := []) (kx_cs (As := [.int room]) (rest := []) hF hG hw hS hl.1 (c_X2_requireRoom l hfl D cy base ad n nc g room ) gX2_audit_X2_requireRoom rfl rfl rfl hd_X2_requireRoom ⟨Nat.le_of_ble_eq_true rfl, Nat.le_of_ble_eq_true rfl⟩ rfl rfl (Nat.le_of_ble_eq_true rfl) dX2_audit_1 ⟨Nat.le_of_ble_eq_true rfl, Nat.le_of_ble_eq_true rfl⟩) hS rfl (fun E9 ce9 q9 H locs hX9 hw hS hc9 hv9 hcl9 => kx_out hQ hT hlk hw hS (kEx_to hX9 (by cases h9 : inn room 0 5 <;> simp [rq, kd1, h9])) hc9 hv9 hcl9 (Nat.le_of_ble_eq_true rfl) (Nat.le_of_ble_eq_true rfl)) (fun ok_1 H locs hw hS => ?_)
  have v_room : vp_in room 6 := inn_vp (ok_1) (by decide)
  refine lv_iconst (v := 0) hx hb dX2_audit_4 (by decide) ?_
  refine lv_istore_n (lv' := [(2, .int (0 : Int32)), (0, .ref (ad 0)), (1, .int room)]) hx hb dX2_audit_5 rfl hl (by decide) rfl (fun ls hl => ?_)
  refine lv_iconst (v := 0) hx hb dX2_audit_6 (by decide) ?_
  refine lv_istore_n (lv' := [(3, .int (0 : Int32)), (2, .int (0 : Int32)), (0, .ref (ad 0)), (1, .int room)]) hx hb dX2_audit_7 rfl hl (by decide) rfl (fun ls hl => ?_)
  have lp_8 : ∀ (nn k : Nat), k ≤ 30 → 30 < k + nn → ∀ (H : Heap) (locs : List Loc) (ls : Array Slot), kW D cy base ad n nc g H → va_S (kA base) s.heap H locs → lv_has ls 5 [(3, .int (nI k)), (2, .int (auC g room n k)), (0, .ref (ad 0)), (1, .int room)] → W p l e (kR 7 1 6) s m args below meth c H locs 1 6 Q (F0 m 8 ls []) := by
    intro nn
    induction nn with
    | zero => intro k h1 h2; exact absurd h2 (by omega)
    | succ nn ih_8 =>
      intro k hk_k hkn_k H locs ls hw hS hl
      refine lv_iload_n hx hb dX2_audit_8 rfl (lv_at hl 0 rfl) ?_
      refine lv_aload_n hx hb dX2_audit_9 rfl (lv_at hl 2 rfl) ?_
      refine kx_getL (v := .ref (ad 6)) hx hb hts hown hG hw i2 5 (by decide) f_27 rfl dX2_audit_10 ?_
      refine kx_alen (v := 30) hx hb hG hw kC_6 1 rfl rfl dX2_audit_13 ?_
      refine lv_icmp_ge (tgt := 59) hx hb dX2_audit_14 (by decide) (fun c_14 => ?_) (fun c_14 => ?_)
      · have e_k : k = 30 := Nat.le_antisymm hk_k (le_nI (a := 30) (b := k) c_14 (by omega) (by omega))
        refine lv_iload_n hx hb dX2_audit_59 rfl (lv_at hl 1 rfl) ?_
        exact kx_retI hQ hx hb hr hlk hw hS (Nat.le_of_ble_eq_true rfl) (Nat.le_of_ble_eq_true rfl) dX2_audit_60 (kd_i (by first | (simp only [kd1, ok_1, decide_eq_true c_14, if_pos c_14, e_k]; done) | (simp only [kd1, ok_1, decide_eq_true c_14, if_pos c_14, e_k]; rfl) | (simp [kd1, ok_1, decide_eq_true c_14, if_pos c_14, e_k]; done)) (by rw [e_k]) (rfl))
      · have hlt_k : k < 30 := lt_nI (a := 30) (b := k) c_14 (by omega) (by omega)
        refine lv_aload_n hx hb dX2_audit_17 rfl (lv_at hl 2 rfl) ?_
        refine kx_getL (v := .ref (ad 6)) hx hb hts hown hG hw i2 5 (by decide) f_27 rfl dX2_audit_18 ?_
        refine lv_iload_n hx hb dX2_audit_21 rfl (lv_at hl 0 rfl) ?_
        have hq2 : k < 30 := by omega
        rcases Nat.lt_or_ge k n with ha1 | ha1
        · refine kx_aaldF (v := .ref (ad (100 + 3 * k))) hx hb hG hw k (nI_clamp (by omega)) (vp_in_nI (by omega) (by decide)) (by rw [hfr k hq2, if_pos ha1]; rfl) dX2_audit_22 ?_
          refine lv_astore (lv' := [(4, .ref (ad (100 + 3 * k))), (3, .int (nI k)), (2, .int (auC g room n k)), (0, .ref (ad 0)), (1, .int room)]) hx hb dX2_audit_23 hl (by decide) rfl (fun ls hl => ?_)
          refine lv_aload hx hb dX2_audit_25 (lv_at hl 0 rfl) ?_
          refine lv_ifnull hx hb dX2_audit_27 ?_
          refine lv_aload hx hb dX2_audit_30 (lv_at hl 0 rfl) ?_
          refine kx_getF (v := .int (g (100 + 3 * k) 9)) hx hb hts hown hG hw i1 k (by first | assumption | omega) 9 (by decide) f_142 rfl dX2_audit_32 ?_
          refine lv_if_ne (tgt := 53) hx hb dX2_audit_35 (by decide) (fun c_35 => ?_) (fun c_35 => ?_)
          · refine lv_iinc (v := (nI k + (1 : Int32))) (lv' := [(3, .int (nI k + (1 : Int32))), (4, .ref (ad (100 + 3 * k))), (2, .int (auC g room n k)), (0, .ref (ad 0)), (1, .int room)]) hx hb dX2_audit_53 hl (k := 1) rfl rfl (by decide) rfl (fun ls hl => ?_)
            refine lv_goto (tgt := 8) hx hb dX2_audit_56 (by decide) ?_
            exact ih_8 (k + 1) (by omega) (by omega) _ _ _ hw hS (kx_lv (l := [(3, .int (nI k + (1 : Int32))), (2, .int (auC g room n k)), (0, .ref (ad 0)), (1, .int room)]) (l' := [(3, .int (nI (k + 1))), (2, .int (auC g room n (k + 1))), (0, .ref (ad 0)), (1, .int room)]) (lv_sub hl [0, 2, 3, 4] rfl) (by first | (simp only [auC, nI_1, if_pos (show k < n by assumption), decide_eq_false c_14, if_neg c_14, decide_eq_false c_35, if_neg c_35]; done) | (simp only [auC, nI_1, if_neg (show ¬ k < n by omega), decide_eq_false c_14, if_neg c_14, decide_eq_false c_35, if_neg c_35]; done))) 
          · refine lv_aload hx hb dX2_audit_38 (lv_at hl 0 rfl) ?_
            refine kx_getF (v := .int (g (100 + 3 * k) 10)) hx hb hts hown hG hw i1 k (by first | assumption | omega) 10 (by decide) f_150 rfl dX2_audit_40 ?_
            refine lv_iload_n hx hb dX2_audit_43 rfl (lv_at hl 4 rfl) ?_
            refine lv_icmp_ne (tgt := 53) hx hb dX2_audit_44 (by decide) (fun c_44 => ?_) (fun c_44 => ?_)
            · refine lv_iinc (v := (nI k + (1 : Int32))) (lv' := [(3, .int (nI k + (1 : Int32))), (4, .ref (ad (100 + 3 * k))), (2, .int (auC g room n k)), (0, .ref (ad 0)), (1, .int room)]) hx hb dX2_audit_53 hl (k := 1) rfl rfl (by decide) rfl (fun ls hl => ?_)
              refine lv_goto (tgt := 8) hx hb dX2_audit_56 (by decide) ?_
              exact ih_8 (k + 1) (by omega) (by omega) _ _ _ hw hS (kx_lv (l := [(3, .int (nI k + (1 : Int32))), (2, .int (auC g room n k)), (0, .ref (ad 0)), (1, .int room)]) (l' := [(3, .int (nI (k + 1))), (2, .int (auC g room n (k + 1))), (0, .ref (ad 0)), (1, .int room)]) (lv_sub hl [0, 2, 3, 4] rfl) (by first | (simp only [auC, nI_1, if_pos (show k < n by assumption), decide_eq_false c_14, if_neg c_14, decide_eq_true c_35, if_pos c_35, decide_eq_false c_44, if_neg c_44]; done) | (simp only [auC, nI_1, if_neg (show ¬ k < n by omega), decide_eq_false c_14, if_neg c_14, decide_eq_true c_35, if_pos c_35, decide_eq_false c_44, if_neg c_44]; done))) 
            · refine lv_iload_n hx hb dX2_audit_47 rfl (lv_at hl 2 rfl) ?_
              refine lv_iconst (v := 1) hx hb dX2_audit_48 (by decide) ?_
              refine lv_iload_n hx hb dX2_audit_49 rfl (lv_at hl 1 rfl) ?_
              refine lv_ishl hx hb dX2_audit_50 ?_
              refine lv_ior hx hb dX2_audit_51 ?_
              refine lv_istore_n (lv' := [(2, .int (auC g room n k ||| ((1 : Int32) <<< (nI k &&& 31)))), (4, .ref (ad (100 + 3 * k))), (3, .int (nI k)), (0, .ref (ad 0)), (1, .int room)]) hx hb dX2_audit_52 rfl hl (by decide) rfl (fun ls hl => ?_)
              refine lv_iinc (v := (nI k + (1 : Int32))) (lv' := [(3, .int (nI k + (1 : Int32))), (2, .int (auC g room n k ||| ((1 : Int32) <<< (nI k &&& 31)))), (4, .ref (ad (100 + 3 * k))), (0, .ref (ad 0)), (1, .int room)]) hx hb dX2_audit_53 hl (k := 2) rfl rfl (by decide) rfl (fun ls hl => ?_)
              refine lv_goto (tgt := 8) hx hb dX2_audit_56 (by decide) ?_
              exact ih_8 (k + 1) (by omega) (by omega) _ _ _ hw hS (kx_lv (l := [(3, .int (nI k + (1 : Int32))), (2, .int (auC g room n k ||| ((1 : Int32) <<< (nI k &&& 31)))), (0, .ref (ad 0)), (1, .int room)]) (l' := [(3, .int (nI (k + 1))), (2, .int (auC g room n (k + 1))), (0, .ref (ad 0)), (1, .int room)]) (lv_sub hl [0, 1, 3, 4] rfl) (by first | (simp only [auC, nI_1, if_pos (show k < n by assumption), decide_eq_false c_14, if_neg c_14, decide_eq_true c_35, if_pos c_35, decide_eq_true c_44, if_pos c_44]; done) | (simp only [auC, nI_1, if_neg (show ¬ k < n by omega), decide_eq_false c_14, if_neg c_14, decide_eq_true c_35, if_pos c_35, decide_eq_true c_44, if_pos c_44]; done))) 
        · refine kx_aaldF (v := .null) hx hb hG hw k (nI_clamp (by omega)) (vp_in_nI (by omega) (by decide)) (by rw [hfr k hq2, if_neg (Nat.not_lt.mpr ha1)]; rfl) dX2_audit_22 ?_
          refine lv_astoreN (lv' := [(4, .null), (3, .int (nI k)), (2, .int (auC g room n k)), (0, .ref (ad 0)), (1, .int room)]) hx hb dX2_audit_23 hl (by decide) rfl (fun ls hl => ?_)
          refine lv_aloadN hx hb dX2_audit_25 (lv_at hl 0 rfl) ?_
          refine lv_ifnullN (tgt := 53) hx hb dX2_audit_27 (by decide) ?_
          refine lv_iinc (v := (nI k + (1 : Int32))) (lv' := [(3, .int (nI k + (1 : Int32))), (4, .null), (2, .int (auC g room n k)), (0, .ref (ad 0)), (1, .int room)]) hx hb dX2_audit_53 hl (k := 1) rfl rfl (by decide) rfl (fun ls hl => ?_)
          refine lv_goto (tgt := 8) hx hb dX2_audit_56 (by decide) ?_
          exact ih_8 (k + 1) (by omega) (by omega) _ _ _ hw hS (kx_lv (l := [(3, .int (nI k + (1 : Int32))), (2, .int (auC g room n k)), (0, .ref (ad 0)), (1, .int room)]) (l' := [(3, .int (nI (k + 1))), (2, .int (auC g room n (k + 1))), (0, .ref (ad 0)), (1, .int room)]) (lv_sub hl [0, 2, 3, 4] rfl) (by first | (simp only [auC, nI_1, if_pos (show k < n by assumption), decide_eq_false c_14, if_neg c_14]; done) | (simp only [auC, nI_1, if_neg (show ¬ k < n by omega), decide_eq_false c_14, if_neg c_14]; done))) 
  exact lp_8 (30 + 1) 0 (by omega) (by omega) _ _ _ hw hS (kx_lv (l := [(3, .int (0 : Int32)), (2, .int (0 : Int32)), (0, .ref (ad 0)), (1, .int room)]) (l' := [(3, .int (nI 0)), (2, .int (auC g room n 0)), (0, .ref (ad 0)), (1, .int room)]) (lv_sub hl [0, 1, 2, 3] rfl) (rfl)) 
theorem hd_X2_candidate : yX2_candidate.cls = RX2 ∧ yX2_candidate.cls ≠ "java/lang/invoke/MethodHandle" ∧ yX2_candidate.cls ≠ "java/lang/invoke/VarHandle" ∧ (parseMethodDescriptor yX2_candidate.desc).map (fun d => d.parameters.length) = some 2 := by decide +kernel
set_option maxHeartbeats 4000000 in
set_option maxRecDepth 100000 in
theorem c_X2_candidate (l : Launch) (hfl : l.stackTraces = false) (D : va_G) (cy : Nat → ClassId) (base : Nat → Prop) (ad : Nat → Nat) (n nc : Nat) (g : sg) (x : Int32) (place : Int32) (hfr : ∀ j, j < 30 → g 6 j = if j < n then 1 else 0) (hcr : ∀ j, j < 20 → g 7 j = if j < nc then 1 else 0) (hR : cR n nc g) : kM l yX2_candidate wsX2_candidate (kR 7 2 12) D cy base ad n nc g [.ref (ad 0), .int x, .int place] (kD (kd1 (isF nc x && !decide (place < 0)) = 0) (some (.int (fstI (cdB (cNS g n x.toNatClampNeg 30) place) 30))) ad n nc (cNS g n x.toNatClampNeg 30)) (kEx (kd1 (isF nc x && !decide (place < 0)))) 2 12 := by
  refine kx_meth (cc := cX2_candidate) (maxL := 5) (ret := (some .int)) (by decide) rfl (Nat.le_of_ble_eq_true rfl) ?_
  intro p e s m args below meth c ls hx hb hr hml hown hts hlk hT hG hw0 hS0 hl Q H locs hQ hw hS hH0 hlocs0
  have hl : lv_has ls 5 [(0, .ref (ad 0)), (1, .int x), (2, .int place)] := hl
  have hown : s.vm.findClass RX2 = some m.cls := hown
  have hF : CallFix p m c cX2_candidate 5 s args wsX2_candidate RX2 := ⟨hx, hb, hml, hown, hts⟩
  have hn30 : n ≤ 30 := hw.2.2.1
  have hc20 : nc ≤ 20 := hw.2.2.2
  clear hw0 hS0 hH0 hlocs0
  have i2 : ∀ w ∈ wsX20, w ∈ wsX2_candidate := by decide +kernel
  have f_37 := hts (.fieldLink RX2 37 "Lostroom" "scores" "[I") (by decide +kernel)
  have xk_IO := hts (.classLink RX2 66 "java/lang/IndexOutOfBoundsException") (by decide +kernel)
  have xi_IO := hts (.initialized "java/lang/IndexOutOfBoundsException") (by decide +kernel)
  have xa_IO : ∀ w ∈ (vx_atS RX2 70 "java/lang/IndexOutOfBoundsException" kNm).filter goodWord, w.before args s = true := fun w h => hts w ((by decide +kernel : ∀ w ∈ (vx_atS RX2 70 "java/lang/IndexOutOfBoundsException" kNm).filter goodWord, w ∈ wsX2_candidate) w h)
  refine lv_aload_n hx hb dX2_candidate_0 rfl (lv_at hl 0 rfl) ?_
  refine lv_iload_n hx hb dX2_candidate_1 rfl (lv_at hl 1 rfl) ?_
  refine kx_do (st1 := [.ref (ad (200 + x.toNatClampNeg))]) (kx_cv (As := [.int x]) (rest := []) hF hG hw hS hl.1 kC_0 rfl (c_X2_claimAt l hfl D cy base ad n nc g x (by first | assumption | omega | exact mR_9 (by assumption) _ _ | simp [sU, hfr, hcr, hR])) gX2_candidate_X2_claimAt rfl rfl rfl hd_X2_claimAt ⟨Nat.le_of_ble_eq_true rfl, Nat.le_of_ble_eq_true rfl⟩ rfl rfl (Nat.le_of_ble_eq_true rfl) dX2_candidate_2 ⟨Nat.le_of_ble_eq_true rfl, Nat.le_of_ble_eq_true rfl⟩) hS rfl (fun E9 ce9 q9 H locs hX9 hw hS hc9 hv9 hcl9 => kx_out hQ hT hlk hw hS (kEx_to hX9 (by cases h9 : isF nc x <;> simp [rq, kd1, h9])) hc9 hv9 hcl9 (Nat.le_of_ble_eq_true rfl) (Nat.le_of_ble_eq_true rfl)) (fun ok_2 H locs hw hS => ?_)
  obtain ⟨i_x, hi_x, rfl⟩ := isF_ex ok_2 (Nat.le_trans hc20 (by decide))
  have hcl_x : (nI i_x).toNatClampNeg = i_x := cl_nI (by omega)
  rw [hcl_x]
  refine lv_astore_n (lv' := [(3, .ref (ad (200 + i_x))), (0, .ref (ad 0)), (1, .int (nI i_x)), (2, .int place)]) hx hb dX2_candidate_5 rfl hl (by decide) rfl (fun ls hl => ?_)
  refine lv_iload_n hx hb dX2_candidate_6 rfl (lv_at hl 3 rfl) ?_
  refine lv_if_ge (tgt := 20) hx hb dX2_candidate_7 (by decide) (fun c_7 => ?_) (fun c_7 => ?_)
  · refine lv_aload_n hx hb dX2_candidate_20 rfl (lv_at hl 1 rfl) ?_
    refine lv_aload_n hx hb dX2_candidate_21 rfl (lv_at hl 0 rfl) ?_
    refine kx_do0 (st1 := [.int (cntB (askN g n i_x) 30)]) (kx_cv (As := [.ref (ad (200 + i_x))]) (rest := []) hF hG hw hS hl.1 kC_0 rfl (c_X2_noteScores l hfl D cy base ad n nc g i_x hfr hi_x hR) gX2_candidate_X2_noteScores rfl rfl rfl hd_X2_noteScores ⟨Nat.le_of_ble_eq_true rfl, Nat.le_of_ble_eq_true rfl⟩ rfl rfl (Nat.le_of_ble_eq_true rfl) dX2_candidate_22 ⟨Nat.le_of_ble_eq_true rfl, Nat.le_of_ble_eq_true rfl⟩) hS rfl (fun H locs hw hS => ?_)
    refine lv_pop hx hb dX2_candidate_25 rfl ?_
    refine lv_iconst (v := 0) hx hb dX2_candidate_26 (by decide) ?_
    refine lv_istore (lv' := [(4, .int (0 : Int32)), (3, .ref (ad (200 + i_x))), (0, .ref (ad 0)), (1, .int (nI i_x)), (2, .int place)]) hx hb dX2_candidate_27 hl (by decide) rfl (fun ls hl => ?_)
    have lp_29 : ∀ (nn k : Nat), k ≤ 30 → 30 < k + nn → ∀ (H : Heap) (locs : List Loc) (ls : Array Slot), kW D cy base ad n nc (cNS g n i_x 30) H → va_S (kA base) s.heap H locs → lv_has ls 5 [(4, .int (nI k)), (3, .ref (ad (200 + i_x))), (0, .ref (ad 0)), (1, .int (nI i_x)), (2, .int place)] → (∀ t, t < k → cdB (cNS g n i_x 30) place t = false) → W p l e (kR 7 2 12) s m args below meth c H locs 1 6 Q (F0 m 29 ls []) := by
      intro nn
      induction nn with
      | zero => intro k h1 h2; exact absurd h2 (by omega)
      | succ nn ih_29 =>
        intro k hk_k hkn_k H locs ls hw hS hl hnf
        refine lv_iload hx hb dX2_candidate_29 (lv_at hl 0 rfl) ?_
        refine lv_aload_n hx hb dX2_candidate_31 rfl (lv_at hl 2 rfl) ?_
        refine kx_getL (v := .ref (ad 8)) hx hb hts hown hG hw i2 7 (by decide) f_37 rfl dX2_candidate_32 ?_
        refine kx_alen (v := 30) hx hb hG hw (kC_I rfl) 0 rfl rfl dX2_candidate_35 ?_
        refine lv_icmp_ge (tgt := 69) hx hb dX2_candidate_36 (by decide) (fun c_36 => ?_) (fun c_36 => ?_)
        · have e_k : k = 30 := Nat.le_antisymm hk_k (le_nI (a := 30) (b := k) c_36 (by omega) (by omega))
          refine lv_iconst (v := -1) hx hb dX2_candidate_69 (by decide) ?_
          exact kx_retI hQ hx hb hr hlk hw hS (Nat.le_of_ble_eq_true rfl) (Nat.le_of_ble_eq_true rfl) dX2_candidate_70 (kd_i (by first | (simp only [kd1, ok_2, hcl_x, decide_eq_true c_7, if_pos c_7, decide_eq_true c_36, if_pos c_36, e_k]; done) | (simp only [kd1, ok_2, hcl_x, decide_eq_true c_7, if_pos c_7, decide_eq_true c_36, if_pos c_36, e_k]; rfl) | (simp [kd1, ok_2, hcl_x, decide_eq_true c_7, if_pos c_7, decide_eq_true c_36, if_pos c_36, e_k]; done)) (by simp only [hcl_x]; exact fst_none (fun t ht => hnf t (by omega))) (by simp only [hcl_x]))
        · have hlt_k : k < 30 := lt_nI (a := 30) (b := k) c_36 (by omega) (by omega)
          refine lv_aload_n hx hb dX2_candidate_39 rfl (lv_at hl 2 rfl) ?_
          refine kx_getL (v := .ref (ad 8)) hx hb hts hown hG hw i2 7 (by decide) f_37 rfl dX2_candidate_40 ?_
          refine lv_iload hx hb dX2_candidate_43 (lv_at hl 0 rfl) ?_
          refine kx_iald (v := ((cNS g n i_x 30) 8 k)) hx hb hG hw (kC_I rfl) k (nI_clamp (by omega)) (vp_in_nI (by omega) (by decide)) rfl dX2_candidate_45 ?_
          refine lv_iconst (v := -1) hx hb dX2_candidate_46 (by decide) ?_
          refine lv_icmp_eq (tgt := 63) hx hb dX2_candidate_47 (by decide) (fun c_47 => ?_) (fun c_47 => ?_)
          · refine lv_iinc (v := (nI k + (1 : Int32))) (lv' := [(4, .int (nI k + (1 : Int32))), (3, .ref (ad (200 + i_x))), (0, .ref (ad 0)), (1, .int (nI i_x)), (2, .int place)]) hx hb dX2_candidate_63 hl (k := 0) rfl rfl (by decide) rfl (fun ls hl => ?_)
            refine lv_goto (tgt := 29) hx hb dX2_candidate_66 (by decide) ?_
            exact ih_29 (k + 1) (by omega) (by omega) _ _ _ hw hS (kx_lv (l := [(4, .int (nI k + (1 : Int32))), (3, .ref (ad (200 + i_x))), (0, .ref (ad 0)), (1, .int (nI i_x)), (2, .int place)]) (l' := [(4, .int (nI (k + 1))), (3, .ref (ad (200 + i_x))), (0, .ref (ad 0)), (1, .int (nI i_x)), (2, .int place)]) (lv_sub hl [0, 1, 2, 3, 4] rfl) (by rw [nI_1])) (fun t h1 => by rcases lt_su h1 with q | q; exact hnf t q; subst q; first | (simp only [cdB, decide_eq_false c_36, if_neg c_36, decide_eq_true c_47, if_pos c_47]; done) | (simp only [cdB, decide_eq_false c_36, if_neg c_36, decide_eq_true c_47, if_pos c_47]; rfl) | (simp [cdB, decide_eq_false c_36, if_neg c_36, decide_eq_true c_47, if_pos c_47]; done))
          · refine lv_aload_n hx hb dX2_candidate_50 rfl (lv_at hl 2 rfl) ?_
            refine lv_iload hx hb dX2_candidate_51 (lv_at hl 0 rfl) ?_
            refine kx_do0 (st1 := [.int (cntB (cbB (cNS g n i_x 30) k) 30)]) (kx_cv (As := [.int (nI k)]) (rest := []) hF hG hw hS hl.1 kC_0 rfl (c_X2_countBetter l hfl D cy base ad n nc (cNS g n i_x 30) k (by omega)) gX2_candidate_X2_countBetter rfl rfl rfl hd_X2_countBetter ⟨Nat.le_of_ble_eq_true rfl, Nat.le_of_ble_eq_true rfl⟩ rfl rfl (Nat.le_of_ble_eq_true rfl) dX2_candidate_53 ⟨Nat.le_of_ble_eq_true rfl, Nat.le_of_ble_eq_true rfl⟩) hS rfl (fun H locs hw hS => ?_)
            refine lv_iload_n hx hb dX2_candidate_56 rfl (lv_at hl 4 rfl) ?_
            refine lv_icmp_ne (tgt := 63) hx hb dX2_candidate_57 (by decide) (fun c_57 => ?_) (fun c_57 => ?_)
            · refine lv_iinc (v := (nI k + (1 : Int32))) (lv' := [(4, .int (nI k + (1 : Int32))), (3, .ref (ad (200 + i_x))), (0, .ref (ad 0)), (1, .int (nI i_x)), (2, .int place)]) hx hb dX2_candidate_63 hl (k := 0) rfl rfl (by decide) rfl (fun ls hl => ?_)
              refine lv_goto (tgt := 29) hx hb dX2_candidate_66 (by decide) ?_
              exact ih_29 (k + 1) (by omega) (by omega) _ _ _ hw hS (kx_lv (l := [(4, .int (nI k + (1 : Int32))), (3, .ref (ad (200 + i_x))), (0, .ref (ad 0)), (1, .int (nI i_x)), (2, .int place)]) (l' := [(4, .int (nI (k + 1))), (3, .ref (ad (200 + i_x))), (0, .ref (ad 0)), (1, .int (nI i_x)), (2, .int place)]) (lv_sub hl [0, 1, 2, 3, 4] rfl) (by rw [nI_1])) (fun t h1 => by rcases lt_su h1 with q | q; exact hnf t q; subst q; first | (simp only [cdB, decide_eq_false c_36, if_neg c_36, decide_eq_false c_47, if_neg c_47, decide_eq_false c_57, if_neg c_57]; done) | (simp only [cdB, decide_eq_false c_36, if_neg c_36, decide_eq_false c_47, if_neg c_47, decide_eq_false c_57, if_neg c_57]; rfl) | (simp [cdB, decide_eq_false c_36, if_neg c_36, decide_eq_false c_47, if_neg c_47, decide_eq_false c_57, if_neg c_57]; done))
            · refine lv_iload hx hb dX2_candidate_60 (lv_at hl 0 rfl) ?_
              exact kx_retI hQ hx hb hr hlk hw hS (Nat.le_of_ble_eq_true rfl) (Nat.le_of_ble_eq_true rfl) dX2_candidate_62 (kd_i (by first | (simp only [kd1, ok_2, hcl_x, decide_eq_true c_7, if_pos c_7, decide_eq_false c_36, if_neg c_36, decide_eq_false c_47, if_neg c_47, decide_eq_true c_57, if_pos c_57]; done) | (simp only [kd1, ok_2, hcl_x, decide_eq_true c_7, if_pos c_7, decide_eq_false c_36, if_neg c_36, decide_eq_false c_47, if_neg c_47, decide_eq_true c_57, if_pos c_57]; rfl) | (simp [kd1, ok_2, hcl_x, decide_eq_true c_7, if_pos c_7, decide_eq_false c_36, if_neg c_36, decide_eq_false c_47, if_neg c_47, decide_eq_true c_57, if_pos c_57]; done)) (by simp only [hcl_x]; exact fst_at hnf (by first | (simp only [cdB, ok_2, hcl_x, decide_eq_true c_7, if_pos c_7, decide_eq_false c_36, if_neg c_36, decide_eq_false c_47, if_neg c_47, decide_eq_true c_57, if_pos c_57]; done) | (simp only [cdB, ok_2, hcl_x, decide_eq_true c_7, if_pos c_7, decide_eq_false c_36, if_neg c_36, decide_eq_false c_47, if_neg c_47, decide_eq_true c_57, if_pos c_57]; rfl) | (simp [cdB, ok_2, hcl_x, decide_eq_true c_7, if_pos c_7, decide_eq_false c_36, if_neg c_36, decide_eq_false c_47, if_neg c_47, decide_eq_true c_57, if_pos c_57]; done)) (by omega)) (by simp only [hcl_x]))
    exact lp_29 (30 + 1) 0 (by omega) (by omega) _ _ _ hw hS (kx_lv (l := [(4, .int (0 : Int32)), (3, .ref (ad (200 + i_x))), (0, .ref (ad 0)), (1, .int (nI i_x)), (2, .int place)]) (l' := [(4, .int (nI 0)), (3, .ref (ad (200 + i_x))), (0, .ref (ad 0)), (1, .int (nI i_x)), (2, .int place)]) (lv_sub hl [0, 1, 2, 3, 4] rfl) (rfl)) (fun t h1 => absurd h1 (by omega))
  · exact kx_throwIO (text := "no such place") (is := 255) hQ hx hb hfl hown hG hw hS false (by decide +kernel) xk_IO xi_IO xa_IO (kEx_1 (by first | (simp only [kd1, ok_2, hcl_x, decide_eq_false c_7, if_neg c_7]; done) | (simp only [kd1, ok_2, hcl_x, decide_eq_false c_7, if_neg c_7]; rfl) | (simp [kd1, ok_2, hcl_x, decide_eq_false c_7, if_neg c_7]; done))) (hl.1.trans hml.symm) hT rfl dX2_candidate_10 dX2_candidate_13 dX2_candidate_14 dX2_candidate_16 dX2_candidate_19 ⟨by decide, Nat.le_of_ble_eq_true rfl, Nat.le_of_ble_eq_true rfl, Nat.le_of_ble_eq_true rfl⟩ hlk (Nat.le_of_ble_eq_true rfl) (Nat.le_of_ble_eq_true rfl)
theorem hd_X2_question : yX2_question.cls = RX2 ∧ yX2_question.cls ≠ "java/lang/invoke/MethodHandle" ∧ yX2_question.cls ≠ "java/lang/invoke/VarHandle" ∧ (parseMethodDescriptor yX2_question.desc).map (fun d => d.parameters.length) = some 1 := by decide +kernel
set_option maxHeartbeats 4000000 in
set_option maxRecDepth 100000 in
theorem c_X2_question (l : Launch) (hfl : l.stackTraces = false) (D : va_G) (cy : Nat → ClassId) (base : Nat → Prop) (ad : Nat → Nat) (n nc : Nat) (g : sg) (x : Int32) (hfr : ∀ j, j < 30 → g 6 j = if j < n then 1 else 0) (hcr : ∀ j, j < 20 → g 7 j = if j < nc then 1 else 0) (hR : cR n nc g) : kM l yX2_question wsX2_question (kR 7 1 6) D cy base ad n nc g [.ref (ad 0), .int x] (kD (kd1 (isF nc x) = 0) (some (.int ((cQ (cNS g n x.toNatClampNeg 30) n (g (200 + x.toNatClampNeg) 5) (cntB (askN g n x.toNatClampNeg) 30) 24).1))) ad n nc (cNS g n x.toNatClampNeg 30)) (kEx (kd1 (isF nc x))) 1 6 := by
  refine kx_meth (cc := cX2_question) (maxL := 8) (ret := (some .int)) (by decide) rfl (Nat.le_of_ble_eq_true rfl) ?_
  intro p e s m args below meth c ls hx hb hr hml hown hts hlk hT hG hw0 hS0 hl Q H locs hQ hw hS hH0 hlocs0
  have hl : lv_has ls 8 [(0, .ref (ad 0)), (1, .int x)] := hl
  have hown : s.vm.findClass RX2 = some m.cls := hown
  have hF : CallFix p m c cX2_question 8 s args wsX2_question RX2 := ⟨hx, hb, hml, hown, hts⟩
  have hn30 : n ≤ 30 := hw.2.2.1
  have hc20 : nc ≤ 20 := hw.2.2.2
  clear hw0 hS0 hH0 hlocs0
  have i0 : ∀ w ∈ wsX00, w ∈ wsX2_question := by decide +kernel
  have f_185 := hts (.fieldLink RX2 185 "Lostroom$Claim" "words" "I") (by decide +kernel)
  have hmi := hts (.initialized "java/lang/Math") (by decide +kernel)
  have ms_abs := hts (.static Lib.Math.abs.name) (by decide +kernel)
  have mc_abs := hts (.code Lib.Math.abs.name Lib.Math.abs.code 1 (some .int)) (by decide +kernel)
  have m_267 := hts (.methodLink RX2 267 Lib.Math.abs.name) (by decide +kernel)
  refine lv_aload_n hx hb dX2_question_0 rfl (lv_at hl 0 rfl) ?_
  refine lv_iload_n hx hb dX2_question_1 rfl (lv_at hl 1 rfl) ?_
  refine kx_do (st1 := [.ref (ad (200 + x.toNatClampNeg))]) (kx_cv (As := [.int x]) (rest := []) hF hG hw hS hl.1 kC_0 rfl (c_X2_claimAt l hfl D cy base ad n nc g x (by first | assumption | omega | exact mR_9 (by assumption) _ _ | simp [sU, hfr, hcr, hR])) gX2_question_X2_claimAt rfl rfl rfl hd_X2_claimAt ⟨Nat.le_of_ble_eq_true rfl, Nat.le_of_ble_eq_true rfl⟩ rfl rfl (Nat.le_of_ble_eq_true rfl) dX2_question_2 ⟨Nat.le_of_ble_eq_true rfl, Nat.le_of_ble_eq_true rfl⟩) hS rfl (fun E9 ce9 q9 H locs hX9 hw hS hc9 hv9 hcl9 => kx_out hQ hT hlk hw hS (kEx_to hX9 (by cases h9 : isF nc x <;> simp [rq, kd1, h9])) hc9 hv9 hcl9 (Nat.le_of_ble_eq_true rfl) (Nat.le_of_ble_eq_true rfl)) (fun ok_2 H locs hw hS => ?_)
  obtain ⟨i_x, hi_x, rfl⟩ := isF_ex ok_2 (Nat.le_trans hc20 (by decide))
  have hcl_x : (nI i_x).toNatClampNeg = i_x := cl_nI (by omega)
  rw [hcl_x]
  refine lv_astore_n (lv' := [(2, .ref (ad (200 + i_x))), (0, .ref (ad 0)), (1, .int (nI i_x))]) hx hb dX2_question_5 rfl hl (by decide) rfl (fun ls hl => ?_)
  refine lv_aload_n hx hb dX2_question_6 rfl (lv_at hl 1 rfl) ?_
  refine lv_aload_n hx hb dX2_question_7 rfl (lv_at hl 0 rfl) ?_
  refine kx_do0 (st1 := [.int (cntB (askN g n i_x) 30)]) (kx_cv (As := [.ref (ad (200 + i_x))]) (rest := []) hF hG hw hS hl.1 kC_0 rfl (c_X2_noteScores l hfl D cy base ad n nc g i_x hfr hi_x hR) gX2_question_X2_noteScores rfl rfl rfl hd_X2_noteScores ⟨Nat.le_of_ble_eq_true rfl, Nat.le_of_ble_eq_true rfl⟩ rfl rfl (Nat.le_of_ble_eq_true rfl) dX2_question_8 ⟨Nat.le_of_ble_eq_true rfl, Nat.le_of_ble_eq_true rfl⟩) hS rfl (fun H locs hw hS => ?_)
  refine lv_istore_n (lv' := [(3, .int (cntB (askN g n i_x) 30)), (2, .ref (ad (200 + i_x))), (0, .ref (ad 0)), (1, .int (nI i_x))]) hx hb dX2_question_11 rfl hl (by decide) rfl (fun ls hl => ?_)
  refine lv_iconst (v := -1) hx hb dX2_question_12 (by decide) ?_
  refine lv_istore (lv' := [(4, .int (-1 : Int32)), (3, .int (cntB (askN g n i_x) 30)), (2, .ref (ad (200 + i_x))), (0, .ref (ad 0)), (1, .int (nI i_x))]) hx hb dX2_question_13 hl (by decide) rfl (fun ls hl => ?_)
  refine lv_iload_n hx hb dX2_question_15 rfl (lv_at hl 1 rfl) ?_
  refine lv_istore (lv' := [(5, .int (cntB (askN g n i_x) 30)), (4, .int (-1 : Int32)), (3, .int (cntB (askN g n i_x) 30)), (2, .ref (ad (200 + i_x))), (0, .ref (ad 0)), (1, .int (nI i_x))]) hx hb dX2_question_16 hl (by decide) rfl (fun ls hl => ?_)
  refine lv_iconst (v := 0) hx hb dX2_question_18 (by decide) ?_
  refine lv_istore (lv' := [(6, .int (0 : Int32)), (5, .int (cntB (askN g n i_x) 30)), (4, .int (-1 : Int32)), (3, .int (cntB (askN g n i_x) 30)), (2, .ref (ad (200 + i_x))), (0, .ref (ad 0)), (1, .int (nI i_x))]) hx hb dX2_question_19 hl (by decide) rfl (fun ls hl => ?_)
  have lp_21 : ∀ (nn w : Nat), w ≤ 24 → 24 < w + nn → ∀ (H : Heap) (locs : List Loc) (ls : Array Slot), kW D cy base ad n nc (cNS g n i_x 30) H → va_S (kA base) s.heap H locs → lv_has ls 8 [(6, .int (nI w)), (5, .int ((cQ (cNS g n i_x 30) n (g (200 + i_x) 5) (cntB (askN g n i_x) 30) w).2)), (4, .int ((cQ (cNS g n i_x 30) n (g (200 + i_x) 5) (cntB (askN g n i_x) 30) w).1)), (3, .int (cntB (askN g n i_x) 30)), (2, .ref (ad (200 + i_x))), (0, .ref (ad 0)), (1, .int (nI i_x))] → W p l e (kR 7 1 6) s m args below meth c H locs 1 6 Q (F0 m 21 ls []) := by
    intro nn
    induction nn with
    | zero => intro w h1 h2; exact absurd h2 (by omega)
    | succ nn ih_21 =>
      intro w hk_w hkn_w H locs ls hw hS hl
      refine lv_iload hx hb dX2_question_21 (lv_at hl 0 rfl) ?_
      refine lv_bipush (v := 24) hx hb dX2_question_23 (by decide) ?_
      refine lv_icmp_ge (tgt := 76) hx hb dX2_question_25 (by decide) (fun c_25 => ?_) (fun c_25 => ?_)
      · have e_w : w = 24 := Nat.le_antisymm hk_w (le_nI (a := 24) (b := w) c_25 (by omega) (by omega))
        refine lv_iload hx hb dX2_question_76 (lv_at hl 2 rfl) ?_
        exact kx_retI hQ hx hb hr hlk hw hS (Nat.le_of_ble_eq_true rfl) (Nat.le_of_ble_eq_true rfl) dX2_question_78 (kd_i (by first | (simp only [kd1, ok_2, hcl_x, decide_eq_true c_25, if_pos c_25, e_w]; done) | (simp only [kd1, ok_2, hcl_x, decide_eq_true c_25, if_pos c_25, e_w]; rfl) | (simp [kd1, ok_2, hcl_x, decide_eq_true c_25, if_pos c_25, e_w]; done)) (by rw [e_w]; simp only [hcl_x]) (by simp only [hcl_x]))
      · have hlt_w : w < 24 := lt_nI (a := 24) (b := w) c_25 (by omega) (by omega)
        refine lv_aload_n hx hb dX2_question_28 rfl (lv_at hl 4 rfl) ?_
        refine kx_getC (v := .int (g (200 + i_x) 5)) hx hb hts hown hG hw i0 i_x (by first | assumption | omega) 5 (by decide) f_185 (congrArg Value.int ((by rw [cNS_row _ _ _ _ (by omega)]))) dX2_question_29 ?_
        refine lv_iconst (v := 1) hx hb dX2_question_32 (by decide) ?_
        refine lv_iload hx hb dX2_question_33 (lv_at hl 0 rfl) ?_
        refine lv_ishl hx hb dX2_question_35 ?_
        refine lv_iand hx hb dX2_question_36 ?_
        refine lv_if_ne (tgt := 70) hx hb dX2_question_37 (by decide) (fun c_37 => ?_) (fun c_37 => ?_)
        · refine lv_iinc (v := (nI w + (1 : Int32))) (lv' := [(6, .int (nI w + (1 : Int32))), (5, .int ((cQ (cNS g n i_x 30) n (g (200 + i_x) 5) (cntB (askN g n i_x) 30) w).2)), (4, .int ((cQ (cNS g n i_x 30) n (g (200 + i_x) 5) (cntB (askN g n i_x) 30) w).1)), (3, .int (cntB (askN g n i_x) 30)), (2, .ref (ad (200 + i_x))), (0, .ref (ad 0)), (1, .int (nI i_x))]) hx hb dX2_question_70 hl (k := 0) rfl rfl (by decide) rfl (fun ls hl => ?_)
          refine lv_goto (tgt := 21) hx hb dX2_question_73 (by decide) ?_
          exact ih_21 (w + 1) (by omega) (by omega) _ _ _ hw hS (kx_lv (l := [(6, .int (nI w + (1 : Int32))), (5, .int ((cQ (cNS g n i_x 30) n (g (200 + i_x) 5) (cntB (askN g n i_x) 30) w).2)), (4, .int ((cQ (cNS g n i_x 30) n (g (200 + i_x) 5) (cntB (askN g n i_x) 30) w).1)), (3, .int (cntB (askN g n i_x) 30)), (2, .ref (ad (200 + i_x))), (0, .ref (ad 0)), (1, .int (nI i_x))]) (l' := [(6, .int (nI (w + 1))), (5, .int ((cQ (cNS g n i_x 30) n (g (200 + i_x) 5) (cntB (askN g n i_x) 30) (w + 1)).2)), (4, .int ((cQ (cNS g n i_x 30) n (g (200 + i_x) 5) (cntB (askN g n i_x) 30) (w + 1)).1)), (3, .int (cntB (askN g n i_x) 30)), (2, .ref (ad (200 + i_x))), (0, .ref (ad 0)), (1, .int (nI i_x))]) (lv_sub hl [0, 1, 2, 3, 4, 5, 6] rfl) (by rw [nI_1]; first | (rw [cQ_c c_37]; done) | (rw [cQ_a c_37 rfl c_59]; done) | (rw [cQ_b c_37 rfl c_59]; done) | (rw [cQ_b c_37 rfl c_59]; rfl))) 
        · refine lv_iconst (v := 2) hx hb dX2_question_40 (by decide) ?_
          refine lv_aload_n hx hb dX2_question_41 rfl (lv_at hl 5 rfl) ?_
          refine lv_iload hx hb dX2_question_42 (lv_at hl 0 rfl) ?_
          refine kx_do0 (st1 := [.int (cntB (nwB (cNS g n i_x 30) n w) 30), .int (2 : Int32)]) (kx_cv (As := [.int (nI w)]) (rest := [.int (2 : Int32)]) hF hG hw hS hl.1 kC_0 rfl (c_X2_countNotedWith l hfl D cy base ad n nc (cNS g n i_x 30) w (by intro j hj; rw [cNS_row _ _ _ _ (by decide)]; exact hfr j hj) (by omega)) gX2_question_X2_countNotedWith rfl rfl rfl hd_X2_countNotedWith ⟨Nat.le_of_ble_eq_true rfl, Nat.le_of_ble_eq_true rfl⟩ rfl rfl (Nat.le_of_ble_eq_true rfl) dX2_question_44 ⟨Nat.le_of_ble_eq_true rfl, Nat.le_of_ble_eq_true rfl⟩) hS rfl (fun H locs hw hS => ?_)
          refine lv_imul hx hb dX2_question_47 ?_
          refine lv_iload_n hx hb dX2_question_48 rfl (lv_at hl 3 rfl) ?_
          refine lv_isub hx hb dX2_question_49 ?_
          refine va_mabs hx hb (hml.trans hl.1.symm) hown m_267 ms_abs hmi mc_abs (by decide) (Nat.le_of_ble_eq_true rfl) (Nat.le_of_ble_eq_true rfl) (Nat.le_of_ble_eq_true rfl) dX2_question_50 ?_
          refine lv_istore (lv' := [(7, .int (if 0 ≤ (((2 : Int32) * (cntB (nwB (cNS g n i_x 30) n w) 30)) - (cntB (askN g n i_x) 30)) then (((2 : Int32) * (cntB (nwB (cNS g n i_x 30) n w) 30)) - (cntB (askN g n i_x) 30)) else 0 - (((2 : Int32) * (cntB (nwB (cNS g n i_x 30) n w) 30)) - (cntB (askN g n i_x) 30)))), (6, .int (nI w)), (5, .int ((cQ (cNS g n i_x 30) n (g (200 + i_x) 5) (cntB (askN g n i_x) 30) w).2)), (4, .int ((cQ (cNS g n i_x 30) n (g (200 + i_x) 5) (cntB (askN g n i_x) 30) w).1)), (3, .int (cntB (askN g n i_x) 30)), (2, .ref (ad (200 + i_x))), (0, .ref (ad 0)), (1, .int (nI i_x))]) hx hb dX2_question_53 hl (by decide) rfl (fun ls hl => ?_)
          refine lv_iload hx hb dX2_question_55 (lv_at hl 0 rfl) ?_
          refine lv_iload hx hb dX2_question_57 (lv_at hl 2 rfl) ?_
          refine lv_icmp_ge (tgt := 70) hx hb dX2_question_59 (by decide) (fun c_59 => ?_) (fun c_59 => ?_)
          · refine lv_iinc (v := (nI w + (1 : Int32))) (lv' := [(6, .int (nI w + (1 : Int32))), (7, .int (if 0 ≤ (((2 : Int32) * (cntB (nwB (cNS g n i_x 30) n w) 30)) - (cntB (askN g n i_x) 30)) then (((2 : Int32) * (cntB (nwB (cNS g n i_x 30) n w) 30)) - (cntB (askN g n i_x) 30)) else 0 - (((2 : Int32) * (cntB (nwB (cNS g n i_x 30) n w) 30)) - (cntB (askN g n i_x) 30)))), (5, .int ((cQ (cNS g n i_x 30) n (g (200 + i_x) 5) (cntB (askN g n i_x) 30) w).2)), (4, .int ((cQ (cNS g n i_x 30) n (g (200 + i_x) 5) (cntB (askN g n i_x) 30) w).1)), (3, .int (cntB (askN g n i_x) 30)), (2, .ref (ad (200 + i_x))), (0, .ref (ad 0)), (1, .int (nI i_x))]) hx hb dX2_question_70 hl (k := 1) rfl rfl (by decide) rfl (fun ls hl => ?_)
            refine lv_goto (tgt := 21) hx hb dX2_question_73 (by decide) ?_
            exact ih_21 (w + 1) (by omega) (by omega) _ _ _ hw hS (kx_lv (l := [(6, .int (nI w + (1 : Int32))), (5, .int ((cQ (cNS g n i_x 30) n (g (200 + i_x) 5) (cntB (askN g n i_x) 30) w).2)), (4, .int ((cQ (cNS g n i_x 30) n (g (200 + i_x) 5) (cntB (askN g n i_x) 30) w).1)), (3, .int (cntB (askN g n i_x) 30)), (2, .ref (ad (200 + i_x))), (0, .ref (ad 0)), (1, .int (nI i_x))]) (l' := [(6, .int (nI (w + 1))), (5, .int ((cQ (cNS g n i_x 30) n (g (200 + i_x) 5) (cntB (askN g n i_x) 30) (w + 1)).2)), (4, .int ((cQ (cNS g n i_x 30) n (g (200 + i_x) 5) (cntB (askN g n i_x) 30) (w + 1)).1)), (3, .int (cntB (askN g n i_x) 30)), (2, .ref (ad (200 + i_x))), (0, .ref (ad 0)), (1, .int (nI i_x))]) (lv_sub hl [0, 2, 3, 4, 5, 6, 7] rfl) (by rw [nI_1]; first | (rw [cQ_c c_37]; done) | (rw [cQ_a c_37 rfl c_59]; done) | (rw [cQ_b c_37 rfl c_59]; done) | (rw [cQ_b c_37 rfl c_59]; rfl))) 
          · refine lv_iload hx hb dX2_question_62 (lv_at hl 1 rfl) ?_
            refine lv_istore (lv' := [(4, .int (nI w)), (7, .int (if 0 ≤ (((2 : Int32) * (cntB (nwB (cNS g n i_x 30) n w) 30)) - (cntB (askN g n i_x) 30)) then (((2 : Int32) * (cntB (nwB (cNS g n i_x 30) n w) 30)) - (cntB (askN g n i_x) 30)) else 0 - (((2 : Int32) * (cntB (nwB (cNS g n i_x 30) n w) 30)) - (cntB (askN g n i_x) 30)))), (6, .int (nI w)), (5, .int ((cQ (cNS g n i_x 30) n (g (200 + i_x) 5) (cntB (askN g n i_x) 30) w).2)), (3, .int (cntB (askN g n i_x) 30)), (2, .ref (ad (200 + i_x))), (0, .ref (ad 0)), (1, .int (nI i_x))]) hx hb dX2_question_64 hl (by decide) rfl (fun ls hl => ?_)
            refine lv_iload hx hb dX2_question_66 (lv_at hl 1 rfl) ?_
            refine lv_istore (lv' := [(5, .int (if 0 ≤ (((2 : Int32) * (cntB (nwB (cNS g n i_x 30) n w) 30)) - (cntB (askN g n i_x) 30)) then (((2 : Int32) * (cntB (nwB (cNS g n i_x 30) n w) 30)) - (cntB (askN g n i_x) 30)) else 0 - (((2 : Int32) * (cntB (nwB (cNS g n i_x 30) n w) 30)) - (cntB (askN g n i_x) 30)))), (4, .int (nI w)), (7, .int (if 0 ≤ (((2 : Int32) * (cntB (nwB (cNS g n i_x 30) n w) 30)) - (cntB (askN g n i_x) 30)) then (((2 : Int32) * (cntB (nwB (cNS g n i_x 30) n w) 30)) - (cntB (askN g n i_x) 30)) else 0 - (((2 : Int32) * (cntB (nwB (cNS g n i_x 30) n w) 30)) - (cntB (askN g n i_x) 30)))), (6, .int (nI w)), (3, .int (cntB (askN g n i_x) 30)), (2, .ref (ad (200 + i_x))), (0, .ref (ad 0)), (1, .int (nI i_x))]) hx hb dX2_question_68 hl (by decide) rfl (fun ls hl => ?_)
            refine lv_iinc (v := (nI w + (1 : Int32))) (lv' := [(6, .int (nI w + (1 : Int32))), (5, .int (if 0 ≤ (((2 : Int32) * (cntB (nwB (cNS g n i_x 30) n w) 30)) - (cntB (askN g n i_x) 30)) then (((2 : Int32) * (cntB (nwB (cNS g n i_x 30) n w) 30)) - (cntB (askN g n i_x) 30)) else 0 - (((2 : Int32) * (cntB (nwB (cNS g n i_x 30) n w) 30)) - (cntB (askN g n i_x) 30)))), (4, .int (nI w)), (7, .int (if 0 ≤ (((2 : Int32) * (cntB (nwB (cNS g n i_x 30) n w) 30)) - (cntB (askN g n i_x) 30)) then (((2 : Int32) * (cntB (nwB (cNS g n i_x 30) n w) 30)) - (cntB (askN g n i_x) 30)) else 0 - (((2 : Int32) * (cntB (nwB (cNS g n i_x 30) n w) 30)) - (cntB (askN g n i_x) 30)))), (3, .int (cntB (askN g n i_x) 30)), (2, .ref (ad (200 + i_x))), (0, .ref (ad 0)), (1, .int (nI i_x))]) hx hb dX2_question_70 hl (k := 3) rfl rfl (by decide) rfl (fun ls hl => ?_)
            refine lv_goto (tgt := 21) hx hb dX2_question_73 (by decide) ?_
            exact ih_21 (w + 1) (by omega) (by omega) _ _ _ hw hS (kx_lv (l := [(6, .int (nI w + (1 : Int32))), (5, .int (if 0 ≤ (((2 : Int32) * (cntB (nwB (cNS g n i_x 30) n w) 30)) - (cntB (askN g n i_x) 30)) then (((2 : Int32) * (cntB (nwB (cNS g n i_x 30) n w) 30)) - (cntB (askN g n i_x) 30)) else 0 - (((2 : Int32) * (cntB (nwB (cNS g n i_x 30) n w) 30)) - (cntB (askN g n i_x) 30)))), (4, .int (nI w)), (3, .int (cntB (askN g n i_x) 30)), (2, .ref (ad (200 + i_x))), (0, .ref (ad 0)), (1, .int (nI i_x))]) (l' := [(6, .int (nI (w + 1))), (5, .int ((cQ (cNS g n i_x 30) n (g (200 + i_x) 5) (cntB (askN g n i_x) 30) (w + 1)).2)), (4, .int ((cQ (cNS g n i_x 30) n (g (200 + i_x) 5) (cntB (askN g n i_x) 30) (w + 1)).1)), (3, .int (cntB (askN g n i_x) 30)), (2, .ref (ad (200 + i_x))), (0, .ref (ad 0)), (1, .int (nI i_x))]) (lv_sub hl [0, 1, 2, 4, 5, 6, 7] rfl) (by rw [nI_1]; first | (rw [cQ_c c_37]; done) | (rw [cQ_a c_37 rfl c_59]; done) | (rw [cQ_b c_37 rfl c_59]; done) | (rw [cQ_b c_37 rfl c_59]; rfl))) 
  exact lp_21 (24 + 1) 0 (by omega) (by omega) _ _ _ hw hS (kx_lv (l := [(6, .int (0 : Int32)), (5, .int (cntB (askN g n i_x) 30)), (4, .int (-1 : Int32)), (3, .int (cntB (askN g n i_x) 30)), (2, .ref (ad (200 + i_x))), (0, .ref (ad 0)), (1, .int (nI i_x))]) (l' := [(6, .int (nI 0)), (5, .int ((cQ (cNS g n i_x 30) n (g (200 + i_x) 5) (cntB (askN g n i_x) 30) 0).2)), (4, .int ((cQ (cNS g n i_x 30) n (g (200 + i_x) 5) (cntB (askN g n i_x) 30) 0).1)), (3, .int (cntB (askN g n i_x) 30)), (2, .ref (ad (200 + i_x))), (0, .ref (ad 0)), (1, .int (nI i_x))]) (lv_sub hl [0, 1, 2, 3, 4, 5, 6] rfl) (rfl)) 
