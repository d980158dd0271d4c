/-! walks laid by wip/p35/kgen.py, kall.py -/
theorem hd_X2_isWithin : yX2_isWithin.cls ≠ "java/lang/invoke/MethodHandle" ∧ yX2_isWithin.cls ≠ "java/lang/invoke/VarHandle" ∧ (parseMethodDescriptor yX2_isWithin.desc).map (fun d => d.parameters.length) = some 3 := by decide +kernel
set_option maxHeartbeats 4000000 in
set_option maxRecDepth 100000 in
theorem c_X2_isWithin (l : Launch) (hfl : l.stackTraces = false) (D : va_G) (cy : Nat → ClassId) (base : Nat → Prop) (ad : Nat → Nat) (n nc : Nat) (g : sg) (v : Int32) (a : Int32) (b : Int32) : kM l yX2_isWithin wsX2_isWithin (kR 0 0 0) D cy base ad n nc g [.int v, .int a, .int b] (kD True (some (.int (b2 (inn v a b)))) ad n nc g) kNo 0 0 := by
  refine kx_meth (cc := cX2_isWithin) (maxL := 3) (ret := (some .boolean)) (by decide) rfl (Nat.le_of_ble_eq_true rfl) ?_
  intro p e s m args below meth c ls hx hb hr hml hown hts hlk hT hG hw0 hS0 hl Q H locs hQ hw hS hH0 hlocs0
  have hl : lv_has ls 3 [(0, .int v), (1, .int a), (2, .int b)] := hl
  have hown : s.vm.findClass RX2 = some m.cls := hown
  have hF : CallFix p m c cX2_isWithin 3 s args wsX2_isWithin RX2 := ⟨hx, hb, hml, hown, hts⟩
  have hn30 : n ≤ 30 := hw.2.2.1
  have hc20 : nc ≤ 20 := hw.2.2.2
  clear hw0 hS0 hH0 hlocs0
  refine lv_iload_n hx hb dX2_isWithin_0 rfl (lv_at hl 0 rfl) ?_
  refine lv_iload_n hx hb dX2_isWithin_1 rfl (lv_at hl 1 rfl) ?_
  have hj_15_0 : ∀ (H : Heap) (locs : List Loc) (ls : Array Slot), kW D cy base ad n nc g H → va_S (kA base) s.heap H locs → lv_has ls 3 [(0, .int v), (1, .int a), (2, .int b)] → W p l e (kR 0 0 0) s m args below meth c H locs 0 0 Q (F0 m 15 ls [.int (b2 ((!(decide (v < a))) && (!(decide (b < v)))))]) := by
    intro H locs ls hw hS hl
    exact kx_retZ hQ hx hb hr hlk hw hS (Nat.le_of_ble_eq_true rfl) (Nat.le_of_ble_eq_true rfl) dX2_isWithin_15 (nar_b2 _) (kd_i (trivial) (by rw [inn_lt]) (rfl))
  refine lv_icmp_lt (tgt := 14) hx hb dX2_isWithin_2 (by decide) (fun c_2 => ?_) (fun c_2 => ?_)
  · refine lv_iconst (v := 0) hx hb dX2_isWithin_14 (by decide) ?_
    exact kx_top (v := (b2 ((!(decide (v < a))) && (!(decide (b < v)))))) (by first | (simp only [bq, decide_eq_true c_2, if_pos c_2]; done) | (simp only [bq, decide_eq_true c_2, if_pos c_2]; rfl) | (simp [bq, decide_eq_true c_2, if_pos c_2]; done)) (hj_15_0 _ _ _ hw hS hl)
  · refine lv_iload_n hx hb dX2_isWithin_5 rfl (lv_at hl 0 rfl) ?_
    refine lv_iload_n hx hb dX2_isWithin_6 rfl (lv_at hl 2 rfl) ?_
    refine lv_icmp_gt (tgt := 14) hx hb dX2_isWithin_7 (by decide) (fun c_7 => ?_) (fun c_7 => ?_)
    · refine lv_iconst (v := 0) hx hb dX2_isWithin_14 (by decide) ?_
      exact kx_top (v := (b2 ((!(decide (v < a))) && (!(decide (b < v)))))) (by first | (simp only [bq, decide_eq_false c_2, if_neg c_2, decide_eq_true c_7, if_pos c_7]; done) | (simp only [bq, decide_eq_false c_2, if_neg c_2, decide_eq_true c_7, if_pos c_7]; rfl) | (simp [bq, decide_eq_false c_2, if_neg c_2, decide_eq_true c_7, if_pos c_7]; done)) (hj_15_0 _ _ _ hw hS hl)
    · refine lv_iconst (v := 1) hx hb dX2_isWithin_10 (by decide) ?_
      refine lv_goto (tgt := 15) hx hb dX2_isWithin_11 (by decide) ?_
      exact kx_top (v := (b2 ((!(decide (v < a))) && (!(decide (b < v)))))) (by first | (simp only [bq, decide_eq_false c_2, if_neg c_2, decide_eq_false c_7, if_neg c_7]; done) | (simp only [bq, decide_eq_false c_2, if_neg c_2, decide_eq_false c_7, if_neg c_7]; rfl) | (simp [bq, decide_eq_false c_2, if_neg c_2, decide_eq_false c_7, if_neg c_7]; done)) (hj_15_0 _ _ _ hw hS hl)
theorem hd_X2_requireKind : yX2_requireKind.cls ≠ "java/lang/invoke/MethodHandle" ∧ yX2_requireKind.cls ≠ "java/lang/invoke/VarHandle" ∧ (parseMethodDescriptor yX2_requireKind.desc).map (fun d => d.parameters.length) = some 1 := by decide +kernel
set_option maxHeartbeats 4000000 in
set_option maxRecDepth 100000 in
theorem c_X2_requireKind (l : Launch) (hfl : l.stackTraces = false) (D : va_G) (cy : Nat → ClassId) (base : Nat → Prop) (ad : Nat → Nat) (n nc : Nat) (g : sg) (k : Int32) : kM l yX2_requireKind wsX2_requireKind (kR 6 1 6) D cy base ad n nc g [.int k] (kD (inn k 0 7 = true) none ad n nc g) (kEx (rq (inn k 0 7) 1)) 1 6 := by
  refine kx_meth (cc := cX2_requireKind) (maxL := 1) (ret := none) (by decide) rfl (Nat.le_of_ble_eq_true rfl) ?_
  intro p e s m args below meth c ls hx hb hr hml hown hts hlk hT hG hw0 hS0 hl Q H locs hQ hw hS hH0 hlocs0
  have hl : lv_has ls 1 [(0, .int k)] := hl
  have hown : s.vm.findClass RX2 = some m.cls := hown
  have hF : CallFix p m c cX2_requireKind 1 s args wsX2_requireKind RX2 := ⟨hx, hb, hml, hown, hts⟩
  have hn30 : n ≤ 30 := hw.2.2.1
  have hc20 : nc ≤ 20 := hw.2.2.2
  clear hw0 hS0 hH0 hlocs0
  have xk_IO := hts (.classLink RX2 66 "java/lang/IndexOutOfBoundsException") (by decide +kernel)
  have xi_IO := hts (.initialized "java/lang/IndexOutOfBoundsException") (by decide +kernel)
  have xa_IO : ∀ w ∈ (vx_atS RX2 70 "java/lang/IndexOutOfBoundsException" kNm).filter goodWord, w.before args s = true := fun w h => hts w ((by decide +kernel : ∀ w ∈ (vx_atS RX2 70 "java/lang/IndexOutOfBoundsException" kNm).filter goodWord, w ∈ wsX2_requireKind) w h)
  refine lv_iload_n hx hb dX2_requireKind_0 rfl (lv_at hl 0 rfl) ?_
  refine lv_iconst (v := 0) hx hb dX2_requireKind_1 (by decide) ?_
  refine lv_bipush (v := 7) hx hb dX2_requireKind_2 (by decide) ?_
  refine kx_do0 (st1 := [.int (b2 (inn k (0 : Int32) (7 : Int32)))]) (kx_cs (As := [.int k, .int (0 : Int32), .int (7 : Int32)]) (rest := []) hF hG hw hS hl.1 (c_X2_isWithin l hfl D cy base ad n nc g k (0 : Int32) (7 : Int32) ) gX2_requireKind_X2_isWithin rfl rfl rfl hd_X2_isWithin ⟨Nat.le_of_ble_eq_true rfl, Nat.le_of_ble_eq_true rfl⟩ rfl rfl (Nat.le_of_ble_eq_true rfl) dX2_requireKind_4 ⟨Nat.le_of_ble_eq_true rfl, Nat.le_of_ble_eq_true rfl⟩) hS rfl (fun H locs hw hS => ?_)
  refine kb_ne (tgt := 20) hx hb dX2_requireKind_7 (by decide) (fun c_7 => ?_) (fun c_7 => ?_)
  · have v_k : vp_in k 8 := inn_vp (c_7) (by decide)
    exact kx_retV hQ hx hb hr hlk hw hS (Nat.le_of_ble_eq_true rfl) (Nat.le_of_ble_eq_true rfl) dX2_requireKind_20 (kd_v (c_7) (rfl))
  · exact kx_throwIO (text := "no such kind") (is := 68) hQ hx hb hfl hown hG hw hS false (by decide +kernel) xk_IO xi_IO xa_IO (kEx_1 (by first | (simp only [rq, c_7]; done) | (simp only [rq, c_7]; rfl) | (simp [rq, c_7]; done))) (hl.1.trans hml.symm) hT rfl dX2_requireKind_10 dX2_requireKind_13 dX2_requireKind_14 dX2_requireKind_16 dX2_requireKind_19 ⟨by decide, Nat.le_of_ble_eq_true rfl, Nat.le_of_ble_eq_true rfl, Nat.le_of_ble_eq_true rfl⟩ hlk (Nat.le_of_ble_eq_true rfl) (Nat.le_of_ble_eq_true rfl)
theorem hd_X2_requirePlace : yX2_requirePlace.cls ≠ "java/lang/invoke/MethodHandle" ∧ yX2_requirePlace.cls ≠ "java/lang/invoke/VarHandle" ∧ (parseMethodDescriptor yX2_requirePlace.desc).map (fun d => d.parameters.length) = some 1 := by decide +kernel
set_option maxHeartbeats 4000000 in
set_option maxRecDepth 100000 in
theorem c_X2_requirePlace (l : Launch) (hfl : l.stackTraces = false) (D : va_G) (cy : Nat → ClassId) (base : Nat → Prop) (ad : Nat → Nat) (n nc : Nat) (g : sg) (k : Int32) : kM l yX2_requirePlace wsX2_requirePlace (kR 6 1 6) D cy base ad n nc g [.int k] (kD (inn k 0 9 = true) none ad n nc g) (kEx (rq (inn k 0 9) 1)) 1 6 := by
  refine kx_meth (cc := cX2_requirePlace) (maxL := 1) (ret := none) (by decide) rfl (Nat.le_of_ble_eq_true rfl) ?_
  intro p e s m args below meth c ls hx hb hr hml hown hts hlk hT hG hw0 hS0 hl Q H locs hQ hw hS hH0 hlocs0
  have hl : lv_has ls 1 [(0, .int k)] := hl
  have hown : s.vm.findClass RX2 = some m.cls := hown
  have hF : CallFix p m c cX2_requirePlace 1 s args wsX2_requirePlace RX2 := ⟨hx, hb, hml, hown, hts⟩
  have hn30 : n ≤ 30 := hw.2.2.1
  have hc20 : nc ≤ 20 := hw.2.2.2
  clear hw0 hS0 hH0 hlocs0
  have xk_IO := hts (.classLink RX2 66 "java/lang/IndexOutOfBoundsException") (by decide +kernel)
  have xi_IO := hts (.initialized "java/lang/IndexOutOfBoundsException") (by decide +kernel)
  have xa_IO : ∀ w ∈ (vx_atS RX2 70 "java/lang/IndexOutOfBoundsException" kNm).filter goodWord, w.before args s = true := fun w h => hts w ((by decide +kernel : ∀ w ∈ (vx_atS RX2 70 "java/lang/IndexOutOfBoundsException" kNm).filter goodWord, w ∈ wsX2_requirePlace) w h)
  refine lv_iload_n hx hb dX2_requirePlace_0 rfl (lv_at hl 0 rfl) ?_
  refine lv_iconst (v := 0) hx hb dX2_requirePlace_1 (by decide) ?_
  refine lv_bipush (v := 9) hx hb dX2_requirePlace_2 (by decide) ?_
  refine kx_do0 (st1 := [.int (b2 (inn k (0 : Int32) (9 : Int32)))]) (kx_cs (As := [.int k, .int (0 : Int32), .int (9 : Int32)]) (rest := []) hF hG hw hS hl.1 (c_X2_isWithin l hfl D cy base ad n nc g k (0 : Int32) (9 : Int32) ) gX2_requirePlace_X2_isWithin rfl rfl rfl hd_X2_isWithin ⟨Nat.le_of_ble_eq_true rfl, Nat.le_of_ble_eq_true rfl⟩ rfl rfl (Nat.le_of_ble_eq_true rfl) dX2_requirePlace_4 ⟨Nat.le_of_ble_eq_true rfl, Nat.le_of_ble_eq_true rfl⟩) hS rfl (fun H locs hw hS => ?_)
  refine kb_ne (tgt := 20) hx hb dX2_requirePlace_7 (by decide) (fun c_7 => ?_) (fun c_7 => ?_)
  · have v_k : vp_in k 10 := inn_vp (c_7) (by decide)
    exact kx_retV hQ hx hb hr hlk hw hS (Nat.le_of_ble_eq_true rfl) (Nat.le_of_ble_eq_true rfl) dX2_requirePlace_20 (kd_v (c_7) (rfl))
  · exact kx_throwIO (text := "no such place") (is := 255) hQ hx hb hfl hown hG hw hS false (by decide +kernel) xk_IO xi_IO xa_IO (kEx_1 (by first | (simp only [rq, c_7]; done) | (simp only [rq, c_7]; rfl) | (simp [rq, c_7]; done))) (hl.1.trans hml.symm) hT rfl dX2_requirePlace_10 dX2_requirePlace_13 dX2_requirePlace_14 dX2_requirePlace_16 dX2_requirePlace_19 ⟨by decide, Nat.le_of_ble_eq_true rfl, Nat.le_of_ble_eq_true rfl, Nat.le_of_ble_eq_true rfl⟩ hlk (Nat.le_of_ble_eq_true rfl) (Nat.le_of_ble_eq_true rfl)
theorem hd_X2_requireRoom : yX2_requireRoom.cls ≠ "java/lang/invoke/MethodHandle" ∧ yX2_requireRoom.cls ≠ "java/lang/invoke/VarHandle" ∧ (parseMethodDescriptor yX2_requireRoom.desc).map (fun d => d.parameters.length) = some 1 := by decide +kernel
set_option maxHeartbeats 4000000 in
set_option maxRecDepth 100000 in
theorem c_X2_requireRoom (l : Launch) (hfl : l.stackTraces = false) (D : va_G) (cy : Nat → ClassId) (base : Nat → Prop) (ad : Nat → Nat) (n nc : Nat) (g : sg) (k : Int32) : kM l yX2_requireRoom wsX2_requireRoom (kR 6 1 6) D cy base ad n nc g [.int k] (kD (inn k 0 5 = true) none ad n nc g) (kEx (rq (inn k 0 5) 1)) 1 6 := by
  refine kx_meth (cc := cX2_requireRoom) (maxL := 1) (ret := none) (by decide) rfl (Nat.le_of_ble_eq_true rfl) ?_
  intro p e s m args below meth c ls hx hb hr hml hown hts hlk hT hG hw0 hS0 hl Q H locs hQ hw hS hH0 hlocs0
  have hl : lv_has ls 1 [(0, .int k)] := hl
  have hown : s.vm.findClass RX2 = some m.cls := hown
  have hF : CallFix p m c cX2_requireRoom 1 s args wsX2_requireRoom RX2 := ⟨hx, hb, hml, hown, hts⟩
  have hn30 : n ≤ 30 := hw.2.2.1
  have hc20 : nc ≤ 20 := hw.2.2.2
  clear hw0 hS0 hH0 hlocs0
  have xk_IO := hts (.classLink RX2 66 "java/lang/IndexOutOfBoundsException") (by decide +kernel)
  have xi_IO := hts (.initialized "java/lang/IndexOutOfBoundsException") (by decide +kernel)
  have xa_IO : ∀ w ∈ (vx_atS RX2 70 "java/lang/IndexOutOfBoundsException" kNm).filter goodWord, w.before args s = true := fun w h => hts w ((by decide +kernel : ∀ w ∈ (vx_atS RX2 70 "java/lang/IndexOutOfBoundsException" kNm).filter goodWord, w ∈ wsX2_requireRoom) w h)
  refine lv_iload_n hx hb dX2_requireRoom_0 rfl (lv_at hl 0 rfl) ?_
  refine lv_iconst (v := 0) hx hb dX2_requireRoom_1 (by decide) ?_
  refine lv_iconst (v := 5) hx hb dX2_requireRoom_2 (by decide) ?_
  refine kx_do0 (st1 := [.int (b2 (inn k (0 : Int32) (5 : Int32)))]) (kx_cs (As := [.int k, .int (0 : Int32), .int (5 : Int32)]) (rest := []) hF hG hw hS hl.1 (c_X2_isWithin l hfl D cy base ad n nc g k (0 : Int32) (5 : Int32) ) gX2_requireRoom_X2_isWithin rfl rfl rfl hd_X2_isWithin ⟨Nat.le_of_ble_eq_true rfl, Nat.le_of_ble_eq_true rfl⟩ rfl rfl (Nat.le_of_ble_eq_true rfl) dX2_requireRoom_3 ⟨Nat.le_of_ble_eq_true rfl, Nat.le_of_ble_eq_true rfl⟩) hS rfl (fun H locs hw hS => ?_)
  refine kb_ne (tgt := 20) hx hb dX2_requireRoom_6 (by decide) (fun c_6 => ?_) (fun c_6 => ?_)
  · have v_k : vp_in k 6 := inn_vp (c_6) (by decide)
    exact kx_retV hQ hx hb hr hlk hw hS (Nat.le_of_ble_eq_true rfl) (Nat.le_of_ble_eq_true rfl) dX2_requireRoom_20 (kd_v (c_6) (rfl))
  · exact kx_throwIO (text := "no such room") (is := 284) hQ hx hb hfl hown hG hw hS true (by decide +kernel) xk_IO xi_IO xa_IO (kEx_1 (by first | (simp only [rq, c_6]; done) | (simp only [rq, c_6]; rfl) | (simp [rq, c_6]; done))) (hl.1.trans hml.symm) hT rfl dX2_requireRoom_9 dX2_requireRoom_12 dX2_requireRoom_13 dX2_requireRoom_16 dX2_requireRoom_19 ⟨by decide, Nat.le_of_ble_eq_true rfl, Nat.le_of_ble_eq_true rfl, Nat.le_of_ble_eq_true rfl⟩ hlk (Nat.le_of_ble_eq_true rfl) (Nat.le_of_ble_eq_true rfl)
theorem hd_X2_requireWords : yX2_requireWords.cls ≠ "java/lang/invoke/MethodHandle" ∧ yX2_requireWords.cls ≠ "java/lang/invoke/VarHandle" ∧ (parseMethodDescriptor yX2_requireWords.desc).map (fun d => d.parameters.length) = some 1 := by decide +kernel
set_option maxHeartbeats 4000000 in
set_option maxRecDepth 100000 in
theorem c_X2_requireWords (l : Launch) (hfl : l.stackTraces = false) (D : va_G) (cy : Nat → ClassId) (base : Nat → Prop) (ad : Nat → Nat) (n nc : Nat) (g : sg) (k : Int32) : kM l yX2_requireWords wsX2_requireWords (kR 6 1 6) D cy base ad n nc g [.int k] (kD (inn k 0 16777215 = true) none ad n nc g) (kEx (rq (inn k 0 16777215) 2)) 1 6 := by
  refine kx_meth (cc := cX2_requireWords) (maxL := 1) (ret := none) (by decide) rfl (Nat.le_of_ble_eq_true rfl) ?_
  intro p e s m args below meth c ls hx hb hr hml hown hts hlk hT hG hw0 hS0 hl Q H locs hQ hw hS hH0 hlocs0
  have hl : lv_has ls 1 [(0, .int k)] := hl
  have hown : s.vm.findClass RX2 = some m.cls := hown
  have hF : CallFix p m c cX2_requireWords 1 s args wsX2_requireWords RX2 := ⟨hx, hb, hml, hown, hts⟩
  have hn30 : n ≤ 30 := hw.2.2.1
  have hc20 : nc ≤ 20 := hw.2.2.2
  clear hw0 hS0 hH0 hlocs0
  have k_286 := hts (.constant RX2 286 (16777215)) (by decide +kernel)
  have xk_IA := hts (.classLink RX2 77 "java/lang/IllegalArgumentException") (by decide +kernel)
  have xi_IA := hts (.initialized "java/lang/IllegalArgumentException") (by decide +kernel)
  have xa_IA : ∀ w ∈ (vx_atS RX2 81 "java/lang/IllegalArgumentException" kNm).filter goodWord, w.before args s = true := fun w h => hts w ((by decide +kernel : ∀ w ∈ (vx_atS RX2 81 "java/lang/IllegalArgumentException" kNm).filter goodWord, w ∈ wsX2_requireWords) w h)
  refine lv_iload_n hx hb dX2_requireWords_0 rfl (lv_at hl 0 rfl) ?_
  refine lv_iconst (v := 0) hx hb dX2_requireWords_1 (by decide) ?_
  refine lv_ldcw hx hb hown k_286 dX2_requireWords_2 ?_
  refine kx_do0 (st1 := [.int (b2 (inn k (0 : Int32) (16777215 : Int32)))]) (kx_cs (As := [.int k, .int (0 : Int32), .int (16777215 : Int32)]) (rest := []) hF hG hw hS hl.1 (c_X2_isWithin l hfl D cy base ad n nc g k (0 : Int32) (16777215 : Int32) ) gX2_requireWords_X2_isWithin rfl rfl rfl hd_X2_isWithin ⟨Nat.le_of_ble_eq_true rfl, Nat.le_of_ble_eq_true rfl⟩ rfl rfl (Nat.le_of_ble_eq_true rfl) dX2_requireWords_5 ⟨Nat.le_of_ble_eq_true rfl, Nat.le_of_ble_eq_true rfl⟩) hS rfl (fun H locs hw hS => ?_)
  refine kb_ne (tgt := 22) hx hb dX2_requireWords_8 (by decide) (fun c_8 => ?_) (fun c_8 => ?_)
  · exact kx_retV hQ hx hb hr hlk hw hS (Nat.le_of_ble_eq_true rfl) (Nat.le_of_ble_eq_true rfl) dX2_requireWords_22 (kd_v (c_8) (rfl))
  · exact kx_throwIA (text := "no set of words") (is := 287) hQ hx hb hfl hown hG hw hS true (by decide +kernel) xk_IA xi_IA xa_IA (kEx_2 (by first | (simp only [rq, c_8]; done) | (simp only [rq, c_8]; rfl) | (simp [rq, c_8]; done))) (hl.1.trans hml.symm) hT rfl dX2_requireWords_11 dX2_requireWords_14 dX2_requireWords_15 dX2_requireWords_18 dX2_requireWords_21 ⟨by decide, Nat.le_of_ble_eq_true rfl, Nat.le_of_ble_eq_true rfl, Nat.le_of_ble_eq_true rfl⟩ hlk (Nat.le_of_ble_eq_true rfl) (Nat.le_of_ble_eq_true rfl)
theorem hd_X2_today : yX2_today.cls = RX2 ∧ yX2_today.cls ≠ "java/lang/invoke/MethodHandle" ∧ yX2_today.cls ≠ "java/lang/invoke/VarHandle" ∧ (parseMethodDescriptor yX2_today.desc).map (fun d => d.parameters.length) = some 0 := by decide +kernel
set_option maxHeartbeats 4000000 in
set_option maxRecDepth 100000 in
theorem c_X2_today (l : Launch) (hfl : l.stackTraces = false) (D : va_G) (cy : Nat → ClassId) (base : Nat → Prop) (ad : Nat → Nat) (n nc : Nat) (g : sg)  : kM l yX2_today wsX2_today (kR 0 0 0) D cy base ad n nc g [.ref (ad 0)] (kD True (some (.int (g 0 10))) ad n nc g) kNo 0 0 := by
  refine kx_meth (cc := cX2_today) (maxL := 1) (ret := (some .int)) (by decide) rfl (Nat.le_of_ble_eq_true rfl) ?_
  intro p e s m args below meth c ls hx hb hr hml hown hts hlk hT hG hw0 hS0 hl Q H locs hQ hw hS hH0 hlocs0
  have hl : lv_has ls 1 [(0, .ref (ad 0))] := hl
  have hown : s.vm.findClass RX2 = some m.cls := hown
  have hF : CallFix p m c cX2_today 1 s args wsX2_today RX2 := ⟨hx, hb, hml, hown, hts⟩
  have hn30 : n ≤ 30 := hw.2.2.1
  have hc20 : nc ≤ 20 := hw.2.2.2
  clear hw0 hS0 hH0 hlocs0
  have i2 : ∀ w ∈ wsX20, w ∈ wsX2_today := by decide +kernel
  have f_47 := hts (.fieldLink RX2 47 "Lostroom" "day" "I") (by decide +kernel)
  refine lv_aload_n hx hb dX2_today_0 rfl (lv_at hl 0 rfl) ?_
  refine kx_getL (v := .int (g 0 10)) hx hb hts hown hG hw i2 10 (by decide) f_47 rfl dX2_today_1 ?_
  exact kx_retI hQ hx hb hr hlk hw hS (Nat.le_of_ble_eq_true rfl) (Nat.le_of_ble_eq_true rfl) dX2_today_4 (kd_i (trivial) (rfl) (rfl))
