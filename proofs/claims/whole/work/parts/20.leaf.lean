/-! walks laid by wip/whole/kgen.py, kall.py -/
theorem hd_X2_isWithin : yX2_isWithin.cls ≠ "java/lang/invoke/MethodHandle" ∧ yX2_isWithin.cls ≠ "java/lang/invoke/VarHandle" ∧ (parseMethodDescriptor yX2_isWithin.desc).map (fun d => d.parameters.length) = some 3 := by decide +kernel
set_option maxHeartbeats 4000000 in
set_option maxRecDepth 100000 in
theorem c_X2_isWithin (l : Launch) (hfl : l.stackTraces = false) (D : va_G) (cy : Nat → ClassId) (base : Nat) (ad : Nat → Nat) (n nc : Nat) (g : sg) (v : Int32) (a : Int32) (b : Int32) : kM l yX2_isWithin wsX2_isWithin (kR 0 0 0) D cy base ad n nc g [.int v, .int a, .int b] (kD True (some (.int (b2 (inn v a b)))) ad n nc g) kNo 0 0 := by
  refine kx_meth (cc := cX2_isWithin) (maxL := 3) (ret := (some .boolean)) (by decide) rfl (Nat.le_of_ble_eq_true rfl) ?_
  intro p e s m args below meth c ls hx hb hr hml hown hts hlk hT hG hw0 hS0 hl Q H locs hQ hw hS hH0 hlocs0
  have hl : lv_has ls 3 [(0, .int v), (1, .int a), (2, .int b)] := hl
  have hown : s.vm.findClass RX2 = some m.cls := hown
  have hF : CallFix p m c cX2_isWithin 3 s args wsX2_isWithin RX2 := ⟨hx, hb, hml, hown, hts⟩
  have hn30 : n ≤ 30 := hw.2.2.1
  have hc20 : nc ≤ 20 := hw.2.2.2
  clear hw0 hS0 hH0 hlocs0
  refine lv_iload_n hx hb dX2_isWithin_0 rfl (lv_at hl 0 rfl) ?_
  refine lv_iload_n hx hb dX2_isWithin_1 rfl (lv_at hl 1 rfl) ?_
  have hj_15_0 : ∀ (H : Heap) (locs : List Loc) (ls : Array Slot), kW D cy base ad n nc g H → va_S (kA base) s.heap H locs → lv_has ls 3 [(0, .int v), (1, .int a), (2, .int b)] → W p l e (kR 0 0 0) s m args below meth c H locs 0 0 Q (F0 m 15 ls [.int (b2 ((!(decide (v < a))) && (!(decide (b < v)))))]) := by
    intro H locs ls hw hS hl
    exact kx_retZ hQ hx hb hr hlk hw hS (Nat.le_of_ble_eq_true rfl) (Nat.le_of_ble_eq_true rfl) dX2_isWithin_15 (nar_b2 _) (kd_i (trivial) (by rw [inn_lt]) (rfl))
  refine lv_icmp_lt (tgt := 14) hx hb dX2_isWithin_2 (by decide) (fun c_2 => ?_) (fun c_2 => ?_)
  · refine lv_iconst (v := 0) hx hb dX2_isWithin_14 (by decide) ?_
    exact kx_top (v := (b2 ((!(decide (v < a))) && (!(decide (b < v)))))) (by first | (simp only [bq, decide_eq_true c_2, if_pos c_2]; done) | (simp only [bq, decide_eq_true c_2, if_pos c_2]; rfl) | simp [bq, decide_eq_true c_2, if_pos c_2]) (hj_15_0 _ _ _ hw hS hl)
  · refine lv_iload_n hx hb dX2_isWithin_5 rfl (lv_at hl 0 rfl) ?_
    refine lv_iload_n hx hb dX2_isWithin_6 rfl (lv_at hl 2 rfl) ?_
    refine lv_icmp_gt (tgt := 14) hx hb dX2_isWithin_7 (by decide) (fun c_7 => ?_) (fun c_7 => ?_)
    · refine lv_iconst (v := 0) hx hb dX2_isWithin_14 (by decide) ?_
      exact kx_top (v := (b2 ((!(decide (v < a))) && (!(decide (b < v)))))) (by first | (simp only [bq, decide_eq_false c_2, if_neg c_2, decide_eq_true c_7, if_pos c_7]; done) | (simp only [bq, decide_eq_false c_2, if_neg c_2, decide_eq_true c_7, if_pos c_7]; rfl) | simp [bq, decide_eq_false c_2, if_neg c_2, decide_eq_true c_7, if_pos c_7]) (hj_15_0 _ _ _ hw hS hl)
    · refine lv_iconst (v := 1) hx hb dX2_isWithin_10 (by decide) ?_
      refine lv_goto (tgt := 15) hx hb dX2_isWithin_11 (by decide) ?_
      exact kx_top (v := (b2 ((!(decide (v < a))) && (!(decide (b < v)))))) (by first | (simp only [bq, decide_eq_false c_2, if_neg c_2, decide_eq_false c_7, if_neg c_7]; done) | (simp only [bq, decide_eq_false c_2, if_neg c_2, decide_eq_false c_7, if_neg c_7]; rfl) | simp [bq, decide_eq_false c_2, if_neg c_2, decide_eq_false c_7, if_neg c_7]) (hj_15_0 _ _ _ hw hS hl)
theorem hd_X3_in : yX3_in.cls ≠ "java/lang/invoke/MethodHandle" ∧ yX3_in.cls ≠ "java/lang/invoke/VarHandle" ∧ (parseMethodDescriptor yX3_in.desc).map (fun d => d.parameters.length) = some 3 := by decide +kernel
set_option maxHeartbeats 4000000 in
set_option maxRecDepth 100000 in
theorem c_X3_in (l : Launch) (hfl : l.stackTraces = false) (D : va_G) (cy : Nat → ClassId) (base : Nat) (ad : Nat → Nat) (n nc : Nat) (g : sg) (v : Int32) (a : Int32) (b : Int32) : kM l yX3_in wsX3_in (kR 0 0 0) D cy base ad n nc g [.int v, .int a, .int b] (kD True (some (.int (b2 (inn v a b)))) ad n nc g) kNo 0 0 := by
  refine kx_meth (cc := cX3_in) (maxL := 3) (ret := (some .boolean)) (by decide) rfl (Nat.le_of_ble_eq_true rfl) ?_
  intro p e s m args below meth c ls hx hb hr hml hown hts hlk hT hG hw0 hS0 hl Q H locs hQ hw hS hH0 hlocs0
  have hl : lv_has ls 3 [(0, .int v), (1, .int a), (2, .int b)] := hl
  have hown : s.vm.findClass RX3 = some m.cls := hown
  have hF : CallFix p m c cX3_in 3 s args wsX3_in RX3 := ⟨hx, hb, hml, hown, hts⟩
  have hn30 : n ≤ 30 := hw.2.2.1
  have hc20 : nc ≤ 20 := hw.2.2.2
  clear hw0 hS0 hH0 hlocs0
  refine lv_iload_n hx hb dX3_in_0 rfl (lv_at hl 0 rfl) ?_
  refine lv_iload_n hx hb dX3_in_1 rfl (lv_at hl 1 rfl) ?_
  have hj_15_0 : ∀ (H : Heap) (locs : List Loc) (ls : Array Slot), kW D cy base ad n nc g H → va_S (kA base) s.heap H locs → lv_has ls 3 [(0, .int v), (1, .int a), (2, .int b)] → W p l e (kR 0 0 0) s m args below meth c H locs 0 0 Q (F0 m 15 ls [.int (b2 ((!(decide (v < a))) && (!(decide (b < v)))))]) := by
    intro H locs ls hw hS hl
    exact kx_retZ hQ hx hb hr hlk hw hS (Nat.le_of_ble_eq_true rfl) (Nat.le_of_ble_eq_true rfl) dX3_in_15 (nar_b2 _) (kd_i (trivial) (by rw [inn_lt]) (rfl))
  refine lv_icmp_lt (tgt := 14) hx hb dX3_in_2 (by decide) (fun c_2 => ?_) (fun c_2 => ?_)
  · refine lv_iconst (v := 0) hx hb dX3_in_14 (by decide) ?_
    exact kx_top (v := (b2 ((!(decide (v < a))) && (!(decide (b < v)))))) (by first | (simp only [bq, decide_eq_true c_2, if_pos c_2]; done) | (simp only [bq, decide_eq_true c_2, if_pos c_2]; rfl) | simp [bq, decide_eq_true c_2, if_pos c_2]) (hj_15_0 _ _ _ hw hS hl)
  · refine lv_iload_n hx hb dX3_in_5 rfl (lv_at hl 0 rfl) ?_
    refine lv_iload_n hx hb dX3_in_6 rfl (lv_at hl 2 rfl) ?_
    refine lv_icmp_gt (tgt := 14) hx hb dX3_in_7 (by decide) (fun c_7 => ?_) (fun c_7 => ?_)
    · refine lv_iconst (v := 0) hx hb dX3_in_14 (by decide) ?_
      exact kx_top (v := (b2 ((!(decide (v < a))) && (!(decide (b < v)))))) (by first | (simp only [bq, decide_eq_false c_2, if_neg c_2, decide_eq_true c_7, if_pos c_7]; done) | (simp only [bq, decide_eq_false c_2, if_neg c_2, decide_eq_true c_7, if_pos c_7]; rfl) | simp [bq, decide_eq_false c_2, if_neg c_2, decide_eq_true c_7, if_pos c_7]) (hj_15_0 _ _ _ hw hS hl)
    · refine lv_iconst (v := 1) hx hb dX3_in_10 (by decide) ?_
      refine lv_goto (tgt := 15) hx hb dX3_in_11 (by decide) ?_
      exact kx_top (v := (b2 ((!(decide (v < a))) && (!(decide (b < v)))))) (by first | (simp only [bq, decide_eq_false c_2, if_neg c_2, decide_eq_false c_7, if_neg c_7]; done) | (simp only [bq, decide_eq_false c_2, if_neg c_2, decide_eq_false c_7, if_neg c_7]; rfl) | simp [bq, decide_eq_false c_2, if_neg c_2, decide_eq_false c_7, if_neg c_7]) (hj_15_0 _ _ _ hw hS hl)
theorem hd_X3_isWord : yX3_isWord.cls ≠ "java/lang/invoke/MethodHandle" ∧ yX3_isWord.cls ≠ "java/lang/invoke/VarHandle" ∧ (parseMethodDescriptor yX3_isWord.desc).map (fun d => d.parameters.length) = some 1 := by decide +kernel
set_option maxHeartbeats 4000000 in
set_option maxRecDepth 100000 in
theorem c_X3_isWord (l : Launch) (hfl : l.stackTraces = false) (D : va_G) (cy : Nat → ClassId) (base : Nat) (ad : Nat → Nat) (n nc : Nat) (g : sg) (k : Int32) : kM l yX3_isWord wsX3_isWord (kR 1 0 0) D cy base ad n nc g [.int k] (kD True (some (.int (b2 (inn k 0 23)))) ad n nc g) kNo 0 0 := by
  refine kx_meth (cc := cX3_isWord) (maxL := 1) (ret := (some .boolean)) (by decide) rfl (Nat.le_of_ble_eq_true rfl) ?_
  intro p e s m args below meth c ls hx hb hr hml hown hts hlk hT hG hw0 hS0 hl Q H locs hQ hw hS hH0 hlocs0
  have hl : lv_has ls 1 [(0, .int k)] := hl
  have hown : s.vm.findClass RX3 = some m.cls := hown
  have hF : CallFix p m c cX3_isWord 1 s args wsX3_isWord RX3 := ⟨hx, hb, hml, hown, hts⟩
  have hn30 : n ≤ 30 := hw.2.2.1
  have hc20 : nc ≤ 20 := hw.2.2.2
  clear hw0 hS0 hH0 hlocs0
  refine lv_iload_n hx hb dX3_isWord_0 rfl (lv_at hl 0 rfl) ?_
  refine lv_iconst (v := 0) hx hb dX3_isWord_1 (by decide) ?_
  refine lv_bipush (v := 23) hx hb dX3_isWord_2 (by decide) ?_
  refine kx_do0 (st1 := [.int (b2 (inn k (0 : Int32) (23 : Int32)))]) (kx_cs (As := [.int k, .int (0 : Int32), .int (23 : Int32)]) (rest := []) hF hG hw hS hl.1 (c_X3_in l hfl D cy base ad n nc g k (0 : Int32) (23 : Int32) ) gX3_isWord_X3_in rfl rfl rfl hd_X3_in ⟨Nat.le_of_ble_eq_true rfl, Nat.le_of_ble_eq_true rfl⟩ rfl rfl (Nat.le_of_ble_eq_true rfl) dX3_isWord_4 ⟨Nat.le_of_ble_eq_true rfl, Nat.le_of_ble_eq_true rfl⟩) hS rfl (fun H locs hw hS => ?_)
  exact kx_retZ hQ hx hb hr hlk hw hS (Nat.le_of_ble_eq_true rfl) (Nat.le_of_ble_eq_true rfl) dX3_isWord_7 (nar_b2 _) (kd_i (trivial) (by first | (simp only []; done) | (simp only []; rfl) | simp []) (rfl))
theorem hd_X3_isKind : yX3_isKind.cls ≠ "java/lang/invoke/MethodHandle" ∧ yX3_isKind.cls ≠ "java/lang/invoke/VarHandle" ∧ (parseMethodDescriptor yX3_isKind.desc).map (fun d => d.parameters.length) = some 1 := by decide +kernel
set_option maxHeartbeats 4000000 in
set_option maxRecDepth 100000 in
theorem c_X3_isKind (l : Launch) (hfl : l.stackTraces = false) (D : va_G) (cy : Nat → ClassId) (base : Nat) (ad : Nat → Nat) (n nc : Nat) (g : sg) (k : Int32) : kM l yX3_isKind wsX3_isKind (kR 1 0 0) D cy base ad n nc g [.int k] (kD True (some (.int (b2 (inn k 0 7)))) ad n nc g) kNo 0 0 := by
  refine kx_meth (cc := cX3_isKind) (maxL := 1) (ret := (some .boolean)) (by decide) rfl (Nat.le_of_ble_eq_true rfl) ?_
  intro p e s m args below meth c ls hx hb hr hml hown hts hlk hT hG hw0 hS0 hl Q H locs hQ hw hS hH0 hlocs0
  have hl : lv_has ls 1 [(0, .int k)] := hl
  have hown : s.vm.findClass RX3 = some m.cls := hown
  have hF : CallFix p m c cX3_isKind 1 s args wsX3_isKind RX3 := ⟨hx, hb, hml, hown, hts⟩
  have hn30 : n ≤ 30 := hw.2.2.1
  have hc20 : nc ≤ 20 := hw.2.2.2
  clear hw0 hS0 hH0 hlocs0
  refine lv_iload_n hx hb dX3_isKind_0 rfl (lv_at hl 0 rfl) ?_
  refine lv_iconst (v := 0) hx hb dX3_isKind_1 (by decide) ?_
  refine lv_bipush (v := 7) hx hb dX3_isKind_2 (by decide) ?_
  refine kx_do0 (st1 := [.int (b2 (inn k (0 : Int32) (7 : Int32)))]) (kx_cs (As := [.int k, .int (0 : Int32), .int (7 : Int32)]) (rest := []) hF hG hw hS hl.1 (c_X3_in l hfl D cy base ad n nc g k (0 : Int32) (7 : Int32) ) gX3_isKind_X3_in rfl rfl rfl hd_X3_in ⟨Nat.le_of_ble_eq_true rfl, Nat.le_of_ble_eq_true rfl⟩ rfl rfl (Nat.le_of_ble_eq_true rfl) dX3_isKind_4 ⟨Nat.le_of_ble_eq_true rfl, Nat.le_of_ble_eq_true rfl⟩) hS rfl (fun H locs hw hS => ?_)
  exact kx_retZ hQ hx hb hr hlk hw hS (Nat.le_of_ble_eq_true rfl) (Nat.le_of_ble_eq_true rfl) dX3_isKind_7 (nar_b2 _) (kd_i (trivial) (by first | (simp only []; done) | (simp only []; rfl) | simp []) (rfl))
theorem hd_X3_isRoom : yX3_isRoom.cls ≠ "java/lang/invoke/MethodHandle" ∧ yX3_isRoom.cls ≠ "java/lang/invoke/VarHandle" ∧ (parseMethodDescriptor yX3_isRoom.desc).map (fun d => d.parameters.length) = some 1 := by decide +kernel
set_option maxHeartbeats 4000000 in
set_option maxRecDepth 100000 in
theorem c_X3_isRoom (l : Launch) (hfl : l.stackTraces = false) (D : va_G) (cy : Nat → ClassId) (base : Nat) (ad : Nat → Nat) (n nc : Nat) (g : sg) (k : Int32) : kM l yX3_isRoom wsX3_isRoom (kR 1 0 0) D cy base ad n nc g [.int k] (kD True (some (.int (b2 (inn k 0 5)))) ad n nc g) kNo 0 0 := by
  refine kx_meth (cc := cX3_isRoom) (maxL := 1) (ret := (some .boolean)) (by decide) rfl (Nat.le_of_ble_eq_true rfl) ?_
  intro p e s m args below meth c ls hx hb hr hml hown hts hlk hT hG hw0 hS0 hl Q H locs hQ hw hS hH0 hlocs0
  have hl : lv_has ls 1 [(0, .int k)] := hl
  have hown : s.vm.findClass RX3 = some m.cls := hown
  have hF : CallFix p m c cX3_isRoom 1 s args wsX3_isRoom RX3 := ⟨hx, hb, hml, hown, hts⟩
  have hn30 : n ≤ 30 := hw.2.2.1
  have hc20 : nc ≤ 20 := hw.2.2.2
  clear hw0 hS0 hH0 hlocs0
  refine lv_iload_n hx hb dX3_isRoom_0 rfl (lv_at hl 0 rfl) ?_
  refine lv_iconst (v := 0) hx hb dX3_isRoom_1 (by decide) ?_
  refine lv_iconst (v := 5) hx hb dX3_isRoom_2 (by decide) ?_
  refine kx_do0 (st1 := [.int (b2 (inn k (0 : Int32) (5 : Int32)))]) (kx_cs (As := [.int k, .int (0 : Int32), .int (5 : Int32)]) (rest := []) hF hG hw hS hl.1 (c_X3_in l hfl D cy base ad n nc g k (0 : Int32) (5 : Int32) ) gX3_isRoom_X3_in rfl rfl rfl hd_X3_in ⟨Nat.le_of_ble_eq_true rfl, Nat.le_of_ble_eq_true rfl⟩ rfl rfl (Nat.le_of_ble_eq_true rfl) dX3_isRoom_3 ⟨Nat.le_of_ble_eq_true rfl, Nat.le_of_ble_eq_true rfl⟩) hS rfl (fun H locs hw hS => ?_)
  exact kx_retZ hQ hx hb hr hlk hw hS (Nat.le_of_ble_eq_true rfl) (Nat.le_of_ble_eq_true rfl) dX3_isRoom_6 (nar_b2 _) (kd_i (trivial) (by first | (simp only []; done) | (simp only []; rfl) | simp []) (rfl))
theorem hd_X3_isPlace : yX3_isPlace.cls ≠ "java/lang/invoke/MethodHandle" ∧ yX3_isPlace.cls ≠ "java/lang/invoke/VarHandle" ∧ (parseMethodDescriptor yX3_isPlace.desc).map (fun d => d.parameters.length) = some 1 := by decide +kernel
set_option maxHeartbeats 4000000 in
set_option maxRecDepth 100000 in
theorem c_X3_isPlace (l : Launch) (hfl : l.stackTraces = false) (D : va_G) (cy : Nat → ClassId) (base : Nat) (ad : Nat → Nat) (n nc : Nat) (g : sg) (k : Int32) : kM l yX3_isPlace wsX3_isPlace (kR 1 0 0) D cy base ad n nc g [.int k] (kD True (some (.int (b2 (inn k 0 9)))) ad n nc g) kNo 0 0 := by
  refine kx_meth (cc := cX3_isPlace) (maxL := 1) (ret := (some .boolean)) (by decide) rfl (Nat.le_of_ble_eq_true rfl) ?_
  intro p e s m args below meth c ls hx hb hr hml hown hts hlk hT hG hw0 hS0 hl Q H locs hQ hw hS hH0 hlocs0
  have hl : lv_has ls 1 [(0, .int k)] := hl
  have hown : s.vm.findClass RX3 = some m.cls := hown
  have hF : CallFix p m c cX3_isPlace 1 s args wsX3_isPlace RX3 := ⟨hx, hb, hml, hown, hts⟩
  have hn30 : n ≤ 30 := hw.2.2.1
  have hc20 : nc ≤ 20 := hw.2.2.2
  clear hw0 hS0 hH0 hlocs0
  refine lv_iload_n hx hb dX3_isPlace_0 rfl (lv_at hl 0 rfl) ?_
  refine lv_iconst (v := 0) hx hb dX3_isPlace_1 (by decide) ?_
  refine lv_bipush (v := 9) hx hb dX3_isPlace_2 (by decide) ?_
  refine kx_do0 (st1 := [.int (b2 (inn k (0 : Int32) (9 : Int32)))]) (kx_cs (As := [.int k, .int (0 : Int32), .int (9 : Int32)]) (rest := []) hF hG hw hS hl.1 (c_X3_in l hfl D cy base ad n nc g k (0 : Int32) (9 : Int32) ) gX3_isPlace_X3_in rfl rfl rfl hd_X3_in ⟨Nat.le_of_ble_eq_true rfl, Nat.le_of_ble_eq_true rfl⟩ rfl rfl (Nat.le_of_ble_eq_true rfl) dX3_isPlace_4 ⟨Nat.le_of_ble_eq_true rfl, Nat.le_of_ble_eq_true rfl⟩) hS rfl (fun H locs hw hS => ?_)
  exact kx_retZ hQ hx hb hr hlk hw hS (Nat.le_of_ble_eq_true rfl) (Nat.le_of_ble_eq_true rfl) dX3_isPlace_7 (nar_b2 _) (kd_i (trivial) (by first | (simp only []; done) | (simp only []; rfl) | simp []) (rfl))
theorem hd_X3_isSet : yX3_isSet.cls ≠ "java/lang/invoke/MethodHandle" ∧ yX3_isSet.cls ≠ "java/lang/invoke/VarHandle" ∧ (parseMethodDescriptor yX3_isSet.desc).map (fun d => d.parameters.length) = some 1 := by decide +kernel
set_option maxHeartbeats 4000000 in
set_option maxRecDepth 100000 in
theorem c_X3_isSet (l : Launch) (hfl : l.stackTraces = false) (D : va_G) (cy : Nat → ClassId) (base : Nat) (ad : Nat → Nat) (n nc : Nat) (g : sg) (k : Int32) : kM l yX3_isSet wsX3_isSet (kR 1 0 0) D cy base ad n nc g [.int k] (kD True (some (.int (b2 (inn k 0 16777215)))) ad n nc g) kNo 0 0 := by
  refine kx_meth (cc := cX3_isSet) (maxL := 1) (ret := (some .boolean)) (by decide) rfl (Nat.le_of_ble_eq_true rfl) ?_
  intro p e s m args below meth c ls hx hb hr hml hown hts hlk hT hG hw0 hS0 hl Q H locs hQ hw hS hH0 hlocs0
  have hl : lv_has ls 1 [(0, .int k)] := hl
  have hown : s.vm.findClass RX3 = some m.cls := hown
  have hF : CallFix p m c cX3_isSet 1 s args wsX3_isSet RX3 := ⟨hx, hb, hml, hown, hts⟩
  have hn30 : n ≤ 30 := hw.2.2.1
  have hc20 : nc ≤ 20 := hw.2.2.2
  clear hw0 hS0 hH0 hlocs0
  have k_112 := hts (.constant RX3 112 (16777215)) (by decide +kernel)
  refine lv_iload_n hx hb dX3_isSet_0 rfl (lv_at hl 0 rfl) ?_
  refine lv_iconst (v := 0) hx hb dX3_isSet_1 (by decide) ?_
  refine lv_ldc hx hb hown k_112 dX3_isSet_2 ?_
  refine kx_do0 (st1 := [.int (b2 (inn k (0 : Int32) (16777215 : Int32)))]) (kx_cs (As := [.int k, .int (0 : Int32), .int (16777215 : Int32)]) (rest := []) hF hG hw hS hl.1 (c_X3_in l hfl D cy base ad n nc g k (0 : Int32) (16777215 : Int32) ) gX3_isSet_X3_in rfl rfl rfl hd_X3_in ⟨Nat.le_of_ble_eq_true rfl, Nat.le_of_ble_eq_true rfl⟩ rfl rfl (Nat.le_of_ble_eq_true rfl) dX3_isSet_4 ⟨Nat.le_of_ble_eq_true rfl, Nat.le_of_ble_eq_true rfl⟩) hS rfl (fun H locs hw hS => ?_)
  exact kx_retZ hQ hx hb hr hlk hw hS (Nat.le_of_ble_eq_true rfl) (Nat.le_of_ble_eq_true rfl) dX3_isSet_7 (nar_b2 _) (kd_i (trivial) (by first | (simp only []; done) | (simp only []; rfl) | simp []) (rfl))
theorem hd_X2_requireKind : yX2_requireKind.cls ≠ "java/lang/invoke/MethodHandle" ∧ yX2_requireKind.cls ≠ "java/lang/invoke/VarHandle" ∧ (parseMethodDescriptor yX2_requireKind.desc).map (fun d => d.parameters.length) = some 1 := by decide +kernel
set_option maxHeartbeats 4000000 in
set_option maxRecDepth 100000 in
theorem c_X2_requireKind (l : Launch) (hfl : l.stackTraces = false) (D : va_G) (cy : Nat → ClassId) (base : Nat) (ad : Nat → Nat) (n nc : Nat) (g : sg) (k : Int32) : kM l yX2_requireKind wsX2_requireKind (kR 6 1 6) D cy base ad n nc g [.int k] (kD (inn k 0 7 = true) none ad n nc g) (kEx (rq (inn k 0 7) 1)) 1 6 := by
  refine kx_meth (cc := cX2_requireKind) (maxL := 1) (ret := none) (by decide) rfl (Nat.le_of_ble_eq_true rfl) ?_
  intro p e s m args below meth c ls hx hb hr hml hown hts hlk hT hG hw0 hS0 hl Q H locs hQ hw hS hH0 hlocs0
  have hl : lv_has ls 1 [(0, .int k)] := hl
  have hown : s.vm.findClass RX2 = some m.cls := hown
  have hF : CallFix p m c cX2_requireKind 1 s args wsX2_requireKind RX2 := ⟨hx, hb, hml, hown, hts⟩
  have hn30 : n ≤ 30 := hw.2.2.1
  have hc20 : nc ≤ 20 := hw.2.2.2
  clear hw0 hS0 hH0 hlocs0
  have xk_IO := hts (.classLink RX2 66 "java/lang/IndexOutOfBoundsException") (by decide +kernel)
  have xi_IO := hts (.initialized "java/lang/IndexOutOfBoundsException") (by decide +kernel)
  have xa_IO : ∀ w ∈ (vx_atS RX2 70 "java/lang/IndexOutOfBoundsException" kNm).filter goodWord, w.before args s = true := fun w h => hts w ((by decide +kernel : ∀ w ∈ (vx_atS RX2 70 "java/lang/IndexOutOfBoundsException" kNm).filter goodWord, w ∈ wsX2_requireKind) w h)
  refine lv_iload_n hx hb dX2_requireKind_0 rfl (lv_at hl 0 rfl) ?_
  refine lv_iconst (v := 0) hx hb dX2_requireKind_1 (by decide) ?_
  refine lv_bipush (v := 7) hx hb dX2_requireKind_2 (by decide) ?_
  refine kx_do0 (st1 := [.int (b2 (inn k (0 : Int32) (7 : Int32)))]) (kx_cs (As := [.int k, .int (0 : Int32), .int (7 : Int32)]) (rest := []) hF hG hw hS hl.1 (c_X2_isWithin l hfl D cy base ad n nc g k (0 : Int32) (7 : Int32) ) gX2_requireKind_X2_isWithin rfl rfl rfl hd_X2_isWithin ⟨Nat.le_of_ble_eq_true rfl, Nat.le_of_ble_eq_true rfl⟩ rfl rfl (Nat.le_of_ble_eq_true rfl) dX2_requireKind_4 ⟨Nat.le_of_ble_eq_true rfl, Nat.le_of_ble_eq_true rfl⟩) hS rfl (fun H locs hw hS => ?_)
  refine kb_ne (tgt := 20) hx hb dX2_requireKind_7 (by decide) (fun c_7 => ?_) (fun c_7 => ?_)
  · have v_k : vp_in k 8 := inn_vp (c_7) (by decide)
    exact kx_retV hQ hx hb hr hlk hw hS (Nat.le_of_ble_eq_true rfl) (Nat.le_of_ble_eq_true rfl) dX2_requireKind_20 (kd_v (c_7) (rfl))
  · exact kx_throwIO (text := "no such kind") (is := 68) hQ hx hb hfl hown hG hw hS false (by decide +kernel) xk_IO xi_IO xa_IO (kEx_1 (by first | (simp only [rq, c_7]; done) | (simp only [rq, c_7]; rfl) | simp [rq, c_7])) (hl.1.trans hml.symm) hT rfl dX2_requireKind_10 dX2_requireKind_13 dX2_requireKind_14 dX2_requireKind_16 dX2_requireKind_19 ⟨by decide, Nat.le_of_ble_eq_true rfl, Nat.le_of_ble_eq_true rfl, Nat.le_of_ble_eq_true rfl⟩ hlk (Nat.le_of_ble_eq_true rfl) (Nat.le_of_ble_eq_true rfl)
theorem hd_X2_requirePlace : yX2_requirePlace.cls ≠ "java/lang/invoke/MethodHandle" ∧ yX2_requirePlace.cls ≠ "java/lang/invoke/VarHandle" ∧ (parseMethodDescriptor yX2_requirePlace.desc).map (fun d => d.parameters.length) = some 1 := by decide +kernel
set_option maxHeartbeats 4000000 in
set_option maxRecDepth 100000 in
theorem c_X2_requirePlace (l : Launch) (hfl : l.stackTraces = false) (D : va_G) (cy : Nat → ClassId) (base : Nat) (ad : Nat → Nat) (n nc : Nat) (g : sg) (k : Int32) : kM l yX2_requirePlace wsX2_requirePlace (kR 6 1 6) D cy base ad n nc g [.int k] (kD (inn k 0 9 = true) none ad n nc g) (kEx (rq (inn k 0 9) 1)) 1 6 := by
  refine kx_meth (cc := cX2_requirePlace) (maxL := 1) (ret := none) (by decide) rfl (Nat.le_of_ble_eq_true rfl) ?_
  intro p e s m args below meth c ls hx hb hr hml hown hts hlk hT hG hw0 hS0 hl Q H locs hQ hw hS hH0 hlocs0
  have hl : lv_has ls 1 [(0, .int k)] := hl
  have hown : s.vm.findClass RX2 = some m.cls := hown
  have hF : CallFix p m c cX2_requirePlace 1 s args wsX2_requirePlace RX2 := ⟨hx, hb, hml, hown, hts⟩
  have hn30 : n ≤ 30 := hw.2.2.1
  have hc20 : nc ≤ 20 := hw.2.2.2
  clear hw0 hS0 hH0 hlocs0
  have xk_IO := hts (.classLink RX2 66 "java/lang/IndexOutOfBoundsException") (by decide +kernel)
  have xi_IO := hts (.initialized "java/lang/IndexOutOfBoundsException") (by decide +kernel)
  have xa_IO : ∀ w ∈ (vx_atS RX2 70 "java/lang/IndexOutOfBoundsException" kNm).filter goodWord, w.before args s = true := fun w h => hts w ((by decide +kernel : ∀ w ∈ (vx_atS RX2 70 "java/lang/IndexOutOfBoundsException" kNm).filter goodWord, w ∈ wsX2_requirePlace) w h)
  refine lv_iload_n hx hb dX2_requirePlace_0 rfl (lv_at hl 0 rfl) ?_
  refine lv_iconst (v := 0) hx hb dX2_requirePlace_1 (by decide) ?_
  refine lv_bipush (v := 9) hx hb dX2_requirePlace_2 (by decide) ?_
  refine kx_do0 (st1 := [.int (b2 (inn k (0 : Int32) (9 : Int32)))]) (kx_cs (As := [.int k, .int (0 : Int32), .int (9 : Int32)]) (rest := []) hF hG hw hS hl.1 (c_X2_isWithin l hfl D cy base ad n nc g k (0 : Int32) (9 : Int32) ) gX2_requirePlace_X2_isWithin rfl rfl rfl hd_X2_isWithin ⟨Nat.le_of_ble_eq_true rfl, Nat.le_of_ble_eq_true rfl⟩ rfl rfl (Nat.le_of_ble_eq_true rfl) dX2_requirePlace_4 ⟨Nat.le_of_ble_eq_true rfl, Nat.le_of_ble_eq_true rfl⟩) hS rfl (fun H locs hw hS => ?_)
  refine kb_ne (tgt := 20) hx hb dX2_requirePlace_7 (by decide) (fun c_7 => ?_) (fun c_7 => ?_)
  · have v_k : vp_in k 10 := inn_vp (c_7) (by decide)
    exact kx_retV hQ hx hb hr hlk hw hS (Nat.le_of_ble_eq_true rfl) (Nat.le_of_ble_eq_true rfl) dX2_requirePlace_20 (kd_v (c_7) (rfl))
  · exact kx_throwIO (text := "no such place") (is := 255) hQ hx hb hfl hown hG hw hS false (by decide +kernel) xk_IO xi_IO xa_IO (kEx_1 (by first | (simp only [rq, c_7]; done) | (simp only [rq, c_7]; rfl) | simp [rq, c_7])) (hl.1.trans hml.symm) hT rfl dX2_requirePlace_10 dX2_requirePlace_13 dX2_requirePlace_14 dX2_requirePlace_16 dX2_requirePlace_19 ⟨by decide, Nat.le_of_ble_eq_true rfl, Nat.le_of_ble_eq_true rfl, Nat.le_of_ble_eq_true rfl⟩ hlk (Nat.le_of_ble_eq_true rfl) (Nat.le_of_ble_eq_true rfl)
theorem hd_X2_requireRoom : yX2_requireRoom.cls ≠ "java/lang/invoke/MethodHandle" ∧ yX2_requireRoom.cls ≠ "java/lang/invoke/VarHandle" ∧ (parseMethodDescriptor yX2_requireRoom.desc).map (fun d => d.parameters.length) = some 1 := by decide +kernel
set_option maxHeartbeats 4000000 in
set_option maxRecDepth 100000 in
theorem c_X2_requireRoom (l : Launch) (hfl : l.stackTraces = false) (D : va_G) (cy : Nat → ClassId) (base : Nat) (ad : Nat → Nat) (n nc : Nat) (g : sg) (k : Int32) : kM l yX2_requireRoom wsX2_requireRoom (kR 6 1 6) D cy base ad n nc g [.int k] (kD (inn k 0 5 = true) none ad n nc g) (kEx (rq (inn k 0 5) 1)) 1 6 := by
  refine kx_meth (cc := cX2_requireRoom) (maxL := 1) (ret := none) (by decide) rfl (Nat.le_of_ble_eq_true rfl) ?_
  intro p e s m args below meth c ls hx hb hr hml hown hts hlk hT hG hw0 hS0 hl Q H locs hQ hw hS hH0 hlocs0
  have hl : lv_has ls 1 [(0, .int k)] := hl
  have hown : s.vm.findClass RX2 = some m.cls := hown
  have hF : CallFix p m c cX2_requireRoom 1 s args wsX2_requireRoom RX2 := ⟨hx, hb, hml, hown, hts⟩
  have hn30 : n ≤ 30 := hw.2.2.1
  have hc20 : nc ≤ 20 := hw.2.2.2
  clear hw0 hS0 hH0 hlocs0
  have xk_IO := hts (.classLink RX2 66 "java/lang/IndexOutOfBoundsException") (by decide +kernel)
  have xi_IO := hts (.initialized "java/lang/IndexOutOfBoundsException") (by decide +kernel)
  have xa_IO : ∀ w ∈ (vx_atS RX2 70 "java/lang/IndexOutOfBoundsException" kNm).filter goodWord, w.before args s = true := fun w h => hts w ((by decide +kernel : ∀ w ∈ (vx_atS RX2 70 "java/lang/IndexOutOfBoundsException" kNm).filter goodWord, w ∈ wsX2_requireRoom) w h)
  refine lv_iload_n hx hb dX2_requireRoom_0 rfl (lv_at hl 0 rfl) ?_
  refine lv_iconst (v := 0) hx hb dX2_requireRoom_1 (by decide) ?_
  refine lv_iconst (v := 5) hx hb dX2_requireRoom_2 (by decide) ?_
  refine kx_do0 (st1 := [.int (b2 (inn k (0 : Int32) (5 : Int32)))]) (kx_cs (As := [.int k, .int (0 : Int32), .int (5 : Int32)]) (rest := []) hF hG hw hS hl.1 (c_X2_isWithin l hfl D cy base ad n nc g k (0 : Int32) (5 : Int32) ) gX2_requireRoom_X2_isWithin rfl rfl rfl hd_X2_isWithin ⟨Nat.le_of_ble_eq_true rfl, Nat.le_of_ble_eq_true rfl⟩ rfl rfl (Nat.le_of_ble_eq_true rfl) dX2_requireRoom_3 ⟨Nat.le_of_ble_eq_true rfl, Nat.le_of_ble_eq_true rfl⟩) hS rfl (fun H locs hw hS => ?_)
  refine kb_ne (tgt := 20) hx hb dX2_requireRoom_6 (by decide) (fun c_6 => ?_) (fun c_6 => ?_)
  · have v_k : vp_in k 6 := inn_vp (c_6) (by decide)
    exact kx_retV hQ hx hb hr hlk hw hS (Nat.le_of_ble_eq_true rfl) (Nat.le_of_ble_eq_true rfl) dX2_requireRoom_20 (kd_v (c_6) (rfl))
  · exact kx_throwIO (text := "no such room") (is := 284) hQ hx hb hfl hown hG hw hS true (by decide +kernel) xk_IO xi_IO xa_IO (kEx_1 (by first | (simp only [rq, c_6]; done) | (simp only [rq, c_6]; rfl) | simp [rq, c_6])) (hl.1.trans hml.symm) hT rfl dX2_requireRoom_9 dX2_requireRoom_12 dX2_requireRoom_13 dX2_requireRoom_16 dX2_requireRoom_19 ⟨by decide, Nat.le_of_ble_eq_true rfl, Nat.le_of_ble_eq_true rfl, Nat.le_of_ble_eq_true rfl⟩ hlk (Nat.le_of_ble_eq_true rfl) (Nat.le_of_ble_eq_true rfl)
theorem hd_X2_requireWords : yX2_requireWords.cls ≠ "java/lang/invoke/MethodHandle" ∧ yX2_requireWords.cls ≠ "java/lang/invoke/VarHandle" ∧ (parseMethodDescriptor yX2_requireWords.desc).map (fun d => d.parameters.length) = some 1 := by decide +kernel
set_option maxHeartbeats 4000000 in
set_option maxRecDepth 100000 in
theorem c_X2_requireWords (l : Launch) (hfl : l.stackTraces = false) (D : va_G) (cy : Nat → ClassId) (base : Nat) (ad : Nat → Nat) (n nc : Nat) (g : sg) (k : Int32) : kM l yX2_requireWords wsX2_requireWords (kR 6 1 6) D cy base ad n nc g [.int k] (kD (inn k 0 16777215 = true) none ad n nc g) (kEx (rq (inn k 0 16777215) 2)) 1 6 := by
  refine kx_meth (cc := cX2_requireWords) (maxL := 1) (ret := none) (by decide) rfl (Nat.le_of_ble_eq_true rfl) ?_
  intro p e s m args below meth c ls hx hb hr hml hown hts hlk hT hG hw0 hS0 hl Q H locs hQ hw hS hH0 hlocs0
  have hl : lv_has ls 1 [(0, .int k)] := hl
  have hown : s.vm.findClass RX2 = some m.cls := hown
  have hF : CallFix p m c cX2_requireWords 1 s args wsX2_requireWords RX2 := ⟨hx, hb, hml, hown, hts⟩
  have hn30 : n ≤ 30 := hw.2.2.1
  have hc20 : nc ≤ 20 := hw.2.2.2
  clear hw0 hS0 hH0 hlocs0
  have k_286 := hts (.constant RX2 286 (16777215)) (by decide +kernel)
  have xk_IA := hts (.classLink RX2 77 "java/lang/IllegalArgumentException") (by decide +kernel)
  have xi_IA := hts (.initialized "java/lang/IllegalArgumentException") (by decide +kernel)
  have xa_IA : ∀ w ∈ (vx_atS RX2 81 "java/lang/IllegalArgumentException" kNm).filter goodWord, w.before args s = true := fun w h => hts w ((by decide +kernel : ∀ w ∈ (vx_atS RX2 81 "java/lang/IllegalArgumentException" kNm).filter goodWord, w ∈ wsX2_requireWords) w h)
  refine lv_iload_n hx hb dX2_requireWords_0 rfl (lv_at hl 0 rfl) ?_
  refine lv_iconst (v := 0) hx hb dX2_requireWords_1 (by decide) ?_
  refine lv_ldcw hx hb hown k_286 dX2_requireWords_2 ?_
  refine kx_do0 (st1 := [.int (b2 (inn k (0 : Int32) (16777215 : Int32)))]) (kx_cs (As := [.int k, .int (0 : Int32), .int (16777215 : Int32)]) (rest := []) hF hG hw hS hl.1 (c_X2_isWithin l hfl D cy base ad n nc g k (0 : Int32) (16777215 : Int32) ) gX2_requireWords_X2_isWithin rfl rfl rfl hd_X2_isWithin ⟨Nat.le_of_ble_eq_true rfl, Nat.le_of_ble_eq_true rfl⟩ rfl rfl (Nat.le_of_ble_eq_true rfl) dX2_requireWords_5 ⟨Nat.le_of_ble_eq_true rfl, Nat.le_of_ble_eq_true rfl⟩) hS rfl (fun H locs hw hS => ?_)
  refine kb_ne (tgt := 22) hx hb dX2_requireWords_8 (by decide) (fun c_8 => ?_) (fun c_8 => ?_)
  · exact kx_retV hQ hx hb hr hlk hw hS (Nat.le_of_ble_eq_true rfl) (Nat.le_of_ble_eq_true rfl) dX2_requireWords_22 (kd_v (c_8) (rfl))
  · exact kx_throwIA (text := "no set of words") (is := 287) hQ hx hb hfl hown hG hw hS true (by decide +kernel) xk_IA xi_IA xa_IA (kEx_2 (by first | (simp only [rq, c_8]; done) | (simp only [rq, c_8]; rfl) | simp [rq, c_8])) (hl.1.trans hml.symm) hT rfl dX2_requireWords_11 dX2_requireWords_14 dX2_requireWords_15 dX2_requireWords_18 dX2_requireWords_21 ⟨by decide, Nat.le_of_ble_eq_true rfl, Nat.le_of_ble_eq_true rfl, Nat.le_of_ble_eq_true rfl⟩ hlk (Nat.le_of_ble_eq_true rfl) (Nat.le_of_ble_eq_true rfl)
theorem hd_X3_thrown : yX3_thrown.cls = RX3 ∧ yX3_thrown.cls ≠ "java/lang/invoke/MethodHandle" ∧ yX3_thrown.cls ≠ "java/lang/invoke/VarHandle" ∧ (parseMethodDescriptor yX3_thrown.desc).map (fun d => d.parameters.length) = some 0 := by decide +kernel
set_option maxHeartbeats 4000000 in
set_option maxRecDepth 100000 in
theorem c_X3_thrown (l : Launch) (hfl : l.stackTraces = false) (D : va_G) (cy : Nat → ClassId) (base : Nat) (ad : Nat → Nat) (n nc : Nat) (g : sg)  : kM l yX3_thrown wsX3_thrown (kR 0 0 0) D cy base ad n nc g [.ref (ad 9)] (kD True (some (.int (g 9 0))) ad n nc g) kNo 0 0 := by
  refine kx_meth (cc := cX3_thrown) (maxL := 1) (ret := (some .int)) (by decide) rfl (Nat.le_of_ble_eq_true rfl) ?_
  intro p e s m args below meth c ls hx hb hr hml hown hts hlk hT hG hw0 hS0 hl Q H locs hQ hw hS hH0 hlocs0
  have hl : lv_has ls 1 [(0, .ref (ad 9))] := hl
  have hown : s.vm.findClass RX3 = some m.cls := hown
  have hF : CallFix p m c cX3_thrown 1 s args wsX3_thrown RX3 := ⟨hx, hb, hml, hown, hts⟩
  have hn30 : n ≤ 30 := hw.2.2.1
  have hc20 : nc ≤ 20 := hw.2.2.2
  clear hw0 hS0 hH0 hlocs0
  have i3 : ∀ w ∈ wsX30, w ∈ wsX3_thrown := by decide +kernel
  have f_105 := hts (.fieldLink RX3 105 "LostroomModel" "thrown" "I") (by decide +kernel)
  refine lv_aload_n hx hb dX3_thrown_0 rfl (lv_at hl 0 rfl) ?_
  refine kx_getM (v := .int (g 9 0)) hx hb hts hown hG hw i3 0 (by decide) f_105 rfl dX3_thrown_1 ?_
  exact kx_retI hQ hx hb hr hlk hw hS (Nat.le_of_ble_eq_true rfl) (Nat.le_of_ble_eq_true rfl) dX3_thrown_4 (kd_i (trivial) (rfl) (rfl))
theorem hd_X3_holds : yX3_holds.cls = RX3 ∧ yX3_holds.cls ≠ "java/lang/invoke/MethodHandle" ∧ yX3_holds.cls ≠ "java/lang/invoke/VarHandle" ∧ (parseMethodDescriptor yX3_holds.desc).map (fun d => d.parameters.length) = some 1 := by decide +kernel
set_option maxHeartbeats 4000000 in
set_option maxRecDepth 100000 in
theorem c_X3_holds (l : Launch) (hfl : l.stackTraces = false) (D : va_G) (cy : Nat → ClassId) (base : Nat) (ad : Nat → Nat) (n nc : Nat) (g : sg) (place : Int32) : kM l yX3_holds wsX3_holds (kR 0 0 0) D cy base ad n nc g [.ref (ad 9), .int place] (kD True (some (.int (b2 (decide (place = 0))))) ad n nc (sU g 9 0 place)) kNo 0 0 := by
  refine kx_meth (cc := cX3_holds) (maxL := 2) (ret := (some .boolean)) (by decide) rfl (Nat.le_of_ble_eq_true rfl) ?_
  intro p e s m args below meth c ls hx hb hr hml hown hts hlk hT hG hw0 hS0 hl Q H locs hQ hw hS hH0 hlocs0
  have hl : lv_has ls 2 [(0, .ref (ad 9)), (1, .int place)] := hl
  have hown : s.vm.findClass RX3 = some m.cls := hown
  have hF : CallFix p m c cX3_holds 2 s args wsX3_holds RX3 := ⟨hx, hb, hml, hown, hts⟩
  have hn30 : n ≤ 30 := hw.2.2.1
  have hc20 : nc ≤ 20 := hw.2.2.2
  clear hw0 hS0 hH0 hlocs0
  have i3 : ∀ w ∈ wsX30, w ∈ wsX3_holds := by decide +kernel
  have f_105 := hts (.fieldLink RX3 105 "LostroomModel" "thrown" "I") (by decide +kernel)
  refine lv_aload_n hx hb dX3_holds_0 rfl (lv_at hl 0 rfl) ?_
  refine lv_iload_n hx hb dX3_holds_1 rfl (lv_at hl 1 rfl) ?_
  refine kx_putM (v := place) hx hb hts hown hG hw hS i3 0 (by decide) f_105 (by decide) rfl rfl rfl dX3_holds_2 (fun H locs hw hS => ?_)
  refine lv_iload_n hx hb dX3_holds_5 rfl (lv_at hl 1 rfl) ?_
  have hj_14_0 : ∀ (H : Heap) (locs : List Loc) (ls : Array Slot), kW D cy base ad n nc (sU g 9 0 place) H → va_S (kA base) s.heap H locs → lv_has ls 2 [(0, .ref (ad 9)), (1, .int place)] → W p l e (kR 0 0 0) s m args below meth c H locs 0 0 Q (F0 m 14 ls [.int (b2 (decide (place = (0 : Int32))))]) := by
    intro H locs ls hw hS hl
    exact kx_retZ hQ hx hb hr hlk hw hS (Nat.le_of_ble_eq_true rfl) (Nat.le_of_ble_eq_true rfl) dX3_holds_14 (nar_b2 _) (kd_i (trivial) (by first | (simp only []; done) | (simp only []; rfl) | simp []) (rfl))
  refine lv_if_ne (tgt := 13) hx hb dX3_holds_6 (by decide) (fun c_6 => ?_) (fun c_6 => ?_)
  · refine lv_iconst (v := 0) hx hb dX3_holds_13 (by decide) ?_
    exact kx_top (v := (b2 (decide (place = (0 : Int32))))) (by first | (simp only [bq, decide_eq_false c_6, if_neg c_6]; done) | (simp only [bq, decide_eq_false c_6, if_neg c_6]; rfl) | simp [bq, decide_eq_false c_6, if_neg c_6]) (hj_14_0 _ _ _ hw hS hl)
  · refine lv_iconst (v := 1) hx hb dX3_holds_9 (by decide) ?_
    refine lv_goto (tgt := 14) hx hb dX3_holds_10 (by decide) ?_
    exact kx_top (v := (b2 (decide (place = (0 : Int32))))) (by first | (simp only [bq, decide_eq_true c_6, if_pos c_6]; done) | (simp only [bq, decide_eq_true c_6, if_pos c_6]; rfl) | simp [bq, decide_eq_true c_6, if_pos c_6]) (hj_14_0 _ _ _ hw hS hl)
theorem hd_X3_isFind : yX3_isFind.cls = RX3 ∧ yX3_isFind.cls ≠ "java/lang/invoke/MethodHandle" ∧ yX3_isFind.cls ≠ "java/lang/invoke/VarHandle" ∧ (parseMethodDescriptor yX3_isFind.desc).map (fun d => d.parameters.length) = some 1 := by decide +kernel
set_option maxHeartbeats 4000000 in
set_option maxRecDepth 100000 in
theorem c_X3_isFind (l : Launch) (hfl : l.stackTraces = false) (D : va_G) (cy : Nat → ClassId) (base : Nat) (ad : Nat → Nat) (n nc : Nat) (g : sg) (k : Int32) (hfn : g 9 8 = nI n) : kM l yX3_isFind wsX3_isFind (kR 1 0 0) D cy base ad n nc g [.ref (ad 9), .int k] (kD True (some (.int (b2 (isF n k)))) ad n nc g) kNo 0 0 := by
  refine kx_meth (cc := cX3_isFind) (maxL := 2) (ret := (some .boolean)) (by decide) rfl (Nat.le_of_ble_eq_true rfl) ?_
  intro p e s m args below meth c ls hx hb hr hml hown hts hlk hT hG hw0 hS0 hl Q H locs hQ hw hS hH0 hlocs0
  have hl : lv_has ls 2 [(0, .ref (ad 9)), (1, .int k)] := hl
  have hown : s.vm.findClass RX3 = some m.cls := hown
  have hF : CallFix p m c cX3_isFind 2 s args wsX3_isFind RX3 := ⟨hx, hb, hml, hown, hts⟩
  have hn30 : n ≤ 30 := hw.2.2.1
  have hc20 : nc ≤ 20 := hw.2.2.2
  clear hw0 hS0 hH0 hlocs0
  have i3 : ∀ w ∈ wsX30, w ∈ wsX3_isFind := by decide +kernel
  have f_113 := hts (.fieldLink RX3 113 "LostroomModel" "finds" "I") (by decide +kernel)
  refine lv_iload_n hx hb dX3_isFind_0 rfl (lv_at hl 1 rfl) ?_
  refine lv_iconst (v := 0) hx hb dX3_isFind_1 (by decide) ?_
  refine lv_aload_n hx hb dX3_isFind_2 rfl (lv_at hl 0 rfl) ?_
  refine kx_getM (v := .int (nI n)) hx hb hts hown hG hw i3 8 (by decide) f_113 (congrArg Value.int (hfn)) dX3_isFind_3 ?_
  refine lv_iconst (v := 1) hx hb dX3_isFind_6 (by decide) ?_
  refine lv_isub hx hb dX3_isFind_7 ?_
  refine kx_do0 (st1 := [.int (b2 (inn k (0 : Int32) ((nI n) - (1 : Int32))))]) (kx_cs (As := [.int k, .int (0 : Int32), .int ((nI n) - (1 : Int32))]) (rest := []) hF hG hw hS hl.1 (c_X3_in l hfl D cy base ad n nc g k (0 : Int32) ((nI n) - (1 : Int32)) ) gX3_isFind_X3_in rfl rfl rfl hd_X3_in ⟨Nat.le_of_ble_eq_true rfl, Nat.le_of_ble_eq_true rfl⟩ rfl rfl (Nat.le_of_ble_eq_true rfl) dX3_isFind_8 ⟨Nat.le_of_ble_eq_true rfl, Nat.le_of_ble_eq_true rfl⟩) hS rfl (fun H locs hw hS => ?_)
  exact kx_retZ hQ hx hb hr hlk hw hS (Nat.le_of_ble_eq_true rfl) (Nat.le_of_ble_eq_true rfl) dX3_isFind_11 (nar_b2 _) (kd_i (trivial) (rfl) (rfl))
theorem hd_X3_isClaim : yX3_isClaim.cls = RX3 ∧ yX3_isClaim.cls ≠ "java/lang/invoke/MethodHandle" ∧ yX3_isClaim.cls ≠ "java/lang/invoke/VarHandle" ∧ (parseMethodDescriptor yX3_isClaim.desc).map (fun d => d.parameters.length) = some 1 := by decide +kernel
set_option maxHeartbeats 4000000 in
set_option maxRecDepth 100000 in
theorem c_X3_isClaim (l : Launch) (hfl : l.stackTraces = false) (D : va_G) (cy : Nat → ClassId) (base : Nat) (ad : Nat → Nat) (n nc : Nat) (g : sg) (k : Int32) (hcn : g 9 25 = nI nc) : kM l yX3_isClaim wsX3_isClaim (kR 1 0 0) D cy base ad n nc g [.ref (ad 9), .int k] (kD True (some (.int (b2 (isF nc k)))) ad n nc g) kNo 0 0 := by
  refine kx_meth (cc := cX3_isClaim) (maxL := 2) (ret := (some .boolean)) (by decide) rfl (Nat.le_of_ble_eq_true rfl) ?_
  intro p e s m args below meth c ls hx hb hr hml hown hts hlk hT hG hw0 hS0 hl Q H locs hQ hw hS hH0 hlocs0
  have hl : lv_has ls 2 [(0, .ref (ad 9)), (1, .int k)] := hl
  have hown : s.vm.findClass RX3 = some m.cls := hown
  have hF : CallFix p m c cX3_isClaim 2 s args wsX3_isClaim RX3 := ⟨hx, hb, hml, hown, hts⟩
  have hn30 : n ≤ 30 := hw.2.2.1
  have hc20 : nc ≤ 20 := hw.2.2.2
  clear hw0 hS0 hH0 hlocs0
  have i3 : ∀ w ∈ wsX30, w ∈ wsX3_isClaim := by decide +kernel
  have f_116 := hts (.fieldLink RX3 116 "LostroomModel" "claims" "I") (by decide +kernel)
  refine lv_iload_n hx hb dX3_isClaim_0 rfl (lv_at hl 1 rfl) ?_
  refine lv_iconst (v := 0) hx hb dX3_isClaim_1 (by decide) ?_
  refine lv_aload_n hx hb dX3_isClaim_2 rfl (lv_at hl 0 rfl) ?_
  refine kx_getM (v := .int (nI nc)) hx hb hts hown hG hw i3 25 (by decide) f_116 (congrArg Value.int (hcn)) dX3_isClaim_3 ?_
  refine lv_iconst (v := 1) hx hb dX3_isClaim_6 (by decide) ?_
  refine lv_isub hx hb dX3_isClaim_7 ?_
  refine kx_do0 (st1 := [.int (b2 (inn k (0 : Int32) ((nI nc) - (1 : Int32))))]) (kx_cs (As := [.int k, .int (0 : Int32), .int ((nI nc) - (1 : Int32))]) (rest := []) hF hG hw hS hl.1 (c_X3_in l hfl D cy base ad n nc g k (0 : Int32) ((nI nc) - (1 : Int32)) ) gX3_isClaim_X3_in rfl rfl rfl hd_X3_in ⟨Nat.le_of_ble_eq_true rfl, Nat.le_of_ble_eq_true rfl⟩ rfl rfl (Nat.le_of_ble_eq_true rfl) dX3_isClaim_8 ⟨Nat.le_of_ble_eq_true rfl, Nat.le_of_ble_eq_true rfl⟩) hS rfl (fun H locs hw hS => ?_)
  exact kx_retZ hQ hx hb hr hlk hw hS (Nat.le_of_ble_eq_true rfl) (Nat.le_of_ble_eq_true rfl) dX3_isClaim_11 (nar_b2 _) (kd_i (trivial) (rfl) (rfl))
theorem hd_X3_bits : yX3_bits.cls ≠ "java/lang/invoke/MethodHandle" ∧ yX3_bits.cls ≠ "java/lang/invoke/VarHandle" ∧ (parseMethodDescriptor yX3_bits.desc).map (fun d => d.parameters.length) = some 1 := by decide +kernel
set_option maxHeartbeats 4000000 in
set_option maxRecDepth 100000 in
theorem c_X3_bits (l : Launch) (hfl : l.stackTraces = false) (D : va_G) (cy : Nat → ClassId) (base : Nat) (ad : Nat → Nat) (n nc : Nat) (g : sg) (x : Int32) : kM l yX3_bits wsX3_bits (kR 0 0 0) D cy base ad n nc g [.int x] (kD True (some (.int (bits x))) ad n nc g) kNo 0 0 := by
  refine kx_meth (cc := cX3_bits) (maxL := 3) (ret := (some .int)) (by decide) rfl (Nat.le_of_ble_eq_true rfl) ?_
  intro p e s m args below meth c ls hx hb hr hml hown hts hlk hT hG hw0 hS0 hl Q H locs hQ hw hS hH0 hlocs0
  have hl : lv_has ls 3 [(0, .int x)] := hl
  have hown : s.vm.findClass RX3 = some m.cls := hown
  have hF : CallFix p m c cX3_bits 3 s args wsX3_bits RX3 := ⟨hx, hb, hml, hown, hts⟩
  have hn30 : n ≤ 30 := hw.2.2.1
  have hc20 : nc ≤ 20 := hw.2.2.2
  clear hw0 hS0 hH0 hlocs0
  refine lv_iconst (v := 0) hx hb dX3_bits_0 (by decide) ?_
  refine lv_istore_n (lv' := [(1, .int (0 : Int32)), (0, .int x)]) hx hb dX3_bits_1 rfl hl (by decide) rfl (fun ls hl => ?_)
  refine lv_iconst (v := 0) hx hb dX3_bits_2 (by decide) ?_
  refine lv_istore_n (lv' := [(2, .int (0 : Int32)), (1, .int (0 : Int32)), (0, .int x)]) hx hb dX3_bits_3 rfl hl (by decide) rfl (fun ls hl => ?_)
  have lp_4 : ∀ (nn k : Nat), k ≤ 24 → 24 < k + nn → ∀ (H : Heap) (locs : List Loc) (ls : Array Slot), kW D cy base ad n nc g H → va_S (kA base) s.heap H locs → lv_has ls 3 [(2, .int (nI k)), (1, .int (bsum x k)), (0, .int x)] → W p l e (kR 0 0 0) s m args below meth c H locs 0 0 Q (F0 m 4 ls []) := by
    intro nn
    induction nn with
    | zero => intro k h1 h2; exact absurd h2 (by omega)
    | succ nn ih_4 =>
      intro k hk_k hkn_k H locs ls hw hS hl
      refine lv_iload_n hx hb dX3_bits_4 rfl (lv_at hl 0 rfl) ?_
      refine lv_bipush (v := 24) hx hb dX3_bits_5 (by decide) ?_
      refine lv_icmp_ge (tgt := 24) hx hb dX3_bits_7 (by decide) (fun c_7 => ?_) (fun c_7 => ?_)
      · have e_k : k = 24 := Nat.le_antisymm hk_k (le_nI (a := 24) (b := k) c_7 (by omega) (by omega))
        refine lv_iload_n hx hb dX3_bits_24 rfl (lv_at hl 1 rfl) ?_
        exact kx_retI hQ hx hb hr hlk hw hS (Nat.le_of_ble_eq_true rfl) (Nat.le_of_ble_eq_true rfl) dX3_bits_25 (kd_i (trivial) (by rw [e_k]; rfl) (rfl))
      · have hlt_k : k < 24 := lt_nI (a := 24) (b := k) c_7 (by omega) (by omega)
        refine lv_iload_n hx hb dX3_bits_10 rfl (lv_at hl 1 rfl) ?_
        refine lv_iload_n hx hb dX3_bits_11 rfl (lv_at hl 2 rfl) ?_
        refine lv_iload_n hx hb dX3_bits_12 rfl (lv_at hl 0 rfl) ?_
        refine lv_ishr hx hb dX3_bits_13 ?_
        refine lv_iconst (v := 1) hx hb dX3_bits_14 (by decide) ?_
        refine lv_iand hx hb dX3_bits_15 ?_
        refine lv_iadd hx hb dX3_bits_16 ?_
        refine lv_istore_n (lv' := [(1, .int (bsum x k + ((x >>> (nI k &&& 31)) &&& (1 : Int32)))), (2, .int (nI k)), (0, .int x)]) hx hb dX3_bits_17 rfl hl (by decide) rfl (fun ls hl => ?_)
        refine lv_iinc (v := (nI k + (1 : Int32))) (lv' := [(2, .int (nI k + (1 : Int32))), (1, .int (bsum x k + ((x >>> (nI k &&& 31)) &&& (1 : Int32)))), (0, .int x)]) hx hb dX3_bits_18 hl (k := 1) rfl rfl (by decide) rfl (fun ls hl => ?_)
        refine lv_goto (tgt := 4) hx hb dX3_bits_21 (by decide) ?_
        exact ih_4 (k + 1) (by omega) (by omega) _ _ _ hw hS (kx_lv (l := [(2, .int (nI k + (1 : Int32))), (1, .int (bsum x k + ((x >>> (nI k &&& 31)) &&& (1 : Int32)))), (0, .int x)]) (l' := [(2, .int (nI (k + 1))), (1, .int (bsum x (k + 1))), (0, .int x)]) (lv_sub hl [0, 1, 2] rfl) (by simp [nI_1, decide_eq_false c_7, if_neg c_7, bsum])) 
  exact lp_4 (24 + 1) 0 (by omega) (by omega) _ _ _ hw hS (kx_lv (l := [(2, .int (0 : Int32)), (1, .int (0 : Int32)), (0, .int x)]) (l' := [(2, .int (nI 0)), (1, .int (bsum x 0)), (0, .int x)]) (lv_sub hl [0, 1, 2] rfl) (rfl)) 
theorem hd_X3_today : yX3_today.cls = RX3 ∧ yX3_today.cls ≠ "java/lang/invoke/MethodHandle" ∧ yX3_today.cls ≠ "java/lang/invoke/VarHandle" ∧ (parseMethodDescriptor yX3_today.desc).map (fun d => d.parameters.length) = some 0 := by decide +kernel
set_option maxHeartbeats 4000000 in
set_option maxRecDepth 100000 in
theorem c_X3_today (l : Launch) (hfl : l.stackTraces = false) (D : va_G) (cy : Nat → ClassId) (base : Nat) (ad : Nat → Nat) (n nc : Nat) (g : sg)  : kM l yX3_today wsX3_today (kR 0 0 0) D cy base ad n nc g [.ref (ad 9)] (kD True (some (.int (g 9 1))) ad n nc (sU g 9 0 0)) kNo 0 0 := by
  refine kx_meth (cc := cX3_today) (maxL := 1) (ret := (some .int)) (by decide) rfl (Nat.le_of_ble_eq_true rfl) ?_
  intro p e s m args below meth c ls hx hb hr hml hown hts hlk hT hG hw0 hS0 hl Q H locs hQ hw hS hH0 hlocs0
  have hl : lv_has ls 1 [(0, .ref (ad 9))] := hl
  have hown : s.vm.findClass RX3 = some m.cls := hown
  have hF : CallFix p m c cX3_today 1 s args wsX3_today RX3 := ⟨hx, hb, hml, hown, hts⟩
  have hn30 : n ≤ 30 := hw.2.2.1
  have hc20 : nc ≤ 20 := hw.2.2.2
  clear hw0 hS0 hH0 hlocs0
  have i3 : ∀ w ∈ wsX30, w ∈ wsX3_today := by decide +kernel
  have f_105 := hts (.fieldLink RX3 105 "LostroomModel" "thrown" "I") (by decide +kernel)
  have f_136 := hts (.fieldLink RX3 136 "LostroomModel" "today" "I") (by decide +kernel)
  refine lv_aload_n hx hb dX3_today_0 rfl (lv_at hl 0 rfl) ?_
  refine lv_iconst (v := 0) hx hb dX3_today_1 (by decide) ?_
  refine kx_putM (v := (0 : Int32)) hx hb hts hown hG hw hS i3 0 (by decide) f_105 (by decide) rfl rfl rfl dX3_today_2 (fun H locs hw hS => ?_)
  refine lv_aload_n hx hb dX3_today_5 rfl (lv_at hl 0 rfl) ?_
  refine kx_getM (v := .int (g 9 1)) hx hb hts hown hG hw i3 1 (by decide) f_136 (congrArg Value.int (sU_j _ _ _ _ (by decide))) dX3_today_6 ?_
  exact kx_retI hQ hx hb hr hlk hw hS (Nat.le_of_ble_eq_true rfl) (Nat.le_of_ble_eq_true rfl) dX3_today_9 (kd_i (trivial) (rfl) (rfl))
theorem hd_X2_today : yX2_today.cls = RX2 ∧ yX2_today.cls ≠ "java/lang/invoke/MethodHandle" ∧ yX2_today.cls ≠ "java/lang/invoke/VarHandle" ∧ (parseMethodDescriptor yX2_today.desc).map (fun d => d.parameters.length) = some 0 := by decide +kernel
set_option maxHeartbeats 4000000 in
set_option maxRecDepth 100000 in
theorem c_X2_today (l : Launch) (hfl : l.stackTraces = false) (D : va_G) (cy : Nat → ClassId) (base : Nat) (ad : Nat → Nat) (n nc : Nat) (g : sg)  : kM l yX2_today wsX2_today (kR 0 0 0) D cy base ad n nc g [.ref (ad 0)] (kD True (some (.int (g 0 10))) ad n nc g) kNo 0 0 := by
  refine kx_meth (cc := cX2_today) (maxL := 1) (ret := (some .int)) (by decide) rfl (Nat.le_of_ble_eq_true rfl) ?_
  intro p e s m args below meth c ls hx hb hr hml hown hts hlk hT hG hw0 hS0 hl Q H locs hQ hw hS hH0 hlocs0
  have hl : lv_has ls 1 [(0, .ref (ad 0))] := hl
  have hown : s.vm.findClass RX2 = some m.cls := hown
  have hF : CallFix p m c cX2_today 1 s args wsX2_today RX2 := ⟨hx, hb, hml, hown, hts⟩
  have hn30 : n ≤ 30 := hw.2.2.1
  have hc20 : nc ≤ 20 := hw.2.2.2
  clear hw0 hS0 hH0 hlocs0
  have i2 : ∀ w ∈ wsX20, w ∈ wsX2_today := by decide +kernel
  have f_47 := hts (.fieldLink RX2 47 "Lostroom" "day" "I") (by decide +kernel)
  refine lv_aload_n hx hb dX2_today_0 rfl (lv_at hl 0 rfl) ?_
  refine kx_getL (v := .int (g 0 10)) hx hb hts hown hG hw i2 10 (by decide) f_47 rfl dX2_today_1 ?_
  exact kx_retI hQ hx hb hr hlk hw hS (Nat.le_of_ble_eq_true rfl) (Nat.le_of_ble_eq_true rfl) dX2_today_4 (kd_i (trivial) (rfl) (rfl))
