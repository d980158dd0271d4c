/-! walks laid by wip/p35/kgen.py, kall.py -/
theorem hd_L_low : yL_low.cls ≠ "java/lang/invoke/MethodHandle" ∧ yL_low.cls ≠ "java/lang/invoke/VarHandle" ∧ (parseMethodDescriptor yL_low.desc).map (fun d => d.parameters.length) = some 2 := by decide +kernel
set_option maxHeartbeats 4000000 in
set_option maxRecDepth 100000 in
theorem c_L_low (l : Launch) (hfl : l.stackTraces = false) (D : va_G) (cy : Nat → ClassId) (base : Nat → Prop) (ad : Nat → Nat) (n nc : Nat) (g : sg) (x1 : Int32) (n1 : Int32) (hn1 : ¬ n1 = 0) : kM l yL_low wsL_low (kR 0 0 0) D cy base ad n nc g [.int x1, .int n1] (kD True (some (.int (lowF x1 n1))) ad n nc g) kNo 0 0 := by
  refine kx_meth (cc := cL_low) (maxL := 2) (ret := (some .int)) (by decide) rfl (Nat.le_of_ble_eq_true rfl) ?_
  intro p e s m args below meth c ls hx hb hr hml hown hts hlk hT hG hw0 hS0 hl Q H locs hQ hw hS hH0 hlocs0
  have hl : lv_has ls 2 [(0, .int x1), (1, .int n1)] := hl
  have hown : s.vm.findClass RL = some m.cls := hown
  have hF : CallFix p m c cL_low 2 s args wsL_low RL := ⟨hx, hb, hml, hown, hts⟩
  have hn30 : n ≤ 30 := hw.2.2.1
  have hc20 : nc ≤ 20 := hw.2.2.2
  clear hw0 hS0 hH0 hlocs0
  have k_7 := hts (.constant RL 7 (2147483647)) (by decide +kernel)
  refine lv_iload_n hx hb dL_low_0 rfl (lv_at hl 0 rfl) ?_
  refine lv_ldc hx hb hown k_7 dL_low_1 ?_
  refine lv_iand hx hb dL_low_3 ?_
  refine lv_iload_n hx hb dL_low_4 rfl (lv_at hl 1 rfl) ?_
  refine lv_irem hx hb dL_low_5 hn1 ?_
  exact kx_retI hQ hx hb hr hlk hw hS (Nat.le_of_ble_eq_true rfl) (Nat.le_of_ble_eq_true rfl) dL_low_6 (kd_i (trivial) (rfl) (rfl))
theorem hd_L_few : yL_few.cls ≠ "java/lang/invoke/MethodHandle" ∧ yL_few.cls ≠ "java/lang/invoke/VarHandle" ∧ (parseMethodDescriptor yL_few.desc).map (fun d => d.parameters.length) = some 1 := by decide +kernel
set_option maxHeartbeats 4000000 in
set_option maxRecDepth 100000 in
theorem c_L_few (l : Launch) (hfl : l.stackTraces = false) (D : va_G) (cy : Nat → ClassId) (base : Nat → Prop) (ad : Nat → Nat) (n nc : Nat) (g : sg) (x1 : Int32) : kM l yL_few wsL_few (kR 1 0 0) D cy base ad n nc g [.int x1] (kD True (some (.int (fewF x1))) ad n nc g) kNo 0 0 := by
  refine kx_meth (cc := cL_few) (maxL := 1) (ret := (some .int)) (by decide) rfl (Nat.le_of_ble_eq_true rfl) ?_
  intro p e s m args below meth c ls hx hb hr hml hown hts hlk hT hG hw0 hS0 hl Q H locs hQ hw hS hH0 hlocs0
  have hl : lv_has ls 1 [(0, .int x1)] := hl
  have hown : s.vm.findClass RL = some m.cls := hown
  have hF : CallFix p m c cL_few 1 s args wsL_few RL := ⟨hx, hb, hml, hown, hts⟩
  have hn30 : n ≤ 30 := hw.2.2.1
  have hc20 : nc ≤ 20 := hw.2.2.2
  clear hw0 hS0 hH0 hlocs0
  refine lv_iconst (v := 1) hx hb dL_few_0 (by decide) ?_
  refine lv_iload_n hx hb dL_few_1 rfl (lv_at hl 0 rfl) ?_
  refine lv_bipush (v := 9) hx hb dL_few_2 (by decide) ?_
  refine kx_do0 (st1 := [.int (lowF x1 (9 : Int32)), .int (1 : Int32)]) (kx_cs (As := [.int x1, .int (9 : Int32)]) (rest := [.int (1 : Int32)]) hF hG hw hS hl.1 (c_L_low l hfl D cy base ad n nc g x1 (9 : Int32) (by decide +kernel)) gL_few_L_low rfl rfl rfl hd_L_low ⟨Nat.le_of_ble_eq_true rfl, Nat.le_of_ble_eq_true rfl⟩ rfl rfl (Nat.le_of_ble_eq_true rfl) dL_few_4 ⟨Nat.le_of_ble_eq_true rfl, Nat.le_of_ble_eq_true rfl⟩) hS rfl (fun H locs hw hS => ?_)
  refine lv_ishl hx hb dL_few_7 ?_
  refine lv_iconst (v := 1) hx hb dL_few_8 (by decide) ?_
  refine lv_iload_n hx hb dL_few_9 rfl (lv_at hl 0 rfl) ?_
  refine lv_iconst (v := 3) hx hb dL_few_10 (by decide) ?_
  refine lv_ishr hx hb dL_few_11 ?_
  refine lv_bipush (v := 9) hx hb dL_few_12 (by decide) ?_
  refine kx_do0 (st1 := [.int (lowF (x1 >>> ((3 : Int32) &&& 31)) (9 : Int32)), .int (1 : Int32), .int ((1 : Int32) <<< ((lowF x1 (9 : Int32)) &&& 31))]) (kx_cs (As := [.int (x1 >>> ((3 : Int32) &&& 31)), .int (9 : Int32)]) (rest := [.int (1 : Int32), .int ((1 : Int32) <<< ((lowF x1 (9 : Int32)) &&& 31))]) hF hG hw hS hl.1 (c_L_low l hfl D cy base ad n nc g (x1 >>> ((3 : Int32) &&& 31)) (9 : Int32) (by decide +kernel)) gL_few_L_low rfl rfl rfl hd_L_low ⟨Nat.le_of_ble_eq_true rfl, Nat.le_of_ble_eq_true rfl⟩ rfl rfl (Nat.le_of_ble_eq_true rfl) dL_few_14 ⟨Nat.le_of_ble_eq_true rfl, Nat.le_of_ble_eq_true rfl⟩) hS rfl (fun H locs hw hS => ?_)
  refine lv_ishl hx hb dL_few_17 ?_
  refine lv_ior hx hb dL_few_18 ?_
  refine lv_iload_n hx hb dL_few_19 rfl (lv_at hl 0 rfl) ?_
  refine lv_bipush (v := 6) hx hb dL_few_20 (by decide) ?_
  refine lv_ishr hx hb dL_few_22 ?_
  refine lv_iconst (v := 1) hx hb dL_few_23 (by decide) ?_
  refine lv_iand hx hb dL_few_24 ?_
  have hj_43_0 : ∀ (H : Heap) (locs : List Loc) (ls : Array Slot), kW D cy base ad n nc g H → va_S (kA base) s.heap H locs → lv_has ls 1 [(0, .int x1)] → W p l e (kR 1 0 0) s m args below meth c H locs 0 0 Q (F0 m 43 ls [.int (if ((x1 >>> ((6 : Int32) &&& 31)) &&& (1 : Int32)) = (0 : Int32) then ((1 : Int32) <<< ((lowF (x1 >>> ((7 : Int32) &&& 31)) (24 : Int32)) &&& 31)) else (0 : Int32)), .int (((1 : Int32) <<< ((lowF x1 (9 : Int32)) &&& 31)) ||| ((1 : Int32) <<< ((lowF (x1 >>> ((3 : Int32) &&& 31)) (9 : Int32)) &&& 31)))]) := by
    intro H locs ls hw hS hl
    refine lv_ior hx hb dL_few_43 ?_
    exact kx_retI hQ hx hb hr hlk hw hS (Nat.le_of_ble_eq_true rfl) (Nat.le_of_ble_eq_true rfl) dL_few_44 (kd_i (trivial) (by first | (simp only [fewF, ]; done) | (simp only [fewF, ]; rfl) | (simp [fewF, ]; done)) (rfl))
  refine lv_if_ne (tgt := 42) hx hb dL_few_25 (by decide) (fun c_25 => ?_) (fun c_25 => ?_)
  · refine lv_iconst (v := 0) hx hb dL_few_42 (by decide) ?_
    exact kx_top (v := (if ((x1 >>> ((6 : Int32) &&& 31)) &&& (1 : Int32)) = (0 : Int32) then ((1 : Int32) <<< ((lowF (x1 >>> ((7 : Int32) &&& 31)) (24 : Int32)) &&& 31)) else (0 : Int32))) (by first | (simp only [bq, decide_eq_false c_25, if_neg c_25]; done) | (simp only [bq, decide_eq_false c_25, if_neg c_25]; rfl) | (simp [bq, decide_eq_false c_25, if_neg c_25]; done)) (hj_43_0 _ _ _ hw hS hl)
  · refine lv_iconst (v := 1) hx hb dL_few_28 (by decide) ?_
    refine lv_iload_n hx hb dL_few_29 rfl (lv_at hl 0 rfl) ?_
    refine lv_bipush (v := 7) hx hb dL_few_30 (by decide) ?_
    refine lv_ishr hx hb dL_few_32 ?_
    refine lv_bipush (v := 24) hx hb dL_few_33 (by decide) ?_
    refine kx_do0 (st1 := [.int (lowF (x1 >>> ((7 : Int32) &&& 31)) (24 : Int32)), .int (1 : Int32), .int (((1 : Int32) <<< ((lowF x1 (9 : Int32)) &&& 31)) ||| ((1 : Int32) <<< ((lowF (x1 >>> ((3 : Int32) &&& 31)) (9 : Int32)) &&& 31)))]) (kx_cs (As := [.int (x1 >>> ((7 : Int32) &&& 31)), .int (24 : Int32)]) (rest := [.int (1 : Int32), .int (((1 : Int32) <<< ((lowF x1 (9 : Int32)) &&& 31)) ||| ((1 : Int32) <<< ((lowF (x1 >>> ((3 : Int32) &&& 31)) (9 : Int32)) &&& 31)))]) hF hG hw hS hl.1 (c_L_low l hfl D cy base ad n nc g (x1 >>> ((7 : Int32) &&& 31)) (24 : Int32) (by decide +kernel)) gL_few_L_low rfl rfl rfl hd_L_low ⟨Nat.le_of_ble_eq_true rfl, Nat.le_of_ble_eq_true rfl⟩ rfl rfl (Nat.le_of_ble_eq_true rfl) dL_few_35 ⟨Nat.le_of_ble_eq_true rfl, Nat.le_of_ble_eq_true rfl⟩) hS rfl (fun H locs hw hS => ?_)
    refine lv_ishl hx hb dL_few_38 ?_
    refine lv_goto (tgt := 43) hx hb dL_few_39 (by decide) ?_
    exact kx_top (v := (if ((x1 >>> ((6 : Int32) &&& 31)) &&& (1 : Int32)) = (0 : Int32) then ((1 : Int32) <<< ((lowF (x1 >>> ((7 : Int32) &&& 31)) (24 : Int32)) &&& 31)) else (0 : Int32))) (by first | (simp only [bq, decide_eq_true c_25, if_pos c_25]; done) | (simp only [bq, decide_eq_true c_25, if_pos c_25]; rfl) | (simp [bq, decide_eq_true c_25, if_pos c_25]; done)) (hj_43_0 _ _ _ hw hS hl)
theorem hd_L_count : yL_count.cls ≠ "java/lang/invoke/MethodHandle" ∧ yL_count.cls ≠ "java/lang/invoke/VarHandle" ∧ (parseMethodDescriptor yL_count.desc).map (fun d => d.parameters.length) = some 1 := by decide +kernel
set_option maxHeartbeats 4000000 in
set_option maxRecDepth 100000 in
theorem c_L_count (l : Launch) (hfl : l.stackTraces = false) (D : va_G) (cy : Nat → ClassId) (base : Nat → Prop) (ad : Nat → Nat) (n nc : Nat) (g : sg) (x1 : Int32) : kM l yL_count wsL_count (kR 0 0 0) D cy base ad n nc g [.int x1] (kD True (some (.int (bsum x1 31))) ad n nc g) kNo 0 0 := by
  refine kx_meth (cc := cL_count) (maxL := 3) (ret := (some .int)) (by decide) rfl (Nat.le_of_ble_eq_true rfl) ?_
  intro p e s m args below meth c ls hx hb hr hml hown hts hlk hT hG hw0 hS0 hl Q H locs hQ hw hS hH0 hlocs0
  have hl : lv_has ls 3 [(0, .int x1)] := hl
  have hown : s.vm.findClass RL = some m.cls := hown
  have hF : CallFix p m c cL_count 3 s args wsL_count RL := ⟨hx, hb, hml, hown, hts⟩
  have hn30 : n ≤ 30 := hw.2.2.1
  have hc20 : nc ≤ 20 := hw.2.2.2
  clear hw0 hS0 hH0 hlocs0
  refine lv_iconst (v := 0) hx hb dL_count_0 (by decide) ?_
  refine lv_istore_n (lv' := [(1, .int (0 : Int32)), (0, .int x1)]) hx hb dL_count_1 rfl hl (by decide) rfl (fun ls hl => ?_)
  refine lv_iconst (v := 0) hx hb dL_count_2 (by decide) ?_
  refine lv_istore_n (lv' := [(2, .int (0 : Int32)), (1, .int (0 : Int32)), (0, .int x1)]) hx hb dL_count_3 rfl hl (by decide) rfl (fun ls hl => ?_)
  have lp_4 : ∀ (nn k : Nat), k ≤ 31 → 31 < k + nn → ∀ (H : Heap) (locs : List Loc) (ls : Array Slot), kW D cy base ad n nc g H → va_S (kA base) s.heap H locs → lv_has ls 3 [(2, .int (nI k)), (1, .int (bsum x1 k)), (0, .int x1)] → W p l e (kR 0 0 0) s m args below meth c H locs 0 0 Q (F0 m 4 ls []) := by
    intro nn
    induction nn with
    | zero => intro k h1 h2; exact absurd h2 (by omega)
    | succ nn ih_4 =>
      intro k hk_k hkn_k H locs ls hw hS hl
      refine lv_iload_n hx hb dL_count_4 rfl (lv_at hl 0 rfl) ?_
      refine lv_bipush (v := 31) hx hb dL_count_5 (by decide) ?_
      refine lv_icmp_ge (tgt := 24) hx hb dL_count_7 (by decide) (fun c_7 => ?_) (fun c_7 => ?_)
      · have e_k : k = 31 := Nat.le_antisymm hk_k (le_nI (a := 31) (b := k) c_7 (by omega) (by omega))
        refine lv_iload_n hx hb dL_count_24 rfl (lv_at hl 1 rfl) ?_
        exact kx_retI hQ hx hb hr hlk hw hS (Nat.le_of_ble_eq_true rfl) (Nat.le_of_ble_eq_true rfl) dL_count_25 (kd_i (trivial) (by rw [e_k]) (rfl))
      · have hlt_k : k < 31 := lt_nI (a := 31) (b := k) c_7 (by omega) (by omega)
        refine lv_iload_n hx hb dL_count_10 rfl (lv_at hl 1 rfl) ?_
        refine lv_iload_n hx hb dL_count_11 rfl (lv_at hl 2 rfl) ?_
        refine lv_iload_n hx hb dL_count_12 rfl (lv_at hl 0 rfl) ?_
        refine lv_ishr hx hb dL_count_13 ?_
        refine lv_iconst (v := 1) hx hb dL_count_14 (by decide) ?_
        refine lv_iand hx hb dL_count_15 ?_
        refine lv_iadd hx hb dL_count_16 ?_
        refine lv_istore_n (lv' := [(1, .int (bsum x1 k + ((x1 >>> (nI k &&& 31)) &&& (1 : Int32)))), (2, .int (nI k)), (0, .int x1)]) hx hb dL_count_17 rfl hl (by decide) rfl (fun ls hl => ?_)
        refine lv_iinc (v := (nI k + (1 : Int32))) (lv' := [(2, .int (nI k + (1 : Int32))), (1, .int (bsum x1 k + ((x1 >>> (nI k &&& 31)) &&& (1 : Int32)))), (0, .int x1)]) hx hb dL_count_18 hl (k := 1) rfl rfl (by decide) rfl (fun ls hl => ?_)
        refine lv_goto (tgt := 4) hx hb dL_count_21 (by decide) ?_
        exact ih_4 (k + 1) (by omega) (by omega) _ _ _ hw hS (kx_lv (l := [(2, .int (nI k + (1 : Int32))), (1, .int (bsum x1 k + ((x1 >>> (nI k &&& 31)) &&& (1 : Int32)))), (0, .int x1)]) (l' := [(2, .int (nI (k + 1))), (1, .int (bsum x1 (k + 1))), (0, .int x1)]) (lv_sub hl [0, 1, 2] rfl) (by rw [nI_1]; rfl)) 
  exact lp_4 (31 + 1) 0 (by omega) (by omega) _ _ _ hw hS (kx_lv (l := [(2, .int (0 : Int32)), (1, .int (0 : Int32)), (0, .int x1)]) (l' := [(2, .int (nI 0)), (1, .int (bsum x1 0)), (0, .int x1)]) (lv_sub hl [0, 1, 2] rfl) (rfl)) 
