/-! the law's private methods: laid by wip/whole/lawgen.py -/
theorem hd_L_near : yL_near.cls ≠ "java/lang/invoke/MethodHandle" ∧ yL_near.cls ≠ "java/lang/invoke/VarHandle" ∧ (parseMethodDescriptor yL_near.desc).map (fun d => d.parameters.length) = some 4 := by decide +kernel
set_option maxHeartbeats 4000000 in
set_option maxRecDepth 100000 in
theorem c_L_near (l : Launch) (hfl : l.stackTraces = false) (D : va_G) (cy : Nat → ClassId) (base : Nat) (ad : Nat → Nat) (n nc : Nat) (g : sg) (w : Int32) (o : Int32) : kM l yL_near wsL_near (kR 9 12 100) D cy base ad n nc g [.ref (ad 0), .int w, .int o, .ref (ad 40)] (fun v u => v = some (.int (kd2 (inn w 0 23 && inn o 0 23) (!decide (w = o)))) ∧ u = (ad, n, nc, if kd2 (inn w 0 23 && inn o 0 23) (!decide (w = o)) = 0 then sU (tg g 1 w o) 40 0 (b2 (tb g 1 w o)) else g)) kNo 12 100 := by
  refine kx_methH (cc := cL_near) (maxL := 5) (ret := (some .int)) (hh := [(0, 17, 20, 13), (0, 17, 24, 15)]) (by decide) rfl (Nat.le_of_ble_eq_true rfl) ?_
  intro p e s m args below meth c ls hx hb hr hml hown hts hlk hT hG hl Q H locs hQ hw hS
  have hl : lv_has ls 5 [(0, .ref (ad 0)), (1, .int w), (2, .int o), (3, .ref (ad 40))] := hl
  have hown : s.vm.findClass RL = some m.cls := hown
  have hF : CallFix p m c cL_near 5 s args wsL_near RL := ⟨hx, hb, hml, hown, hts⟩
  refine lv_aload_n hx hb dL_near_0 rfl (lv_at hl 3 rfl) ?_
  refine lv_iconst (v := 0) hx hb dL_near_1 (by decide) ?_
  refine lv_aload_n hx hb dL_near_2 rfl (lv_at hl 0 rfl) ?_
  refine lv_iload_n hx hb dL_near_3 rfl (lv_at hl 1 rfl) ?_
  refine lv_iload_n hx hb dL_near_4 rfl (lv_at hl 2 rfl) ?_
  refine kx_do (st1 := [.int (b2 (tb g 1 w o)), .int 0, .ref (ad 40)]) (kx_cv (As := [.int w, .int o]) (rest := [.int 0, .ref (ad 40)]) hF hG hw hS hl.1 kC_0 rfl (c_X2_near l hfl D cy base ad n nc g w o ) gL_near_X2_near rfl rfl rfl hd_X2_near ⟨Nat.le_of_ble_eq_true rfl, Nat.le_of_ble_eq_true rfl⟩ rfl rfl (Nat.le_of_ble_eq_true rfl) dL_near_5 ⟨Nat.le_of_ble_eq_true rfl, Nat.le_of_ble_eq_true rfl⟩) hS rfl (fun E9 ce9 q9 H1 locs1 hX9 hw1 hS1 hc9 hv9 hcl9 => ?_) (fun hok H locs hw hS => ?_)
  · rcases ex_2 hX9 with ⟨rfl, hk⟩ | ⟨rfl, hk⟩
    · refine kx_cat0 hown hG hT ⟨by decide, by decide⟩ (by decide) mIO (hts (.classLink RL 13 "java/lang/IndexOutOfBoundsException") (by decide +kernel)) hc9 hv9 hcl9 ?_
      refine lv_astore (lv' := [(4, .ref q9), (0, .ref (ad 0)), (1, .int w), (2, .int o), (3, .ref (ad 40))]) hx hb dL_near_20 hl (by decide) rfl (fun ls hl => ?_)
      refine lv_iconst (v := 1) hx hb dL_near_22 (by decide) ?_
      exact kx_retI hQ hx hb hr hlk hw1 hS1 (Nat.le_of_ble_eq_true rfl) (Nat.le_of_ble_eq_true rfl) dL_near_23 ⟨by rw [hk], by rw [if_neg (by rw [hk]; decide)]⟩
    · refine kx_cat1 hown hG hT ⟨by decide, by decide⟩ (by decide) mIA (hts (.classLink RL 15 "java/lang/IllegalArgumentException") (by decide +kernel)) mIO nAO (by decide) (hts (.classLink RL 13 "java/lang/IndexOutOfBoundsException") (by decide +kernel)) hc9 hv9 hcl9 ?_
      refine lv_astore (lv' := [(4, .ref q9), (0, .ref (ad 0)), (1, .int w), (2, .int o), (3, .ref (ad 40))]) hx hb dL_near_24 hl (by decide) rfl (fun ls hl => ?_)
      refine lv_iconst (v := 2) hx hb dL_near_26 (by decide) ?_
      exact kx_retI hQ hx hb hr hlk hw1 hS1 (Nat.le_of_ble_eq_true rfl) (Nat.le_of_ble_eq_true rfl) dL_near_27 ⟨by rw [hk], by rw [if_neg (by rw [hk]; decide)]⟩
  · refine kx_nzB hx hb dL_near_8 dL_near_11 dL_near_12 dL_near_15 ?_
    refine kx_last (v0 := b2 (tb g 1 w o)) hx hb hG hw hS rfl dL_near_16 (fun H locs hw hS => ?_)
    refine lv_goto (tgt := 28) hx hb dL_near_17 (by decide) ?_
    refine lv_iconst (v := 0) hx hb dL_near_28 (by decide) ?_
    exact kx_retI hQ hx hb hr hlk hw hS (Nat.le_of_ble_eq_true rfl) (Nat.le_of_ble_eq_true rfl) dL_near_29 ⟨by rw [hok], by rw [if_pos hok]⟩
theorem hd_L_alike : yL_alike.cls ≠ "java/lang/invoke/MethodHandle" ∧ yL_alike.cls ≠ "java/lang/invoke/VarHandle" ∧ (parseMethodDescriptor yL_alike.desc).map (fun d => d.parameters.length) = some 4 := by decide +kernel
set_option maxHeartbeats 4000000 in
set_option maxRecDepth 100000 in
theorem c_L_alike (l : Launch) (hfl : l.stackTraces = false) (D : va_G) (cy : Nat → ClassId) (base : Nat) (ad : Nat → Nat) (n nc : Nat) (g : sg) (w : Int32) (o : Int32) : kM l yL_alike wsL_alike (kR 9 12 100) D cy base ad n nc g [.ref (ad 0), .int w, .int o, .ref (ad 40)] (fun v u => v = some (.int (kd2 (inn w 0 7 && inn o 0 7) (!decide (w = o)))) ∧ u = (ad, n, nc, if kd2 (inn w 0 7 && inn o 0 7) (!decide (w = o)) = 0 then sU (tg g 2 w o) 40 0 (b2 (tb g 2 w o)) else g)) kNo 12 100 := by
  refine kx_methH (cc := cL_alike) (maxL := 5) (ret := (some .int)) (hh := [(0, 17, 20, 13), (0, 17, 24, 15)]) (by decide) rfl (Nat.le_of_ble_eq_true rfl) ?_
  intro p e s m args below meth c ls hx hb hr hml hown hts hlk hT hG hl Q H locs hQ hw hS
  have hl : lv_has ls 5 [(0, .ref (ad 0)), (1, .int w), (2, .int o), (3, .ref (ad 40))] := hl
  have hown : s.vm.findClass RL = some m.cls := hown
  have hF : CallFix p m c cL_alike 5 s args wsL_alike RL := ⟨hx, hb, hml, hown, hts⟩
  refine lv_aload_n hx hb dL_alike_0 rfl (lv_at hl 3 rfl) ?_
  refine lv_iconst (v := 0) hx hb dL_alike_1 (by decide) ?_
  refine lv_aload_n hx hb dL_alike_2 rfl (lv_at hl 0 rfl) ?_
  refine lv_iload_n hx hb dL_alike_3 rfl (lv_at hl 1 rfl) ?_
  refine lv_iload_n hx hb dL_alike_4 rfl (lv_at hl 2 rfl) ?_
  refine kx_do (st1 := [.int (b2 (tb g 2 w o)), .int 0, .ref (ad 40)]) (kx_cv (As := [.int w, .int o]) (rest := [.int 0, .ref (ad 40)]) hF hG hw hS hl.1 kC_0 rfl (c_X2_alike l hfl D cy base ad n nc g w o ) gL_alike_X2_alike rfl rfl rfl hd_X2_alike ⟨Nat.le_of_ble_eq_true rfl, Nat.le_of_ble_eq_true rfl⟩ rfl rfl (Nat.le_of_ble_eq_true rfl) dL_alike_5 ⟨Nat.le_of_ble_eq_true rfl, Nat.le_of_ble_eq_true rfl⟩) hS rfl (fun E9 ce9 q9 H1 locs1 hX9 hw1 hS1 hc9 hv9 hcl9 => ?_) (fun hok H locs hw hS => ?_)
  · rcases ex_2 hX9 with ⟨rfl, hk⟩ | ⟨rfl, hk⟩
    · refine kx_cat0 hown hG hT ⟨by decide, by decide⟩ (by decide) mIO (hts (.classLink RL 13 "java/lang/IndexOutOfBoundsException") (by decide +kernel)) hc9 hv9 hcl9 ?_
      refine lv_astore (lv' := [(4, .ref q9), (0, .ref (ad 0)), (1, .int w), (2, .int o), (3, .ref (ad 40))]) hx hb dL_alike_20 hl (by decide) rfl (fun ls hl => ?_)
      refine lv_iconst (v := 1) hx hb dL_alike_22 (by decide) ?_
      exact kx_retI hQ hx hb hr hlk hw1 hS1 (Nat.le_of_ble_eq_true rfl) (Nat.le_of_ble_eq_true rfl) dL_alike_23 ⟨by rw [hk], by rw [if_neg (by rw [hk]; decide)]⟩
    · refine kx_cat1 hown hG hT ⟨by decide, by decide⟩ (by decide) mIA (hts (.classLink RL 15 "java/lang/IllegalArgumentException") (by decide +kernel)) mIO nAO (by decide) (hts (.classLink RL 13 "java/lang/IndexOutOfBoundsException") (by decide +kernel)) hc9 hv9 hcl9 ?_
      refine lv_astore (lv' := [(4, .ref q9), (0, .ref (ad 0)), (1, .int w), (2, .int o), (3, .ref (ad 40))]) hx hb dL_alike_24 hl (by decide) rfl (fun ls hl => ?_)
      refine lv_iconst (v := 2) hx hb dL_alike_26 (by decide) ?_
      exact kx_retI hQ hx hb hr hlk hw1 hS1 (Nat.le_of_ble_eq_true rfl) (Nat.le_of_ble_eq_true rfl) dL_alike_27 ⟨by rw [hk], by rw [if_neg (by rw [hk]; decide)]⟩
  · refine kx_nzB hx hb dL_alike_8 dL_alike_11 dL_alike_12 dL_alike_15 ?_
    refine kx_last (v0 := b2 (tb g 2 w o)) hx hb hG hw hS rfl dL_alike_16 (fun H locs hw hS => ?_)
    refine lv_goto (tgt := 28) hx hb dL_alike_17 (by decide) ?_
    refine lv_iconst (v := 0) hx hb dL_alike_28 (by decide) ?_
    exact kx_retI hQ hx hb hr hlk hw hS (Nat.le_of_ble_eq_true rfl) (Nat.le_of_ble_eq_true rfl) dL_alike_29 ⟨by rw [hok], by rw [if_pos hok]⟩
theorem hd_L_rule : yL_rule.cls ≠ "java/lang/invoke/MethodHandle" ∧ yL_rule.cls ≠ "java/lang/invoke/VarHandle" ∧ (parseMethodDescriptor yL_rule.desc).map (fun d => d.parameters.length) = some 5 := by decide +kernel
set_option maxHeartbeats 4000000 in
set_option maxRecDepth 100000 in
theorem c_L_rule (l : Launch) (hfl : l.stackTraces = false) (D : va_G) (cy : Nat → ClassId) (base : Nat) (ad : Nat → Nat) (n nc : Nat) (g : sg) (k : Int32) (t : Int32) (r : Int32) : kM l yL_rule wsL_rule (kR 9 12 100) D cy base ad n nc g [.ref (ad 0), .int k, .int t, .int r, .ref (ad 40)] (fun v u => v = some (.int (kd2 (inn k 0 7) (inn t 1 400 && inn r 0 50))) ∧ u = (ad, n, nc, if kd2 (inn k 0 7) (inn t 1 400 && inn r 0 50) = 0 then sU (sU (sU g 4 k.toNatClampNeg t) 5 k.toNatClampNeg r) 40 0 (g 4 k.toNatClampNeg) else g)) kNo 12 100 := by
  refine kx_methH (cc := cL_rule) (maxL := 6) (ret := (some .int)) (hh := [(0, 12, 15, 13), (0, 12, 19, 15)]) (by decide) rfl (Nat.le_of_ble_eq_true rfl) ?_
  intro p e s m args below meth c ls hx hb hr hml hown hts hlk hT hG hl Q H locs hQ hw hS
  have hl : lv_has ls 6 [(0, .ref (ad 0)), (1, .int k), (2, .int t), (3, .int r), (4, .ref (ad 40))] := hl
  have hown : s.vm.findClass RL = some m.cls := hown
  have hF : CallFix p m c cL_rule 6 s args wsL_rule RL := ⟨hx, hb, hml, hown, hts⟩
  refine lv_aload hx hb dL_rule_0 (lv_at hl 4 rfl) ?_
  refine lv_iconst (v := 0) hx hb dL_rule_2 (by decide) ?_
  refine lv_aload_n hx hb dL_rule_3 rfl (lv_at hl 0 rfl) ?_
  refine lv_iload_n hx hb dL_rule_4 rfl (lv_at hl 1 rfl) ?_
  refine lv_iload_n hx hb dL_rule_5 rfl (lv_at hl 2 rfl) ?_
  refine lv_iload_n hx hb dL_rule_6 rfl (lv_at hl 3 rfl) ?_
  refine kx_do (st1 := [.int (g 4 k.toNatClampNeg), .int 0, .ref (ad 40)]) (kx_cv (As := [.int k, .int t, .int r]) (rest := [.int 0, .ref (ad 40)]) hF hG hw hS hl.1 kC_0 rfl (c_X2_rule l hfl D cy base ad n nc g k t r ) gL_rule_X2_rule rfl rfl rfl hd_X2_rule ⟨Nat.le_of_ble_eq_true rfl, Nat.le_of_ble_eq_true rfl⟩ rfl rfl (Nat.le_of_ble_eq_true rfl) dL_rule_7 ⟨Nat.le_of_ble_eq_true rfl, Nat.le_of_ble_eq_true rfl⟩) hS rfl (fun E9 ce9 q9 H1 locs1 hX9 hw1 hS1 hc9 hv9 hcl9 => ?_) (fun hok H locs hw hS => ?_)
  · rcases ex_2 hX9 with ⟨rfl, hk⟩ | ⟨rfl, hk⟩
    · refine kx_cat0 hown hG hT ⟨by decide, by decide⟩ (by decide) mIO (hts (.classLink RL 13 "java/lang/IndexOutOfBoundsException") (by decide +kernel)) hc9 hv9 hcl9 ?_
      refine lv_astore (lv' := [(5, .ref q9), (0, .ref (ad 0)), (1, .int k), (2, .int t), (3, .int r), (4, .ref (ad 40))]) hx hb dL_rule_15 hl (by decide) rfl (fun ls hl => ?_)
      refine lv_iconst (v := 1) hx hb dL_rule_17 (by decide) ?_
      exact kx_retI hQ hx hb hr hlk hw1 hS1 (Nat.le_of_ble_eq_true rfl) (Nat.le_of_ble_eq_true rfl) dL_rule_18 ⟨by rw [hk], by rw [if_neg (by rw [hk]; decide)]⟩
    · refine kx_cat1 hown hG hT ⟨by decide, by decide⟩ (by decide) mIA (hts (.classLink RL 15 "java/lang/IllegalArgumentException") (by decide +kernel)) mIO nAO (by decide) (hts (.classLink RL 13 "java/lang/IndexOutOfBoundsException") (by decide +kernel)) hc9 hv9 hcl9 ?_
      refine lv_astore (lv' := [(5, .ref q9), (0, .ref (ad 0)), (1, .int k), (2, .int t), (3, .int r), (4, .ref (ad 40))]) hx hb dL_rule_19 hl (by decide) rfl (fun ls hl => ?_)
      refine lv_iconst (v := 2) hx hb dL_rule_21 (by decide) ?_
      exact kx_retI hQ hx hb hr hlk hw1 hS1 (Nat.le_of_ble_eq_true rfl) (Nat.le_of_ble_eq_true rfl) dL_rule_22 ⟨by rw [hk], by rw [if_neg (by rw [hk]; decide)]⟩
  · refine lv_i2l (v := (g 4 k.toNatClampNeg).toInt64) hx hb dL_rule_10 rfl ?_
    refine kx_last (v0 := g 4 k.toNatClampNeg) hx hb hG hw hS rfl dL_rule_11 (fun H locs hw hS => ?_)
    refine lv_goto (tgt := 23) hx hb dL_rule_12 (by decide) ?_
    refine lv_iconst (v := 0) hx hb dL_rule_23 (by decide) ?_
    exact kx_retI hQ hx hb hr hlk hw hS (Nat.le_of_ble_eq_true rfl) (Nat.le_of_ble_eq_true rfl) dL_rule_24 ⟨by rw [hok], by rw [if_pos hok]⟩
theorem hd_L_stop : yL_stop.cls ≠ "java/lang/invoke/MethodHandle" ∧ yL_stop.cls ≠ "java/lang/invoke/VarHandle" ∧ (parseMethodDescriptor yL_stop.desc).map (fun d => d.parameters.length) = some 4 := by decide +kernel
set_option maxHeartbeats 4000000 in
set_option maxRecDepth 100000 in
theorem c_L_stop (l : Launch) (hfl : l.stackTraces = false) (D : va_G) (cy : Nat → ClassId) (base : Nat) (ad : Nat → Nat) (n nc : Nat) (g : sg) (t : Int32) (r : Int32) (hs : ∀ t, t < 4 → sB (g 3 t)) : kM l yL_stop wsL_stop (kR 9 12 100) D cy base ad n nc g [.ref (ad 0), .int t, .int r, .ref (ad 40)] (fun v u => v = some (.int (kd2 (inn t 0 3 && inn r 0 5) (!bq (g 3 t.toNatClampNeg) r))) ∧ u = (ad, n, nc, if kd2 (inn t 0 3 && inn r 0 5) (!bq (g 3 t.toNatClampNeg) r) = 0 then sU (sU g 3 t.toNatClampNeg (g 3 t.toNatClampNeg ||| ((1 : Int32) <<< (r &&& 31)))) 40 0 (bits (g 3 t.toNatClampNeg ||| ((1 : Int32) <<< (r &&& 31)))) else g)) kNo 12 100 := by
  refine kx_methH (cc := cL_stop) (maxL := 5) (ret := (some .int)) (hh := [(0, 10, 13, 13), (0, 10, 17, 28)]) (by decide) rfl (Nat.le_of_ble_eq_true rfl) ?_
  intro p e s m args below meth c ls hx hb hr hml hown hts hlk hT hG hl Q H locs hQ hw hS
  have hl : lv_has ls 5 [(0, .ref (ad 0)), (1, .int t), (2, .int r), (3, .ref (ad 40))] := hl
  have hown : s.vm.findClass RL = some m.cls := hown
  have hF : CallFix p m c cL_stop 5 s args wsL_stop RL := ⟨hx, hb, hml, hown, hts⟩
  refine lv_aload_n hx hb dL_stop_0 rfl (lv_at hl 3 rfl) ?_
  refine lv_iconst (v := 0) hx hb dL_stop_1 (by decide) ?_
  refine lv_aload_n hx hb dL_stop_2 rfl (lv_at hl 0 rfl) ?_
  refine lv_iload_n hx hb dL_stop_3 rfl (lv_at hl 1 rfl) ?_
  refine lv_iload_n hx hb dL_stop_4 rfl (lv_at hl 2 rfl) ?_
  refine kx_do (st1 := [.int (bits (g 3 t.toNatClampNeg ||| ((1 : Int32) <<< (r &&& 31)))), .int 0, .ref (ad 40)]) (kx_cv (As := [.int t, .int r]) (rest := [.int 0, .ref (ad 40)]) hF hG hw hS hl.1 kC_0 rfl (c_X2_stop l hfl D cy base ad n nc g t r hs) gL_stop_X2_stop rfl rfl rfl hd_X2_stop ⟨Nat.le_of_ble_eq_true rfl, Nat.le_of_ble_eq_true rfl⟩ rfl rfl (Nat.le_of_ble_eq_true rfl) dL_stop_5 ⟨Nat.le_of_ble_eq_true rfl, Nat.le_of_ble_eq_true rfl⟩) hS rfl (fun E9 ce9 q9 H1 locs1 hX9 hw1 hS1 hc9 hv9 hcl9 => ?_) (fun hok H locs hw hS => ?_)
  · rcases ex_2e13 hX9 with ⟨rfl, hk⟩ | ⟨rfl, hk⟩
    · refine kx_cat0 hown hG hT ⟨by decide, by decide⟩ (by decide) mIO (hts (.classLink RL 13 "java/lang/IndexOutOfBoundsException") (by decide +kernel)) hc9 hv9 hcl9 ?_
      refine lv_astore (lv' := [(4, .ref q9), (0, .ref (ad 0)), (1, .int t), (2, .int r), (3, .ref (ad 40))]) hx hb dL_stop_13 hl (by decide) rfl (fun ls hl => ?_)
      refine lv_iconst (v := 1) hx hb dL_stop_15 (by decide) ?_
      exact kx_retI hQ hx hb hr hlk hw1 hS1 (Nat.le_of_ble_eq_true rfl) (Nat.le_of_ble_eq_true rfl) dL_stop_16 ⟨by rw [hk], by rw [if_neg (by rw [hk]; decide)]⟩
    · refine kx_cat1 hown hG hT ⟨by decide, by decide⟩ (by decide) mIS (hts (.classLink RL 28 "java/lang/IllegalStateException") (by decide +kernel)) mIO nSO (by decide) (hts (.classLink RL 13 "java/lang/IndexOutOfBoundsException") (by decide +kernel)) hc9 hv9 hcl9 ?_
      refine lv_astore (lv' := [(4, .ref q9), (0, .ref (ad 0)), (1, .int t), (2, .int r), (3, .ref (ad 40))]) hx hb dL_stop_17 hl (by decide) rfl (fun ls hl => ?_)
      refine lv_iconst (v := 2) hx hb dL_stop_19 (by decide) ?_
      exact kx_retI hQ hx hb hr hlk hw1 hS1 (Nat.le_of_ble_eq_true rfl) (Nat.le_of_ble_eq_true rfl) dL_stop_20 ⟨by rw [hk], by rw [if_neg (by rw [hk]; decide)]⟩
  · refine lv_i2l (v := (bits (g 3 t.toNatClampNeg ||| ((1 : Int32) <<< (r &&& 31)))).toInt64) hx hb dL_stop_8 rfl ?_
    refine kx_last (v0 := bits (g 3 t.toNatClampNeg ||| ((1 : Int32) <<< (r &&& 31)))) hx hb hG hw hS rfl dL_stop_9 (fun H locs hw hS => ?_)
    refine lv_goto (tgt := 21) hx hb dL_stop_10 (by decide) ?_
    refine lv_iconst (v := 0) hx hb dL_stop_21 (by decide) ?_
    exact kx_retI hQ hx hb hr hlk hw hS (Nat.le_of_ble_eq_true rfl) (Nat.le_of_ble_eq_true rfl) dL_stop_22 ⟨by rw [hok], by rw [if_pos hok]⟩
theorem hd_L_threshold : yL_threshold.cls ≠ "java/lang/invoke/MethodHandle" ∧ yL_threshold.cls ≠ "java/lang/invoke/VarHandle" ∧ (parseMethodDescriptor yL_threshold.desc).map (fun d => d.parameters.length) = some 3 := by decide +kernel
set_option maxHeartbeats 4000000 in
set_option maxRecDepth 100000 in
theorem c_L_threshold (l : Launch) (hfl : l.stackTraces = false) (D : va_G) (cy : Nat → ClassId) (base : Nat) (ad : Nat → Nat) (n nc : Nat) (g : sg) (q : Int32) : kM l yL_threshold wsL_threshold (kR 9 12 100) D cy base ad n nc g [.ref (ad 0), .int q, .ref (ad 40)] (fun v u => v = some (.int (kd1 (inn q 1 200))) ∧ u = (ad, n, nc, if kd1 (inn q 1 200) = 0 then sU (sU g 0 11 q) 40 0 (g 0 11) else g)) kNo 12 100 := by
  refine kx_methH (cc := cL_threshold) (maxL := 4) (ret := (some .int)) (hh := [(0, 9, 12, 15)]) (by decide) rfl (Nat.le_of_ble_eq_true rfl) ?_
  intro p e s m args below meth c ls hx hb hr hml hown hts hlk hT hG hl Q H locs hQ hw hS
  have hl : lv_has ls 4 [(0, .ref (ad 0)), (1, .int q), (2, .ref (ad 40))] := hl
  have hown : s.vm.findClass RL = some m.cls := hown
  have hF : CallFix p m c cL_threshold 4 s args wsL_threshold RL := ⟨hx, hb, hml, hown, hts⟩
  refine lv_aload_n hx hb dL_threshold_0 rfl (lv_at hl 2 rfl) ?_
  refine lv_iconst (v := 0) hx hb dL_threshold_1 (by decide) ?_
  refine lv_aload_n hx hb dL_threshold_2 rfl (lv_at hl 0 rfl) ?_
  refine lv_iload_n hx hb dL_threshold_3 rfl (lv_at hl 1 rfl) ?_
  refine kx_do (st1 := [.int (g 0 11), .int 0, .ref (ad 40)]) (kx_cv (As := [.int q]) (rest := [.int 0, .ref (ad 40)]) hF hG hw hS hl.1 kC_0 rfl (c_X2_threshold l hfl D cy base ad n nc g q ) gL_threshold_X2_threshold rfl rfl rfl hd_X2_threshold ⟨Nat.le_of_ble_eq_true rfl, Nat.le_of_ble_eq_true rfl⟩ rfl rfl (Nat.le_of_ble_eq_true rfl) dL_threshold_4 ⟨Nat.le_of_ble_eq_true rfl, Nat.le_of_ble_eq_true rfl⟩) hS rfl (fun E9 ce9 q9 H1 locs1 hX9 hw1 hS1 hc9 hv9 hcl9 => ?_) (fun hok H locs hw hS => ?_)
  · obtain ⟨rfl, hk⟩ := ex_1e2 hX9
    refine kx_cat0 hown hG hT ⟨by decide, by decide⟩ (by decide) mIA (hts (.classLink RL 15 "java/lang/IllegalArgumentException") (by decide +kernel)) hc9 hv9 hcl9 ?_
    refine lv_astore_n (lv' := [(3, .ref q9), (0, .ref (ad 0)), (1, .int q), (2, .ref (ad 40))]) hx hb dL_threshold_12 rfl hl (by decide) rfl (fun ls hl => ?_)
    refine lv_iconst (v := 1) hx hb dL_threshold_13 (by decide) ?_
    exact kx_retI hQ hx hb hr hlk hw1 hS1 (Nat.le_of_ble_eq_true rfl) (Nat.le_of_ble_eq_true rfl) dL_threshold_14 ⟨by rw [hk], by rw [if_neg (by rw [hk]; decide)]⟩
  · refine lv_i2l (v := (g 0 11).toInt64) hx hb dL_threshold_7 rfl ?_
    refine kx_last (v0 := g 0 11) hx hb hG hw hS rfl dL_threshold_8 (fun H locs hw hS => ?_)
    refine lv_goto (tgt := 15) hx hb dL_threshold_9 (by decide) ?_
    refine lv_iconst (v := 0) hx hb dL_threshold_15 (by decide) ?_
    exact kx_retI hQ hx hb hr hlk hw hS (Nat.le_of_ble_eq_true rfl) (Nat.le_of_ble_eq_true rfl) dL_threshold_16 ⟨by rw [hok], by rw [if_pos hok]⟩
theorem hd_L_find : yL_find.cls ≠ "java/lang/invoke/MethodHandle" ∧ yL_find.cls ≠ "java/lang/invoke/VarHandle" ∧ (parseMethodDescriptor yL_find.desc).map (fun d => d.parameters.length) = some 9 := by decide +kernel
set_option maxHeartbeats 4000000 in
set_option maxRecDepth 100000 in
theorem c_L_find (l : Launch) (hfl : l.stackTraces = false) (D : va_G) (cy : Nat → ClassId) (base : Nat) (ad : Nat → Nat) (n nc : Nat) (g : sg) (kind : Int32) (place : Int32) (dago : Int32) (set : Int32) (secret : Int32) (value : Int32) (room : Int32) (hfj : ∀ j, g 6 j = if j < n then 1 else 0) (hfc : g 0 8 = nI n) : kM l yL_find wsL_find (kR 9 12 100) D cy base ad n nc g [.ref (ad 0), .int kind, .int place, .int dago, .int set, .int secret, .int value, .int room, .ref (ad 40)] (fun v u => v = some (.int (kd3 (inn kind 0 7 && (inn place 0 9 && inn room 0 5)) (inn dago 0 (g 0 10) && (inn value 0 9999 && (inn set 0 16777215 && (inn secret 0 16777215 && decide ((set &&& secret) = 0))))) (!decide (nI n = 30)))) ∧ ((kd3 (inn kind 0 7 && (inn place 0 9 && inn room 0 5)) (inn dago 0 (g 0 10) && (inn value 0 9999 && (inn set 0 16777215 && (inn secret 0 16777215 && decide ((set &&& secret) = 0))))) (!decide (nI n = 30)) = 0 ∧ ∃ ad2 : Nat → Nat, (∀ k, k < 100 → ad2 k = ad k) ∧ u = (ad2, n + 1, nc, sU (cFind g n kind place dago set secret value room) 40 0 (nI n))) ∨ (¬ kd3 (inn kind 0 7 && (inn place 0 9 && inn room 0 5)) (inn dago 0 (g 0 10) && (inn value 0 9999 && (inn set 0 16777215 && (inn secret 0 16777215 && decide ((set &&& secret) = 0))))) (!decide (nI n = 30)) = 0 ∧ u = (ad, n, nc, g)))) kNo 12 100 := by
  refine kx_methH (cc := cL_find) (maxL := 10) (ret := (some .int)) (hh := [(0, 20, 23, 13), (0, 20, 27, 15), (0, 20, 31, 28)]) (by decide) rfl (Nat.le_of_ble_eq_true rfl) ?_
  intro p e s m args below meth c ls hx hb hr hml hown hts hlk hT hG hl Q H locs hQ hw hS
  have hl : lv_has ls 10 [(0, .ref (ad 0)), (1, .int kind), (2, .int place), (3, .int dago), (4, .int set), (5, .int secret), (6, .int value), (7, .int room), (8, .ref (ad 40))] := hl
  have hown : s.vm.findClass RL = some m.cls := hown
  have hF : CallFix p m c cL_find 10 s args wsL_find RL := ⟨hx, hb, hml, hown, hts⟩
  refine lv_aload hx hb dL_find_0 (lv_at hl 8 rfl) ?_
  refine lv_iconst (v := 0) hx hb dL_find_2 (by decide) ?_
  refine lv_aload_n hx hb dL_find_3 rfl (lv_at hl 0 rfl) ?_
  refine lv_iload_n hx hb dL_find_4 rfl (lv_at hl 1 rfl) ?_
  refine lv_iload_n hx hb dL_find_5 rfl (lv_at hl 2 rfl) ?_
  refine lv_iload_n hx hb dL_find_6 rfl (lv_at hl 3 rfl) ?_
  refine lv_iload hx hb dL_find_7 (lv_at hl 4 rfl) ?_
  refine lv_iload hx hb dL_find_9 (lv_at hl 5 rfl) ?_
  refine lv_iload hx hb dL_find_11 (lv_at hl 6 rfl) ?_
  refine lv_iload hx hb dL_find_13 (lv_at hl 7 rfl) ?_
  refine kx_call (kx_cv (As := [.int kind, .int place, .int dago, .int set, .int secret, .int value, .int room]) (rest := [.int 0, .ref (ad 40)]) hF hG hw hS hl.1 kC_0 rfl (c_X2_find l hfl D cy base ad n nc g kind place dago set secret value room hfj hfc) gL_find_X2_find rfl rfl rfl hd_X2_find ⟨Nat.le_of_ble_eq_true rfl, Nat.le_of_ble_eq_true rfl⟩ rfl rfl (Nat.le_of_ble_eq_true rfl) dL_find_15 ⟨Nat.le_of_ble_eq_true rfl, Nat.le_of_ble_eq_true rfl⟩) hS (fun E9 ce9 q9 H1 locs1 hX9 hw1 hS1 hc9 hv9 hcl9 => ?_) (fun v u H locs hp hw hS => ?_)
  · rcases ex_3 hX9 with ⟨rfl, hk⟩ | ⟨rfl, hk⟩ | ⟨rfl, hk⟩
    · refine kx_cat0 hown hG hT ⟨by decide, by decide⟩ (by decide) mIO (hts (.classLink RL 13 "java/lang/IndexOutOfBoundsException") (by decide +kernel)) hc9 hv9 hcl9 ?_
      refine lv_astore (lv' := [(9, .ref q9), (0, .ref (ad 0)), (1, .int kind), (2, .int place), (3, .int dago), (4, .int set), (5, .int secret), (6, .int value), (7, .int room), (8, .ref (ad 40))]) hx hb dL_find_23 hl (by decide) rfl (fun ls hl => ?_)
      refine lv_iconst (v := 1) hx hb dL_find_25 (by decide) ?_
      exact kx_retI hQ hx hb hr hlk hw1 hS1 (Nat.le_of_ble_eq_true rfl) (Nat.le_of_ble_eq_true rfl) dL_find_26 ⟨by rw [hk], Or.inr ⟨by rw [hk]; decide, rfl⟩⟩
    · refine kx_cat1 hown hG hT ⟨by decide, by decide⟩ (by decide) mIA (hts (.classLink RL 15 "java/lang/IllegalArgumentException") (by decide +kernel)) mIO nAO (by decide) (hts (.classLink RL 13 "java/lang/IndexOutOfBoundsException") (by decide +kernel)) hc9 hv9 hcl9 ?_
      refine lv_astore (lv' := [(9, .ref q9), (0, .ref (ad 0)), (1, .int kind), (2, .int place), (3, .int dago), (4, .int set), (5, .int secret), (6, .int value), (7, .int room), (8, .ref (ad 40))]) hx hb dL_find_27 hl (by decide) rfl (fun ls hl => ?_)
      refine lv_iconst (v := 2) hx hb dL_find_29 (by decide) ?_
      exact kx_retI hQ hx hb hr hlk hw1 hS1 (Nat.le_of_ble_eq_true rfl) (Nat.le_of_ble_eq_true rfl) dL_find_30 ⟨by rw [hk], Or.inr ⟨by rw [hk]; decide, rfl⟩⟩
    · refine kx_cat2 hown hG hT ⟨by decide, by decide⟩ (by decide) mIS (hts (.classLink RL 28 "java/lang/IllegalStateException") (by decide +kernel)) mIO nSO (by decide) (hts (.classLink RL 13 "java/lang/IndexOutOfBoundsException") (by decide +kernel)) mIA nSA (by decide) (hts (.classLink RL 15 "java/lang/IllegalArgumentException") (by decide +kernel)) hc9 hv9 hcl9 ?_
      refine lv_astore (lv' := [(9, .ref q9), (0, .ref (ad 0)), (1, .int kind), (2, .int place), (3, .int dago), (4, .int set), (5, .int secret), (6, .int value), (7, .int room), (8, .ref (ad 40))]) hx hb dL_find_31 hl (by decide) rfl (fun ls hl => ?_)
      refine lv_iconst (v := 3) hx hb dL_find_33 (by decide) ?_
      exact kx_retI hQ hx hb hr hlk hw1 hS1 (Nat.le_of_ble_eq_true rfl) (Nat.le_of_ble_eq_true rfl) dL_find_34 ⟨by rw [hk], Or.inr ⟨by rw [hk]; decide, rfl⟩⟩
  · obtain ⟨hok, rfl, ad2, hlo, rfl⟩ := hp
    have hw : kW D cy base ad2 (n + 1) (nc) (cFind g n kind place dago set secret value room) H := hw
    rw [← hlo 40 (by decide)]
    refine W.eq (g2 := F0 m 18 ls [.int (nI n), .int 0, .ref (ad2 40)]) rfl ?_
    refine lv_i2l (v := (nI n).toInt64) hx hb dL_find_18 rfl ?_
    refine kx_last (v0 := nI n) hx hb hG hw hS rfl dL_find_19 (fun H locs hw hS => ?_)
    refine lv_goto (tgt := 35) hx hb dL_find_20 (by decide) ?_
    refine lv_iconst (v := 0) hx hb dL_find_35 (by decide) ?_
    exact kx_retI hQ hx hb hr hlk hw hS (Nat.le_of_ble_eq_true rfl) (Nat.le_of_ble_eq_true rfl) dL_find_36 ⟨by rw [hok], Or.inl ⟨hok, ad2, hlo, rfl⟩⟩
theorem hd_L_see : yL_see.cls ≠ "java/lang/invoke/MethodHandle" ∧ yL_see.cls ≠ "java/lang/invoke/VarHandle" ∧ (parseMethodDescriptor yL_see.desc).map (fun d => d.parameters.length) = some 4 := by decide +kernel
set_option maxHeartbeats 4000000 in
set_option maxRecDepth 100000 in
theorem c_L_see (l : Launch) (hfl : l.stackTraces = false) (D : va_G) (cy : Nat → ClassId) (base : Nat) (ad : Nat → Nat) (n nc : Nat) (g : sg) (x : Int32) (set : Int32) (hfr : ∀ j, j < 30 → g 6 j = if j < n then 1 else 0) (hR : cR n nc g) : kM l yL_see wsL_see (kR 9 12 100) D cy base ad n nc g [.ref (ad 0), .int x, .int set, .ref (ad 40)] (fun v u => v = some (.int (kd3 (isF n x) (inn set 0 16777215 && decide ((set &&& g (100 + 3 * x.toNatClampNeg) 3) = 0)) (decide (g (100 + 3 * x.toNatClampNeg) 9 = 0)))) ∧ u = (ad, n, nc, if kd3 (isF n x) (inn set 0 16777215 && decide ((set &&& g (100 + 3 * x.toNatClampNeg) 3) = 0)) (decide (g (100 + 3 * x.toNatClampNeg) 9 = 0)) = 0 then sU (sU g (100 + 3 * x.toNatClampNeg) 8 (g (100 + 3 * x.toNatClampNeg) 8 ||| set)) 40 0 (bits (g (100 + 3 * x.toNatClampNeg) 8 ||| set)) else g)) kNo 12 100 := by
  refine kx_methH (cc := cL_see) (maxL := 5) (ret := (some .int)) (hh := [(0, 10, 13, 13), (0, 10, 17, 15), (0, 10, 21, 28)]) (by decide) rfl (Nat.le_of_ble_eq_true rfl) ?_
  intro p e s m args below meth c ls hx hb hr hml hown hts hlk hT hG hl Q H locs hQ hw hS
  have hl : lv_has ls 5 [(0, .ref (ad 0)), (1, .int x), (2, .int set), (3, .ref (ad 40))] := hl
  have hown : s.vm.findClass RL = some m.cls := hown
  have hF : CallFix p m c cL_see 5 s args wsL_see RL := ⟨hx, hb, hml, hown, hts⟩
  refine lv_aload_n hx hb dL_see_0 rfl (lv_at hl 3 rfl) ?_
  refine lv_iconst (v := 0) hx hb dL_see_1 (by decide) ?_
  refine lv_aload_n hx hb dL_see_2 rfl (lv_at hl 0 rfl) ?_
  refine lv_iload_n hx hb dL_see_3 rfl (lv_at hl 1 rfl) ?_
  refine lv_iload_n hx hb dL_see_4 rfl (lv_at hl 2 rfl) ?_
  refine kx_do (st1 := [.int (bits (g (100 + 3 * x.toNatClampNeg) 8 ||| set)), .int 0, .ref (ad 40)]) (kx_cv (As := [.int x, .int set]) (rest := [.int 0, .ref (ad 40)]) hF hG hw hS hl.1 kC_0 rfl (c_X2_see l hfl D cy base ad n nc g x set hfr hR) gL_see_X2_see rfl rfl rfl hd_X2_see ⟨Nat.le_of_ble_eq_true rfl, Nat.le_of_ble_eq_true rfl⟩ rfl rfl (Nat.le_of_ble_eq_true rfl) dL_see_5 ⟨Nat.le_of_ble_eq_true rfl, Nat.le_of_ble_eq_true rfl⟩) hS rfl (fun E9 ce9 q9 H1 locs1 hX9 hw1 hS1 hc9 hv9 hcl9 => ?_) (fun hok H locs hw hS => ?_)
  · rcases ex_3 hX9 with ⟨rfl, hk⟩ | ⟨rfl, hk⟩ | ⟨rfl, hk⟩
    · refine kx_cat0 hown hG hT ⟨by decide, by decide⟩ (by decide) mIO (hts (.classLink RL 13 "java/lang/IndexOutOfBoundsException") (by decide +kernel)) hc9 hv9 hcl9 ?_
      refine lv_astore (lv' := [(4, .ref q9), (0, .ref (ad 0)), (1, .int x), (2, .int set), (3, .ref (ad 40))]) hx hb dL_see_13 hl (by decide) rfl (fun ls hl => ?_)
      refine lv_iconst (v := 1) hx hb dL_see_15 (by decide) ?_
      exact kx_retI hQ hx hb hr hlk hw1 hS1 (Nat.le_of_ble_eq_true rfl) (Nat.le_of_ble_eq_true rfl) dL_see_16 ⟨by rw [hk], by rw [if_neg (by rw [hk]; decide)]⟩
    · refine kx_cat1 hown hG hT ⟨by decide, by decide⟩ (by decide) mIA (hts (.classLink RL 15 "java/lang/IllegalArgumentException") (by decide +kernel)) mIO nAO (by decide) (hts (.classLink RL 13 "java/lang/IndexOutOfBoundsException") (by decide +kernel)) hc9 hv9 hcl9 ?_
      refine lv_astore (lv' := [(4, .ref q9), (0, .ref (ad 0)), (1, .int x), (2, .int set), (3, .ref (ad 40))]) hx hb dL_see_17 hl (by decide) rfl (fun ls hl => ?_)
      refine lv_iconst (v := 2) hx hb dL_see_19 (by decide) ?_
      exact kx_retI hQ hx hb hr hlk hw1 hS1 (Nat.le_of_ble_eq_true rfl) (Nat.le_of_ble_eq_true rfl) dL_see_20 ⟨by rw [hk], by rw [if_neg (by rw [hk]; decide)]⟩
    · refine kx_cat2 hown hG hT ⟨by decide, by decide⟩ (by decide) mIS (hts (.classLink RL 28 "java/lang/IllegalStateException") (by decide +kernel)) mIO nSO (by decide) (hts (.classLink RL 13 "java/lang/IndexOutOfBoundsException") (by decide +kernel)) mIA nSA (by decide) (hts (.classLink RL 15 "java/lang/IllegalArgumentException") (by decide +kernel)) hc9 hv9 hcl9 ?_
      refine lv_astore (lv' := [(4, .ref q9), (0, .ref (ad 0)), (1, .int x), (2, .int set), (3, .ref (ad 40))]) hx hb dL_see_21 hl (by decide) rfl (fun ls hl => ?_)
      refine lv_iconst (v := 3) hx hb dL_see_23 (by decide) ?_
      exact kx_retI hQ hx hb hr hlk hw1 hS1 (Nat.le_of_ble_eq_true rfl) (Nat.le_of_ble_eq_true rfl) dL_see_24 ⟨by rw [hk], by rw [if_neg (by rw [hk]; decide)]⟩
  · refine lv_i2l (v := (bits (g (100 + 3 * x.toNatClampNeg) 8 ||| set)).toInt64) hx hb dL_see_8 rfl ?_
    refine kx_last (v0 := bits (g (100 + 3 * x.toNatClampNeg) 8 ||| set)) hx hb hG hw hS rfl dL_see_9 (fun H locs hw hS => ?_)
    refine lv_goto (tgt := 25) hx hb dL_see_10 (by decide) ?_
    refine lv_iconst (v := 0) hx hb dL_see_25 (by decide) ?_
    exact kx_retI hQ hx hb hr hlk hw hS (Nat.le_of_ble_eq_true rfl) (Nat.le_of_ble_eq_true rfl) dL_see_26 ⟨by rw [hok], by rw [if_pos hok]⟩
theorem hd_L_send : yL_send.cls ≠ "java/lang/invoke/MethodHandle" ∧ yL_send.cls ≠ "java/lang/invoke/VarHandle" ∧ (parseMethodDescriptor yL_send.desc).map (fun d => d.parameters.length) = some 4 := by decide +kernel
set_option maxHeartbeats 4000000 in
set_option maxRecDepth 100000 in
theorem c_L_send (l : Launch) (hfl : l.stackTraces = false) (D : va_G) (cy : Nat → ClassId) (base : Nat) (ad : Nat → Nat) (n nc : Nat) (g : sg) (x : Int32) (room : Int32) (hfr : ∀ j, j < 30 → g 6 j = if j < n then 1 else 0) : kM l yL_send wsL_send (kR 9 12 100) D cy base ad n nc g [.ref (ad 0), .int x, .int room, .ref (ad 40)] (fun v u => v = some (.int (kd2 (isF n x && inn room 0 5) (decide (g (100 + 3 * x.toNatClampNeg) 9 = 0) && !decide (g (100 + 3 * x.toNatClampNeg) 10 = room)))) ∧ u = (ad, n, nc, if kd2 (isF n x && inn room 0 5) (decide (g (100 + 3 * x.toNatClampNeg) 9 = 0) && !decide (g (100 + 3 * x.toNatClampNeg) 10 = room)) = 0 then sU (sU (sU g (100 + 3 * x.toNatClampNeg) 9 1) (100 + 3 * x.toNatClampNeg) 10 room) 40 0 (g (100 + 3 * x.toNatClampNeg) 10) else g)) kNo 12 100 := by
  refine kx_methH (cc := cL_send) (maxL := 5) (ret := (some .int)) (hh := [(0, 10, 13, 13), (0, 10, 17, 28)]) (by decide) rfl (Nat.le_of_ble_eq_true rfl) ?_
  intro p e s m args below meth c ls hx hb hr hml hown hts hlk hT hG hl Q H locs hQ hw hS
  have hl : lv_has ls 5 [(0, .ref (ad 0)), (1, .int x), (2, .int room), (3, .ref (ad 40))] := hl
  have hown : s.vm.findClass RL = some m.cls := hown
  have hF : CallFix p m c cL_send 5 s args wsL_send RL := ⟨hx, hb, hml, hown, hts⟩
  refine lv_aload_n hx hb dL_send_0 rfl (lv_at hl 3 rfl) ?_
  refine lv_iconst (v := 0) hx hb dL_send_1 (by decide) ?_
  refine lv_aload_n hx hb dL_send_2 rfl (lv_at hl 0 rfl) ?_
  refine lv_iload_n hx hb dL_send_3 rfl (lv_at hl 1 rfl) ?_
  refine lv_iload_n hx hb dL_send_4 rfl (lv_at hl 2 rfl) ?_
  refine kx_do (st1 := [.int (g (100 + 3 * x.toNatClampNeg) 10), .int 0, .ref (ad 40)]) (kx_cv (As := [.int x, .int room]) (rest := [.int 0, .ref (ad 40)]) hF hG hw hS hl.1 kC_0 rfl (c_X2_send l hfl D cy base ad n nc g x room hfr) gL_send_X2_send rfl rfl rfl hd_X2_send ⟨Nat.le_of_ble_eq_true rfl, Nat.le_of_ble_eq_true rfl⟩ rfl rfl (Nat.le_of_ble_eq_true rfl) dL_send_5 ⟨Nat.le_of_ble_eq_true rfl, Nat.le_of_ble_eq_true rfl⟩) hS rfl (fun E9 ce9 q9 H1 locs1 hX9 hw1 hS1 hc9 hv9 hcl9 => ?_) (fun hok H locs hw hS => ?_)
  · rcases ex_2e13 hX9 with ⟨rfl, hk⟩ | ⟨rfl, hk⟩
    · refine kx_cat0 hown hG hT ⟨by decide, by decide⟩ (by decide) mIO (hts (.classLink RL 13 "java/lang/IndexOutOfBoundsException") (by decide +kernel)) hc9 hv9 hcl9 ?_
      refine lv_astore (lv' := [(4, .ref q9), (0, .ref (ad 0)), (1, .int x), (2, .int room), (3, .ref (ad 40))]) hx hb dL_send_13 hl (by decide) rfl (fun ls hl => ?_)
      refine lv_iconst (v := 1) hx hb dL_send_15 (by decide) ?_
      exact kx_retI hQ hx hb hr hlk hw1 hS1 (Nat.le_of_ble_eq_true rfl) (Nat.le_of_ble_eq_true rfl) dL_send_16 ⟨by rw [hk], by rw [if_neg (by rw [hk]; decide)]⟩
    · refine kx_cat1 hown hG hT ⟨by decide, by decide⟩ (by decide) mIS (hts (.classLink RL 28 "java/lang/IllegalStateException") (by decide +kernel)) mIO nSO (by decide) (hts (.classLink RL 13 "java/lang/IndexOutOfBoundsException") (by decide +kernel)) hc9 hv9 hcl9 ?_
      refine lv_astore (lv' := [(4, .ref q9), (0, .ref (ad 0)), (1, .int x), (2, .int room), (3, .ref (ad 40))]) hx hb dL_send_17 hl (by decide) rfl (fun ls hl => ?_)
      refine lv_iconst (v := 2) hx hb dL_send_19 (by decide) ?_
      exact kx_retI hQ hx hb hr hlk hw1 hS1 (Nat.le_of_ble_eq_true rfl) (Nat.le_of_ble_eq_true rfl) dL_send_20 ⟨by rw [hk], by rw [if_neg (by rw [hk]; decide)]⟩
  · refine lv_i2l (v := (g (100 + 3 * x.toNatClampNeg) 10).toInt64) hx hb dL_send_8 rfl ?_
    refine kx_last (v0 := g (100 + 3 * x.toNatClampNeg) 10) hx hb hG hw hS rfl dL_send_9 (fun H locs hw hS => ?_)
    refine lv_goto (tgt := 21) hx hb dL_send_10 (by decide) ?_
    refine lv_iconst (v := 0) hx hb dL_send_21 (by decide) ?_
    exact kx_retI hQ hx hb hr hlk hw hS (Nat.le_of_ble_eq_true rfl) (Nat.le_of_ble_eq_true rfl) dL_send_22 ⟨by rw [hok], by rw [if_pos hok]⟩
theorem hd_L_lose : yL_lose.cls ≠ "java/lang/invoke/MethodHandle" ∧ yL_lose.cls ≠ "java/lang/invoke/VarHandle" ∧ (parseMethodDescriptor yL_lose.desc).map (fun d => d.parameters.length) = some 3 := by decide +kernel
set_option maxHeartbeats 4000000 in
set_option maxRecDepth 100000 in
theorem c_L_lose (l : Launch) (hfl : l.stackTraces = false) (D : va_G) (cy : Nat → ClassId) (base : Nat) (ad : Nat → Nat) (n nc : Nat) (g : sg) (room : Int32) (hfr : ∀ j, j < 30 → g 6 j = if j < n then 1 else 0) : kM l yL_lose wsL_lose (kR 9 12 100) D cy base ad n nc g [.ref (ad 0), .int room, .ref (ad 40)] (fun v u => v = some (.int (kd1 (inn room 0 5))) ∧ u = (ad, n, nc, if kd1 (inn room 0 5) = 0 then sU (lcS g room n 30) 40 0 (lcN g room n 30) else g)) kNo 12 100 := by
  refine kx_methH (cc := cL_lose) (maxL := 4) (ret := (some .int)) (hh := [(0, 9, 12, 13)]) (by decide) rfl (Nat.le_of_ble_eq_true rfl) ?_
  intro p e s m args below meth c ls hx hb hr hml hown hts hlk hT hG hl Q H locs hQ hw hS
  have hl : lv_has ls 4 [(0, .ref (ad 0)), (1, .int room), (2, .ref (ad 40))] := hl
  have hown : s.vm.findClass RL = some m.cls := hown
  have hF : CallFix p m c cL_lose 4 s args wsL_lose RL := ⟨hx, hb, hml, hown, hts⟩
  refine lv_aload_n hx hb dL_lose_0 rfl (lv_at hl 2 rfl) ?_
  refine lv_iconst (v := 0) hx hb dL_lose_1 (by decide) ?_
  refine lv_aload_n hx hb dL_lose_2 rfl (lv_at hl 0 rfl) ?_
  refine lv_iload_n hx hb dL_lose_3 rfl (lv_at hl 1 rfl) ?_
  refine kx_do (st1 := [.int (lcN g room n 30), .int 0, .ref (ad 40)]) (kx_cv (As := [.int room]) (rest := [.int 0, .ref (ad 40)]) hF hG hw hS hl.1 kC_0 rfl (c_X2_lose l hfl D cy base ad n nc g room hfr) gL_lose_X2_lose rfl rfl rfl hd_X2_lose ⟨Nat.le_of_ble_eq_true rfl, Nat.le_of_ble_eq_true rfl⟩ rfl rfl (Nat.le_of_ble_eq_true rfl) dL_lose_4 ⟨Nat.le_of_ble_eq_true rfl, Nat.le_of_ble_eq_true rfl⟩) hS rfl (fun E9 ce9 q9 H1 locs1 hX9 hw1 hS1 hc9 hv9 hcl9 => ?_) (fun hok H locs hw hS => ?_)
  · obtain ⟨rfl, hk⟩ := ex_1 hX9
    refine kx_cat0 hown hG hT ⟨by decide, by decide⟩ (by decide) mIO (hts (.classLink RL 13 "java/lang/IndexOutOfBoundsException") (by decide +kernel)) hc9 hv9 hcl9 ?_
    refine lv_astore_n (lv' := [(3, .ref q9), (0, .ref (ad 0)), (1, .int room), (2, .ref (ad 40))]) hx hb dL_lose_12 rfl hl (by decide) rfl (fun ls hl => ?_)
    refine lv_iconst (v := 1) hx hb dL_lose_13 (by decide) ?_
    exact kx_retI hQ hx hb hr hlk hw1 hS1 (Nat.le_of_ble_eq_true rfl) (Nat.le_of_ble_eq_true rfl) dL_lose_14 ⟨by rw [hk], by rw [if_neg (by rw [hk]; decide)]⟩
  · refine lv_i2l (v := (lcN g room n 30).toInt64) hx hb dL_lose_7 rfl ?_
    refine kx_last (v0 := lcN g room n 30) hx hb hG hw hS rfl dL_lose_8 (fun H locs hw hS => ?_)
    refine lv_goto (tgt := 15) hx hb dL_lose_9 (by decide) ?_
    refine lv_iconst (v := 0) hx hb dL_lose_15 (by decide) ?_
    exact kx_retI hQ hx hb hr hlk hw hS (Nat.le_of_ble_eq_true rfl) (Nat.le_of_ble_eq_true rfl) dL_lose_16 ⟨by rw [hok], by rw [if_pos hok]⟩
theorem hd_L_turnUp : yL_turnUp.cls ≠ "java/lang/invoke/MethodHandle" ∧ yL_turnUp.cls ≠ "java/lang/invoke/VarHandle" ∧ (parseMethodDescriptor yL_turnUp.desc).map (fun d => d.parameters.length) = some 4 := by decide +kernel
set_option maxHeartbeats 4000000 in
set_option maxRecDepth 100000 in
theorem c_L_turnUp (l : Launch) (hfl : l.stackTraces = false) (D : va_G) (cy : Nat → ClassId) (base : Nat) (ad : Nat → Nat) (n nc : Nat) (g : sg) (x : Int32) (room : Int32) (hfr : ∀ j, j < 30 → g 6 j = if j < n then 1 else 0) (hh : ∀ i, i < n → ∃ h : Nat, h ≤ 12 ∧ g (100 + 3 * i) 7 = nI h) : kM l yL_turnUp wsL_turnUp (kR 9 12 100) D cy base ad n nc g [.ref (ad 0), .int x, .int room, .ref (ad 40)] (fun v u => v = some (.int (kd2 (isF n x && inn room 0 5) (decide (g (100 + 3 * x.toNatClampNeg) 9 = 2)))) ∧ u = (ad, n, nc, if kd2 (isF n x && inn room 0 5) (decide (g (100 + 3 * x.toNatClampNeg) 9 = 2)) = 0 then sU (cComes g x.toNatClampNeg room (g 0 10)) 40 0 (cmH (g (100 + 3 * x.toNatClampNeg) 7)) else g)) kNo 12 100 := by
  refine kx_methH (cc := cL_turnUp) (maxL := 5) (ret := (some .int)) (hh := [(0, 10, 13, 13), (0, 10, 17, 28)]) (by decide) rfl (Nat.le_of_ble_eq_true rfl) ?_
  intro p e s m args below meth c ls hx hb hr hml hown hts hlk hT hG hl Q H locs hQ hw hS
  have hl : lv_has ls 5 [(0, .ref (ad 0)), (1, .int x), (2, .int room), (3, .ref (ad 40))] := hl
  have hown : s.vm.findClass RL = some m.cls := hown
  have hF : CallFix p m c cL_turnUp 5 s args wsL_turnUp RL := ⟨hx, hb, hml, hown, hts⟩
  refine lv_aload_n hx hb dL_turnUp_0 rfl (lv_at hl 3 rfl) ?_
  refine lv_iconst (v := 0) hx hb dL_turnUp_1 (by decide) ?_
  refine lv_aload_n hx hb dL_turnUp_2 rfl (lv_at hl 0 rfl) ?_
  refine lv_iload_n hx hb dL_turnUp_3 rfl (lv_at hl 1 rfl) ?_
  refine lv_iload_n hx hb dL_turnUp_4 rfl (lv_at hl 2 rfl) ?_
  refine kx_do (st1 := [.int (cmH (g (100 + 3 * x.toNatClampNeg) 7)), .int 0, .ref (ad 40)]) (kx_cv (As := [.int x, .int room]) (rest := [.int 0, .ref (ad 40)]) hF hG hw hS hl.1 kC_0 rfl (c_X2_turnUp l hfl D cy base ad n nc g x room hfr hh) gL_turnUp_X2_turnUp rfl rfl rfl hd_X2_turnUp ⟨Nat.le_of_ble_eq_true rfl, Nat.le_of_ble_eq_true rfl⟩ rfl rfl (Nat.le_of_ble_eq_true rfl) dL_turnUp_5 ⟨Nat.le_of_ble_eq_true rfl, Nat.le_of_ble_eq_true rfl⟩) hS rfl (fun E9 ce9 q9 H1 locs1 hX9 hw1 hS1 hc9 hv9 hcl9 => ?_) (fun hok H locs hw hS => ?_)
  · rcases ex_2e13 hX9 with ⟨rfl, hk⟩ | ⟨rfl, hk⟩
    · refine kx_cat0 hown hG hT ⟨by decide, by decide⟩ (by decide) mIO (hts (.classLink RL 13 "java/lang/IndexOutOfBoundsException") (by decide +kernel)) hc9 hv9 hcl9 ?_
      refine lv_astore (lv' := [(4, .ref q9), (0, .ref (ad 0)), (1, .int x), (2, .int room), (3, .ref (ad 40))]) hx hb dL_turnUp_13 hl (by decide) rfl (fun ls hl => ?_)
      refine lv_iconst (v := 1) hx hb dL_turnUp_15 (by decide) ?_
      exact kx_retI hQ hx hb hr hlk hw1 hS1 (Nat.le_of_ble_eq_true rfl) (Nat.le_of_ble_eq_true rfl) dL_turnUp_16 ⟨by rw [hk], by rw [if_neg (by rw [hk]; decide)]⟩
    · refine kx_cat1 hown hG hT ⟨by decide, by decide⟩ (by decide) mIS (hts (.classLink RL 28 "java/lang/IllegalStateException") (by decide +kernel)) mIO nSO (by decide) (hts (.classLink RL 13 "java/lang/IndexOutOfBoundsException") (by decide +kernel)) hc9 hv9 hcl9 ?_
      refine lv_astore (lv' := [(4, .ref q9), (0, .ref (ad 0)), (1, .int x), (2, .int room), (3, .ref (ad 40))]) hx hb dL_turnUp_17 hl (by decide) rfl (fun ls hl => ?_)
      refine lv_iconst (v := 2) hx hb dL_turnUp_19 (by decide) ?_
      exact kx_retI hQ hx hb hr hlk hw1 hS1 (Nat.le_of_ble_eq_true rfl) (Nat.le_of_ble_eq_true rfl) dL_turnUp_20 ⟨by rw [hk], by rw [if_neg (by rw [hk]; decide)]⟩
  · refine lv_i2l (v := (cmH (g (100 + 3 * x.toNatClampNeg) 7)).toInt64) hx hb dL_turnUp_8 rfl ?_
    refine kx_last (v0 := cmH (g (100 + 3 * x.toNatClampNeg) 7)) hx hb hG hw hS rfl dL_turnUp_9 (fun H locs hw hS => ?_)
    refine lv_goto (tgt := 21) hx hb dL_turnUp_10 (by decide) ?_
    refine lv_iconst (v := 0) hx hb dL_turnUp_21 (by decide) ?_
    exact kx_retI hQ hx hb hr hlk hw hS (Nat.le_of_ble_eq_true rfl) (Nat.le_of_ble_eq_true rfl) dL_turnUp_22 ⟨by rw [hok], by rw [if_pos hok]⟩
theorem hd_L_hold : yL_hold.cls ≠ "java/lang/invoke/MethodHandle" ∧ yL_hold.cls ≠ "java/lang/invoke/VarHandle" ∧ (parseMethodDescriptor yL_hold.desc).map (fun d => d.parameters.length) = some 4 := by decide +kernel
set_option maxHeartbeats 4000000 in
set_option maxRecDepth 100000 in
theorem c_L_hold (l : Launch) (hfl : l.stackTraces = false) (D : va_G) (cy : Nat → ClassId) (base : Nat) (ad : Nat → Nat) (n nc : Nat) (g : sg) (x : Int32) (is : Bool) (hfr : ∀ j, j < 30 → g 6 j = if j < n then 1 else 0) (hz : ∀ i, i < n → g (100 + 3 * i) 12 = 0 ∨ g (100 + 3 * i) 12 = 1) : kM l yL_hold wsL_hold (kR 9 12 100) D cy base ad n nc g [.ref (ad 0), .int x, .int (b2 is), .ref (ad 40)] (fun v u => v = some (.int (kd2 (isF n x) (cHere g x.toNatClampNeg))) ∧ u = (ad, n, nc, if kd2 (isF n x) (cHere g x.toNatClampNeg) = 0 then sU (sU g (100 + 3 * x.toNatClampNeg) 12 (b2 is)) 40 0 (b2 (!decide (g (100 + 3 * x.toNatClampNeg) 12 = 0))) else g)) kNo 12 100 := by
  refine kx_methH (cc := cL_hold) (maxL := 5) (ret := (some .int)) (hh := [(0, 17, 20, 13), (0, 17, 24, 28)]) (by decide) rfl (Nat.le_of_ble_eq_true rfl) ?_
  intro p e s m args below meth c ls hx hb hr hml hown hts hlk hT hG hl Q H locs hQ hw hS
  have hl : lv_has ls 5 [(0, .ref (ad 0)), (1, .int x), (2, .int (b2 is)), (3, .ref (ad 40))] := hl
  have hown : s.vm.findClass RL = some m.cls := hown
  have hF : CallFix p m c cL_hold 5 s args wsL_hold RL := ⟨hx, hb, hml, hown, hts⟩
  refine lv_aload_n hx hb dL_hold_0 rfl (lv_at hl 3 rfl) ?_
  refine lv_iconst (v := 0) hx hb dL_hold_1 (by decide) ?_
  refine lv_aload_n hx hb dL_hold_2 rfl (lv_at hl 0 rfl) ?_
  refine lv_iload_n hx hb dL_hold_3 rfl (lv_at hl 1 rfl) ?_
  refine lv_iload_n hx hb dL_hold_4 rfl (lv_at hl 2 rfl) ?_
  refine kx_do (st1 := [.int (b2 (!decide (g (100 + 3 * x.toNatClampNeg) 12 = 0))), .int 0, .ref (ad 40)]) (kx_cv (As := [.int x, .int (b2 is)]) (rest := [.int 0, .ref (ad 40)]) hF hG hw hS hl.1 kC_0 rfl (c_X2_hold l hfl D cy base ad n nc g x is hfr hz) gL_hold_X2_hold rfl rfl rfl hd_X2_hold ⟨Nat.le_of_ble_eq_true rfl, Nat.le_of_ble_eq_true rfl⟩ rfl rfl (Nat.le_of_ble_eq_true rfl) dL_hold_5 ⟨Nat.le_of_ble_eq_true rfl, Nat.le_of_ble_eq_true rfl⟩) hS rfl (fun E9 ce9 q9 H1 locs1 hX9 hw1 hS1 hc9 hv9 hcl9 => ?_) (fun hok H locs hw hS => ?_)
  · rcases ex_2e13 hX9 with ⟨rfl, hk⟩ | ⟨rfl, hk⟩
    · refine kx_cat0 hown hG hT ⟨by decide, by decide⟩ (by decide) mIO (hts (.classLink RL 13 "java/lang/IndexOutOfBoundsException") (by decide +kernel)) hc9 hv9 hcl9 ?_
      refine lv_astore (lv' := [(4, .ref q9), (0, .ref (ad 0)), (1, .int x), (2, .int (b2 is)), (3, .ref (ad 40))]) hx hb dL_hold_20 hl (by decide) rfl (fun ls hl => ?_)
      refine lv_iconst (v := 1) hx hb dL_hold_22 (by decide) ?_
      exact kx_retI hQ hx hb hr hlk hw1 hS1 (Nat.le_of_ble_eq_true rfl) (Nat.le_of_ble_eq_true rfl) dL_hold_23 ⟨by rw [hk], by rw [if_neg (by rw [hk]; decide)]⟩
    · refine kx_cat1 hown hG hT ⟨by decide, by decide⟩ (by decide) mIS (hts (.classLink RL 28 "java/lang/IllegalStateException") (by decide +kernel)) mIO nSO (by decide) (hts (.classLink RL 13 "java/lang/IndexOutOfBoundsException") (by decide +kernel)) hc9 hv9 hcl9 ?_
      refine lv_astore (lv' := [(4, .ref q9), (0, .ref (ad 0)), (1, .int x), (2, .int (b2 is)), (3, .ref (ad 40))]) hx hb dL_hold_24 hl (by decide) rfl (fun ls hl => ?_)
      refine lv_iconst (v := 2) hx hb dL_hold_26 (by decide) ?_
      exact kx_retI hQ hx hb hr hlk hw1 hS1 (Nat.le_of_ble_eq_true rfl) (Nat.le_of_ble_eq_true rfl) dL_hold_27 ⟨by rw [hk], by rw [if_neg (by rw [hk]; decide)]⟩
  · refine kx_nzB hx hb dL_hold_8 dL_hold_11 dL_hold_12 dL_hold_15 ?_
    refine kx_last (v0 := b2 (!decide (g (100 + 3 * x.toNatClampNeg) 12 = 0))) hx hb hG hw hS rfl dL_hold_16 (fun H locs hw hS => ?_)
    refine lv_goto (tgt := 28) hx hb dL_hold_17 (by decide) ?_
    refine lv_iconst (v := 0) hx hb dL_hold_28 (by decide) ?_
    exact kx_retI hQ hx hb hr hlk hw hS (Nat.le_of_ble_eq_true rfl) (Nat.le_of_ble_eq_true rfl) dL_hold_29 ⟨by rw [hok], by rw [if_pos hok]⟩
theorem hd_L_claim : yL_claim.cls ≠ "java/lang/invoke/MethodHandle" ∧ yL_claim.cls ≠ "java/lang/invoke/VarHandle" ∧ (parseMethodDescriptor yL_claim.desc).map (fun d => d.parameters.length) = some 7 := by decide +kernel
set_option maxHeartbeats 4000000 in
set_option maxRecDepth 100000 in
theorem c_L_claim (l : Launch) (hfl : l.stackTraces = false) (D : va_G) (cy : Nat → ClassId) (base : Nat) (ad : Nat → Nat) (n nc : Nat) (g : sg) (kind : Int32) (place : Int32) (fr : Int32) (to : Int32) (set : Int32) (hcj : ∀ j, g 7 j = if j < nc then 1 else 0) (hfj6 : ∀ j, g 6 j = 1 → j < 30) (hcc : g 0 9 = nI nc) : kM l yL_claim wsL_claim (kR 9 12 100) D cy base ad n nc g [.ref (ad 0), .int kind, .int place, .int fr, .int to, .int set, .ref (ad 40)] (fun v u => v = some (.int (kd3 (inn kind 0 7 && inn place 0 9) (inn fr 0 (g 0 10) && (inn to fr (g 0 10) && inn set 0 16777215)) (!decide (nI nc = 20)))) ∧ ((kd3 (inn kind 0 7 && inn place 0 9) (inn fr 0 (g 0 10) && (inn to fr (g 0 10) && inn set 0 16777215)) (!decide (nI nc = 20)) = 0 ∧ ∃ ad2 : Nat → Nat, (∀ k, k < 100 → ad2 k = ad k) ∧ u = (ad2, n, nc + 1, sU (cClaim g nc kind place fr to set) 40 0 (nI nc))) ∨ (¬ kd3 (inn kind 0 7 && inn place 0 9) (inn fr 0 (g 0 10) && (inn to fr (g 0 10) && inn set 0 16777215)) (!decide (nI nc = 20)) = 0 ∧ u = (ad, n, nc, g)))) kNo 12 100 := by
  refine kx_methH (cc := cL_claim) (maxL := 8) (ret := (some .int)) (hh := [(0, 16, 19, 13), (0, 16, 23, 15), (0, 16, 27, 28)]) (by decide) rfl (Nat.le_of_ble_eq_true rfl) ?_
  intro p e s m args below meth c ls hx hb hr hml hown hts hlk hT hG hl Q H locs hQ hw hS
  have hl : lv_has ls 8 [(0, .ref (ad 0)), (1, .int kind), (2, .int place), (3, .int fr), (4, .int to), (5, .int set), (6, .ref (ad 40))] := hl
  have hown : s.vm.findClass RL = some m.cls := hown
  have hF : CallFix p m c cL_claim 8 s args wsL_claim RL := ⟨hx, hb, hml, hown, hts⟩
  refine lv_aload hx hb dL_claim_0 (lv_at hl 6 rfl) ?_
  refine lv_iconst (v := 0) hx hb dL_claim_2 (by decide) ?_
  refine lv_aload_n hx hb dL_claim_3 rfl (lv_at hl 0 rfl) ?_
  refine lv_iload_n hx hb dL_claim_4 rfl (lv_at hl 1 rfl) ?_
  refine lv_iload_n hx hb dL_claim_5 rfl (lv_at hl 2 rfl) ?_
  refine lv_iload_n hx hb dL_claim_6 rfl (lv_at hl 3 rfl) ?_
  refine lv_iload hx hb dL_claim_7 (lv_at hl 4 rfl) ?_
  refine lv_iload hx hb dL_claim_9 (lv_at hl 5 rfl) ?_
  refine kx_call (kx_cv (As := [.int kind, .int place, .int fr, .int to, .int set]) (rest := [.int 0, .ref (ad 40)]) hF hG hw hS hl.1 kC_0 rfl (c_X2_claim l hfl D cy base ad n nc g kind place fr to set hcj hfj6 hcc) gL_claim_X2_claim rfl rfl rfl hd_X2_claim ⟨Nat.le_of_ble_eq_true rfl, Nat.le_of_ble_eq_true rfl⟩ rfl rfl (Nat.le_of_ble_eq_true rfl) dL_claim_11 ⟨Nat.le_of_ble_eq_true rfl, Nat.le_of_ble_eq_true rfl⟩) hS (fun E9 ce9 q9 H1 locs1 hX9 hw1 hS1 hc9 hv9 hcl9 => ?_) (fun v u H locs hp hw hS => ?_)
  · rcases ex_3 hX9 with ⟨rfl, hk⟩ | ⟨rfl, hk⟩ | ⟨rfl, hk⟩
    · refine kx_cat0 hown hG hT ⟨by decide, by decide⟩ (by decide) mIO (hts (.classLink RL 13 "java/lang/IndexOutOfBoundsException") (by decide +kernel)) hc9 hv9 hcl9 ?_
      refine lv_astore (lv' := [(7, .ref q9), (0, .ref (ad 0)), (1, .int kind), (2, .int place), (3, .int fr), (4, .int to), (5, .int set), (6, .ref (ad 40))]) hx hb dL_claim_19 hl (by decide) rfl (fun ls hl => ?_)
      refine lv_iconst (v := 1) hx hb dL_claim_21 (by decide) ?_
      exact kx_retI hQ hx hb hr hlk hw1 hS1 (Nat.le_of_ble_eq_true rfl) (Nat.le_of_ble_eq_true rfl) dL_claim_22 ⟨by rw [hk], Or.inr ⟨by rw [hk]; decide, rfl⟩⟩
    · refine kx_cat1 hown hG hT ⟨by decide, by decide⟩ (by decide) mIA (hts (.classLink RL 15 "java/lang/IllegalArgumentException") (by decide +kernel)) mIO nAO (by decide) (hts (.classLink RL 13 "java/lang/IndexOutOfBoundsException") (by decide +kernel)) hc9 hv9 hcl9 ?_
      refine lv_astore (lv' := [(7, .ref q9), (0, .ref (ad 0)), (1, .int kind), (2, .int place), (3, .int fr), (4, .int to), (5, .int set), (6, .ref (ad 40))]) hx hb dL_claim_23 hl (by decide) rfl (fun ls hl => ?_)
      refine lv_iconst (v := 2) hx hb dL_claim_25 (by decide) ?_
      exact kx_retI hQ hx hb hr hlk hw1 hS1 (Nat.le_of_ble_eq_true rfl) (Nat.le_of_ble_eq_true rfl) dL_claim_26 ⟨by rw [hk], Or.inr ⟨by rw [hk]; decide, rfl⟩⟩
    · refine kx_cat2 hown hG hT ⟨by decide, by decide⟩ (by decide) mIS (hts (.classLink RL 28 "java/lang/IllegalStateException") (by decide +kernel)) mIO nSO (by decide) (hts (.classLink RL 13 "java/lang/IndexOutOfBoundsException") (by decide +kernel)) mIA nSA (by decide) (hts (.classLink RL 15 "java/lang/IllegalArgumentException") (by decide +kernel)) hc9 hv9 hcl9 ?_
      refine lv_astore (lv' := [(7, .ref q9), (0, .ref (ad 0)), (1, .int kind), (2, .int place), (3, .int fr), (4, .int to), (5, .int set), (6, .ref (ad 40))]) hx hb dL_claim_27 hl (by decide) rfl (fun ls hl => ?_)
      refine lv_iconst (v := 3) hx hb dL_claim_29 (by decide) ?_
      exact kx_retI hQ hx hb hr hlk hw1 hS1 (Nat.le_of_ble_eq_true rfl) (Nat.le_of_ble_eq_true rfl) dL_claim_30 ⟨by rw [hk], Or.inr ⟨by rw [hk]; decide, rfl⟩⟩
  · obtain ⟨hok, rfl, ad2, hlo, rfl⟩ := hp
    have hw : kW D cy base ad2 (n) (nc + 1) (cClaim g nc kind place fr to set) H := hw
    rw [← hlo 40 (by decide)]
    refine W.eq (g2 := F0 m 14 ls [.int (nI nc), .int 0, .ref (ad2 40)]) rfl ?_
    refine lv_i2l (v := (nI nc).toInt64) hx hb dL_claim_14 rfl ?_
    refine kx_last (v0 := nI nc) hx hb hG hw hS rfl dL_claim_15 (fun H locs hw hS => ?_)
    refine lv_goto (tgt := 31) hx hb dL_claim_16 (by decide) ?_
    refine lv_iconst (v := 0) hx hb dL_claim_31 (by decide) ?_
    exact kx_retI hQ hx hb hr hlk hw hS (Nat.le_of_ble_eq_true rfl) (Nat.le_of_ble_eq_true rfl) dL_claim_32 ⟨by rw [hok], Or.inl ⟨hok, ad2, hlo, rfl⟩⟩
theorem hd_L_say : yL_say.cls ≠ "java/lang/invoke/MethodHandle" ∧ yL_say.cls ≠ "java/lang/invoke/VarHandle" ∧ (parseMethodDescriptor yL_say.desc).map (fun d => d.parameters.length) = some 4 := by decide +kernel
set_option maxHeartbeats 4000000 in
set_option maxRecDepth 100000 in
theorem c_L_say (l : Launch) (hfl : l.stackTraces = false) (D : va_G) (cy : Nat → ClassId) (base : Nat) (ad : Nat → Nat) (n nc : Nat) (g : sg) (x : Int32) (set : Int32) (hcr : ∀ j, j < 20 → g 7 j = if j < nc then 1 else 0) (hR : cR n nc g) : kM l yL_say wsL_say (kR 9 12 100) D cy base ad n nc g [.ref (ad 0), .int x, .int set, .ref (ad 40)] (fun v u => v = some (.int (kd3 (isF nc x) (inn set 0 16777215) (decide (g (200 + x.toNatClampNeg) 7 = 0)))) ∧ u = (ad, n, nc, if kd3 (isF nc x) (inn set 0 16777215) (decide (g (200 + x.toNatClampNeg) 7 = 0)) = 0 then sU (sU g (200 + x.toNatClampNeg) 5 (g (200 + x.toNatClampNeg) 5 ||| set)) 40 0 (bits (g (200 + x.toNatClampNeg) 5 ||| set)) else g)) kNo 12 100 := by
  refine kx_methH (cc := cL_say) (maxL := 5) (ret := (some .int)) (hh := [(0, 10, 13, 13), (0, 10, 17, 15), (0, 10, 21, 28)]) (by decide) rfl (Nat.le_of_ble_eq_true rfl) ?_
  intro p e s m args below meth c ls hx hb hr hml hown hts hlk hT hG hl Q H locs hQ hw hS
  have hl : lv_has ls 5 [(0, .ref (ad 0)), (1, .int x), (2, .int set), (3, .ref (ad 40))] := hl
  have hown : s.vm.findClass RL = some m.cls := hown
  have hF : CallFix p m c cL_say 5 s args wsL_say RL := ⟨hx, hb, hml, hown, hts⟩
  refine lv_aload_n hx hb dL_say_0 rfl (lv_at hl 3 rfl) ?_
  refine lv_iconst (v := 0) hx hb dL_say_1 (by decide) ?_
  refine lv_aload_n hx hb dL_say_2 rfl (lv_at hl 0 rfl) ?_
  refine lv_iload_n hx hb dL_say_3 rfl (lv_at hl 1 rfl) ?_
  refine lv_iload_n hx hb dL_say_4 rfl (lv_at hl 2 rfl) ?_
  refine kx_do (st1 := [.int (bits (g (200 + x.toNatClampNeg) 5 ||| set)), .int 0, .ref (ad 40)]) (kx_cv (As := [.int x, .int set]) (rest := [.int 0, .ref (ad 40)]) hF hG hw hS hl.1 kC_0 rfl (c_X2_say l hfl D cy base ad n nc g x set hcr hR) gL_say_X2_say rfl rfl rfl hd_X2_say ⟨Nat.le_of_ble_eq_true rfl, Nat.le_of_ble_eq_true rfl⟩ rfl rfl (Nat.le_of_ble_eq_true rfl) dL_say_5 ⟨Nat.le_of_ble_eq_true rfl, Nat.le_of_ble_eq_true rfl⟩) hS rfl (fun E9 ce9 q9 H1 locs1 hX9 hw1 hS1 hc9 hv9 hcl9 => ?_) (fun hok H locs hw hS => ?_)
  · rcases ex_3 hX9 with ⟨rfl, hk⟩ | ⟨rfl, hk⟩ | ⟨rfl, hk⟩
    · refine kx_cat0 hown hG hT ⟨by decide, by decide⟩ (by decide) mIO (hts (.classLink RL 13 "java/lang/IndexOutOfBoundsException") (by decide +kernel)) hc9 hv9 hcl9 ?_
      refine lv_astore (lv' := [(4, .ref q9), (0, .ref (ad 0)), (1, .int x), (2, .int set), (3, .ref (ad 40))]) hx hb dL_say_13 hl (by decide) rfl (fun ls hl => ?_)
      refine lv_iconst (v := 1) hx hb dL_say_15 (by decide) ?_
      exact kx_retI hQ hx hb hr hlk hw1 hS1 (Nat.le_of_ble_eq_true rfl) (Nat.le_of_ble_eq_true rfl) dL_say_16 ⟨by rw [hk], by rw [if_neg (by rw [hk]; decide)]⟩
    · refine kx_cat1 hown hG hT ⟨by decide, by decide⟩ (by decide) mIA (hts (.classLink RL 15 "java/lang/IllegalArgumentException") (by decide +kernel)) mIO nAO (by decide) (hts (.classLink RL 13 "java/lang/IndexOutOfBoundsException") (by decide +kernel)) hc9 hv9 hcl9 ?_
      refine lv_astore (lv' := [(4, .ref q9), (0, .ref (ad 0)), (1, .int x), (2, .int set), (3, .ref (ad 40))]) hx hb dL_say_17 hl (by decide) rfl (fun ls hl => ?_)
      refine lv_iconst (v := 2) hx hb dL_say_19 (by decide) ?_
      exact kx_retI hQ hx hb hr hlk hw1 hS1 (Nat.le_of_ble_eq_true rfl) (Nat.le_of_ble_eq_true rfl) dL_say_20 ⟨by rw [hk], by rw [if_neg (by rw [hk]; decide)]⟩
    · refine kx_cat2 hown hG hT ⟨by decide, by decide⟩ (by decide) mIS (hts (.classLink RL 28 "java/lang/IllegalStateException") (by decide +kernel)) mIO nSO (by decide) (hts (.classLink RL 13 "java/lang/IndexOutOfBoundsException") (by decide +kernel)) mIA nSA (by decide) (hts (.classLink RL 15 "java/lang/IllegalArgumentException") (by decide +kernel)) hc9 hv9 hcl9 ?_
      refine lv_astore (lv' := [(4, .ref q9), (0, .ref (ad 0)), (1, .int x), (2, .int set), (3, .ref (ad 40))]) hx hb dL_say_21 hl (by decide) rfl (fun ls hl => ?_)
      refine lv_iconst (v := 3) hx hb dL_say_23 (by decide) ?_
      exact kx_retI hQ hx hb hr hlk hw1 hS1 (Nat.le_of_ble_eq_true rfl) (Nat.le_of_ble_eq_true rfl) dL_say_24 ⟨by rw [hk], by rw [if_neg (by rw [hk]; decide)]⟩
  · refine lv_i2l (v := (bits (g (200 + x.toNatClampNeg) 5 ||| set)).toInt64) hx hb dL_say_8 rfl ?_
    refine kx_last (v0 := bits (g (200 + x.toNatClampNeg) 5 ||| set)) hx hb hG hw hS rfl dL_say_9 (fun H locs hw hS => ?_)
    refine lv_goto (tgt := 25) hx hb dL_say_10 (by decide) ?_
    refine lv_iconst (v := 0) hx hb dL_say_25 (by decide) ?_
    exact kx_retI hQ hx hb hr hlk hw hS (Nat.le_of_ble_eq_true rfl) (Nat.le_of_ble_eq_true rfl) dL_say_26 ⟨by rw [hok], by rw [if_pos hok]⟩
theorem hd_L_tell : yL_tell.cls ≠ "java/lang/invoke/MethodHandle" ∧ yL_tell.cls ≠ "java/lang/invoke/VarHandle" ∧ (parseMethodDescriptor yL_tell.desc).map (fun d => d.parameters.length) = some 4 := by decide +kernel
set_option maxHeartbeats 4000000 in
set_option maxRecDepth 100000 in
theorem c_L_tell (l : Launch) (hfl : l.stackTraces = false) (D : va_G) (cy : Nat → ClassId) (base : Nat) (ad : Nat → Nat) (n nc : Nat) (g : sg) (x : Int32) (set : Int32) (hcr : ∀ j, j < 20 → g 7 j = if j < nc then 1 else 0) (hR : cR n nc g) : kM l yL_tell wsL_tell (kR 9 12 100) D cy base ad n nc g [.ref (ad 0), .int x, .int set, .ref (ad 40)] (fun v u => v = some (.int (kd3 (isF nc x) (inn set 0 16777215) (decide (g (200 + x.toNatClampNeg) 7 = 0)))) ∧ u = (ad, n, nc, if kd3 (isF nc x) (inn set 0 16777215) (decide (g (200 + x.toNatClampNeg) 7 = 0)) = 0 then sU (sU (sU g (200 + x.toNatClampNeg) 5 (g (200 + x.toNatClampNeg) 5 ||| set)) (200 + x.toNatClampNeg) 6 (g (200 + x.toNatClampNeg) 6 ||| set)) 40 0 (bits (g (200 + x.toNatClampNeg) 6 ||| set)) else g)) kNo 12 100 := by
  refine kx_methH (cc := cL_tell) (maxL := 5) (ret := (some .int)) (hh := [(0, 10, 13, 13), (0, 10, 17, 15), (0, 10, 21, 28)]) (by decide) rfl (Nat.le_of_ble_eq_true rfl) ?_
  intro p e s m args below meth c ls hx hb hr hml hown hts hlk hT hG hl Q H locs hQ hw hS
  have hl : lv_has ls 5 [(0, .ref (ad 0)), (1, .int x), (2, .int set), (3, .ref (ad 40))] := hl
  have hown : s.vm.findClass RL = some m.cls := hown
  have hF : CallFix p m c cL_tell 5 s args wsL_tell RL := ⟨hx, hb, hml, hown, hts⟩
  refine lv_aload_n hx hb dL_tell_0 rfl (lv_at hl 3 rfl) ?_
  refine lv_iconst (v := 0) hx hb dL_tell_1 (by decide) ?_
  refine lv_aload_n hx hb dL_tell_2 rfl (lv_at hl 0 rfl) ?_
  refine lv_iload_n hx hb dL_tell_3 rfl (lv_at hl 1 rfl) ?_
  refine lv_iload_n hx hb dL_tell_4 rfl (lv_at hl 2 rfl) ?_
  refine kx_do (st1 := [.int (bits (g (200 + x.toNatClampNeg) 6 ||| set)), .int 0, .ref (ad 40)]) (kx_cv (As := [.int x, .int set]) (rest := [.int 0, .ref (ad 40)]) hF hG hw hS hl.1 kC_0 rfl (c_X2_tell l hfl D cy base ad n nc g x set hcr hR) gL_tell_X2_tell rfl rfl rfl hd_X2_tell ⟨Nat.le_of_ble_eq_true rfl, Nat.le_of_ble_eq_true rfl⟩ rfl rfl (Nat.le_of_ble_eq_true rfl) dL_tell_5 ⟨Nat.le_of_ble_eq_true rfl, Nat.le_of_ble_eq_true rfl⟩) hS rfl (fun E9 ce9 q9 H1 locs1 hX9 hw1 hS1 hc9 hv9 hcl9 => ?_) (fun hok H locs hw hS => ?_)
  · rcases ex_3 hX9 with ⟨rfl, hk⟩ | ⟨rfl, hk⟩ | ⟨rfl, hk⟩
    · refine kx_cat0 hown hG hT ⟨by decide, by decide⟩ (by decide) mIO (hts (.classLink RL 13 "java/lang/IndexOutOfBoundsException") (by decide +kernel)) hc9 hv9 hcl9 ?_
      refine lv_astore (lv' := [(4, .ref q9), (0, .ref (ad 0)), (1, .int x), (2, .int set), (3, .ref (ad 40))]) hx hb dL_tell_13 hl (by decide) rfl (fun ls hl => ?_)
      refine lv_iconst (v := 1) hx hb dL_tell_15 (by decide) ?_
      exact kx_retI hQ hx hb hr hlk hw1 hS1 (Nat.le_of_ble_eq_true rfl) (Nat.le_of_ble_eq_true rfl) dL_tell_16 ⟨by rw [hk], by rw [if_neg (by rw [hk]; decide)]⟩
    · refine kx_cat1 hown hG hT ⟨by decide, by decide⟩ (by decide) mIA (hts (.classLink RL 15 "java/lang/IllegalArgumentException") (by decide +kernel)) mIO nAO (by decide) (hts (.classLink RL 13 "java/lang/IndexOutOfBoundsException") (by decide +kernel)) hc9 hv9 hcl9 ?_
      refine lv_astore (lv' := [(4, .ref q9), (0, .ref (ad 0)), (1, .int x), (2, .int set), (3, .ref (ad 40))]) hx hb dL_tell_17 hl (by decide) rfl (fun ls hl => ?_)
      refine lv_iconst (v := 2) hx hb dL_tell_19 (by decide) ?_
      exact kx_retI hQ hx hb hr hlk hw1 hS1 (Nat.le_of_ble_eq_true rfl) (Nat.le_of_ble_eq_true rfl) dL_tell_20 ⟨by rw [hk], by rw [if_neg (by rw [hk]; decide)]⟩
    · refine kx_cat2 hown hG hT ⟨by decide, by decide⟩ (by decide) mIS (hts (.classLink RL 28 "java/lang/IllegalStateException") (by decide +kernel)) mIO nSO (by decide) (hts (.classLink RL 13 "java/lang/IndexOutOfBoundsException") (by decide +kernel)) mIA nSA (by decide) (hts (.classLink RL 15 "java/lang/IllegalArgumentException") (by decide +kernel)) hc9 hv9 hcl9 ?_
      refine lv_astore (lv' := [(4, .ref q9), (0, .ref (ad 0)), (1, .int x), (2, .int set), (3, .ref (ad 40))]) hx hb dL_tell_21 hl (by decide) rfl (fun ls hl => ?_)
      refine lv_iconst (v := 3) hx hb dL_tell_23 (by decide) ?_
      exact kx_retI hQ hx hb hr hlk hw1 hS1 (Nat.le_of_ble_eq_true rfl) (Nat.le_of_ble_eq_true rfl) dL_tell_24 ⟨by rw [hk], by rw [if_neg (by rw [hk]; decide)]⟩
  · refine lv_i2l (v := (bits (g (200 + x.toNatClampNeg) 6 ||| set)).toInt64) hx hb dL_tell_8 rfl ?_
    refine kx_last (v0 := bits (g (200 + x.toNatClampNeg) 6 ||| set)) hx hb hG hw hS rfl dL_tell_9 (fun H locs hw hS => ?_)
    refine lv_goto (tgt := 25) hx hb dL_tell_10 (by decide) ?_
    refine lv_iconst (v := 0) hx hb dL_tell_25 (by decide) ?_
    exact kx_retI hQ hx hb hr hlk hw hS (Nat.le_of_ble_eq_true rfl) (Nat.le_of_ble_eq_true rfl) dL_tell_26 ⟨by rw [hok], by rw [if_pos hok]⟩
theorem hd_L_withdraw : yL_withdraw.cls ≠ "java/lang/invoke/MethodHandle" ∧ yL_withdraw.cls ≠ "java/lang/invoke/VarHandle" ∧ (parseMethodDescriptor yL_withdraw.desc).map (fun d => d.parameters.length) = some 3 := by decide +kernel
set_option maxHeartbeats 4000000 in
set_option maxRecDepth 100000 in
theorem c_L_withdraw (l : Launch) (hfl : l.stackTraces = false) (D : va_G) (cy : Nat → ClassId) (base : Nat) (ad : Nat → Nat) (n nc : Nat) (g : sg) (x : Int32) (hcr : ∀ j, j < 20 → g 7 j = if j < nc then 1 else 0) : kM l yL_withdraw wsL_withdraw (kR 9 12 100) D cy base ad n nc g [.ref (ad 0), .int x, .ref (ad 40)] (fun v u => v = some (.int (kd2 (isF nc x) (decide (g (200 + x.toNatClampNeg) 7 = 0)))) ∧ u = (ad, n, nc, if kd2 (isF nc x) (decide (g (200 + x.toNatClampNeg) 7 = 0)) = 0 then sU (sU (sU g (200 + x.toNatClampNeg) 7 2) (200 + x.toNatClampNeg) 9 (g 0 10)) 40 0 (g 0 10) else g)) kNo 12 100 := by
  refine kx_methH (cc := cL_withdraw) (maxL := 4) (ret := (some .int)) (hh := [(0, 9, 12, 13), (0, 9, 15, 28)]) (by decide) rfl (Nat.le_of_ble_eq_true rfl) ?_
  intro p e s m args below meth c ls hx hb hr hml hown hts hlk hT hG hl Q H locs hQ hw hS
  have hl : lv_has ls 4 [(0, .ref (ad 0)), (1, .int x), (2, .ref (ad 40))] := hl
  have hown : s.vm.findClass RL = some m.cls := hown
  have hF : CallFix p m c cL_withdraw 4 s args wsL_withdraw RL := ⟨hx, hb, hml, hown, hts⟩
  refine lv_aload_n hx hb dL_withdraw_0 rfl (lv_at hl 2 rfl) ?_
  refine lv_iconst (v := 0) hx hb dL_withdraw_1 (by decide) ?_
  refine lv_aload_n hx hb dL_withdraw_2 rfl (lv_at hl 0 rfl) ?_
  refine lv_iload_n hx hb dL_withdraw_3 rfl (lv_at hl 1 rfl) ?_
  refine kx_do (st1 := [.int (g 0 10), .int 0, .ref (ad 40)]) (kx_cv (As := [.int x]) (rest := [.int 0, .ref (ad 40)]) hF hG hw hS hl.1 kC_0 rfl (c_X2_withdraw l hfl D cy base ad n nc g x hcr) gL_withdraw_X2_withdraw rfl rfl rfl hd_X2_withdraw ⟨Nat.le_of_ble_eq_true rfl, Nat.le_of_ble_eq_true rfl⟩ rfl rfl (Nat.le_of_ble_eq_true rfl) dL_withdraw_4 ⟨Nat.le_of_ble_eq_true rfl, Nat.le_of_ble_eq_true rfl⟩) hS rfl (fun E9 ce9 q9 H1 locs1 hX9 hw1 hS1 hc9 hv9 hcl9 => ?_) (fun hok H locs hw hS => ?_)
  · rcases ex_2e13 hX9 with ⟨rfl, hk⟩ | ⟨rfl, hk⟩
    · refine kx_cat0 hown hG hT ⟨by decide, by decide⟩ (by decide) mIO (hts (.classLink RL 13 "java/lang/IndexOutOfBoundsException") (by decide +kernel)) hc9 hv9 hcl9 ?_
      refine lv_astore_n (lv' := [(3, .ref q9), (0, .ref (ad 0)), (1, .int x), (2, .ref (ad 40))]) hx hb dL_withdraw_12 rfl hl (by decide) rfl (fun ls hl => ?_)
      refine lv_iconst (v := 1) hx hb dL_withdraw_13 (by decide) ?_
      exact kx_retI hQ hx hb hr hlk hw1 hS1 (Nat.le_of_ble_eq_true rfl) (Nat.le_of_ble_eq_true rfl) dL_withdraw_14 ⟨by rw [hk], by rw [if_neg (by rw [hk]; decide)]⟩
    · refine kx_cat1 hown hG hT ⟨by decide, by decide⟩ (by decide) mIS (hts (.classLink RL 28 "java/lang/IllegalStateException") (by decide +kernel)) mIO nSO (by decide) (hts (.classLink RL 13 "java/lang/IndexOutOfBoundsException") (by decide +kernel)) hc9 hv9 hcl9 ?_
      refine lv_astore_n (lv' := [(3, .ref q9), (0, .ref (ad 0)), (1, .int x), (2, .ref (ad 40))]) hx hb dL_withdraw_15 rfl hl (by decide) rfl (fun ls hl => ?_)
      refine lv_iconst (v := 2) hx hb dL_withdraw_16 (by decide) ?_
      exact kx_retI hQ hx hb hr hlk hw1 hS1 (Nat.le_of_ble_eq_true rfl) (Nat.le_of_ble_eq_true rfl) dL_withdraw_17 ⟨by rw [hk], by rw [if_neg (by rw [hk]; decide)]⟩
  · refine lv_i2l (v := (g 0 10).toInt64) hx hb dL_withdraw_7 rfl ?_
    refine kx_last (v0 := g 0 10) hx hb hG hw hS rfl dL_withdraw_8 (fun H locs hw hS => ?_)
    refine lv_goto (tgt := 18) hx hb dL_withdraw_9 (by decide) ?_
    refine lv_iconst (v := 0) hx hb dL_withdraw_18 (by decide) ?_
    exact kx_retI hQ hx hb hr hlk hw hS (Nat.le_of_ble_eq_true rfl) (Nat.le_of_ble_eq_true rfl) dL_withdraw_19 ⟨by rw [hok], by rw [if_pos hok]⟩
theorem hd_L_release : yL_release.cls ≠ "java/lang/invoke/MethodHandle" ∧ yL_release.cls ≠ "java/lang/invoke/VarHandle" ∧ (parseMethodDescriptor yL_release.desc).map (fun d => d.parameters.length) = some 4 := by decide +kernel
set_option maxHeartbeats 4000000 in
set_option maxRecDepth 100000 in
theorem c_L_release (l : Launch) (hfl : l.stackTraces = false) (D : va_G) (cy : Nat → ClassId) (base : Nat) (ad : Nat → Nat) (n nc : Nat) (g : sg) (x : Int32) (y : Int32) (hfr : ∀ j, j < 30 → g 6 j = if j < n then 1 else 0) (hcr : ∀ j, j < 20 → g 7 j = if j < nc then 1 else 0) (hR : cR n nc g) : kM l yL_release wsL_release (kR 9 12 100) D cy base ad n nc g [.ref (ad 0), .int x, .int y, .ref (ad 40)] (fun v u => v = some (.int (kd2 (isF n x && isF nc y) (decide (g (100 + 3 * x.toNatClampNeg) 9 = 0) && (decide (g (100 + 3 * x.toNatClampNeg) 12 = 0) && cServe g nc x.toNatClampNeg y.toNatClampNeg)))) ∧ u = (ad, n, nc, if kd2 (isF n x && isF nc y) (decide (g (100 + 3 * x.toNatClampNeg) 9 = 0) && (decide (g (100 + 3 * x.toNatClampNeg) 12 = 0) && cServe g nc x.toNatClampNeg y.toNatClampNeg)) = 0 then sU (sU (sU (sU (sU (sU (sU g (100 + 3 * x.toNatClampNeg) 9 3) (200 + y.toNatClampNeg) 7 1) (200 + y.toNatClampNeg) 9 (g 0 10)) (200 + y.toNatClampNeg) 8 x) 0 12 (g 0 12 + 5)) 0 13 (g 0 13 + ((g (100 + 3 * x.toNatClampNeg) 4 * g 5 (g (100 + 3 * x.toNatClampNeg) 0).toNatClampNeg) / 100))) 40 0 (5 + ((g (100 + 3 * x.toNatClampNeg) 4 * g 5 (g (100 + 3 * x.toNatClampNeg) 0).toNatClampNeg) / 100)) else g)) kNo 12 100 := by
  refine kx_methH (cc := cL_release) (maxL := 5) (ret := (some .int)) (hh := [(0, 10, 13, 13), (0, 10, 17, 28)]) (by decide) rfl (Nat.le_of_ble_eq_true rfl) ?_
  intro p e s m args below meth c ls hx hb hr hml hown hts hlk hT hG hl Q H locs hQ hw hS
  have hl : lv_has ls 5 [(0, .ref (ad 0)), (1, .int x), (2, .int y), (3, .ref (ad 40))] := hl
  have hown : s.vm.findClass RL = some m.cls := hown
  have hF : CallFix p m c cL_release 5 s args wsL_release RL := ⟨hx, hb, hml, hown, hts⟩
  refine lv_aload_n hx hb dL_release_0 rfl (lv_at hl 3 rfl) ?_
  refine lv_iconst (v := 0) hx hb dL_release_1 (by decide) ?_
  refine lv_aload_n hx hb dL_release_2 rfl (lv_at hl 0 rfl) ?_
  refine lv_iload_n hx hb dL_release_3 rfl (lv_at hl 1 rfl) ?_
  refine lv_iload_n hx hb dL_release_4 rfl (lv_at hl 2 rfl) ?_
  refine kx_do (st1 := [.int (5 + ((g (100 + 3 * x.toNatClampNeg) 4 * g 5 (g (100 + 3 * x.toNatClampNeg) 0).toNatClampNeg) / 100)), .int 0, .ref (ad 40)]) (kx_cv (As := [.int x, .int y]) (rest := [.int 0, .ref (ad 40)]) hF hG hw hS hl.1 kC_0 rfl (c_X2_release l hfl D cy base ad n nc g x y hfr hcr hR) gL_release_X2_release rfl rfl rfl hd_X2_release ⟨Nat.le_of_ble_eq_true rfl, Nat.le_of_ble_eq_true rfl⟩ rfl rfl (Nat.le_of_ble_eq_true rfl) dL_release_5 ⟨Nat.le_of_ble_eq_true rfl, Nat.le_of_ble_eq_true rfl⟩) hS rfl (fun E9 ce9 q9 H1 locs1 hX9 hw1 hS1 hc9 hv9 hcl9 => ?_) (fun hok H locs hw hS => ?_)
  · rcases ex_2e13 hX9 with ⟨rfl, hk⟩ | ⟨rfl, hk⟩
    · refine kx_cat0 hown hG hT ⟨by decide, by decide⟩ (by decide) mIO (hts (.classLink RL 13 "java/lang/IndexOutOfBoundsException") (by decide +kernel)) hc9 hv9 hcl9 ?_
      refine lv_astore (lv' := [(4, .ref q9), (0, .ref (ad 0)), (1, .int x), (2, .int y), (3, .ref (ad 40))]) hx hb dL_release_13 hl (by decide) rfl (fun ls hl => ?_)
      refine lv_iconst (v := 1) hx hb dL_release_15 (by decide) ?_
      exact kx_retI hQ hx hb hr hlk hw1 hS1 (Nat.le_of_ble_eq_true rfl) (Nat.le_of_ble_eq_true rfl) dL_release_16 ⟨by rw [hk], by rw [if_neg (by rw [hk]; decide)]⟩
    · refine kx_cat1 hown hG hT ⟨by decide, by decide⟩ (by decide) mIS (hts (.classLink RL 28 "java/lang/IllegalStateException") (by decide +kernel)) mIO nSO (by decide) (hts (.classLink RL 13 "java/lang/IndexOutOfBoundsException") (by decide +kernel)) hc9 hv9 hcl9 ?_
      refine lv_astore (lv' := [(4, .ref q9), (0, .ref (ad 0)), (1, .int x), (2, .int y), (3, .ref (ad 40))]) hx hb dL_release_17 hl (by decide) rfl (fun ls hl => ?_)
      refine lv_iconst (v := 2) hx hb dL_release_19 (by decide) ?_
      exact kx_retI hQ hx hb hr hlk hw1 hS1 (Nat.le_of_ble_eq_true rfl) (Nat.le_of_ble_eq_true rfl) dL_release_20 ⟨by rw [hk], by rw [if_neg (by rw [hk]; decide)]⟩
  · refine lv_i2l (v := (5 + ((g (100 + 3 * x.toNatClampNeg) 4 * g 5 (g (100 + 3 * x.toNatClampNeg) 0).toNatClampNeg) / 100)).toInt64) hx hb dL_release_8 rfl ?_
    refine kx_last (v0 := 5 + ((g (100 + 3 * x.toNatClampNeg) 4 * g 5 (g (100 + 3 * x.toNatClampNeg) 0).toNatClampNeg) / 100)) hx hb hG hw hS rfl dL_release_9 (fun H locs hw hS => ?_)
    refine lv_goto (tgt := 21) hx hb dL_release_10 (by decide) ?_
    refine lv_iconst (v := 0) hx hb dL_release_21 (by decide) ?_
    exact kx_retI hQ hx hb hr hlk hw hS (Nat.le_of_ble_eq_true rfl) (Nat.le_of_ble_eq_true rfl) dL_release_22 ⟨by rw [hok], by rw [if_pos hok]⟩
theorem hd_L_extend : yL_extend.cls ≠ "java/lang/invoke/MethodHandle" ∧ yL_extend.cls ≠ "java/lang/invoke/VarHandle" ∧ (parseMethodDescriptor yL_extend.desc).map (fun d => d.parameters.length) = some 4 := by decide +kernel
set_option maxHeartbeats 4000000 in
set_option maxRecDepth 100000 in
theorem c_L_extend (l : Launch) (hfl : l.stackTraces = false) (D : va_G) (cy : Nat → ClassId) (base : Nat) (ad : Nat → Nat) (n nc : Nat) (g : sg) (x : Int32) (many : Int32) (hfr : ∀ j, j < 30 → g 6 j = if j < n then 1 else 0) : kM l yL_extend wsL_extend (kR 9 12 100) D cy base ad n nc g [.ref (ad 0), .int x, .int many, .ref (ad 40)] (fun v u => v = some (.int (kd3 (isF n x) (inn many 1 365) (cHere g x.toNatClampNeg && !decide (g (100 + 3 * x.toNatClampNeg) 0 = 7)))) ∧ u = (ad, n, nc, if kd3 (isF n x) (inn many 1 365) (cHere g x.toNatClampNeg && !decide (g (100 + 3 * x.toNatClampNeg) 0 = 7)) = 0 then sU (sU g (100 + 3 * x.toNatClampNeg) 11 (if g (100 + 3 * x.toNatClampNeg) 11 < g 0 10 + many then g 0 10 + many else g (100 + 3 * x.toNatClampNeg) 11)) 40 0 (if g (100 + 3 * x.toNatClampNeg) 11 < g 0 10 + many then g 0 10 + many else g (100 + 3 * x.toNatClampNeg) 11) else g)) kNo 12 100 := by
  refine kx_methH (cc := cL_extend) (maxL := 5) (ret := (some .int)) (hh := [(0, 10, 13, 13), (0, 10, 17, 15), (0, 10, 21, 28)]) (by decide) rfl (Nat.le_of_ble_eq_true rfl) ?_
  intro p e s m args below meth c ls hx hb hr hml hown hts hlk hT hG hl Q H locs hQ hw hS
  have hl : lv_has ls 5 [(0, .ref (ad 0)), (1, .int x), (2, .int many), (3, .ref (ad 40))] := hl
  have hown : s.vm.findClass RL = some m.cls := hown
  have hF : CallFix p m c cL_extend 5 s args wsL_extend RL := ⟨hx, hb, hml, hown, hts⟩
  refine lv_aload_n hx hb dL_extend_0 rfl (lv_at hl 3 rfl) ?_
  refine lv_iconst (v := 0) hx hb dL_extend_1 (by decide) ?_
  refine lv_aload_n hx hb dL_extend_2 rfl (lv_at hl 0 rfl) ?_
  refine lv_iload_n hx hb dL_extend_3 rfl (lv_at hl 1 rfl) ?_
  refine lv_iload_n hx hb dL_extend_4 rfl (lv_at hl 2 rfl) ?_
  refine kx_do (st1 := [.int (if g (100 + 3 * x.toNatClampNeg) 11 < g 0 10 + many then g 0 10 + many else g (100 + 3 * x.toNatClampNeg) 11), .int 0, .ref (ad 40)]) (kx_cv (As := [.int x, .int many]) (rest := [.int 0, .ref (ad 40)]) hF hG hw hS hl.1 kC_0 rfl (c_X2_extend l hfl D cy base ad n nc g x many hfr) gL_extend_X2_extend rfl rfl rfl hd_X2_extend ⟨Nat.le_of_ble_eq_true rfl, Nat.le_of_ble_eq_true rfl⟩ rfl rfl (Nat.le_of_ble_eq_true rfl) dL_extend_5 ⟨Nat.le_of_ble_eq_true rfl, Nat.le_of_ble_eq_true rfl⟩) hS rfl (fun E9 ce9 q9 H1 locs1 hX9 hw1 hS1 hc9 hv9 hcl9 => ?_) (fun hok H locs hw hS => ?_)
  · rcases ex_3 hX9 with ⟨rfl, hk⟩ | ⟨rfl, hk⟩ | ⟨rfl, hk⟩
    · refine kx_cat0 hown hG hT ⟨by decide, by decide⟩ (by decide) mIO (hts (.classLink RL 13 "java/lang/IndexOutOfBoundsException") (by decide +kernel)) hc9 hv9 hcl9 ?_
      refine lv_astore (lv' := [(4, .ref q9), (0, .ref (ad 0)), (1, .int x), (2, .int many), (3, .ref (ad 40))]) hx hb dL_extend_13 hl (by decide) rfl (fun ls hl => ?_)
      refine lv_iconst (v := 1) hx hb dL_extend_15 (by decide) ?_
      exact kx_retI hQ hx hb hr hlk hw1 hS1 (Nat.le_of_ble_eq_true rfl) (Nat.le_of_ble_eq_true rfl) dL_extend_16 ⟨by rw [hk], by rw [if_neg (by rw [hk]; decide)]⟩
    · refine kx_cat1 hown hG hT ⟨by decide, by decide⟩ (by decide) mIA (hts (.classLink RL 15 "java/lang/IllegalArgumentException") (by decide +kernel)) mIO nAO (by decide) (hts (.classLink RL 13 "java/lang/IndexOutOfBoundsException") (by decide +kernel)) hc9 hv9 hcl9 ?_
      refine lv_astore (lv' := [(4, .ref q9), (0, .ref (ad 0)), (1, .int x), (2, .int many), (3, .ref (ad 40))]) hx hb dL_extend_17 hl (by decide) rfl (fun ls hl => ?_)
      refine lv_iconst (v := 2) hx hb dL_extend_19 (by decide) ?_
      exact kx_retI hQ hx hb hr hlk hw1 hS1 (Nat.le_of_ble_eq_true rfl) (Nat.le_of_ble_eq_true rfl) dL_extend_20 ⟨by rw [hk], by rw [if_neg (by rw [hk]; decide)]⟩
    · refine kx_cat2 hown hG hT ⟨by decide, by decide⟩ (by decide) mIS (hts (.classLink RL 28 "java/lang/IllegalStateException") (by decide +kernel)) mIO nSO (by decide) (hts (.classLink RL 13 "java/lang/IndexOutOfBoundsException") (by decide +kernel)) mIA nSA (by decide) (hts (.classLink RL 15 "java/lang/IllegalArgumentException") (by decide +kernel)) hc9 hv9 hcl9 ?_
      refine lv_astore (lv' := [(4, .ref q9), (0, .ref (ad 0)), (1, .int x), (2, .int many), (3, .ref (ad 40))]) hx hb dL_extend_21 hl (by decide) rfl (fun ls hl => ?_)
      refine lv_iconst (v := 3) hx hb dL_extend_23 (by decide) ?_
      exact kx_retI hQ hx hb hr hlk hw1 hS1 (Nat.le_of_ble_eq_true rfl) (Nat.le_of_ble_eq_true rfl) dL_extend_24 ⟨by rw [hk], by rw [if_neg (by rw [hk]; decide)]⟩
  · refine lv_i2l (v := (if g (100 + 3 * x.toNatClampNeg) 11 < g 0 10 + many then g 0 10 + many else g (100 + 3 * x.toNatClampNeg) 11).toInt64) hx hb dL_extend_8 rfl ?_
    refine kx_last (v0 := if g (100 + 3 * x.toNatClampNeg) 11 < g 0 10 + many then g 0 10 + many else g (100 + 3 * x.toNatClampNeg) 11) hx hb hG hw hS rfl dL_extend_9 (fun H locs hw hS => ?_)
    refine lv_goto (tgt := 25) hx hb dL_extend_10 (by decide) ?_
    refine lv_iconst (v := 0) hx hb dL_extend_25 (by decide) ?_
    exact kx_retI hQ hx hb hr hlk hw hS (Nat.le_of_ble_eq_true rfl) (Nat.le_of_ble_eq_true rfl) dL_extend_26 ⟨by rw [hok], by rw [if_pos hok]⟩
theorem hd_L_sell : yL_sell.cls ≠ "java/lang/invoke/MethodHandle" ∧ yL_sell.cls ≠ "java/lang/invoke/VarHandle" ∧ (parseMethodDescriptor yL_sell.desc).map (fun d => d.parameters.length) = some 4 := by decide +kernel
set_option maxHeartbeats 4000000 in
set_option maxRecDepth 100000 in
theorem c_L_sell (l : Launch) (hfl : l.stackTraces = false) (D : va_G) (cy : Nat → ClassId) (base : Nat) (ad : Nat → Nat) (n nc : Nat) (g : sg) (x : Int32) (price : Int32) (hfr : ∀ j, j < 30 → g 6 j = if j < n then 1 else 0) (hcr : ∀ j, j < 20 → g 7 j = if j < nc then 1 else 0) (hR : cR n nc g) : kM l yL_sell wsL_sell (kR 9 12 100) D cy base ad n nc g [.ref (ad 0), .int x, .int price, .ref (ad 40)] (fun v u => v = some (.int (kd3 (isF n x) (inn price 1 9999) (cOver g nc x.toNatClampNeg && !decide (g (100 + 3 * x.toNatClampNeg) 0 = 7)))) ∧ u = (ad, n, nc, if kd3 (isF n x) (inn price 1 9999) (cOver g nc x.toNatClampNeg && !decide (g (100 + 3 * x.toNatClampNeg) 0 = 7)) = 0 then sU (sU (sU (sU (sU g (100 + 3 * x.toNatClampNeg) 9 4) (100 + 3 * x.toNatClampNeg) 13 price) (100 + 3 * x.toNatClampNeg) 14 (g 0 10)) 0 14 (g 0 14 + price)) 40 0 (g 0 14 + price) else g)) kNo 12 100 := by
  refine kx_methH (cc := cL_sell) (maxL := 5) (ret := (some .int)) (hh := [(0, 10, 13, 13), (0, 10, 17, 15), (0, 10, 21, 28)]) (by decide) rfl (Nat.le_of_ble_eq_true rfl) ?_
  intro p e s m args below meth c ls hx hb hr hml hown hts hlk hT hG hl Q H locs hQ hw hS
  have hl : lv_has ls 5 [(0, .ref (ad 0)), (1, .int x), (2, .int price), (3, .ref (ad 40))] := hl
  have hown : s.vm.findClass RL = some m.cls := hown
  have hF : CallFix p m c cL_sell 5 s args wsL_sell RL := ⟨hx, hb, hml, hown, hts⟩
  refine lv_aload_n hx hb dL_sell_0 rfl (lv_at hl 3 rfl) ?_
  refine lv_iconst (v := 0) hx hb dL_sell_1 (by decide) ?_
  refine lv_aload_n hx hb dL_sell_2 rfl (lv_at hl 0 rfl) ?_
  refine lv_iload_n hx hb dL_sell_3 rfl (lv_at hl 1 rfl) ?_
  refine lv_iload_n hx hb dL_sell_4 rfl (lv_at hl 2 rfl) ?_
  refine kx_do (st1 := [.int (g 0 14 + price), .int 0, .ref (ad 40)]) (kx_cv (As := [.int x, .int price]) (rest := [.int 0, .ref (ad 40)]) hF hG hw hS hl.1 kC_0 rfl (c_X2_sell l hfl D cy base ad n nc g x price hfr hcr hR) gL_sell_X2_sell rfl rfl rfl hd_X2_sell ⟨Nat.le_of_ble_eq_true rfl, Nat.le_of_ble_eq_true rfl⟩ rfl rfl (Nat.le_of_ble_eq_true rfl) dL_sell_5 ⟨Nat.le_of_ble_eq_true rfl, Nat.le_of_ble_eq_true rfl⟩) hS rfl (fun E9 ce9 q9 H1 locs1 hX9 hw1 hS1 hc9 hv9 hcl9 => ?_) (fun hok H locs hw hS => ?_)
  · rcases ex_3 hX9 with ⟨rfl, hk⟩ | ⟨rfl, hk⟩ | ⟨rfl, hk⟩
    · refine kx_cat0 hown hG hT ⟨by decide, by decide⟩ (by decide) mIO (hts (.classLink RL 13 "java/lang/IndexOutOfBoundsException") (by decide +kernel)) hc9 hv9 hcl9 ?_
      refine lv_astore (lv' := [(4, .ref q9), (0, .ref (ad 0)), (1, .int x), (2, .int price), (3, .ref (ad 40))]) hx hb dL_sell_13 hl (by decide) rfl (fun ls hl => ?_)
      refine lv_iconst (v := 1) hx hb dL_sell_15 (by decide) ?_
      exact kx_retI hQ hx hb hr hlk hw1 hS1 (Nat.le_of_ble_eq_true rfl) (Nat.le_of_ble_eq_true rfl) dL_sell_16 ⟨by rw [hk], by rw [if_neg (by rw [hk]; decide)]⟩
    · refine kx_cat1 hown hG hT ⟨by decide, by decide⟩ (by decide) mIA (hts (.classLink RL 15 "java/lang/IllegalArgumentException") (by decide +kernel)) mIO nAO (by decide) (hts (.classLink RL 13 "java/lang/IndexOutOfBoundsException") (by decide +kernel)) hc9 hv9 hcl9 ?_
      refine lv_astore (lv' := [(4, .ref q9), (0, .ref (ad 0)), (1, .int x), (2, .int price), (3, .ref (ad 40))]) hx hb dL_sell_17 hl (by decide) rfl (fun ls hl => ?_)
      refine lv_iconst (v := 2) hx hb dL_sell_19 (by decide) ?_
      exact kx_retI hQ hx hb hr hlk hw1 hS1 (Nat.le_of_ble_eq_true rfl) (Nat.le_of_ble_eq_true rfl) dL_sell_20 ⟨by rw [hk], by rw [if_neg (by rw [hk]; decide)]⟩
    · refine kx_cat2 hown hG hT ⟨by decide, by decide⟩ (by decide) mIS (hts (.classLink RL 28 "java/lang/IllegalStateException") (by decide +kernel)) mIO nSO (by decide) (hts (.classLink RL 13 "java/lang/IndexOutOfBoundsException") (by decide +kernel)) mIA nSA (by decide) (hts (.classLink RL 15 "java/lang/IllegalArgumentException") (by decide +kernel)) hc9 hv9 hcl9 ?_
      refine lv_astore (lv' := [(4, .ref q9), (0, .ref (ad 0)), (1, .int x), (2, .int price), (3, .ref (ad 40))]) hx hb dL_sell_21 hl (by decide) rfl (fun ls hl => ?_)
      refine lv_iconst (v := 3) hx hb dL_sell_23 (by decide) ?_
      exact kx_retI hQ hx hb hr hlk hw1 hS1 (Nat.le_of_ble_eq_true rfl) (Nat.le_of_ble_eq_true rfl) dL_sell_24 ⟨by rw [hk], by rw [if_neg (by rw [hk]; decide)]⟩
  · refine lv_i2l (v := (g 0 14 + price).toInt64) hx hb dL_sell_8 rfl ?_
    refine kx_last (v0 := g 0 14 + price) hx hb hG hw hS rfl dL_sell_9 (fun H locs hw hS => ?_)
    refine lv_goto (tgt := 25) hx hb dL_sell_10 (by decide) ?_
    refine lv_iconst (v := 0) hx hb dL_sell_25 (by decide) ?_
    exact kx_retI hQ hx hb hr hlk hw hS (Nat.le_of_ble_eq_true rfl) (Nat.le_of_ble_eq_true rfl) dL_sell_26 ⟨by rw [hok], by rw [if_pos hok]⟩
theorem hd_L_destroy : yL_destroy.cls ≠ "java/lang/invoke/MethodHandle" ∧ yL_destroy.cls ≠ "java/lang/invoke/VarHandle" ∧ (parseMethodDescriptor yL_destroy.desc).map (fun d => d.parameters.length) = some 3 := by decide +kernel
set_option maxHeartbeats 4000000 in
set_option maxRecDepth 100000 in
theorem c_L_destroy (l : Launch) (hfl : l.stackTraces = false) (D : va_G) (cy : Nat → ClassId) (base : Nat) (ad : Nat → Nat) (n nc : Nat) (g : sg) (x : Int32) (hfr : ∀ j, j < 30 → g 6 j = if j < n then 1 else 0) (hcr : ∀ j, j < 20 → g 7 j = if j < nc then 1 else 0) (hR : cR n nc g) : kM l yL_destroy wsL_destroy (kR 9 12 100) D cy base ad n nc g [.ref (ad 0), .int x, .ref (ad 40)] (fun v u => v = some (.int (kd2 (isF n x) (cOver g nc x.toNatClampNeg))) ∧ u = (ad, n, nc, if kd2 (isF n x) (cOver g nc x.toNatClampNeg) = 0 then sU (sU g (100 + 3 * x.toNatClampNeg) 9 5) 40 0 (g (100 + 3 * x.toNatClampNeg) 10) else g)) kNo 12 100 := by
  refine kx_methH (cc := cL_destroy) (maxL := 4) (ret := (some .int)) (hh := [(0, 9, 12, 13), (0, 9, 15, 28)]) (by decide) rfl (Nat.le_of_ble_eq_true rfl) ?_
  intro p e s m args below meth c ls hx hb hr hml hown hts hlk hT hG hl Q H locs hQ hw hS
  have hl : lv_has ls 4 [(0, .ref (ad 0)), (1, .int x), (2, .ref (ad 40))] := hl
  have hown : s.vm.findClass RL = some m.cls := hown
  have hF : CallFix p m c cL_destroy 4 s args wsL_destroy RL := ⟨hx, hb, hml, hown, hts⟩
  refine lv_aload_n hx hb dL_destroy_0 rfl (lv_at hl 2 rfl) ?_
  refine lv_iconst (v := 0) hx hb dL_destroy_1 (by decide) ?_
  refine lv_aload_n hx hb dL_destroy_2 rfl (lv_at hl 0 rfl) ?_
  refine lv_iload_n hx hb dL_destroy_3 rfl (lv_at hl 1 rfl) ?_
  refine kx_do (st1 := [.int (g (100 + 3 * x.toNatClampNeg) 10), .int 0, .ref (ad 40)]) (kx_cv (As := [.int x]) (rest := [.int 0, .ref (ad 40)]) hF hG hw hS hl.1 kC_0 rfl (c_X2_destroy l hfl D cy base ad n nc g x hfr hcr hR) gL_destroy_X2_destroy rfl rfl rfl hd_X2_destroy ⟨Nat.le_of_ble_eq_true rfl, Nat.le_of_ble_eq_true rfl⟩ rfl rfl (Nat.le_of_ble_eq_true rfl) dL_destroy_4 ⟨Nat.le_of_ble_eq_true rfl, Nat.le_of_ble_eq_true rfl⟩) hS rfl (fun E9 ce9 q9 H1 locs1 hX9 hw1 hS1 hc9 hv9 hcl9 => ?_) (fun hok H locs hw hS => ?_)
  · rcases ex_2e13 hX9 with ⟨rfl, hk⟩ | ⟨rfl, hk⟩
    · refine kx_cat0 hown hG hT ⟨by decide, by decide⟩ (by decide) mIO (hts (.classLink RL 13 "java/lang/IndexOutOfBoundsException") (by decide +kernel)) hc9 hv9 hcl9 ?_
      refine lv_astore_n (lv' := [(3, .ref q9), (0, .ref (ad 0)), (1, .int x), (2, .ref (ad 40))]) hx hb dL_destroy_12 rfl hl (by decide) rfl (fun ls hl => ?_)
      refine lv_iconst (v := 1) hx hb dL_destroy_13 (by decide) ?_
      exact kx_retI hQ hx hb hr hlk hw1 hS1 (Nat.le_of_ble_eq_true rfl) (Nat.le_of_ble_eq_true rfl) dL_destroy_14 ⟨by rw [hk], by rw [if_neg (by rw [hk]; decide)]⟩
    · refine kx_cat1 hown hG hT ⟨by decide, by decide⟩ (by decide) mIS (hts (.classLink RL 28 "java/lang/IllegalStateException") (by decide +kernel)) mIO nSO (by decide) (hts (.classLink RL 13 "java/lang/IndexOutOfBoundsException") (by decide +kernel)) hc9 hv9 hcl9 ?_
      refine lv_astore_n (lv' := [(3, .ref q9), (0, .ref (ad 0)), (1, .int x), (2, .ref (ad 40))]) hx hb dL_destroy_15 rfl hl (by decide) rfl (fun ls hl => ?_)
      refine lv_iconst (v := 2) hx hb dL_destroy_16 (by decide) ?_
      exact kx_retI hQ hx hb hr hlk hw1 hS1 (Nat.le_of_ble_eq_true rfl) (Nat.le_of_ble_eq_true rfl) dL_destroy_17 ⟨by rw [hk], by rw [if_neg (by rw [hk]; decide)]⟩
  · refine lv_i2l (v := (g (100 + 3 * x.toNatClampNeg) 10).toInt64) hx hb dL_destroy_7 rfl ?_
    refine kx_last (v0 := g (100 + 3 * x.toNatClampNeg) 10) hx hb hG hw hS rfl dL_destroy_8 (fun H locs hw hS => ?_)
    refine lv_goto (tgt := 18) hx hb dL_destroy_9 (by decide) ?_
    refine lv_iconst (v := 0) hx hb dL_destroy_18 (by decide) ?_
    exact kx_retI hQ hx hb hr hlk hw hS (Nat.le_of_ble_eq_true rfl) (Nat.le_of_ble_eq_true rfl) dL_destroy_19 ⟨by rw [hok], by rw [if_pos hok]⟩
theorem hd_L_payOut : yL_payOut.cls ≠ "java/lang/invoke/MethodHandle" ∧ yL_payOut.cls ≠ "java/lang/invoke/VarHandle" ∧ (parseMethodDescriptor yL_payOut.desc).map (fun d => d.parameters.length) = some 4 := by decide +kernel
set_option maxHeartbeats 4000000 in
set_option maxRecDepth 100000 in
theorem c_L_payOut (l : Launch) (hfl : l.stackTraces = false) (D : va_G) (cy : Nat → ClassId) (base : Nat) (ad : Nat → Nat) (n nc : Nat) (g : sg) (x : Int32) (y : Int32) (hfr : ∀ j, j < 30 → g 6 j = if j < n then 1 else 0) (hcr : ∀ j, j < 20 → g 7 j = if j < nc then 1 else 0) (hR : cR n nc g) : kM l yL_payOut wsL_payOut (kR 9 12 100) D cy base ad n nc g [.ref (ad 0), .int x, .int y, .ref (ad 40)] (fun v u => v = some (.int (kd2 (isF n x && isF nc y) (decide (g (100 + 3 * x.toNatClampNeg) 9 = 4) && (decide (g 0 10 - g (100 + 3 * x.toNatClampNeg) 14 ≤ 365) && cServe g nc x.toNatClampNeg y.toNatClampNeg)))) ∧ u = (ad, n, nc, if kd2 (isF n x && isF nc y) (decide (g (100 + 3 * x.toNatClampNeg) 9 = 4) && (decide (g 0 10 - g (100 + 3 * x.toNatClampNeg) 14 ≤ 365) && cServe g nc x.toNatClampNeg y.toNatClampNeg)) = 0 then sU (sU (sU (sU (sU (sU (sU g (100 + 3 * x.toNatClampNeg) 9 6) (200 + y.toNatClampNeg) 7 1) (200 + y.toNatClampNeg) 9 (g 0 10)) (200 + y.toNatClampNeg) 8 x) 0 12 (g 0 12 + (if g (100 + 3 * x.toNatClampNeg) 13 < 5 then g (100 + 3 * x.toNatClampNeg) 13 else 5))) 0 14 (g 0 14 - g (100 + 3 * x.toNatClampNeg) 13)) 40 0 (g (100 + 3 * x.toNatClampNeg) 13 - (if g (100 + 3 * x.toNatClampNeg) 13 < 5 then g (100 + 3 * x.toNatClampNeg) 13 else 5)) else g)) kNo 12 100 := by
  refine kx_methH (cc := cL_payOut) (maxL := 5) (ret := (some .int)) (hh := [(0, 10, 13, 13), (0, 10, 17, 28)]) (by decide) rfl (Nat.le_of_ble_eq_true rfl) ?_
  intro p e s m args below meth c ls hx hb hr hml hown hts hlk hT hG hl Q H locs hQ hw hS
  have hl : lv_has ls 5 [(0, .ref (ad 0)), (1, .int x), (2, .int y), (3, .ref (ad 40))] := hl
  have hown : s.vm.findClass RL = some m.cls := hown
  have hF : CallFix p m c cL_payOut 5 s args wsL_payOut RL := ⟨hx, hb, hml, hown, hts⟩
  refine lv_aload_n hx hb dL_payOut_0 rfl (lv_at hl 3 rfl) ?_
  refine lv_iconst (v := 0) hx hb dL_payOut_1 (by decide) ?_
  refine lv_aload_n hx hb dL_payOut_2 rfl (lv_at hl 0 rfl) ?_
  refine lv_iload_n hx hb dL_payOut_3 rfl (lv_at hl 1 rfl) ?_
  refine lv_iload_n hx hb dL_payOut_4 rfl (lv_at hl 2 rfl) ?_
  refine kx_do (st1 := [.int (g (100 + 3 * x.toNatClampNeg) 13 - (if g (100 + 3 * x.toNatClampNeg) 13 < 5 then g (100 + 3 * x.toNatClampNeg) 13 else 5)), .int 0, .ref (ad 40)]) (kx_cv (As := [.int x, .int y]) (rest := [.int 0, .ref (ad 40)]) hF hG hw hS hl.1 kC_0 rfl (c_X2_payOut l hfl D cy base ad n nc g x y hfr hcr hR) gL_payOut_X2_payOut rfl rfl rfl hd_X2_payOut ⟨Nat.le_of_ble_eq_true rfl, Nat.le_of_ble_eq_true rfl⟩ rfl rfl (Nat.le_of_ble_eq_true rfl) dL_payOut_5 ⟨Nat.le_of_ble_eq_true rfl, Nat.le_of_ble_eq_true rfl⟩) hS rfl (fun E9 ce9 q9 H1 locs1 hX9 hw1 hS1 hc9 hv9 hcl9 => ?_) (fun hok H locs hw hS => ?_)
  · rcases ex_2e13 hX9 with ⟨rfl, hk⟩ | ⟨rfl, hk⟩
    · refine kx_cat0 hown hG hT ⟨by decide, by decide⟩ (by decide) mIO (hts (.classLink RL 13 "java/lang/IndexOutOfBoundsException") (by decide +kernel)) hc9 hv9 hcl9 ?_
      refine lv_astore (lv' := [(4, .ref q9), (0, .ref (ad 0)), (1, .int x), (2, .int y), (3, .ref (ad 40))]) hx hb dL_payOut_13 hl (by decide) rfl (fun ls hl => ?_)
      refine lv_iconst (v := 1) hx hb dL_payOut_15 (by decide) ?_
      exact kx_retI hQ hx hb hr hlk hw1 hS1 (Nat.le_of_ble_eq_true rfl) (Nat.le_of_ble_eq_true rfl) dL_payOut_16 ⟨by rw [hk], by rw [if_neg (by rw [hk]; decide)]⟩
    · refine kx_cat1 hown hG hT ⟨by decide, by decide⟩ (by decide) mIS (hts (.classLink RL 28 "java/lang/IllegalStateException") (by decide +kernel)) mIO nSO (by decide) (hts (.classLink RL 13 "java/lang/IndexOutOfBoundsException") (by decide +kernel)) hc9 hv9 hcl9 ?_
      refine lv_astore (lv' := [(4, .ref q9), (0, .ref (ad 0)), (1, .int x), (2, .int y), (3, .ref (ad 40))]) hx hb dL_payOut_17 hl (by decide) rfl (fun ls hl => ?_)
      refine lv_iconst (v := 2) hx hb dL_payOut_19 (by decide) ?_
      exact kx_retI hQ hx hb hr hlk hw1 hS1 (Nat.le_of_ble_eq_true rfl) (Nat.le_of_ble_eq_true rfl) dL_payOut_20 ⟨by rw [hk], by rw [if_neg (by rw [hk]; decide)]⟩
  · refine lv_i2l (v := (g (100 + 3 * x.toNatClampNeg) 13 - (if g (100 + 3 * x.toNatClampNeg) 13 < 5 then g (100 + 3 * x.toNatClampNeg) 13 else 5)).toInt64) hx hb dL_payOut_8 rfl ?_
    refine kx_last (v0 := g (100 + 3 * x.toNatClampNeg) 13 - (if g (100 + 3 * x.toNatClampNeg) 13 < 5 then g (100 + 3 * x.toNatClampNeg) 13 else 5)) hx hb hG hw hS rfl dL_payOut_9 (fun H locs hw hS => ?_)
    refine lv_goto (tgt := 21) hx hb dL_payOut_10 (by decide) ?_
    refine lv_iconst (v := 0) hx hb dL_payOut_21 (by decide) ?_
    exact kx_retI hQ hx hb hr hlk hw hS (Nat.le_of_ble_eq_true rfl) (Nat.le_of_ble_eq_true rfl) dL_payOut_22 ⟨by rw [hok], by rw [if_pos hok]⟩
theorem hd_L_pass : yL_pass.cls ≠ "java/lang/invoke/MethodHandle" ∧ yL_pass.cls ≠ "java/lang/invoke/VarHandle" ∧ (parseMethodDescriptor yL_pass.desc).map (fun d => d.parameters.length) = some 3 := by decide +kernel
set_option maxHeartbeats 4000000 in
set_option maxRecDepth 100000 in
theorem c_L_pass (l : Launch) (hfl : l.stackTraces = false) (D : va_G) (cy : Nat → ClassId) (base : Nat) (ad : Nat → Nat) (n nc : Nat) (g : sg) (many : Int32) (hfr : ∀ j, j < 30 → g 6 j = if j < n then 1 else 0) (hcr : ∀ j, j < 20 → g 7 j = if j < nc then 1 else 0) (hh : ∀ i, i < n → ∃ h : Nat, h ≤ 12 ∧ g (100 + 3 * i) 7 = nI h) : kM l yL_pass wsL_pass (kR 9 12 100) D cy base ad n nc g [.ref (ad 0), .int many, .ref (ad 40)] (fun v u => v = some (.int (kd2 (inn many 1 400) (decide (g 0 10 + many ≤ 9999)))) ∧ u = (ad, n, nc, if kd2 (inn many 1 400) (decide (g 0 10 + many ≤ 9999)) = 0 then sU (cDays g n nc many.toNatClampNeg) 40 0 (cDays g n nc many.toNatClampNeg 0 10) else g)) kNo 12 100 := by
  refine kx_methH (cc := cL_pass) (maxL := 4) (ret := (some .int)) (hh := [(0, 9, 12, 15), (0, 9, 15, 28)]) (by decide) rfl (Nat.le_of_ble_eq_true rfl) ?_
  intro p e s m args below meth c ls hx hb hr hml hown hts hlk hT hG hl Q H locs hQ hw hS
  have hl : lv_has ls 4 [(0, .ref (ad 0)), (1, .int many), (2, .ref (ad 40))] := hl
  have hown : s.vm.findClass RL = some m.cls := hown
  have hF : CallFix p m c cL_pass 4 s args wsL_pass RL := ⟨hx, hb, hml, hown, hts⟩
  refine lv_aload_n hx hb dL_pass_0 rfl (lv_at hl 2 rfl) ?_
  refine lv_iconst (v := 0) hx hb dL_pass_1 (by decide) ?_
  refine lv_aload_n hx hb dL_pass_2 rfl (lv_at hl 0 rfl) ?_
  refine lv_iload_n hx hb dL_pass_3 rfl (lv_at hl 1 rfl) ?_
  refine kx_do (st1 := [.int (cDays g n nc many.toNatClampNeg 0 10), .int 0, .ref (ad 40)]) (kx_cv (As := [.int many]) (rest := [.int 0, .ref (ad 40)]) hF hG hw hS hl.1 kC_0 rfl (c_X2_pass l hfl D cy base ad n nc g many hfr hcr hh) gL_pass_X2_pass rfl rfl rfl hd_X2_pass ⟨Nat.le_of_ble_eq_true rfl, Nat.le_of_ble_eq_true rfl⟩ rfl rfl (Nat.le_of_ble_eq_true rfl) dL_pass_4 ⟨Nat.le_of_ble_eq_true rfl, Nat.le_of_ble_eq_true rfl⟩) hS rfl (fun E9 ce9 q9 H1 locs1 hX9 hw1 hS1 hc9 hv9 hcl9 => ?_) (fun hok H locs hw hS => ?_)
  · rcases ex_2e23 hX9 with ⟨rfl, hk⟩ | ⟨rfl, hk⟩
    · refine kx_cat0 hown hG hT ⟨by decide, by decide⟩ (by decide) mIA (hts (.classLink RL 15 "java/lang/IllegalArgumentException") (by decide +kernel)) hc9 hv9 hcl9 ?_
      refine lv_astore_n (lv' := [(3, .ref q9), (0, .ref (ad 0)), (1, .int many), (2, .ref (ad 40))]) hx hb dL_pass_12 rfl hl (by decide) rfl (fun ls hl => ?_)
      refine lv_iconst (v := 1) hx hb dL_pass_13 (by decide) ?_
      exact kx_retI hQ hx hb hr hlk hw1 hS1 (Nat.le_of_ble_eq_true rfl) (Nat.le_of_ble_eq_true rfl) dL_pass_14 ⟨by rw [hk], by rw [if_neg (by rw [hk]; decide)]⟩
    · refine kx_cat1 hown hG hT ⟨by decide, by decide⟩ (by decide) mIS (hts (.classLink RL 28 "java/lang/IllegalStateException") (by decide +kernel)) mIA nSA (by decide) (hts (.classLink RL 15 "java/lang/IllegalArgumentException") (by decide +kernel)) hc9 hv9 hcl9 ?_
      refine lv_astore_n (lv' := [(3, .ref q9), (0, .ref (ad 0)), (1, .int many), (2, .ref (ad 40))]) hx hb dL_pass_15 rfl hl (by decide) rfl (fun ls hl => ?_)
      refine lv_iconst (v := 2) hx hb dL_pass_16 (by decide) ?_
      exact kx_retI hQ hx hb hr hlk hw1 hS1 (Nat.le_of_ble_eq_true rfl) (Nat.le_of_ble_eq_true rfl) dL_pass_17 ⟨by rw [hk], by rw [if_neg (by rw [hk]; decide)]⟩
  · refine lv_i2l (v := (cDays g n nc many.toNatClampNeg 0 10).toInt64) hx hb dL_pass_7 rfl ?_
    refine kx_last (v0 := cDays g n nc many.toNatClampNeg 0 10) hx hb hG hw hS rfl dL_pass_8 (fun H locs hw hS => ?_)
    refine lv_goto (tgt := 18) hx hb dL_pass_9 (by decide) ?_
    refine lv_iconst (v := 0) hx hb dL_pass_18 (by decide) ?_
    exact kx_retI hQ hx hb hr hlk hw hS (Nat.le_of_ble_eq_true rfl) (Nat.le_of_ble_eq_true rfl) dL_pass_19 ⟨by rw [hok], by rw [if_pos hok]⟩
theorem hd_L_fit : yL_fit.cls ≠ "java/lang/invoke/MethodHandle" ∧ yL_fit.cls ≠ "java/lang/invoke/VarHandle" ∧ (parseMethodDescriptor yL_fit.desc).map (fun d => d.parameters.length) = some 4 := by decide +kernel
set_option maxHeartbeats 4000000 in
set_option maxRecDepth 100000 in
theorem c_L_fit (l : Launch) (hfl : l.stackTraces = false) (D : va_G) (cy : Nat → ClassId) (base : Nat) (ad : Nat → Nat) (n nc : Nat) (g : sg) (x : Int32) (y : Int32) (hfr : ∀ j, j < 30 → g 6 j = if j < n then 1 else 0) (hcr : ∀ j, j < 20 → g 7 j = if j < nc then 1 else 0) (hR : cR n nc g) : kM l yL_fit wsL_fit (kR 9 12 100) D cy base ad n nc g [.ref (ad 0), .int x, .int y, .ref (ad 40)] (fun v u => v = some (.int (kd1 (isF n x && isF nc y))) ∧ u = (ad, n, nc, if kd1 (isF n x && isF nc y) = 0 then sU g 40 0 (cSc g x.toNatClampNeg y.toNatClampNeg) else g)) kNo 12 100 := by
  refine kx_methH (cc := cL_fit) (maxL := 5) (ret := (some .int)) (hh := [(0, 10, 13, 13)]) (by decide) rfl (Nat.le_of_ble_eq_true rfl) ?_
  intro p e s m args below meth c ls hx hb hr hml hown hts hlk hT hG hl Q H locs hQ hw hS
  have hl : lv_has ls 5 [(0, .ref (ad 0)), (1, .int x), (2, .int y), (3, .ref (ad 40))] := hl
  have hown : s.vm.findClass RL = some m.cls := hown
  have hF : CallFix p m c cL_fit 5 s args wsL_fit RL := ⟨hx, hb, hml, hown, hts⟩
  refine lv_aload_n hx hb dL_fit_0 rfl (lv_at hl 3 rfl) ?_
  refine lv_iconst (v := 0) hx hb dL_fit_1 (by decide) ?_
  refine lv_aload_n hx hb dL_fit_2 rfl (lv_at hl 0 rfl) ?_
  refine lv_iload_n hx hb dL_fit_3 rfl (lv_at hl 1 rfl) ?_
  refine lv_iload_n hx hb dL_fit_4 rfl (lv_at hl 2 rfl) ?_
  refine kx_do (st1 := [.int (cSc g x.toNatClampNeg y.toNatClampNeg), .int 0, .ref (ad 40)]) (kx_cv (As := [.int x, .int y]) (rest := [.int 0, .ref (ad 40)]) hF hG hw hS hl.1 kC_0 rfl (c_X2_fit l hfl D cy base ad n nc g x y hfr hcr hR) gL_fit_X2_fit rfl rfl rfl hd_X2_fit ⟨Nat.le_of_ble_eq_true rfl, Nat.le_of_ble_eq_true rfl⟩ rfl rfl (Nat.le_of_ble_eq_true rfl) dL_fit_5 ⟨Nat.le_of_ble_eq_true rfl, Nat.le_of_ble_eq_true rfl⟩) hS rfl (fun E9 ce9 q9 H1 locs1 hX9 hw1 hS1 hc9 hv9 hcl9 => ?_) (fun hok H locs hw hS => ?_)
  · obtain ⟨rfl, hk⟩ := ex_1 hX9
    refine kx_cat0 hown hG hT ⟨by decide, by decide⟩ (by decide) mIO (hts (.classLink RL 13 "java/lang/IndexOutOfBoundsException") (by decide +kernel)) hc9 hv9 hcl9 ?_
    refine lv_astore (lv' := [(4, .ref q9), (0, .ref (ad 0)), (1, .int x), (2, .int y), (3, .ref (ad 40))]) hx hb dL_fit_13 hl (by decide) rfl (fun ls hl => ?_)
    refine lv_iconst (v := 1) hx hb dL_fit_15 (by decide) ?_
    exact kx_retI hQ hx hb hr hlk hw1 hS1 (Nat.le_of_ble_eq_true rfl) (Nat.le_of_ble_eq_true rfl) dL_fit_16 ⟨by rw [hk], by rw [if_neg (by rw [hk]; decide)]⟩
  · refine lv_i2l (v := (cSc g x.toNatClampNeg y.toNatClampNeg).toInt64) hx hb dL_fit_8 rfl ?_
    refine kx_last (v0 := cSc g x.toNatClampNeg y.toNatClampNeg) hx hb hG hw hS rfl dL_fit_9 (fun H locs hw hS => ?_)
    refine lv_goto (tgt := 17) hx hb dL_fit_10 (by decide) ?_
    refine lv_iconst (v := 0) hx hb dL_fit_17 (by decide) ?_
    exact kx_retI hQ hx hb hr hlk hw hS (Nat.le_of_ble_eq_true rfl) (Nat.le_of_ble_eq_true rfl) dL_fit_18 ⟨by rw [hok], by rw [if_pos hok]⟩
theorem hd_L_candidate : yL_candidate.cls ≠ "java/lang/invoke/MethodHandle" ∧ yL_candidate.cls ≠ "java/lang/invoke/VarHandle" ∧ (parseMethodDescriptor yL_candidate.desc).map (fun d => d.parameters.length) = some 4 := by decide +kernel
set_option maxHeartbeats 4000000 in
set_option maxRecDepth 100000 in
theorem c_L_candidate (l : Launch) (hfl : l.stackTraces = false) (D : va_G) (cy : Nat → ClassId) (base : Nat) (ad : Nat → Nat) (n nc : Nat) (g : sg) (x : Int32) (place : Int32) (hfr : ∀ j, j < 30 → g 6 j = if j < n then 1 else 0) (hcr : ∀ j, j < 20 → g 7 j = if j < nc then 1 else 0) (hR : cR n nc g) : kM l yL_candidate wsL_candidate (kR 9 12 100) D cy base ad n nc g [.ref (ad 0), .int x, .int place, .ref (ad 40)] (fun v u => v = some (.int (kd1 (isF nc x && !decide (place < 0)))) ∧ u = (ad, n, nc, if kd1 (isF nc x && !decide (place < 0)) = 0 then sU (cNS g n x.toNatClampNeg 30) 40 0 (fstI (cdB (cNS g n x.toNatClampNeg 30) place) 30) else g)) kNo 12 100 := by
  refine kx_methH (cc := cL_candidate) (maxL := 5) (ret := (some .int)) (hh := [(0, 10, 13, 13)]) (by decide) rfl (Nat.le_of_ble_eq_true rfl) ?_
  intro p e s m args below meth c ls hx hb hr hml hown hts hlk hT hG hl Q H locs hQ hw hS
  have hl : lv_has ls 5 [(0, .ref (ad 0)), (1, .int x), (2, .int place), (3, .ref (ad 40))] := hl
  have hown : s.vm.findClass RL = some m.cls := hown
  have hF : CallFix p m c cL_candidate 5 s args wsL_candidate RL := ⟨hx, hb, hml, hown, hts⟩
  refine lv_aload_n hx hb dL_candidate_0 rfl (lv_at hl 3 rfl) ?_
  refine lv_iconst (v := 0) hx hb dL_candidate_1 (by decide) ?_
  refine lv_aload_n hx hb dL_candidate_2 rfl (lv_at hl 0 rfl) ?_
  refine lv_iload_n hx hb dL_candidate_3 rfl (lv_at hl 1 rfl) ?_
  refine lv_iload_n hx hb dL_candidate_4 rfl (lv_at hl 2 rfl) ?_
  refine kx_do (st1 := [.int (fstI (cdB (cNS g n x.toNatClampNeg 30) place) 30), .int 0, .ref (ad 40)]) (kx_cv (As := [.int x, .int place]) (rest := [.int 0, .ref (ad 40)]) hF hG hw hS hl.1 kC_0 rfl (c_X2_candidate l hfl D cy base ad n nc g x place hfr hcr hR) gL_candidate_X2_candidate rfl rfl rfl hd_X2_candidate ⟨Nat.le_of_ble_eq_true rfl, Nat.le_of_ble_eq_true rfl⟩ rfl rfl (Nat.le_of_ble_eq_true rfl) dL_candidate_5 ⟨Nat.le_of_ble_eq_true rfl, Nat.le_of_ble_eq_true rfl⟩) hS rfl (fun E9 ce9 q9 H1 locs1 hX9 hw1 hS1 hc9 hv9 hcl9 => ?_) (fun hok H locs hw hS => ?_)
  · obtain ⟨rfl, hk⟩ := ex_1 hX9
    refine kx_cat0 hown hG hT ⟨by decide, by decide⟩ (by decide) mIO (hts (.classLink RL 13 "java/lang/IndexOutOfBoundsException") (by decide +kernel)) hc9 hv9 hcl9 ?_
    refine lv_astore (lv' := [(4, .ref q9), (0, .ref (ad 0)), (1, .int x), (2, .int place), (3, .ref (ad 40))]) hx hb dL_candidate_13 hl (by decide) rfl (fun ls hl => ?_)
    refine lv_iconst (v := 1) hx hb dL_candidate_15 (by decide) ?_
    exact kx_retI hQ hx hb hr hlk hw1 hS1 (Nat.le_of_ble_eq_true rfl) (Nat.le_of_ble_eq_true rfl) dL_candidate_16 ⟨by rw [hk], by rw [if_neg (by rw [hk]; decide)]⟩
  · refine lv_i2l (v := (fstI (cdB (cNS g n x.toNatClampNeg 30) place) 30).toInt64) hx hb dL_candidate_8 rfl ?_
    refine kx_last (v0 := fstI (cdB (cNS g n x.toNatClampNeg 30) place) 30) hx hb hG hw hS rfl dL_candidate_9 (fun H locs hw hS => ?_)
    refine lv_goto (tgt := 17) hx hb dL_candidate_10 (by decide) ?_
    refine lv_iconst (v := 0) hx hb dL_candidate_17 (by decide) ?_
    exact kx_retI hQ hx hb hr hlk hw hS (Nat.le_of_ble_eq_true rfl) (Nat.le_of_ble_eq_true rfl) dL_candidate_18 ⟨by rw [hok], by rw [if_pos hok]⟩
theorem hd_L_question : yL_question.cls ≠ "java/lang/invoke/MethodHandle" ∧ yL_question.cls ≠ "java/lang/invoke/VarHandle" ∧ (parseMethodDescriptor yL_question.desc).map (fun d => d.parameters.length) = some 3 := by decide +kernel
set_option maxHeartbeats 4000000 in
set_option maxRecDepth 100000 in
theorem c_L_question (l : Launch) (hfl : l.stackTraces = false) (D : va_G) (cy : Nat → ClassId) (base : Nat) (ad : Nat → Nat) (n nc : Nat) (g : sg) (x : Int32) (hfr : ∀ j, j < 30 → g 6 j = if j < n then 1 else 0) (hcr : ∀ j, j < 20 → g 7 j = if j < nc then 1 else 0) (hR : cR n nc g) : kM l yL_question wsL_question (kR 9 12 100) D cy base ad n nc g [.ref (ad 0), .int x, .ref (ad 40)] (fun v u => v = some (.int (kd1 (isF nc x))) ∧ u = (ad, n, nc, if kd1 (isF nc x) = 0 then sU (cNS g n x.toNatClampNeg 30) 40 0 ((cQ (cNS g n x.toNatClampNeg 30) n (g (200 + x.toNatClampNeg) 5) (cntB (askN g n x.toNatClampNeg) 30) 24).1) else g)) kNo 12 100 := by
  refine kx_methH (cc := cL_question) (maxL := 4) (ret := (some .int)) (hh := [(0, 9, 12, 13)]) (by decide) rfl (Nat.le_of_ble_eq_true rfl) ?_
  intro p e s m args below meth c ls hx hb hr hml hown hts hlk hT hG hl Q H locs hQ hw hS
  have hl : lv_has ls 4 [(0, .ref (ad 0)), (1, .int x), (2, .ref (ad 40))] := hl
  have hown : s.vm.findClass RL = some m.cls := hown
  have hF : CallFix p m c cL_question 4 s args wsL_question RL := ⟨hx, hb, hml, hown, hts⟩
  refine lv_aload_n hx hb dL_question_0 rfl (lv_at hl 2 rfl) ?_
  refine lv_iconst (v := 0) hx hb dL_question_1 (by decide) ?_
  refine lv_aload_n hx hb dL_question_2 rfl (lv_at hl 0 rfl) ?_
  refine lv_iload_n hx hb dL_question_3 rfl (lv_at hl 1 rfl) ?_
  refine kx_do (st1 := [.int ((cQ (cNS g n x.toNatClampNeg 30) n (g (200 + x.toNatClampNeg) 5) (cntB (askN g n x.toNatClampNeg) 30) 24).1), .int 0, .ref (ad 40)]) (kx_cv (As := [.int x]) (rest := [.int 0, .ref (ad 40)]) hF hG hw hS hl.1 kC_0 rfl (c_X2_question l hfl D cy base ad n nc g x hfr hcr hR) gL_question_X2_question rfl rfl rfl hd_X2_question ⟨Nat.le_of_ble_eq_true rfl, Nat.le_of_ble_eq_true rfl⟩ rfl rfl (Nat.le_of_ble_eq_true rfl) dL_question_4 ⟨Nat.le_of_ble_eq_true rfl, Nat.le_of_ble_eq_true rfl⟩) hS rfl (fun E9 ce9 q9 H1 locs1 hX9 hw1 hS1 hc9 hv9 hcl9 => ?_) (fun hok H locs hw hS => ?_)
  · obtain ⟨rfl, hk⟩ := ex_1 hX9
    refine kx_cat0 hown hG hT ⟨by decide, by decide⟩ (by decide) mIO (hts (.classLink RL 13 "java/lang/IndexOutOfBoundsException") (by decide +kernel)) hc9 hv9 hcl9 ?_
    refine lv_astore_n (lv' := [(3, .ref q9), (0, .ref (ad 0)), (1, .int x), (2, .ref (ad 40))]) hx hb dL_question_12 rfl hl (by decide) rfl (fun ls hl => ?_)
    refine lv_iconst (v := 1) hx hb dL_question_13 (by decide) ?_
    exact kx_retI hQ hx hb hr hlk hw1 hS1 (Nat.le_of_ble_eq_true rfl) (Nat.le_of_ble_eq_true rfl) dL_question_14 ⟨by rw [hk], by rw [if_neg (by rw [hk]; decide)]⟩
  · refine lv_i2l (v := ((cQ (cNS g n x.toNatClampNeg 30) n (g (200 + x.toNatClampNeg) 5) (cntB (askN g n x.toNatClampNeg) 30) 24).1).toInt64) hx hb dL_question_7 rfl ?_
    refine kx_last (v0 := (cQ (cNS g n x.toNatClampNeg 30) n (g (200 + x.toNatClampNeg) 5) (cntB (askN g n x.toNatClampNeg) 30) 24).1) hx hb hG hw hS rfl dL_question_8 (fun H locs hw hS => ?_)
    refine lv_goto (tgt := 15) hx hb dL_question_9 (by decide) ?_
    refine lv_iconst (v := 0) hx hb dL_question_15 (by decide) ?_
    exact kx_retI hQ hx hb hr hlk hw hS (Nat.le_of_ble_eq_true rfl) (Nat.le_of_ble_eq_true rfl) dL_question_16 ⟨by rw [hok], by rw [if_pos hok]⟩
theorem hd_L_isProven : yL_isProven.cls ≠ "java/lang/invoke/MethodHandle" ∧ yL_isProven.cls ≠ "java/lang/invoke/VarHandle" ∧ (parseMethodDescriptor yL_isProven.desc).map (fun d => d.parameters.length) = some 4 := by decide +kernel
set_option maxHeartbeats 4000000 in
set_option maxRecDepth 100000 in
theorem c_L_isProven (l : Launch) (hfl : l.stackTraces = false) (D : va_G) (cy : Nat → ClassId) (base : Nat) (ad : Nat → Nat) (n nc : Nat) (g : sg) (x : Int32) (y : Int32) (hfr : ∀ j, j < 30 → g 6 j = if j < n then 1 else 0) (hcr : ∀ j, j < 20 → g 7 j = if j < nc then 1 else 0) (hR : cR n nc g) : kM l yL_isProven wsL_isProven (kR 9 12 100) D cy base ad n nc g [.ref (ad 0), .int x, .int y, .ref (ad 40)] (fun v u => v = some (.int (kd1 (isF n x && isF nc y))) ∧ u = (ad, n, nc, if kd1 (isF n x && isF nc y) = 0 then sU g 40 0 (b2 (cPrv g x.toNatClampNeg y.toNatClampNeg)) else g)) kNo 12 100 := by
  refine kx_methH (cc := cL_isProven) (maxL := 5) (ret := (some .int)) (hh := [(0, 17, 20, 13)]) (by decide) rfl (Nat.le_of_ble_eq_true rfl) ?_
  intro p e s m args below meth c ls hx hb hr hml hown hts hlk hT hG hl Q H locs hQ hw hS
  have hl : lv_has ls 5 [(0, .ref (ad 0)), (1, .int x), (2, .int y), (3, .ref (ad 40))] := hl
  have hown : s.vm.findClass RL = some m.cls := hown
  have hF : CallFix p m c cL_isProven 5 s args wsL_isProven RL := ⟨hx, hb, hml, hown, hts⟩
  refine lv_aload_n hx hb dL_isProven_0 rfl (lv_at hl 3 rfl) ?_
  refine lv_iconst (v := 0) hx hb dL_isProven_1 (by decide) ?_
  refine lv_aload_n hx hb dL_isProven_2 rfl (lv_at hl 0 rfl) ?_
  refine lv_iload_n hx hb dL_isProven_3 rfl (lv_at hl 1 rfl) ?_
  refine lv_iload_n hx hb dL_isProven_4 rfl (lv_at hl 2 rfl) ?_
  refine kx_do (st1 := [.int (b2 (cPrv g x.toNatClampNeg y.toNatClampNeg)), .int 0, .ref (ad 40)]) (kx_cv (As := [.int x, .int y]) (rest := [.int 0, .ref (ad 40)]) hF hG hw hS hl.1 kC_0 rfl (c_X2_isProven l hfl D cy base ad n nc g x y hfr hcr hR) gL_isProven_X2_isProven rfl rfl rfl hd_X2_isProven ⟨Nat.le_of_ble_eq_true rfl, Nat.le_of_ble_eq_true rfl⟩ rfl rfl (Nat.le_of_ble_eq_true rfl) dL_isProven_5 ⟨Nat.le_of_ble_eq_true rfl, Nat.le_of_ble_eq_true rfl⟩) hS rfl (fun E9 ce9 q9 H1 locs1 hX9 hw1 hS1 hc9 hv9 hcl9 => ?_) (fun hok H locs hw hS => ?_)
  · obtain ⟨rfl, hk⟩ := ex_1 hX9
    refine kx_cat0 hown hG hT ⟨by decide, by decide⟩ (by decide) mIO (hts (.classLink RL 13 "java/lang/IndexOutOfBoundsException") (by decide +kernel)) hc9 hv9 hcl9 ?_
    refine lv_astore (lv' := [(4, .ref q9), (0, .ref (ad 0)), (1, .int x), (2, .int y), (3, .ref (ad 40))]) hx hb dL_isProven_20 hl (by decide) rfl (fun ls hl => ?_)
    refine lv_iconst (v := 1) hx hb dL_isProven_22 (by decide) ?_
    exact kx_retI hQ hx hb hr hlk hw1 hS1 (Nat.le_of_ble_eq_true rfl) (Nat.le_of_ble_eq_true rfl) dL_isProven_23 ⟨by rw [hk], by rw [if_neg (by rw [hk]; decide)]⟩
  · refine kx_nzB hx hb dL_isProven_8 dL_isProven_11 dL_isProven_12 dL_isProven_15 ?_
    refine kx_last (v0 := b2 (cPrv g x.toNatClampNeg y.toNatClampNeg)) hx hb hG hw hS rfl dL_isProven_16 (fun H locs hw hS => ?_)
    refine lv_goto (tgt := 24) hx hb dL_isProven_17 (by decide) ?_
    refine lv_iconst (v := 0) hx hb dL_isProven_24 (by decide) ?_
    exact kx_retI hQ hx hb hr hlk hw hS (Nat.le_of_ble_eq_true rfl) (Nat.le_of_ble_eq_true rfl) dL_isProven_25 ⟨by rw [hok], by rw [if_pos hok]⟩
theorem hd_L_isDue : yL_isDue.cls ≠ "java/lang/invoke/MethodHandle" ∧ yL_isDue.cls ≠ "java/lang/invoke/VarHandle" ∧ (parseMethodDescriptor yL_isDue.desc).map (fun d => d.parameters.length) = some 3 := by decide +kernel
set_option maxHeartbeats 4000000 in
set_option maxRecDepth 100000 in
theorem c_L_isDue (l : Launch) (hfl : l.stackTraces = false) (D : va_G) (cy : Nat → ClassId) (base : Nat) (ad : Nat → Nat) (n nc : Nat) (g : sg) (x : Int32) (hfr : ∀ j, j < 30 → g 6 j = if j < n then 1 else 0) (hcr : ∀ j, j < 20 → g 7 j = if j < nc then 1 else 0) (hR : cR n nc g) : kM l yL_isDue wsL_isDue (kR 9 12 100) D cy base ad n nc g [.ref (ad 0), .int x, .ref (ad 40)] (fun v u => v = some (.int (kd1 (isF n x))) ∧ u = (ad, n, nc, if kd1 (isF n x) = 0 then sU g 40 0 (b2 (cOver g nc x.toNatClampNeg)) else g)) kNo 12 100 := by
  refine kx_methH (cc := cL_isDue) (maxL := 4) (ret := (some .int)) (hh := [(0, 16, 19, 13)]) (by decide) rfl (Nat.le_of_ble_eq_true rfl) ?_
  intro p e s m args below meth c ls hx hb hr hml hown hts hlk hT hG hl Q H locs hQ hw hS
  have hl : lv_has ls 4 [(0, .ref (ad 0)), (1, .int x), (2, .ref (ad 40))] := hl
  have hown : s.vm.findClass RL = some m.cls := hown
  have hF : CallFix p m c cL_isDue 4 s args wsL_isDue RL := ⟨hx, hb, hml, hown, hts⟩
  refine lv_aload_n hx hb dL_isDue_0 rfl (lv_at hl 2 rfl) ?_
  refine lv_iconst (v := 0) hx hb dL_isDue_1 (by decide) ?_
  refine lv_aload_n hx hb dL_isDue_2 rfl (lv_at hl 0 rfl) ?_
  refine lv_iload_n hx hb dL_isDue_3 rfl (lv_at hl 1 rfl) ?_
  refine kx_do (st1 := [.int (b2 (cOver g nc x.toNatClampNeg)), .int 0, .ref (ad 40)]) (kx_cv (As := [.int x]) (rest := [.int 0, .ref (ad 40)]) hF hG hw hS hl.1 kC_0 rfl (c_X2_isDue l hfl D cy base ad n nc g x hfr hcr hR) gL_isDue_X2_isDue rfl rfl rfl hd_X2_isDue ⟨Nat.le_of_ble_eq_true rfl, Nat.le_of_ble_eq_true rfl⟩ rfl rfl (Nat.le_of_ble_eq_true rfl) dL_isDue_4 ⟨Nat.le_of_ble_eq_true rfl, Nat.le_of_ble_eq_true rfl⟩) hS rfl (fun E9 ce9 q9 H1 locs1 hX9 hw1 hS1 hc9 hv9 hcl9 => ?_) (fun hok H locs hw hS => ?_)
  · obtain ⟨rfl, hk⟩ := ex_1 hX9
    refine kx_cat0 hown hG hT ⟨by decide, by decide⟩ (by decide) mIO (hts (.classLink RL 13 "java/lang/IndexOutOfBoundsException") (by decide +kernel)) hc9 hv9 hcl9 ?_
    refine lv_astore_n (lv' := [(3, .ref q9), (0, .ref (ad 0)), (1, .int x), (2, .ref (ad 40))]) hx hb dL_isDue_19 rfl hl (by decide) rfl (fun ls hl => ?_)
    refine lv_iconst (v := 1) hx hb dL_isDue_20 (by decide) ?_
    exact kx_retI hQ hx hb hr hlk hw1 hS1 (Nat.le_of_ble_eq_true rfl) (Nat.le_of_ble_eq_true rfl) dL_isDue_21 ⟨by rw [hk], by rw [if_neg (by rw [hk]; decide)]⟩
  · refine kx_nzB hx hb dL_isDue_7 dL_isDue_10 dL_isDue_11 dL_isDue_14 ?_
    refine kx_last (v0 := b2 (cOver g nc x.toNatClampNeg)) hx hb hG hw hS rfl dL_isDue_15 (fun H locs hw hS => ?_)
    refine lv_goto (tgt := 22) hx hb dL_isDue_16 (by decide) ?_
    refine lv_iconst (v := 0) hx hb dL_isDue_22 (by decide) ?_
    exact kx_retI hQ hx hb hr hlk hw hS (Nat.le_of_ble_eq_true rfl) (Nat.le_of_ble_eq_true rfl) dL_isDue_23 ⟨by rw [hok], by rw [if_pos hok]⟩
theorem hd_L_ofFind : yL_ofFind.cls ≠ "java/lang/invoke/MethodHandle" ∧ yL_ofFind.cls ≠ "java/lang/invoke/VarHandle" ∧ (parseMethodDescriptor yL_ofFind.desc).map (fun d => d.parameters.length) = some 4 := by decide +kernel
set_option maxHeartbeats 4000000 in
set_option maxRecDepth 100000 in
theorem c_L_ofFind (l : Launch) (hfl : l.stackTraces = false) (D : va_G) (cy : Nat → ClassId) (base : Nat) (ad : Nat → Nat) (n nc : Nat) (g : sg) (x : Int32) (what : Int32) (hfr : ∀ j, j < 30 → g 6 j = if j < n then 1 else 0) : kM l yL_ofFind wsL_ofFind (kR 9 12 100) D cy base ad n nc g [.ref (ad 0), .int x, .int what, .ref (ad 40)] (fun v u => v = some (.int (kd2 (isF n x) (inn what 0 4))) ∧ u = (ad, n, nc, if kd2 (isF n x) (inn what 0 4) = 0 then sU g 40 0 (if what = nI 0 then g (100 + 3 * x.toNatClampNeg) 9 else if what = nI 1 then g (100 + 3 * x.toNatClampNeg) 10 else if what = nI 2 then g (100 + 3 * x.toNatClampNeg) 11 else if what = nI 3 then g (100 + 3 * x.toNatClampNeg) 8 else g (100 + 3 * x.toNatClampNeg) 7) else g)) kNo 12 100 := by
  refine kx_methH (cc := cL_ofFind) (maxL := 5) (ret := (some .int)) (hh := [(0, 10, 13, 13), (0, 10, 17, 15)]) (by decide) rfl (Nat.le_of_ble_eq_true rfl) ?_
  intro p e s m args below meth c ls hx hb hr hml hown hts hlk hT hG hl Q H locs hQ hw hS
  have hl : lv_has ls 5 [(0, .ref (ad 0)), (1, .int x), (2, .int what), (3, .ref (ad 40))] := hl
  have hown : s.vm.findClass RL = some m.cls := hown
  have hF : CallFix p m c cL_ofFind 5 s args wsL_ofFind RL := ⟨hx, hb, hml, hown, hts⟩
  refine lv_aload_n hx hb dL_ofFind_0 rfl (lv_at hl 3 rfl) ?_
  refine lv_iconst (v := 0) hx hb dL_ofFind_1 (by decide) ?_
  refine lv_aload_n hx hb dL_ofFind_2 rfl (lv_at hl 0 rfl) ?_
  refine lv_iload_n hx hb dL_ofFind_3 rfl (lv_at hl 1 rfl) ?_
  refine lv_iload_n hx hb dL_ofFind_4 rfl (lv_at hl 2 rfl) ?_
  refine kx_do (st1 := [.int (if what = nI 0 then g (100 + 3 * x.toNatClampNeg) 9 else if what = nI 1 then g (100 + 3 * x.toNatClampNeg) 10 else if what = nI 2 then g (100 + 3 * x.toNatClampNeg) 11 else if what = nI 3 then g (100 + 3 * x.toNatClampNeg) 8 else g (100 + 3 * x.toNatClampNeg) 7), .int 0, .ref (ad 40)]) (kx_cv (As := [.int x, .int what]) (rest := [.int 0, .ref (ad 40)]) hF hG hw hS hl.1 kC_0 rfl (c_X2_ofFind l hfl D cy base ad n nc g x what hfr) gL_ofFind_X2_ofFind rfl rfl rfl hd_X2_ofFind ⟨Nat.le_of_ble_eq_true rfl, Nat.le_of_ble_eq_true rfl⟩ rfl rfl (Nat.le_of_ble_eq_true rfl) dL_ofFind_5 ⟨Nat.le_of_ble_eq_true rfl, Nat.le_of_ble_eq_true rfl⟩) hS rfl (fun E9 ce9 q9 H1 locs1 hX9 hw1 hS1 hc9 hv9 hcl9 => ?_) (fun hok H locs hw hS => ?_)
  · rcases ex_2 hX9 with ⟨rfl, hk⟩ | ⟨rfl, hk⟩
    · refine kx_cat0 hown hG hT ⟨by decide, by decide⟩ (by decide) mIO (hts (.classLink RL 13 "java/lang/IndexOutOfBoundsException") (by decide +kernel)) hc9 hv9 hcl9 ?_
      refine lv_astore (lv' := [(4, .ref q9), (0, .ref (ad 0)), (1, .int x), (2, .int what), (3, .ref (ad 40))]) hx hb dL_ofFind_13 hl (by decide) rfl (fun ls hl => ?_)
      refine lv_iconst (v := 1) hx hb dL_ofFind_15 (by decide) ?_
      exact kx_retI hQ hx hb hr hlk hw1 hS1 (Nat.le_of_ble_eq_true rfl) (Nat.le_of_ble_eq_true rfl) dL_ofFind_16 ⟨by rw [hk], by rw [if_neg (by rw [hk]; decide)]⟩
    · refine kx_cat1 hown hG hT ⟨by decide, by decide⟩ (by decide) mIA (hts (.classLink RL 15 "java/lang/IllegalArgumentException") (by decide +kernel)) mIO nAO (by decide) (hts (.classLink RL 13 "java/lang/IndexOutOfBoundsException") (by decide +kernel)) hc9 hv9 hcl9 ?_
      refine lv_astore (lv' := [(4, .ref q9), (0, .ref (ad 0)), (1, .int x), (2, .int what), (3, .ref (ad 40))]) hx hb dL_ofFind_17 hl (by decide) rfl (fun ls hl => ?_)
      refine lv_iconst (v := 2) hx hb dL_ofFind_19 (by decide) ?_
      exact kx_retI hQ hx hb hr hlk hw1 hS1 (Nat.le_of_ble_eq_true rfl) (Nat.le_of_ble_eq_true rfl) dL_ofFind_20 ⟨by rw [hk], by rw [if_neg (by rw [hk]; decide)]⟩
  · refine lv_i2l (v := (if what = nI 0 then g (100 + 3 * x.toNatClampNeg) 9 else if what = nI 1 then g (100 + 3 * x.toNatClampNeg) 10 else if what = nI 2 then g (100 + 3 * x.toNatClampNeg) 11 else if what = nI 3 then g (100 + 3 * x.toNatClampNeg) 8 else g (100 + 3 * x.toNatClampNeg) 7).toInt64) hx hb dL_ofFind_8 rfl ?_
    refine kx_last (v0 := if what = nI 0 then g (100 + 3 * x.toNatClampNeg) 9 else if what = nI 1 then g (100 + 3 * x.toNatClampNeg) 10 else if what = nI 2 then g (100 + 3 * x.toNatClampNeg) 11 else if what = nI 3 then g (100 + 3 * x.toNatClampNeg) 8 else g (100 + 3 * x.toNatClampNeg) 7) hx hb hG hw hS rfl dL_ofFind_9 (fun H locs hw hS => ?_)
    refine lv_goto (tgt := 21) hx hb dL_ofFind_10 (by decide) ?_
    refine lv_iconst (v := 0) hx hb dL_ofFind_21 (by decide) ?_
    exact kx_retI hQ hx hb hr hlk hw hS (Nat.le_of_ble_eq_true rfl) (Nat.le_of_ble_eq_true rfl) dL_ofFind_22 ⟨by rw [hok], by rw [if_pos hok]⟩
theorem hd_L_hand : yL_hand.cls ≠ "java/lang/invoke/MethodHandle" ∧ yL_hand.cls ≠ "java/lang/invoke/VarHandle" ∧ (parseMethodDescriptor yL_hand.desc).map (fun d => d.parameters.length) = some 5 := by decide +kernel
set_option maxHeartbeats 4000000 in
set_option maxRecDepth 100000 in
theorem c_L_hand (l : Launch) (hfl : l.stackTraces = false) (D : va_G) (cy : Nat → ClassId) (base : Nat) (ad : Nat → Nat) (n nc : Nat) (g : sg) (x : Int32) (place : Int32) (isDay : Bool) (hfr : ∀ j, j < 30 → g 6 j = if j < n then 1 else 0) (hh : ∀ i, i < n → ∃ h : Nat, h ≤ 12 ∧ g (100 + 3 * i) 7 = nI h) : kM l yL_hand wsL_hand (kR 9 12 100) D cy base ad n nc g [.ref (ad 0), .int x, .int place, .int (b2 isDay), .ref (ad 40)] (fun v u => v = some (.int (kd1 (isF n x && inn place 0 (g (100 + 3 * x.toNatClampNeg) 7 - 1)))) ∧ u = (ad, n, nc, if kd1 (isF n x && inn place 0 (g (100 + 3 * x.toNatClampNeg) 7 - 1)) = 0 then sU g 40 0 (if isDay = true then g (100 + 3 * x.toNatClampNeg + 2) place.toNatClampNeg else g (100 + 3 * x.toNatClampNeg + 1) place.toNatClampNeg) else g)) kNo 12 100 := by
  refine kx_methH (cc := cL_hand) (maxL := 6) (ret := (some .int)) (hh := [(0, 12, 15, 13)]) (by decide) rfl (Nat.le_of_ble_eq_true rfl) ?_
  intro p e s m args below meth c ls hx hb hr hml hown hts hlk hT hG hl Q H locs hQ hw hS
  have hl : lv_has ls 6 [(0, .ref (ad 0)), (1, .int x), (2, .int place), (3, .int (b2 isDay)), (4, .ref (ad 40))] := hl
  have hown : s.vm.findClass RL = some m.cls := hown
  have hF : CallFix p m c cL_hand 6 s args wsL_hand RL := ⟨hx, hb, hml, hown, hts⟩
  refine lv_aload hx hb dL_hand_0 (lv_at hl 4 rfl) ?_
  refine lv_iconst (v := 0) hx hb dL_hand_2 (by decide) ?_
  refine lv_aload_n hx hb dL_hand_3 rfl (lv_at hl 0 rfl) ?_
  refine lv_iload_n hx hb dL_hand_4 rfl (lv_at hl 1 rfl) ?_
  refine lv_iload_n hx hb dL_hand_5 rfl (lv_at hl 2 rfl) ?_
  refine lv_iload_n hx hb dL_hand_6 rfl (lv_at hl 3 rfl) ?_
  refine kx_do (st1 := [.int (if isDay = true then g (100 + 3 * x.toNatClampNeg + 2) place.toNatClampNeg else g (100 + 3 * x.toNatClampNeg + 1) place.toNatClampNeg), .int 0, .ref (ad 40)]) (kx_cv (As := [.int x, .int place, .int (b2 isDay)]) (rest := [.int 0, .ref (ad 40)]) hF hG hw hS hl.1 kC_0 rfl (c_X2_hand l hfl D cy base ad n nc g x place isDay hfr hh) gL_hand_X2_hand rfl rfl rfl hd_X2_hand ⟨Nat.le_of_ble_eq_true rfl, Nat.le_of_ble_eq_true rfl⟩ rfl rfl (Nat.le_of_ble_eq_true rfl) dL_hand_7 ⟨Nat.le_of_ble_eq_true rfl, Nat.le_of_ble_eq_true rfl⟩) hS rfl (fun E9 ce9 q9 H1 locs1 hX9 hw1 hS1 hc9 hv9 hcl9 => ?_) (fun hok H locs hw hS => ?_)
  · obtain ⟨rfl, hk⟩ := ex_1 hX9
    refine kx_cat0 hown hG hT ⟨by decide, by decide⟩ (by decide) mIO (hts (.classLink RL 13 "java/lang/IndexOutOfBoundsException") (by decide +kernel)) hc9 hv9 hcl9 ?_
    refine lv_astore (lv' := [(5, .ref q9), (0, .ref (ad 0)), (1, .int x), (2, .int place), (3, .int (b2 isDay)), (4, .ref (ad 40))]) hx hb dL_hand_15 hl (by decide) rfl (fun ls hl => ?_)
    refine lv_iconst (v := 1) hx hb dL_hand_17 (by decide) ?_
    exact kx_retI hQ hx hb hr hlk hw1 hS1 (Nat.le_of_ble_eq_true rfl) (Nat.le_of_ble_eq_true rfl) dL_hand_18 ⟨by rw [hk], by rw [if_neg (by rw [hk]; decide)]⟩
  · refine lv_i2l (v := (if isDay = true then g (100 + 3 * x.toNatClampNeg + 2) place.toNatClampNeg else g (100 + 3 * x.toNatClampNeg + 1) place.toNatClampNeg).toInt64) hx hb dL_hand_10 rfl ?_
    refine kx_last (v0 := if isDay = true then g (100 + 3 * x.toNatClampNeg + 2) place.toNatClampNeg else g (100 + 3 * x.toNatClampNeg + 1) place.toNatClampNeg) hx hb hG hw hS rfl dL_hand_11 (fun H locs hw hS => ?_)
    refine lv_goto (tgt := 19) hx hb dL_hand_12 (by decide) ?_
    refine lv_iconst (v := 0) hx hb dL_hand_19 (by decide) ?_
    exact kx_retI hQ hx hb hr hlk hw hS (Nat.le_of_ble_eq_true rfl) (Nat.le_of_ble_eq_true rfl) dL_hand_20 ⟨by rw [hok], by rw [if_pos hok]⟩
theorem hd_L_ofClaim : yL_ofClaim.cls ≠ "java/lang/invoke/MethodHandle" ∧ yL_ofClaim.cls ≠ "java/lang/invoke/VarHandle" ∧ (parseMethodDescriptor yL_ofClaim.desc).map (fun d => d.parameters.length) = some 4 := by decide +kernel
set_option maxHeartbeats 4000000 in
set_option maxRecDepth 100000 in
theorem c_L_ofClaim (l : Launch) (hfl : l.stackTraces = false) (D : va_G) (cy : Nat → ClassId) (base : Nat) (ad : Nat → Nat) (n nc : Nat) (g : sg) (x : Int32) (what : Int32) (hcr : ∀ j, j < 20 → g 7 j = if j < nc then 1 else 0) : kM l yL_ofClaim wsL_ofClaim (kR 9 12 100) D cy base ad n nc g [.ref (ad 0), .int x, .int what, .ref (ad 40)] (fun v u => v = some (.int (kd2 (isF nc x) (inn what 0 3))) ∧ u = (ad, n, nc, if kd2 (isF nc x) (inn what 0 3) = 0 then sU g 40 0 (if what = nI 0 then g (200 + x.toNatClampNeg) 7 else if what = nI 1 then g (200 + x.toNatClampNeg) 5 else if what = nI 2 then g (200 + x.toNatClampNeg) 6 else g (200 + x.toNatClampNeg) 8) else g)) kNo 12 100 := by
  refine kx_methH (cc := cL_ofClaim) (maxL := 5) (ret := (some .int)) (hh := [(0, 10, 13, 13), (0, 10, 17, 15)]) (by decide) rfl (Nat.le_of_ble_eq_true rfl) ?_
  intro p e s m args below meth c ls hx hb hr hml hown hts hlk hT hG hl Q H locs hQ hw hS
  have hl : lv_has ls 5 [(0, .ref (ad 0)), (1, .int x), (2, .int what), (3, .ref (ad 40))] := hl
  have hown : s.vm.findClass RL = some m.cls := hown
  have hF : CallFix p m c cL_ofClaim 5 s args wsL_ofClaim RL := ⟨hx, hb, hml, hown, hts⟩
  refine lv_aload_n hx hb dL_ofClaim_0 rfl (lv_at hl 3 rfl) ?_
  refine lv_iconst (v := 0) hx hb dL_ofClaim_1 (by decide) ?_
  refine lv_aload_n hx hb dL_ofClaim_2 rfl (lv_at hl 0 rfl) ?_
  refine lv_iload_n hx hb dL_ofClaim_3 rfl (lv_at hl 1 rfl) ?_
  refine lv_iload_n hx hb dL_ofClaim_4 rfl (lv_at hl 2 rfl) ?_
  refine kx_do (st1 := [.int (if what = nI 0 then g (200 + x.toNatClampNeg) 7 else if what = nI 1 then g (200 + x.toNatClampNeg) 5 else if what = nI 2 then g (200 + x.toNatClampNeg) 6 else g (200 + x.toNatClampNeg) 8), .int 0, .ref (ad 40)]) (kx_cv (As := [.int x, .int what]) (rest := [.int 0, .ref (ad 40)]) hF hG hw hS hl.1 kC_0 rfl (c_X2_ofClaim l hfl D cy base ad n nc g x what hcr) gL_ofClaim_X2_ofClaim rfl rfl rfl hd_X2_ofClaim ⟨Nat.le_of_ble_eq_true rfl, Nat.le_of_ble_eq_true rfl⟩ rfl rfl (Nat.le_of_ble_eq_true rfl) dL_ofClaim_5 ⟨Nat.le_of_ble_eq_true rfl, Nat.le_of_ble_eq_true rfl⟩) hS rfl (fun E9 ce9 q9 H1 locs1 hX9 hw1 hS1 hc9 hv9 hcl9 => ?_) (fun hok H locs hw hS => ?_)
  · rcases ex_2 hX9 with ⟨rfl, hk⟩ | ⟨rfl, hk⟩
    · refine kx_cat0 hown hG hT ⟨by decide, by decide⟩ (by decide) mIO (hts (.classLink RL 13 "java/lang/IndexOutOfBoundsException") (by decide +kernel)) hc9 hv9 hcl9 ?_
      refine lv_astore (lv' := [(4, .ref q9), (0, .ref (ad 0)), (1, .int x), (2, .int what), (3, .ref (ad 40))]) hx hb dL_ofClaim_13 hl (by decide) rfl (fun ls hl => ?_)
      refine lv_iconst (v := 1) hx hb dL_ofClaim_15 (by decide) ?_
      exact kx_retI hQ hx hb hr hlk hw1 hS1 (Nat.le_of_ble_eq_true rfl) (Nat.le_of_ble_eq_true rfl) dL_ofClaim_16 ⟨by rw [hk], by rw [if_neg (by rw [hk]; decide)]⟩
    · refine kx_cat1 hown hG hT ⟨by decide, by decide⟩ (by decide) mIA (hts (.classLink RL 15 "java/lang/IllegalArgumentException") (by decide +kernel)) mIO nAO (by decide) (hts (.classLink RL 13 "java/lang/IndexOutOfBoundsException") (by decide +kernel)) hc9 hv9 hcl9 ?_
      refine lv_astore (lv' := [(4, .ref q9), (0, .ref (ad 0)), (1, .int x), (2, .int what), (3, .ref (ad 40))]) hx hb dL_ofClaim_17 hl (by decide) rfl (fun ls hl => ?_)
      refine lv_iconst (v := 2) hx hb dL_ofClaim_19 (by decide) ?_
      exact kx_retI hQ hx hb hr hlk hw1 hS1 (Nat.le_of_ble_eq_true rfl) (Nat.le_of_ble_eq_true rfl) dL_ofClaim_20 ⟨by rw [hk], by rw [if_neg (by rw [hk]; decide)]⟩
  · refine lv_i2l (v := (if what = nI 0 then g (200 + x.toNatClampNeg) 7 else if what = nI 1 then g (200 + x.toNatClampNeg) 5 else if what = nI 2 then g (200 + x.toNatClampNeg) 6 else g (200 + x.toNatClampNeg) 8).toInt64) hx hb dL_ofClaim_8 rfl ?_
    refine kx_last (v0 := if what = nI 0 then g (200 + x.toNatClampNeg) 7 else if what = nI 1 then g (200 + x.toNatClampNeg) 5 else if what = nI 2 then g (200 + x.toNatClampNeg) 6 else g (200 + x.toNatClampNeg) 8) hx hb hG hw hS rfl dL_ofClaim_9 (fun H locs hw hS => ?_)
    refine lv_goto (tgt := 21) hx hb dL_ofClaim_10 (by decide) ?_
    refine lv_iconst (v := 0) hx hb dL_ofClaim_21 (by decide) ?_
    exact kx_retI hQ hx hb hr hlk hw hS (Nat.le_of_ble_eq_true rfl) (Nat.le_of_ble_eq_true rfl) dL_ofClaim_22 ⟨by rw [hok], by rw [if_pos hok]⟩
theorem hd_L_money : yL_money.cls ≠ "java/lang/invoke/MethodHandle" ∧ yL_money.cls ≠ "java/lang/invoke/VarHandle" ∧ (parseMethodDescriptor yL_money.desc).map (fun d => d.parameters.length) = some 3 := by decide +kernel
set_option maxHeartbeats 4000000 in
set_option maxRecDepth 100000 in
theorem c_L_money (l : Launch) (hfl : l.stackTraces = false) (D : va_G) (cy : Nat → ClassId) (base : Nat) (ad : Nat → Nat) (n nc : Nat) (g : sg) (what : Int32) : kM l yL_money wsL_money (kR 9 12 100) D cy base ad n nc g [.ref (ad 0), .int what, .ref (ad 40)] (fun v u => v = some (.int (kd1 (inn what 0 2))) ∧ u = (ad, n, nc, if kd1 (inn what 0 2) = 0 then sU g 40 0 (if what = nI 0 then g 0 12 else if what = nI 1 then g 0 13 else g 0 14) else g)) kNo 12 100 := by
  refine kx_methH (cc := cL_money) (maxL := 4) (ret := (some .int)) (hh := [(0, 9, 12, 15)]) (by decide) rfl (Nat.le_of_ble_eq_true rfl) ?_
  intro p e s m args below meth c ls hx hb hr hml hown hts hlk hT hG hl Q H locs hQ hw hS
  have hl : lv_has ls 4 [(0, .ref (ad 0)), (1, .int what), (2, .ref (ad 40))] := hl
  have hown : s.vm.findClass RL = some m.cls := hown
  have hF : CallFix p m c cL_money 4 s args wsL_money RL := ⟨hx, hb, hml, hown, hts⟩
  refine lv_aload_n hx hb dL_money_0 rfl (lv_at hl 2 rfl) ?_
  refine lv_iconst (v := 0) hx hb dL_money_1 (by decide) ?_
  refine lv_aload_n hx hb dL_money_2 rfl (lv_at hl 0 rfl) ?_
  refine lv_iload_n hx hb dL_money_3 rfl (lv_at hl 1 rfl) ?_
  refine kx_do (st1 := [.int (if what = nI 0 then g 0 12 else if what = nI 1 then g 0 13 else g 0 14), .int 0, .ref (ad 40)]) (kx_cv (As := [.int what]) (rest := [.int 0, .ref (ad 40)]) hF hG hw hS hl.1 kC_0 rfl (c_X2_money l hfl D cy base ad n nc g what ) gL_money_X2_money rfl rfl rfl hd_X2_money ⟨Nat.le_of_ble_eq_true rfl, Nat.le_of_ble_eq_true rfl⟩ rfl rfl (Nat.le_of_ble_eq_true rfl) dL_money_4 ⟨Nat.le_of_ble_eq_true rfl, Nat.le_of_ble_eq_true rfl⟩) hS rfl (fun E9 ce9 q9 H1 locs1 hX9 hw1 hS1 hc9 hv9 hcl9 => ?_) (fun hok H locs hw hS => ?_)
  · obtain ⟨rfl, hk⟩ := ex_1e2 hX9
    refine kx_cat0 hown hG hT ⟨by decide, by decide⟩ (by decide) mIA (hts (.classLink RL 15 "java/lang/IllegalArgumentException") (by decide +kernel)) hc9 hv9 hcl9 ?_
    refine lv_astore_n (lv' := [(3, .ref q9), (0, .ref (ad 0)), (1, .int what), (2, .ref (ad 40))]) hx hb dL_money_12 rfl hl (by decide) rfl (fun ls hl => ?_)
    refine lv_iconst (v := 1) hx hb dL_money_13 (by decide) ?_
    exact kx_retI hQ hx hb hr hlk hw1 hS1 (Nat.le_of_ble_eq_true rfl) (Nat.le_of_ble_eq_true rfl) dL_money_14 ⟨by rw [hk], by rw [if_neg (by rw [hk]; decide)]⟩
  · refine lv_i2l (v := (if what = nI 0 then g 0 12 else if what = nI 1 then g 0 13 else g 0 14).toInt64) hx hb dL_money_7 rfl ?_
    refine kx_last (v0 := if what = nI 0 then g 0 12 else if what = nI 1 then g 0 13 else g 0 14) hx hb hG hw hS rfl dL_money_8 (fun H locs hw hS => ?_)
    refine lv_goto (tgt := 15) hx hb dL_money_9 (by decide) ?_
    refine lv_iconst (v := 0) hx hb dL_money_15 (by decide) ?_
    exact kx_retI hQ hx hb hr hlk hw hS (Nat.le_of_ble_eq_true rfl) (Nat.le_of_ble_eq_true rfl) dL_money_16 ⟨by rw [hok], by rw [if_pos hok]⟩
theorem hd_L_audit : yL_audit.cls ≠ "java/lang/invoke/MethodHandle" ∧ yL_audit.cls ≠ "java/lang/invoke/VarHandle" ∧ (parseMethodDescriptor yL_audit.desc).map (fun d => d.parameters.length) = some 3 := by decide +kernel
set_option maxHeartbeats 4000000 in
set_option maxRecDepth 100000 in
theorem c_L_audit (l : Launch) (hfl : l.stackTraces = false) (D : va_G) (cy : Nat → ClassId) (base : Nat) (ad : Nat → Nat) (n nc : Nat) (g : sg) (room : Int32) (hfr : ∀ j, j < 30 → g 6 j = if j < n then 1 else 0) : kM l yL_audit wsL_audit (kR 9 12 100) D cy base ad n nc g [.ref (ad 0), .int room, .ref (ad 40)] (fun v u => v = some (.int (kd1 (inn room 0 5))) ∧ u = (ad, n, nc, if kd1 (inn room 0 5) = 0 then sU g 40 0 (auC g room n 30) else g)) kNo 12 100 := by
  refine kx_methH (cc := cL_audit) (maxL := 4) (ret := (some .int)) (hh := [(0, 9, 12, 13)]) (by decide) rfl (Nat.le_of_ble_eq_true rfl) ?_
  intro p e s m args below meth c ls hx hb hr hml hown hts hlk hT hG hl Q H locs hQ hw hS
  have hl : lv_has ls 4 [(0, .ref (ad 0)), (1, .int room), (2, .ref (ad 40))] := hl
  have hown : s.vm.findClass RL = some m.cls := hown
  have hF : CallFix p m c cL_audit 4 s args wsL_audit RL := ⟨hx, hb, hml, hown, hts⟩
  refine lv_aload_n hx hb dL_audit_0 rfl (lv_at hl 2 rfl) ?_
  refine lv_iconst (v := 0) hx hb dL_audit_1 (by decide) ?_
  refine lv_aload_n hx hb dL_audit_2 rfl (lv_at hl 0 rfl) ?_
  refine lv_iload_n hx hb dL_audit_3 rfl (lv_at hl 1 rfl) ?_
  refine kx_do (st1 := [.int (auC g room n 30), .int 0, .ref (ad 40)]) (kx_cv (As := [.int room]) (rest := [.int 0, .ref (ad 40)]) hF hG hw hS hl.1 kC_0 rfl (c_X2_audit l hfl D cy base ad n nc g room hfr) gL_audit_X2_audit rfl rfl rfl hd_X2_audit ⟨Nat.le_of_ble_eq_true rfl, Nat.le_of_ble_eq_true rfl⟩ rfl rfl (Nat.le_of_ble_eq_true rfl) dL_audit_4 ⟨Nat.le_of_ble_eq_true rfl, Nat.le_of_ble_eq_true rfl⟩) hS rfl (fun E9 ce9 q9 H1 locs1 hX9 hw1 hS1 hc9 hv9 hcl9 => ?_) (fun hok H locs hw hS => ?_)
  · obtain ⟨rfl, hk⟩ := ex_1 hX9
    refine kx_cat0 hown hG hT ⟨by decide, by decide⟩ (by decide) mIO (hts (.classLink RL 13 "java/lang/IndexOutOfBoundsException") (by decide +kernel)) hc9 hv9 hcl9 ?_
    refine lv_astore_n (lv' := [(3, .ref q9), (0, .ref (ad 0)), (1, .int room), (2, .ref (ad 40))]) hx hb dL_audit_12 rfl hl (by decide) rfl (fun ls hl => ?_)
    refine lv_iconst (v := 1) hx hb dL_audit_13 (by decide) ?_
    exact kx_retI hQ hx hb hr hlk hw1 hS1 (Nat.le_of_ble_eq_true rfl) (Nat.le_of_ble_eq_true rfl) dL_audit_14 ⟨by rw [hk], by rw [if_neg (by rw [hk]; decide)]⟩
  · refine lv_i2l (v := (auC g room n 30).toInt64) hx hb dL_audit_7 rfl ?_
    refine kx_last (v0 := auC g room n 30) hx hb hG hw hS rfl dL_audit_8 (fun H locs hw hS => ?_)
    refine lv_goto (tgt := 15) hx hb dL_audit_9 (by decide) ?_
    refine lv_iconst (v := 0) hx hb dL_audit_15 (by decide) ?_
    exact kx_retI hQ hx hb hr hlk hw hS (Nat.le_of_ble_eq_true rfl) (Nat.le_of_ble_eq_true rfl) dL_audit_16 ⟨by rw [hok], by rw [if_pos hok]⟩
