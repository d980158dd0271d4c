/-! walks laid by wip/p35/kgen.py, kall.py -/
theorem hd_L_early : yL_early.cls ≠ "java/lang/invoke/MethodHandle" ∧ yL_early.cls ≠ "java/lang/invoke/VarHandle" ∧ (parseMethodDescriptor yL_early.desc).map (fun d => d.parameters.length) = some 5 := by decide +kernel
set_option maxHeartbeats 4000000 in
set_option maxRecDepth 100000 in
theorem c_L_early_0 (l : Launch) (hfl : l.stackTraces = false) (D : va_G) (cy : Nat → ClassId) (base : Nat → Prop) (ad : Nat → Nat) (n nc : Nat) (g : sg) (a1 : Int32) (b1 : Int32) (c1 : Int32) : kM l yL_early wsL_early (kR 8 1 6) D cy base ad n nc g [.ref (ad 0), .int (0 : Int32), .int a1, .int b1, .int c1] (kD (kd2 (inn a1 0 23 && inn b1 0 23) (!decide (a1 = b1)) = 0) (some (.int (b2 (tb g 1 a1 b1)))) ad n nc (tg g 1 a1 b1)) (kEx (kd2 (inn a1 0 23 && inn b1 0 23) (!decide (a1 = b1)))) 1 6 := by
  refine kx_meth (cc := cL_early) (maxL := 5) (ret := (some .int)) (by decide) rfl (Nat.le_of_ble_eq_true rfl) ?_
  intro p e s m args below meth c ls hx hb hr hml hown hts hlk hT hG hw0 hS0 hl Q H locs hQ hw hS hH0 hlocs0
  have hl : lv_has ls 5 [(0, .ref (ad 0)), (1, .int (0 : Int32)), (2, .int a1), (3, .int b1), (4, .int c1)] := hl
  have hown : s.vm.findClass RL = some m.cls := hown
  have hF : CallFix p m c cL_early 5 s args wsL_early RL := ⟨hx, hb, hml, hown, hts⟩
  have hn30 : n ≤ 30 := hw.2.2.1
  have hc20 : nc ≤ 20 := hw.2.2.2
  clear hw0 hS0 hH0 hlocs0
  refine lv_iload_n hx hb dL_early_0 rfl (lv_at hl 1 rfl) ?_
  refine lv_if_ne (tgt := 21) hx hb dL_early_1 (by decide) (fun c => absurd rfl c) (fun _ => ?_)
  refine lv_aload_n hx hb dL_early_4 rfl (lv_at hl 0 rfl) ?_
  refine lv_iload_n hx hb dL_early_5 rfl (lv_at hl 2 rfl) ?_
  refine lv_iload_n hx hb dL_early_6 rfl (lv_at hl 3 rfl) ?_
  refine kx_do (st1 := [.int (b2 (tb g 1 a1 b1))]) (kx_cv (As := [.int a1, .int b1]) (rest := []) hF hG hw hS hl.1 kC_0 rfl (c_X2_near l hfl D cy base ad n nc g a1 b1 ) gL_early_X2_near rfl rfl rfl hd_X2_near ⟨Nat.le_of_ble_eq_true rfl, Nat.le_of_ble_eq_true rfl⟩ rfl rfl (Nat.le_of_ble_eq_true rfl) dL_early_7 ⟨Nat.le_of_ble_eq_true rfl, Nat.le_of_ble_eq_true rfl⟩) hS rfl (fun E9 ce9 q9 H locs hX9 hw hS hc9 hv9 hcl9 => kx_out hQ hT hlk hw hS hX9 hc9 hv9 hcl9 (Nat.le_of_ble_eq_true rfl) (Nat.le_of_ble_eq_true rfl)) (fun ok_7 H locs hw hS => ?_)
  refine kb_eq (tgt := 17) hx hb dL_early_10 (by decide) (fun c_10 => ?_) (fun c_10 => ?_)
  · refine lv_iconst (v := 0) hx hb dL_early_17 (by decide) ?_
    refine lv_goto (tgt := 167) hx hb dL_early_18 (by decide) ?_
    exact kx_retI hQ hx hb hr hlk hw hS (Nat.le_of_ble_eq_true rfl) (Nat.le_of_ble_eq_true rfl) dL_early_167 (kd_i (by first | (simp only [ok_7, c_10]; done) | (simp only [ok_7, c_10]; rfl) | (simp [ok_7, c_10]; done)) (by first | (simp only [ok_7, c_10]; done) | (simp only [ok_7, c_10]; rfl) | (simp [ok_7, c_10]; done)) (rfl))
  · refine lv_iconst (v := 1) hx hb dL_early_13 (by decide) ?_
    refine lv_goto (tgt := 167) hx hb dL_early_14 (by decide) ?_
    exact kx_retI hQ hx hb hr hlk hw hS (Nat.le_of_ble_eq_true rfl) (Nat.le_of_ble_eq_true rfl) dL_early_167 (kd_i (by first | (simp only [ok_7, c_10]; done) | (simp only [ok_7, c_10]; rfl) | (simp [ok_7, c_10]; done)) (by first | (simp only [ok_7, c_10]; done) | (simp only [ok_7, c_10]; rfl) | (simp [ok_7, c_10]; done)) (rfl))
theorem hd_L_does : yL_does.cls ≠ "java/lang/invoke/MethodHandle" ∧ yL_does.cls ≠ "java/lang/invoke/VarHandle" ∧ (parseMethodDescriptor yL_does.desc).map (fun d => d.parameters.length) = some 5 := by decide +kernel
set_option maxHeartbeats 4000000 in
set_option maxRecDepth 100000 in
theorem c_L_does_0 (l : Launch) (hfl : l.stackTraces = false) (D : va_G) (cy : Nat → ClassId) (base : Nat → Prop) (ad : Nat → Nat) (n nc : Nat) (g : sg) (a1 : Int32) (b1 : Int32) (c1 : Int32) : kM l yL_does wsL_does (kR 9 1 6) D cy base ad n nc g [.ref (ad 0), .int (0 : Int32), .int a1, .int b1, .int c1] (kD True (some (.int ((dF_0 n nc g a1 b1).1))) ad n nc ((dF_0 n nc g a1 b1).2)) kNo 1 6 := by
  refine kx_methH (cc := cL_does) (maxL := 6) (ret := (some .int)) (hh := [(0, 314, 315, 78), (0, 314, 320, 81), (0, 314, 325, 83)]) (by decide) rfl (Nat.le_of_ble_eq_true rfl) ?_
  intro p e s m args below meth c ls hx hb hr hml hown hts hlk hT hG hl Q H locs hQ hw hS
  have hl : lv_has ls 6 [(0, .ref (ad 0)), (1, .int (0 : Int32)), (2, .int a1), (3, .int b1), (4, .int c1)] := hl
  have hown : s.vm.findClass RL = some m.cls := hown
  have hF : CallFix p m c cL_does 6 s args wsL_does RL := ⟨hx, hb, hml, hown, hts⟩
  have hn30 : n ≤ 30 := hw.2.2.1
  have hc20 : nc ≤ 20 := hw.2.2.2
  have k_80 := hts (.constant RL 80 (-2100000000)) (by decide +kernel)
  refine lv_iload_n hx hb dL_does_0 rfl (lv_at hl 1 rfl) ?_
  refine lv_bipush (v := 10) hx hb dL_does_1 (by decide) ?_
  refine lv_icmp_ge (tgt := 18) hx hb dL_does_3 (by decide) (fun c => absurd c (by decide +kernel)) (fun _ => ?_)
  refine lv_aload_n hx hb dL_does_6 rfl (lv_at hl 0 rfl) ?_
  refine lv_iload_n hx hb dL_does_7 rfl (lv_at hl 1 rfl) ?_
  refine lv_iload_n hx hb dL_does_8 rfl (lv_at hl 2 rfl) ?_
  refine lv_iload_n hx hb dL_does_9 rfl (lv_at hl 3 rfl) ?_
  refine lv_iload hx hb dL_does_10 (lv_at hl 4 rfl) ?_
  refine kx_do (st1 := [.int (b2 (tb g 1 a1 b1))]) (kx_cs (As := [.ref (ad 0), .int (0 : Int32), .int a1, .int b1, .int c1]) (rest := []) hF hG hw hS hl.1 (c_L_early_0 l hfl D cy base ad n nc g a1 b1 c1 ) gL_does_L_early rfl rfl rfl hd_L_early ⟨Nat.le_of_ble_eq_true rfl, Nat.le_of_ble_eq_true rfl⟩ rfl rfl (Nat.le_of_ble_eq_true rfl) dL_does_12 ⟨Nat.le_of_ble_eq_true rfl, Nat.le_of_ble_eq_true rfl⟩) hS rfl (fun E9 ce9 q9 H1 locs1 hX9 hw1 hS1 hc9 hv9 hcl9 => ?_) (fun ok_12 H locs hw hS => ?_)
  · rcases hX9 with ⟨rfl, hk⟩ | ⟨rfl, hk⟩ | ⟨rfl, hk⟩
    · refine kx_cat0 hown hG hT ⟨by decide, by decide⟩ (by decide) mIO (hts (.classLink RL 78 "java/lang/IndexOutOfBoundsException") (by decide +kernel)) hc9 hv9 hcl9 ?_
      refine lv_astore (lv' := [(5, .ref q9), (0, .ref (ad 0)), (1, .int (0 : Int32)), (2, .int a1), (3, .int b1), (4, .int c1)]) hx hb dL_does_315 hl (by decide) rfl (fun ls hl => ?_)
      refine lv_ldc hx hb hown k_80 dL_does_317 ?_
      have hne : ¬ (kd2 (inn a1 0 23 && inn b1 0 23) (!decide (a1 = b1))) = 0 := fun q => by rw [q] at hk; revert hk; decide +kernel
      exact kx_retI hQ hx hb hr hlk hw1 hS1 (Nat.le_of_ble_eq_true rfl) (Nat.le_of_ble_eq_true rfl) dL_does_319 (kd_i trivial (congrArg Prod.fst (oR_n hne)) (congrArg Prod.snd (oR_n hne)))
    · refine kx_cat1 hown hG hT ⟨by decide, by decide⟩ (by decide) mIA (hts (.classLink RL 81 "java/lang/IllegalArgumentException") (by decide +kernel)) mIO nAO (by decide) (hts (.classLink RL 78 "java/lang/IndexOutOfBoundsException") (by decide +kernel)) hc9 hv9 hcl9 ?_
      refine lv_astore (lv' := [(5, .ref q9), (0, .ref (ad 0)), (1, .int (0 : Int32)), (2, .int a1), (3, .int b1), (4, .int c1)]) hx hb dL_does_320 hl (by decide) rfl (fun ls hl => ?_)
      refine lv_ldc hx hb hown k_80 dL_does_322 ?_
      have hne : ¬ (kd2 (inn a1 0 23 && inn b1 0 23) (!decide (a1 = b1))) = 0 := fun q => by rw [q] at hk; revert hk; decide +kernel
      exact kx_retI hQ hx hb hr hlk hw1 hS1 (Nat.le_of_ble_eq_true rfl) (Nat.le_of_ble_eq_true rfl) dL_does_324 (kd_i trivial (congrArg Prod.fst (oR_n hne)) (congrArg Prod.snd (oR_n hne)))
    · refine kx_cat2 hown hG hT ⟨by decide, by decide⟩ (by decide) mIS (hts (.classLink RL 83 "java/lang/IllegalStateException") (by decide +kernel)) mIO nSO (by decide) (hts (.classLink RL 78 "java/lang/IndexOutOfBoundsException") (by decide +kernel)) mIA nSA (by decide) (hts (.classLink RL 81 "java/lang/IllegalArgumentException") (by decide +kernel)) hc9 hv9 hcl9 ?_
      refine lv_astore (lv' := [(5, .ref q9), (0, .ref (ad 0)), (1, .int (0 : Int32)), (2, .int a1), (3, .int b1), (4, .int c1)]) hx hb dL_does_325 hl (by decide) rfl (fun ls hl => ?_)
      refine lv_ldc hx hb hown k_80 dL_does_327 ?_
      have hne : ¬ (kd2 (inn a1 0 23 && inn b1 0 23) (!decide (a1 = b1))) = 0 := fun q => by rw [q] at hk; revert hk; decide +kernel
      exact kx_retI hQ hx hb hr hlk hw1 hS1 (Nat.le_of_ble_eq_true rfl) (Nat.le_of_ble_eq_true rfl) dL_does_329 (kd_i trivial (congrArg Prod.fst (oR_n hne)) (congrArg Prod.snd (oR_n hne)))
  · refine lv_goto (tgt := 314) hx hb dL_does_15 (by decide) ?_
    exact kx_retI hQ hx hb hr hlk hw hS (Nat.le_of_ble_eq_true rfl) (Nat.le_of_ble_eq_true rfl) dL_does_314 (kd_i (trivial) (congrArg Prod.fst (oR_y ok_12)) (congrArg Prod.snd (oR_y ok_12)))
set_option maxHeartbeats 4000000 in
set_option maxRecDepth 100000 in
theorem c_L_early_1 (l : Launch) (hfl : l.stackTraces = false) (D : va_G) (cy : Nat → ClassId) (base : Nat → Prop) (ad : Nat → Nat) (n nc : Nat) (g : sg) (a1 : Int32) (b1 : Int32) (c1 : Int32) : kM l yL_early wsL_early (kR 8 1 6) D cy base ad n nc g [.ref (ad 0), .int (1 : Int32), .int a1, .int b1, .int c1] (kD (kd2 (inn a1 0 7 && inn b1 0 7) (!decide (a1 = b1)) = 0) (some (.int (b2 (tb g 2 a1 b1)))) ad n nc (tg g 2 a1 b1)) (kEx (kd2 (inn a1 0 7 && inn b1 0 7) (!decide (a1 = b1)))) 1 6 := by
  refine kx_meth (cc := cL_early) (maxL := 5) (ret := (some .int)) (by decide) rfl (Nat.le_of_ble_eq_true rfl) ?_
  intro p e s m args below meth c ls hx hb hr hml hown hts hlk hT hG hw0 hS0 hl Q H locs hQ hw hS hH0 hlocs0
  have hl : lv_has ls 5 [(0, .ref (ad 0)), (1, .int (1 : Int32)), (2, .int a1), (3, .int b1), (4, .int c1)] := hl
  have hown : s.vm.findClass RL = some m.cls := hown
  have hF : CallFix p m c cL_early 5 s args wsL_early RL := ⟨hx, hb, hml, hown, hts⟩
  have hn30 : n ≤ 30 := hw.2.2.1
  have hc20 : nc ≤ 20 := hw.2.2.2
  clear hw0 hS0 hH0 hlocs0
  refine lv_iload_n hx hb dL_early_0 rfl (lv_at hl 1 rfl) ?_
  refine lv_if_ne (tgt := 21) hx hb dL_early_1 (by decide) (fun _ => ?_) (fun c => absurd c (by decide))
  refine lv_iload_n hx hb dL_early_21 rfl (lv_at hl 1 rfl) ?_
  refine lv_iconst (v := 1) hx hb dL_early_22 (by decide) ?_
  refine lv_icmp_ne (tgt := 43) hx hb dL_early_23 (by decide) (fun c => absurd (by decide +kernel) c) (fun _ => ?_)
  refine lv_aload_n hx hb dL_early_26 rfl (lv_at hl 0 rfl) ?_
  refine lv_iload_n hx hb dL_early_27 rfl (lv_at hl 2 rfl) ?_
  refine lv_iload_n hx hb dL_early_28 rfl (lv_at hl 3 rfl) ?_
  refine kx_do (st1 := [.int (b2 (tb g 2 a1 b1))]) (kx_cv (As := [.int a1, .int b1]) (rest := []) hF hG hw hS hl.1 kC_0 rfl (c_X2_alike l hfl D cy base ad n nc g a1 b1 ) gL_early_X2_alike rfl rfl rfl hd_X2_alike ⟨Nat.le_of_ble_eq_true rfl, Nat.le_of_ble_eq_true rfl⟩ rfl rfl (Nat.le_of_ble_eq_true rfl) dL_early_29 ⟨Nat.le_of_ble_eq_true rfl, Nat.le_of_ble_eq_true rfl⟩) hS rfl (fun E9 ce9 q9 H locs hX9 hw hS hc9 hv9 hcl9 => kx_out hQ hT hlk hw hS hX9 hc9 hv9 hcl9 (Nat.le_of_ble_eq_true rfl) (Nat.le_of_ble_eq_true rfl)) (fun ok_29 H locs hw hS => ?_)
  refine kb_eq (tgt := 39) hx hb dL_early_32 (by decide) (fun c_32 => ?_) (fun c_32 => ?_)
  · refine lv_iconst (v := 0) hx hb dL_early_39 (by decide) ?_
    refine lv_goto (tgt := 167) hx hb dL_early_40 (by decide) ?_
    exact kx_retI hQ hx hb hr hlk hw hS (Nat.le_of_ble_eq_true rfl) (Nat.le_of_ble_eq_true rfl) dL_early_167 (kd_i (by first | (simp only [ok_29, c_32]; done) | (simp only [ok_29, c_32]; rfl) | (simp [ok_29, c_32]; done)) (by first | (simp only [ok_29, c_32]; done) | (simp only [ok_29, c_32]; rfl) | (simp [ok_29, c_32]; done)) (rfl))
  · refine lv_iconst (v := 1) hx hb dL_early_35 (by decide) ?_
    refine lv_goto (tgt := 167) hx hb dL_early_36 (by decide) ?_
    exact kx_retI hQ hx hb hr hlk hw hS (Nat.le_of_ble_eq_true rfl) (Nat.le_of_ble_eq_true rfl) dL_early_167 (kd_i (by first | (simp only [ok_29, c_32]; done) | (simp only [ok_29, c_32]; rfl) | (simp [ok_29, c_32]; done)) (by first | (simp only [ok_29, c_32]; done) | (simp only [ok_29, c_32]; rfl) | (simp [ok_29, c_32]; done)) (rfl))
set_option maxHeartbeats 4000000 in
set_option maxRecDepth 100000 in
theorem c_L_does_1 (l : Launch) (hfl : l.stackTraces = false) (D : va_G) (cy : Nat → ClassId) (base : Nat → Prop) (ad : Nat → Nat) (n nc : Nat) (g : sg) (a1 : Int32) (b1 : Int32) (c1 : Int32) : kM l yL_does wsL_does (kR 9 1 6) D cy base ad n nc g [.ref (ad 0), .int (1 : Int32), .int a1, .int b1, .int c1] (kD True (some (.int ((dF_1 n nc g a1 b1).1))) ad n nc ((dF_1 n nc g a1 b1).2)) kNo 1 6 := by
  refine kx_methH (cc := cL_does) (maxL := 6) (ret := (some .int)) (hh := [(0, 314, 315, 78), (0, 314, 320, 81), (0, 314, 325, 83)]) (by decide) rfl (Nat.le_of_ble_eq_true rfl) ?_
  intro p e s m args below meth c ls hx hb hr hml hown hts hlk hT hG hl Q H locs hQ hw hS
  have hl : lv_has ls 6 [(0, .ref (ad 0)), (1, .int (1 : Int32)), (2, .int a1), (3, .int b1), (4, .int c1)] := hl
  have hown : s.vm.findClass RL = some m.cls := hown
  have hF : CallFix p m c cL_does 6 s args wsL_does RL := ⟨hx, hb, hml, hown, hts⟩
  have hn30 : n ≤ 30 := hw.2.2.1
  have hc20 : nc ≤ 20 := hw.2.2.2
  have k_80 := hts (.constant RL 80 (-2100000000)) (by decide +kernel)
  refine lv_iload_n hx hb dL_does_0 rfl (lv_at hl 1 rfl) ?_
  refine lv_bipush (v := 10) hx hb dL_does_1 (by decide) ?_
  refine lv_icmp_ge (tgt := 18) hx hb dL_does_3 (by decide) (fun c => absurd c (by decide +kernel)) (fun _ => ?_)
  refine lv_aload_n hx hb dL_does_6 rfl (lv_at hl 0 rfl) ?_
  refine lv_iload_n hx hb dL_does_7 rfl (lv_at hl 1 rfl) ?_
  refine lv_iload_n hx hb dL_does_8 rfl (lv_at hl 2 rfl) ?_
  refine lv_iload_n hx hb dL_does_9 rfl (lv_at hl 3 rfl) ?_
  refine lv_iload hx hb dL_does_10 (lv_at hl 4 rfl) ?_
  refine kx_do (st1 := [.int (b2 (tb g 2 a1 b1))]) (kx_cs (As := [.ref (ad 0), .int (1 : Int32), .int a1, .int b1, .int c1]) (rest := []) hF hG hw hS hl.1 (c_L_early_1 l hfl D cy base ad n nc g a1 b1 c1 ) gL_does_L_early rfl rfl rfl hd_L_early ⟨Nat.le_of_ble_eq_true rfl, Nat.le_of_ble_eq_true rfl⟩ rfl rfl (Nat.le_of_ble_eq_true rfl) dL_does_12 ⟨Nat.le_of_ble_eq_true rfl, Nat.le_of_ble_eq_true rfl⟩) hS rfl (fun E9 ce9 q9 H1 locs1 hX9 hw1 hS1 hc9 hv9 hcl9 => ?_) (fun ok_12 H locs hw hS => ?_)
  · rcases hX9 with ⟨rfl, hk⟩ | ⟨rfl, hk⟩ | ⟨rfl, hk⟩
    · refine kx_cat0 hown hG hT ⟨by decide, by decide⟩ (by decide) mIO (hts (.classLink RL 78 "java/lang/IndexOutOfBoundsException") (by decide +kernel)) hc9 hv9 hcl9 ?_
      refine lv_astore (lv' := [(5, .ref q9), (0, .ref (ad 0)), (1, .int (1 : Int32)), (2, .int a1), (3, .int b1), (4, .int c1)]) hx hb dL_does_315 hl (by decide) rfl (fun ls hl => ?_)
      refine lv_ldc hx hb hown k_80 dL_does_317 ?_
      have hne : ¬ (kd2 (inn a1 0 7 && inn b1 0 7) (!decide (a1 = b1))) = 0 := fun q => by rw [q] at hk; revert hk; decide +kernel
      exact kx_retI hQ hx hb hr hlk hw1 hS1 (Nat.le_of_ble_eq_true rfl) (Nat.le_of_ble_eq_true rfl) dL_does_319 (kd_i trivial (congrArg Prod.fst (oR_n hne)) (congrArg Prod.snd (oR_n hne)))
    · refine kx_cat1 hown hG hT ⟨by decide, by decide⟩ (by decide) mIA (hts (.classLink RL 81 "java/lang/IllegalArgumentException") (by decide +kernel)) mIO nAO (by decide) (hts (.classLink RL 78 "java/lang/IndexOutOfBoundsException") (by decide +kernel)) hc9 hv9 hcl9 ?_
      refine lv_astore (lv' := [(5, .ref q9), (0, .ref (ad 0)), (1, .int (1 : Int32)), (2, .int a1), (3, .int b1), (4, .int c1)]) hx hb dL_does_320 hl (by decide) rfl (fun ls hl => ?_)
      refine lv_ldc hx hb hown k_80 dL_does_322 ?_
      have hne : ¬ (kd2 (inn a1 0 7 && inn b1 0 7) (!decide (a1 = b1))) = 0 := fun q => by rw [q] at hk; revert hk; decide +kernel
      exact kx_retI hQ hx hb hr hlk hw1 hS1 (Nat.le_of_ble_eq_true rfl) (Nat.le_of_ble_eq_true rfl) dL_does_324 (kd_i trivial (congrArg Prod.fst (oR_n hne)) (congrArg Prod.snd (oR_n hne)))
    · refine kx_cat2 hown hG hT ⟨by decide, by decide⟩ (by decide) mIS (hts (.classLink RL 83 "java/lang/IllegalStateException") (by decide +kernel)) mIO nSO (by decide) (hts (.classLink RL 78 "java/lang/IndexOutOfBoundsException") (by decide +kernel)) mIA nSA (by decide) (hts (.classLink RL 81 "java/lang/IllegalArgumentException") (by decide +kernel)) hc9 hv9 hcl9 ?_
      refine lv_astore (lv' := [(5, .ref q9), (0, .ref (ad 0)), (1, .int (1 : Int32)), (2, .int a1), (3, .int b1), (4, .int c1)]) hx hb dL_does_325 hl (by decide) rfl (fun ls hl => ?_)
      refine lv_ldc hx hb hown k_80 dL_does_327 ?_
      have hne : ¬ (kd2 (inn a1 0 7 && inn b1 0 7) (!decide (a1 = b1))) = 0 := fun q => by rw [q] at hk; revert hk; decide +kernel
      exact kx_retI hQ hx hb hr hlk hw1 hS1 (Nat.le_of_ble_eq_true rfl) (Nat.le_of_ble_eq_true rfl) dL_does_329 (kd_i trivial (congrArg Prod.fst (oR_n hne)) (congrArg Prod.snd (oR_n hne)))
  · refine lv_goto (tgt := 314) hx hb dL_does_15 (by decide) ?_
    exact kx_retI hQ hx hb hr hlk hw hS (Nat.le_of_ble_eq_true rfl) (Nat.le_of_ble_eq_true rfl) dL_does_314 (kd_i (trivial) (congrArg Prod.fst (oR_y ok_12)) (congrArg Prod.snd (oR_y ok_12)))
set_option maxHeartbeats 4000000 in
set_option maxRecDepth 100000 in
theorem c_L_early_2 (l : Launch) (hfl : l.stackTraces = false) (D : va_G) (cy : Nat → ClassId) (base : Nat → Prop) (ad : Nat → Nat) (n nc : Nat) (g : sg) (a1 : Int32) (b1 : Int32) (c1 : Int32) : kM l yL_early wsL_early (kR 8 1 6) D cy base ad n nc g [.ref (ad 0), .int (2 : Int32), .int a1, .int b1, .int c1] (kD (kd2 (inn a1 0 7) (inn b1 1 400 && inn c1 0 50) = 0) (some (.int (g 4 a1.toNatClampNeg))) ad n nc (sU (sU g 4 a1.toNatClampNeg b1) 5 a1.toNatClampNeg c1)) (kEx (kd2 (inn a1 0 7) (inn b1 1 400 && inn c1 0 50))) 1 6 := by
  refine kx_meth (cc := cL_early) (maxL := 5) (ret := (some .int)) (by decide) rfl (Nat.le_of_ble_eq_true rfl) ?_
  intro p e s m args below meth c ls hx hb hr hml hown hts hlk hT hG hw0 hS0 hl Q H locs hQ hw hS hH0 hlocs0
  have hl : lv_has ls 5 [(0, .ref (ad 0)), (1, .int (2 : Int32)), (2, .int a1), (3, .int b1), (4, .int c1)] := hl
  have hown : s.vm.findClass RL = some m.cls := hown
  have hF : CallFix p m c cL_early 5 s args wsL_early RL := ⟨hx, hb, hml, hown, hts⟩
  have hn30 : n ≤ 30 := hw.2.2.1
  have hc20 : nc ≤ 20 := hw.2.2.2
  clear hw0 hS0 hH0 hlocs0
  refine lv_iload_n hx hb dL_early_0 rfl (lv_at hl 1 rfl) ?_
  refine lv_if_ne (tgt := 21) hx hb dL_early_1 (by decide) (fun _ => ?_) (fun c => absurd c (by decide +kernel))
  refine lv_iload_n hx hb dL_early_21 rfl (lv_at hl 1 rfl) ?_
  refine lv_iconst (v := 1) hx hb dL_early_22 (by decide) ?_
  refine lv_icmp_ne (tgt := 43) hx hb dL_early_23 (by decide) (fun _ => ?_) (fun c => absurd c (by decide +kernel))
  refine lv_iload_n hx hb dL_early_43 rfl (lv_at hl 1 rfl) ?_
  refine lv_iconst (v := 2) hx hb dL_early_44 (by decide) ?_
  refine lv_icmp_ne (tgt := 59) hx hb dL_early_45 (by decide) (fun c => absurd (by decide +kernel) c) (fun _ => ?_)
  refine lv_aload_n hx hb dL_early_48 rfl (lv_at hl 0 rfl) ?_
  refine lv_iload_n hx hb dL_early_49 rfl (lv_at hl 2 rfl) ?_
  refine lv_iload_n hx hb dL_early_50 rfl (lv_at hl 3 rfl) ?_
  refine lv_iload hx hb dL_early_51 (lv_at hl 4 rfl) ?_
  refine kx_do (st1 := [.int (g 4 a1.toNatClampNeg)]) (kx_cv (As := [.int a1, .int b1, .int c1]) (rest := []) hF hG hw hS hl.1 kC_0 rfl (c_X2_rule l hfl D cy base ad n nc g a1 b1 c1 ) gL_early_X2_rule rfl rfl rfl hd_X2_rule ⟨Nat.le_of_ble_eq_true rfl, Nat.le_of_ble_eq_true rfl⟩ rfl rfl (Nat.le_of_ble_eq_true rfl) dL_early_53 ⟨Nat.le_of_ble_eq_true rfl, Nat.le_of_ble_eq_true rfl⟩) hS rfl (fun E9 ce9 q9 H locs hX9 hw hS hc9 hv9 hcl9 => kx_out hQ hT hlk hw hS hX9 hc9 hv9 hcl9 (Nat.le_of_ble_eq_true rfl) (Nat.le_of_ble_eq_true rfl)) (fun ok_53 H locs hw hS => ?_)
  refine lv_goto (tgt := 167) hx hb dL_early_56 (by decide) ?_
  exact kx_retI hQ hx hb hr hlk hw hS (Nat.le_of_ble_eq_true rfl) (Nat.le_of_ble_eq_true rfl) dL_early_167 (kd_i (by first | (simp only [ok_53]; done) | (simp only [ok_53]; rfl) | (simp [ok_53]; done)) (rfl) (rfl))
set_option maxHeartbeats 4000000 in
set_option maxRecDepth 100000 in
theorem c_L_does_2 (l : Launch) (hfl : l.stackTraces = false) (D : va_G) (cy : Nat → ClassId) (base : Nat → Prop) (ad : Nat → Nat) (n nc : Nat) (g : sg) (a1 : Int32) (b1 : Int32) (c1 : Int32) : kM l yL_does wsL_does (kR 9 1 6) D cy base ad n nc g [.ref (ad 0), .int (2 : Int32), .int a1, .int b1, .int c1] (kD True (some (.int ((dF_2 n nc g a1 b1 c1).1))) ad n nc ((dF_2 n nc g a1 b1 c1).2)) kNo 1 6 := by
  refine kx_methH (cc := cL_does) (maxL := 6) (ret := (some .int)) (hh := [(0, 314, 315, 78), (0, 314, 320, 81), (0, 314, 325, 83)]) (by decide) rfl (Nat.le_of_ble_eq_true rfl) ?_
  intro p e s m args below meth c ls hx hb hr hml hown hts hlk hT hG hl Q H locs hQ hw hS
  have hl : lv_has ls 6 [(0, .ref (ad 0)), (1, .int (2 : Int32)), (2, .int a1), (3, .int b1), (4, .int c1)] := hl
  have hown : s.vm.findClass RL = some m.cls := hown
  have hF : CallFix p m c cL_does 6 s args wsL_does RL := ⟨hx, hb, hml, hown, hts⟩
  have hn30 : n ≤ 30 := hw.2.2.1
  have hc20 : nc ≤ 20 := hw.2.2.2
  have k_80 := hts (.constant RL 80 (-2100000000)) (by decide +kernel)
  refine lv_iload_n hx hb dL_does_0 rfl (lv_at hl 1 rfl) ?_
  refine lv_bipush (v := 10) hx hb dL_does_1 (by decide) ?_
  refine lv_icmp_ge (tgt := 18) hx hb dL_does_3 (by decide) (fun c => absurd c (by decide +kernel)) (fun _ => ?_)
  refine lv_aload_n hx hb dL_does_6 rfl (lv_at hl 0 rfl) ?_
  refine lv_iload_n hx hb dL_does_7 rfl (lv_at hl 1 rfl) ?_
  refine lv_iload_n hx hb dL_does_8 rfl (lv_at hl 2 rfl) ?_
  refine lv_iload_n hx hb dL_does_9 rfl (lv_at hl 3 rfl) ?_
  refine lv_iload hx hb dL_does_10 (lv_at hl 4 rfl) ?_
  refine kx_do (st1 := [.int (g 4 a1.toNatClampNeg)]) (kx_cs (As := [.ref (ad 0), .int (2 : Int32), .int a1, .int b1, .int c1]) (rest := []) hF hG hw hS hl.1 (c_L_early_2 l hfl D cy base ad n nc g a1 b1 c1 ) gL_does_L_early rfl rfl rfl hd_L_early ⟨Nat.le_of_ble_eq_true rfl, Nat.le_of_ble_eq_true rfl⟩ rfl rfl (Nat.le_of_ble_eq_true rfl) dL_does_12 ⟨Nat.le_of_ble_eq_true rfl, Nat.le_of_ble_eq_true rfl⟩) hS rfl (fun E9 ce9 q9 H1 locs1 hX9 hw1 hS1 hc9 hv9 hcl9 => ?_) (fun ok_12 H locs hw hS => ?_)
  · rcases hX9 with ⟨rfl, hk⟩ | ⟨rfl, hk⟩ | ⟨rfl, hk⟩
    · refine kx_cat0 hown hG hT ⟨by decide, by decide⟩ (by decide) mIO (hts (.classLink RL 78 "java/lang/IndexOutOfBoundsException") (by decide +kernel)) hc9 hv9 hcl9 ?_
      refine lv_astore (lv' := [(5, .ref q9), (0, .ref (ad 0)), (1, .int (2 : Int32)), (2, .int a1), (3, .int b1), (4, .int c1)]) hx hb dL_does_315 hl (by decide) rfl (fun ls hl => ?_)
      refine lv_ldc hx hb hown k_80 dL_does_317 ?_
      have hne : ¬ (kd2 (inn a1 0 7) (inn b1 1 400 && inn c1 0 50)) = 0 := fun q => by rw [q] at hk; revert hk; decide +kernel
      exact kx_retI hQ hx hb hr hlk hw1 hS1 (Nat.le_of_ble_eq_true rfl) (Nat.le_of_ble_eq_true rfl) dL_does_319 (kd_i trivial (congrArg Prod.fst (oR_n hne)) (congrArg Prod.snd (oR_n hne)))
    · refine kx_cat1 hown hG hT ⟨by decide, by decide⟩ (by decide) mIA (hts (.classLink RL 81 "java/lang/IllegalArgumentException") (by decide +kernel)) mIO nAO (by decide) (hts (.classLink RL 78 "java/lang/IndexOutOfBoundsException") (by decide +kernel)) hc9 hv9 hcl9 ?_
      refine lv_astore (lv' := [(5, .ref q9), (0, .ref (ad 0)), (1, .int (2 : Int32)), (2, .int a1), (3, .int b1), (4, .int c1)]) hx hb dL_does_320 hl (by decide) rfl (fun ls hl => ?_)
      refine lv_ldc hx hb hown k_80 dL_does_322 ?_
      have hne : ¬ (kd2 (inn a1 0 7) (inn b1 1 400 && inn c1 0 50)) = 0 := fun q => by rw [q] at hk; revert hk; decide +kernel
      exact kx_retI hQ hx hb hr hlk hw1 hS1 (Nat.le_of_ble_eq_true rfl) (Nat.le_of_ble_eq_true rfl) dL_does_324 (kd_i trivial (congrArg Prod.fst (oR_n hne)) (congrArg Prod.snd (oR_n hne)))
    · refine kx_cat2 hown hG hT ⟨by decide, by decide⟩ (by decide) mIS (hts (.classLink RL 83 "java/lang/IllegalStateException") (by decide +kernel)) mIO nSO (by decide) (hts (.classLink RL 78 "java/lang/IndexOutOfBoundsException") (by decide +kernel)) mIA nSA (by decide) (hts (.classLink RL 81 "java/lang/IllegalArgumentException") (by decide +kernel)) hc9 hv9 hcl9 ?_
      refine lv_astore (lv' := [(5, .ref q9), (0, .ref (ad 0)), (1, .int (2 : Int32)), (2, .int a1), (3, .int b1), (4, .int c1)]) hx hb dL_does_325 hl (by decide) rfl (fun ls hl => ?_)
      refine lv_ldc hx hb hown k_80 dL_does_327 ?_
      have hne : ¬ (kd2 (inn a1 0 7) (inn b1 1 400 && inn c1 0 50)) = 0 := fun q => by rw [q] at hk; revert hk; decide +kernel
      exact kx_retI hQ hx hb hr hlk hw1 hS1 (Nat.le_of_ble_eq_true rfl) (Nat.le_of_ble_eq_true rfl) dL_does_329 (kd_i trivial (congrArg Prod.fst (oR_n hne)) (congrArg Prod.snd (oR_n hne)))
  · refine lv_goto (tgt := 314) hx hb dL_does_15 (by decide) ?_
    exact kx_retI hQ hx hb hr hlk hw hS (Nat.le_of_ble_eq_true rfl) (Nat.le_of_ble_eq_true rfl) dL_does_314 (kd_i (trivial) (congrArg Prod.fst (oR_y ok_12)) (congrArg Prod.snd (oR_y ok_12)))
set_option maxHeartbeats 4000000 in
set_option maxRecDepth 100000 in
theorem c_L_early_3 (l : Launch) (hfl : l.stackTraces = false) (D : va_G) (cy : Nat → ClassId) (base : Nat → Prop) (ad : Nat → Nat) (n nc : Nat) (g : sg) (a1 : Int32) (b1 : Int32) (c1 : Int32) (hs : ∀ t, t < 4 → sB (g 3 t)) : kM l yL_early wsL_early (kR 8 2 12) D cy base ad n nc g [.ref (ad 0), .int (3 : Int32), .int a1, .int b1, .int c1] (kD (kd2 (inn a1 0 3 && inn b1 0 5) (!bq (g 3 a1.toNatClampNeg) b1) = 0) (some (.int (bits (g 3 a1.toNatClampNeg ||| ((1 : Int32) <<< (b1 &&& 31)))))) ad n nc (sU g 3 a1.toNatClampNeg (g 3 a1.toNatClampNeg ||| ((1 : Int32) <<< (b1 &&& 31))))) (kEx (e13 (kd2 (inn a1 0 3 && inn b1 0 5) (!bq (g 3 a1.toNatClampNeg) b1)))) 2 12 := by
  refine kx_meth (cc := cL_early) (maxL := 5) (ret := (some .int)) (by decide) rfl (Nat.le_of_ble_eq_true rfl) ?_
  intro p e s m args below meth c ls hx hb hr hml hown hts hlk hT hG hw0 hS0 hl Q H locs hQ hw hS hH0 hlocs0
  have hl : lv_has ls 5 [(0, .ref (ad 0)), (1, .int (3 : Int32)), (2, .int a1), (3, .int b1), (4, .int c1)] := hl
  have hown : s.vm.findClass RL = some m.cls := hown
  have hF : CallFix p m c cL_early 5 s args wsL_early RL := ⟨hx, hb, hml, hown, hts⟩
  have hn30 : n ≤ 30 := hw.2.2.1
  have hc20 : nc ≤ 20 := hw.2.2.2
  clear hw0 hS0 hH0 hlocs0
  refine lv_iload_n hx hb dL_early_0 rfl (lv_at hl 1 rfl) ?_
  refine lv_if_ne (tgt := 21) hx hb dL_early_1 (by decide) (fun _ => ?_) (fun c => absurd c (by decide +kernel))
  refine lv_iload_n hx hb dL_early_21 rfl (lv_at hl 1 rfl) ?_
  refine lv_iconst (v := 1) hx hb dL_early_22 (by decide) ?_
  refine lv_icmp_ne (tgt := 43) hx hb dL_early_23 (by decide) (fun _ => ?_) (fun c => absurd c (by decide +kernel))
  refine lv_iload_n hx hb dL_early_43 rfl (lv_at hl 1 rfl) ?_
  refine lv_iconst (v := 2) hx hb dL_early_44 (by decide) ?_
  refine lv_icmp_ne (tgt := 59) hx hb dL_early_45 (by decide) (fun _ => ?_) (fun c => absurd c (by decide +kernel))
  refine lv_iload_n hx hb dL_early_59 rfl (lv_at hl 1 rfl) ?_
  refine lv_iconst (v := 3) hx hb dL_early_60 (by decide) ?_
  refine lv_icmp_ne (tgt := 73) hx hb dL_early_61 (by decide) (fun c => absurd (by decide +kernel) c) (fun _ => ?_)
  refine lv_aload_n hx hb dL_early_64 rfl (lv_at hl 0 rfl) ?_
  refine lv_iload_n hx hb dL_early_65 rfl (lv_at hl 2 rfl) ?_
  refine lv_iload_n hx hb dL_early_66 rfl (lv_at hl 3 rfl) ?_
  refine kx_do (st1 := [.int (bits (g 3 a1.toNatClampNeg ||| ((1 : Int32) <<< (b1 &&& 31))))]) (kx_cv (As := [.int a1, .int b1]) (rest := []) hF hG hw hS hl.1 kC_0 rfl (c_X2_stop l hfl D cy base ad n nc g a1 b1 (by first | assumption | omega | exact mR_9 (by assumption) _ _ | simp [sU, hs])) gL_early_X2_stop rfl rfl rfl hd_X2_stop ⟨Nat.le_of_ble_eq_true rfl, Nat.le_of_ble_eq_true rfl⟩ rfl rfl (Nat.le_of_ble_eq_true rfl) dL_early_67 ⟨Nat.le_of_ble_eq_true rfl, Nat.le_of_ble_eq_true rfl⟩) hS rfl (fun E9 ce9 q9 H locs hX9 hw hS hc9 hv9 hcl9 => kx_out hQ hT hlk hw hS hX9 hc9 hv9 hcl9 (Nat.le_of_ble_eq_true rfl) (Nat.le_of_ble_eq_true rfl)) (fun ok_67 H locs hw hS => ?_)
  refine lv_goto (tgt := 167) hx hb dL_early_70 (by decide) ?_
  exact kx_retI hQ hx hb hr hlk hw hS (Nat.le_of_ble_eq_true rfl) (Nat.le_of_ble_eq_true rfl) dL_early_167 (kd_i (by first | (simp only [ok_67]; done) | (simp only [ok_67]; rfl) | (simp [ok_67]; done)) (rfl) (rfl))
set_option maxHeartbeats 4000000 in
set_option maxRecDepth 100000 in
theorem c_L_does_3 (l : Launch) (hfl : l.stackTraces = false) (D : va_G) (cy : Nat → ClassId) (base : Nat → Prop) (ad : Nat → Nat) (n nc : Nat) (g : sg) (a1 : Int32) (b1 : Int32) (c1 : Int32) (hs : ∀ t, t < 4 → sB (g 3 t)) : kM l yL_does wsL_does (kR 9 2 12) D cy base ad n nc g [.ref (ad 0), .int (3 : Int32), .int a1, .int b1, .int c1] (kD True (some (.int ((dF_3 n nc g a1 b1).1))) ad n nc ((dF_3 n nc g a1 b1).2)) kNo 2 12 := by
  refine kx_methH (cc := cL_does) (maxL := 6) (ret := (some .int)) (hh := [(0, 314, 315, 78), (0, 314, 320, 81), (0, 314, 325, 83)]) (by decide) rfl (Nat.le_of_ble_eq_true rfl) ?_
  intro p e s m args below meth c ls hx hb hr hml hown hts hlk hT hG hl Q H locs hQ hw hS
  have hl : lv_has ls 6 [(0, .ref (ad 0)), (1, .int (3 : Int32)), (2, .int a1), (3, .int b1), (4, .int c1)] := hl
  have hown : s.vm.findClass RL = some m.cls := hown
  have hF : CallFix p m c cL_does 6 s args wsL_does RL := ⟨hx, hb, hml, hown, hts⟩
  have hn30 : n ≤ 30 := hw.2.2.1
  have hc20 : nc ≤ 20 := hw.2.2.2
  have k_80 := hts (.constant RL 80 (-2100000000)) (by decide +kernel)
  refine lv_iload_n hx hb dL_does_0 rfl (lv_at hl 1 rfl) ?_
  refine lv_bipush (v := 10) hx hb dL_does_1 (by decide) ?_
  refine lv_icmp_ge (tgt := 18) hx hb dL_does_3 (by decide) (fun c => absurd c (by decide +kernel)) (fun _ => ?_)
  refine lv_aload_n hx hb dL_does_6 rfl (lv_at hl 0 rfl) ?_
  refine lv_iload_n hx hb dL_does_7 rfl (lv_at hl 1 rfl) ?_
  refine lv_iload_n hx hb dL_does_8 rfl (lv_at hl 2 rfl) ?_
  refine lv_iload_n hx hb dL_does_9 rfl (lv_at hl 3 rfl) ?_
  refine lv_iload hx hb dL_does_10 (lv_at hl 4 rfl) ?_
  refine kx_do (st1 := [.int (bits (g 3 a1.toNatClampNeg ||| ((1 : Int32) <<< (b1 &&& 31))))]) (kx_cs (As := [.ref (ad 0), .int (3 : Int32), .int a1, .int b1, .int c1]) (rest := []) hF hG hw hS hl.1 (c_L_early_3 l hfl D cy base ad n nc g a1 b1 c1 (by first | assumption | omega | exact mR_9 (by assumption) _ _ | simp [sU, hs])) gL_does_L_early rfl rfl rfl hd_L_early ⟨Nat.le_of_ble_eq_true rfl, Nat.le_of_ble_eq_true rfl⟩ rfl rfl (Nat.le_of_ble_eq_true rfl) dL_does_12 ⟨Nat.le_of_ble_eq_true rfl, Nat.le_of_ble_eq_true rfl⟩) hS rfl (fun E9 ce9 q9 H1 locs1 hX9 hw1 hS1 hc9 hv9 hcl9 => ?_) (fun ok_12 H locs hw hS => ?_)
  · rcases hX9 with ⟨rfl, hk⟩ | ⟨rfl, hk⟩ | ⟨rfl, hk⟩
    · refine kx_cat0 hown hG hT ⟨by decide, by decide⟩ (by decide) mIO (hts (.classLink RL 78 "java/lang/IndexOutOfBoundsException") (by decide +kernel)) hc9 hv9 hcl9 ?_
      refine lv_astore (lv' := [(5, .ref q9), (0, .ref (ad 0)), (1, .int (3 : Int32)), (2, .int a1), (3, .int b1), (4, .int c1)]) hx hb dL_does_315 hl (by decide) rfl (fun ls hl => ?_)
      refine lv_ldc hx hb hown k_80 dL_does_317 ?_
      have hne : ¬ (kd2 (inn a1 0 3 && inn b1 0 5) (!bq (g 3 a1.toNatClampNeg) b1)) = 0 := fun q => by rw [q] at hk; revert hk; decide +kernel
      exact kx_retI hQ hx hb hr hlk hw1 hS1 (Nat.le_of_ble_eq_true rfl) (Nat.le_of_ble_eq_true rfl) dL_does_319 (kd_i trivial (congrArg Prod.fst (oR_n hne)) (congrArg Prod.snd (oR_n hne)))
    · refine kx_cat1 hown hG hT ⟨by decide, by decide⟩ (by decide) mIA (hts (.classLink RL 81 "java/lang/IllegalArgumentException") (by decide +kernel)) mIO nAO (by decide) (hts (.classLink RL 78 "java/lang/IndexOutOfBoundsException") (by decide +kernel)) hc9 hv9 hcl9 ?_
      refine lv_astore (lv' := [(5, .ref q9), (0, .ref (ad 0)), (1, .int (3 : Int32)), (2, .int a1), (3, .int b1), (4, .int c1)]) hx hb dL_does_320 hl (by decide) rfl (fun ls hl => ?_)
      refine lv_ldc hx hb hown k_80 dL_does_322 ?_
      have hne : ¬ (kd2 (inn a1 0 3 && inn b1 0 5) (!bq (g 3 a1.toNatClampNeg) b1)) = 0 := fun q => by rw [q] at hk; revert hk; decide +kernel
      exact kx_retI hQ hx hb hr hlk hw1 hS1 (Nat.le_of_ble_eq_true rfl) (Nat.le_of_ble_eq_true rfl) dL_does_324 (kd_i trivial (congrArg Prod.fst (oR_n hne)) (congrArg Prod.snd (oR_n hne)))
    · refine kx_cat2 hown hG hT ⟨by decide, by decide⟩ (by decide) mIS (hts (.classLink RL 83 "java/lang/IllegalStateException") (by decide +kernel)) mIO nSO (by decide) (hts (.classLink RL 78 "java/lang/IndexOutOfBoundsException") (by decide +kernel)) mIA nSA (by decide) (hts (.classLink RL 81 "java/lang/IllegalArgumentException") (by decide +kernel)) hc9 hv9 hcl9 ?_
      refine lv_astore (lv' := [(5, .ref q9), (0, .ref (ad 0)), (1, .int (3 : Int32)), (2, .int a1), (3, .int b1), (4, .int c1)]) hx hb dL_does_325 hl (by decide) rfl (fun ls hl => ?_)
      refine lv_ldc hx hb hown k_80 dL_does_327 ?_
      have hne : ¬ (kd2 (inn a1 0 3 && inn b1 0 5) (!bq (g 3 a1.toNatClampNeg) b1)) = 0 := fun q => by rw [q] at hk; revert hk; decide +kernel
      exact kx_retI hQ hx hb hr hlk hw1 hS1 (Nat.le_of_ble_eq_true rfl) (Nat.le_of_ble_eq_true rfl) dL_does_329 (kd_i trivial (congrArg Prod.fst (oR_n hne)) (congrArg Prod.snd (oR_n hne)))
  · refine lv_goto (tgt := 314) hx hb dL_does_15 (by decide) ?_
    exact kx_retI hQ hx hb hr hlk hw hS (Nat.le_of_ble_eq_true rfl) (Nat.le_of_ble_eq_true rfl) dL_does_314 (kd_i (trivial) (congrArg Prod.fst (oR_y ok_12)) (congrArg Prod.snd (oR_y ok_12)))
set_option maxHeartbeats 4000000 in
set_option maxRecDepth 100000 in
theorem c_L_early_4 (l : Launch) (hfl : l.stackTraces = false) (D : va_G) (cy : Nat → ClassId) (base : Nat → Prop) (ad : Nat → Nat) (n nc : Nat) (g : sg) (a1 : Int32) (b1 : Int32) (c1 : Int32) : kM l yL_early wsL_early (kR 8 1 6) D cy base ad n nc g [.ref (ad 0), .int (4 : Int32), .int a1, .int b1, .int c1] (kD (kd1 (inn a1 1 200) = 0) (some (.int (g 0 11))) ad n nc (sU g 0 11 a1)) (kEx (e2 (kd1 (inn a1 1 200)))) 1 6 := by
  refine kx_meth (cc := cL_early) (maxL := 5) (ret := (some .int)) (by decide) rfl (Nat.le_of_ble_eq_true rfl) ?_
  intro p e s m args below meth c ls hx hb hr hml hown hts hlk hT hG hw0 hS0 hl Q H locs hQ hw hS hH0 hlocs0
  have hl : lv_has ls 5 [(0, .ref (ad 0)), (1, .int (4 : Int32)), (2, .int a1), (3, .int b1), (4, .int c1)] := hl
  have hown : s.vm.findClass RL = some m.cls := hown
  have hF : CallFix p m c cL_early 5 s args wsL_early RL := ⟨hx, hb, hml, hown, hts⟩
  have hn30 : n ≤ 30 := hw.2.2.1
  have hc20 : nc ≤ 20 := hw.2.2.2
  clear hw0 hS0 hH0 hlocs0
  refine lv_iload_n hx hb dL_early_0 rfl (lv_at hl 1 rfl) ?_
  refine lv_if_ne (tgt := 21) hx hb dL_early_1 (by decide) (fun _ => ?_) (fun c => absurd c (by decide +kernel))
  refine lv_iload_n hx hb dL_early_21 rfl (lv_at hl 1 rfl) ?_
  refine lv_iconst (v := 1) hx hb dL_early_22 (by decide) ?_
  refine lv_icmp_ne (tgt := 43) hx hb dL_early_23 (by decide) (fun _ => ?_) (fun c => absurd c (by decide +kernel))
  refine lv_iload_n hx hb dL_early_43 rfl (lv_at hl 1 rfl) ?_
  refine lv_iconst (v := 2) hx hb dL_early_44 (by decide) ?_
  refine lv_icmp_ne (tgt := 59) hx hb dL_early_45 (by decide) (fun _ => ?_) (fun c => absurd c (by decide +kernel))
  refine lv_iload_n hx hb dL_early_59 rfl (lv_at hl 1 rfl) ?_
  refine lv_iconst (v := 3) hx hb dL_early_60 (by decide) ?_
  refine lv_icmp_ne (tgt := 73) hx hb dL_early_61 (by decide) (fun _ => ?_) (fun c => absurd c (by decide +kernel))
  refine lv_iload_n hx hb dL_early_73 rfl (lv_at hl 1 rfl) ?_
  refine lv_iconst (v := 4) hx hb dL_early_74 (by decide) ?_
  refine lv_icmp_ne (tgt := 86) hx hb dL_early_75 (by decide) (fun c => absurd (by decide +kernel) c) (fun _ => ?_)
  refine lv_aload_n hx hb dL_early_78 rfl (lv_at hl 0 rfl) ?_
  refine lv_iload_n hx hb dL_early_79 rfl (lv_at hl 2 rfl) ?_
  refine kx_do (st1 := [.int (g 0 11)]) (kx_cv (As := [.int a1]) (rest := []) hF hG hw hS hl.1 kC_0 rfl (c_X2_threshold l hfl D cy base ad n nc g a1 ) gL_early_X2_threshold rfl rfl rfl hd_X2_threshold ⟨Nat.le_of_ble_eq_true rfl, Nat.le_of_ble_eq_true rfl⟩ rfl rfl (Nat.le_of_ble_eq_true rfl) dL_early_80 ⟨Nat.le_of_ble_eq_true rfl, Nat.le_of_ble_eq_true rfl⟩) hS rfl (fun E9 ce9 q9 H locs hX9 hw hS hc9 hv9 hcl9 => kx_out hQ hT hlk hw hS hX9 hc9 hv9 hcl9 (Nat.le_of_ble_eq_true rfl) (Nat.le_of_ble_eq_true rfl)) (fun ok_80 H locs hw hS => ?_)
  refine lv_goto (tgt := 167) hx hb dL_early_83 (by decide) ?_
  exact kx_retI hQ hx hb hr hlk hw hS (Nat.le_of_ble_eq_true rfl) (Nat.le_of_ble_eq_true rfl) dL_early_167 (kd_i (by first | (simp only [ok_80]; done) | (simp only [ok_80]; rfl) | (simp [ok_80]; done)) (rfl) (rfl))
set_option maxHeartbeats 4000000 in
set_option maxRecDepth 100000 in
theorem c_L_does_4 (l : Launch) (hfl : l.stackTraces = false) (D : va_G) (cy : Nat → ClassId) (base : Nat → Prop) (ad : Nat → Nat) (n nc : Nat) (g : sg) (a1 : Int32) (b1 : Int32) (c1 : Int32) : kM l yL_does wsL_does (kR 9 1 6) D cy base ad n nc g [.ref (ad 0), .int (4 : Int32), .int a1, .int b1, .int c1] (kD True (some (.int ((dF_4 n nc g a1).1))) ad n nc ((dF_4 n nc g a1).2)) kNo 1 6 := by
  refine kx_methH (cc := cL_does) (maxL := 6) (ret := (some .int)) (hh := [(0, 314, 315, 78), (0, 314, 320, 81), (0, 314, 325, 83)]) (by decide) rfl (Nat.le_of_ble_eq_true rfl) ?_
  intro p e s m args below meth c ls hx hb hr hml hown hts hlk hT hG hl Q H locs hQ hw hS
  have hl : lv_has ls 6 [(0, .ref (ad 0)), (1, .int (4 : Int32)), (2, .int a1), (3, .int b1), (4, .int c1)] := hl
  have hown : s.vm.findClass RL = some m.cls := hown
  have hF : CallFix p m c cL_does 6 s args wsL_does RL := ⟨hx, hb, hml, hown, hts⟩
  have hn30 : n ≤ 30 := hw.2.2.1
  have hc20 : nc ≤ 20 := hw.2.2.2
  have k_80 := hts (.constant RL 80 (-2100000000)) (by decide +kernel)
  refine lv_iload_n hx hb dL_does_0 rfl (lv_at hl 1 rfl) ?_
  refine lv_bipush (v := 10) hx hb dL_does_1 (by decide) ?_
  refine lv_icmp_ge (tgt := 18) hx hb dL_does_3 (by decide) (fun c => absurd c (by decide +kernel)) (fun _ => ?_)
  refine lv_aload_n hx hb dL_does_6 rfl (lv_at hl 0 rfl) ?_
  refine lv_iload_n hx hb dL_does_7 rfl (lv_at hl 1 rfl) ?_
  refine lv_iload_n hx hb dL_does_8 rfl (lv_at hl 2 rfl) ?_
  refine lv_iload_n hx hb dL_does_9 rfl (lv_at hl 3 rfl) ?_
  refine lv_iload hx hb dL_does_10 (lv_at hl 4 rfl) ?_
  refine kx_do (st1 := [.int (g 0 11)]) (kx_cs (As := [.ref (ad 0), .int (4 : Int32), .int a1, .int b1, .int c1]) (rest := []) hF hG hw hS hl.1 (c_L_early_4 l hfl D cy base ad n nc g a1 b1 c1 ) gL_does_L_early rfl rfl rfl hd_L_early ⟨Nat.le_of_ble_eq_true rfl, Nat.le_of_ble_eq_true rfl⟩ rfl rfl (Nat.le_of_ble_eq_true rfl) dL_does_12 ⟨Nat.le_of_ble_eq_true rfl, Nat.le_of_ble_eq_true rfl⟩) hS rfl (fun E9 ce9 q9 H1 locs1 hX9 hw1 hS1 hc9 hv9 hcl9 => ?_) (fun ok_12 H locs hw hS => ?_)
  · rcases hX9 with ⟨rfl, hk⟩ | ⟨rfl, hk⟩ | ⟨rfl, hk⟩
    · refine kx_cat0 hown hG hT ⟨by decide, by decide⟩ (by decide) mIO (hts (.classLink RL 78 "java/lang/IndexOutOfBoundsException") (by decide +kernel)) hc9 hv9 hcl9 ?_
      refine lv_astore (lv' := [(5, .ref q9), (0, .ref (ad 0)), (1, .int (4 : Int32)), (2, .int a1), (3, .int b1), (4, .int c1)]) hx hb dL_does_315 hl (by decide) rfl (fun ls hl => ?_)
      refine lv_ldc hx hb hown k_80 dL_does_317 ?_
      have hne : ¬ (kd1 (inn a1 1 200)) = 0 := fun q => by rw [q] at hk; revert hk; decide +kernel
      exact kx_retI hQ hx hb hr hlk hw1 hS1 (Nat.le_of_ble_eq_true rfl) (Nat.le_of_ble_eq_true rfl) dL_does_319 (kd_i trivial (congrArg Prod.fst (oR_n hne)) (congrArg Prod.snd (oR_n hne)))
    · refine kx_cat1 hown hG hT ⟨by decide, by decide⟩ (by decide) mIA (hts (.classLink RL 81 "java/lang/IllegalArgumentException") (by decide +kernel)) mIO nAO (by decide) (hts (.classLink RL 78 "java/lang/IndexOutOfBoundsException") (by decide +kernel)) hc9 hv9 hcl9 ?_
      refine lv_astore (lv' := [(5, .ref q9), (0, .ref (ad 0)), (1, .int (4 : Int32)), (2, .int a1), (3, .int b1), (4, .int c1)]) hx hb dL_does_320 hl (by decide) rfl (fun ls hl => ?_)
      refine lv_ldc hx hb hown k_80 dL_does_322 ?_
      have hne : ¬ (kd1 (inn a1 1 200)) = 0 := fun q => by rw [q] at hk; revert hk; decide +kernel
      exact kx_retI hQ hx hb hr hlk hw1 hS1 (Nat.le_of_ble_eq_true rfl) (Nat.le_of_ble_eq_true rfl) dL_does_324 (kd_i trivial (congrArg Prod.fst (oR_n hne)) (congrArg Prod.snd (oR_n hne)))
    · refine kx_cat2 hown hG hT ⟨by decide, by decide⟩ (by decide) mIS (hts (.classLink RL 83 "java/lang/IllegalStateException") (by decide +kernel)) mIO nSO (by decide) (hts (.classLink RL 78 "java/lang/IndexOutOfBoundsException") (by decide +kernel)) mIA nSA (by decide) (hts (.classLink RL 81 "java/lang/IllegalArgumentException") (by decide +kernel)) hc9 hv9 hcl9 ?_
      refine lv_astore (lv' := [(5, .ref q9), (0, .ref (ad 0)), (1, .int (4 : Int32)), (2, .int a1), (3, .int b1), (4, .int c1)]) hx hb dL_does_325 hl (by decide) rfl (fun ls hl => ?_)
      refine lv_ldc hx hb hown k_80 dL_does_327 ?_
      have hne : ¬ (kd1 (inn a1 1 200)) = 0 := fun q => by rw [q] at hk; revert hk; decide +kernel
      exact kx_retI hQ hx hb hr hlk hw1 hS1 (Nat.le_of_ble_eq_true rfl) (Nat.le_of_ble_eq_true rfl) dL_does_329 (kd_i trivial (congrArg Prod.fst (oR_n hne)) (congrArg Prod.snd (oR_n hne)))
  · refine lv_goto (tgt := 314) hx hb dL_does_15 (by decide) ?_
    exact kx_retI hQ hx hb hr hlk hw hS (Nat.le_of_ble_eq_true rfl) (Nat.le_of_ble_eq_true rfl) dL_does_314 (kd_i (trivial) (congrArg Prod.fst (oR_y ok_12)) (congrArg Prod.snd (oR_y ok_12)))
set_option maxHeartbeats 4000000 in
set_option maxRecDepth 100000 in
theorem c_L_early_5 (l : Launch) (hfl : l.stackTraces = false) (D : va_G) (cy : Nat → ClassId) (base : Nat → Prop) (ad : Nat → Nat) (n nc : Nat) (g : sg) (a1 : Int32) (b1 : Int32) (c1 : Int32) (hfr : ∀ j, j < 30 → g 6 j = if j < n then 1 else 0) (hR : cR n nc g) : kM l yL_early wsL_early (kR 8 3 18) D cy base ad n nc g [.ref (ad 0), .int (5 : Int32), .int a1, .int b1, .int c1] (kD (kd3 (isF n a1) (inn b1 0 16777215 && decide ((b1 &&& g (100 + 3 * a1.toNatClampNeg) 3) = 0)) (decide (g (100 + 3 * a1.toNatClampNeg) 9 = 0)) = 0) (some (.int (bits (g (100 + 3 * a1.toNatClampNeg) 8 ||| b1)))) ad n nc (sU g (100 + 3 * a1.toNatClampNeg) 8 (g (100 + 3 * a1.toNatClampNeg) 8 ||| b1))) (kEx (kd3 (isF n a1) (inn b1 0 16777215 && decide ((b1 &&& g (100 + 3 * a1.toNatClampNeg) 3) = 0)) (decide (g (100 + 3 * a1.toNatClampNeg) 9 = 0)))) 3 18 := by
  refine kx_meth (cc := cL_early) (maxL := 5) (ret := (some .int)) (by decide) rfl (Nat.le_of_ble_eq_true rfl) ?_
  intro p e s m args below meth c ls hx hb hr hml hown hts hlk hT hG hw0 hS0 hl Q H locs hQ hw hS hH0 hlocs0
  have hl : lv_has ls 5 [(0, .ref (ad 0)), (1, .int (5 : Int32)), (2, .int a1), (3, .int b1), (4, .int c1)] := hl
  have hown : s.vm.findClass RL = some m.cls := hown
  have hF : CallFix p m c cL_early 5 s args wsL_early RL := ⟨hx, hb, hml, hown, hts⟩
  have hn30 : n ≤ 30 := hw.2.2.1
  have hc20 : nc ≤ 20 := hw.2.2.2
  clear hw0 hS0 hH0 hlocs0
  refine lv_iload_n hx hb dL_early_0 rfl (lv_at hl 1 rfl) ?_
  refine lv_if_ne (tgt := 21) hx hb dL_early_1 (by decide) (fun _ => ?_) (fun c => absurd c (by decide +kernel))
  refine lv_iload_n hx hb dL_early_21 rfl (lv_at hl 1 rfl) ?_
  refine lv_iconst (v := 1) hx hb dL_early_22 (by decide) ?_
  refine lv_icmp_ne (tgt := 43) hx hb dL_early_23 (by decide) (fun _ => ?_) (fun c => absurd c (by decide +kernel))
  refine lv_iload_n hx hb dL_early_43 rfl (lv_at hl 1 rfl) ?_
  refine lv_iconst (v := 2) hx hb dL_early_44 (by decide) ?_
  refine lv_icmp_ne (tgt := 59) hx hb dL_early_45 (by decide) (fun _ => ?_) (fun c => absurd c (by decide +kernel))
  refine lv_iload_n hx hb dL_early_59 rfl (lv_at hl 1 rfl) ?_
  refine lv_iconst (v := 3) hx hb dL_early_60 (by decide) ?_
  refine lv_icmp_ne (tgt := 73) hx hb dL_early_61 (by decide) (fun _ => ?_) (fun c => absurd c (by decide +kernel))
  refine lv_iload_n hx hb dL_early_73 rfl (lv_at hl 1 rfl) ?_
  refine lv_iconst (v := 4) hx hb dL_early_74 (by decide) ?_
  refine lv_icmp_ne (tgt := 86) hx hb dL_early_75 (by decide) (fun _ => ?_) (fun c => absurd c (by decide +kernel))
  refine lv_iload_n hx hb dL_early_86 rfl (lv_at hl 1 rfl) ?_
  refine lv_iconst (v := 5) hx hb dL_early_87 (by decide) ?_
  refine lv_icmp_ne (tgt := 100) hx hb dL_early_88 (by decide) (fun c => absurd (by decide +kernel) c) (fun _ => ?_)
  refine lv_aload_n hx hb dL_early_91 rfl (lv_at hl 0 rfl) ?_
  refine lv_iload_n hx hb dL_early_92 rfl (lv_at hl 2 rfl) ?_
  refine lv_iload_n hx hb dL_early_93 rfl (lv_at hl 3 rfl) ?_
  refine kx_do (st1 := [.int (bits (g (100 + 3 * a1.toNatClampNeg) 8 ||| b1))]) (kx_cv (As := [.int a1, .int b1]) (rest := []) hF hG hw hS hl.1 kC_0 rfl (c_X2_see l hfl D cy base ad n nc g a1 b1 (by first | assumption | omega | exact mR_9 (by assumption) _ _ | simp [sU, hfr, hR]) (by first | assumption | omega | exact mR_9 (by assumption) _ _ | simp [sU, hfr, hR])) gL_early_X2_see rfl rfl rfl hd_X2_see ⟨Nat.le_of_ble_eq_true rfl, Nat.le_of_ble_eq_true rfl⟩ rfl rfl (Nat.le_of_ble_eq_true rfl) dL_early_94 ⟨Nat.le_of_ble_eq_true rfl, Nat.le_of_ble_eq_true rfl⟩) hS rfl (fun E9 ce9 q9 H locs hX9 hw hS hc9 hv9 hcl9 => kx_out hQ hT hlk hw hS hX9 hc9 hv9 hcl9 (Nat.le_of_ble_eq_true rfl) (Nat.le_of_ble_eq_true rfl)) (fun ok_94 H locs hw hS => ?_)
  refine lv_goto (tgt := 167) hx hb dL_early_97 (by decide) ?_
  exact kx_retI hQ hx hb hr hlk hw hS (Nat.le_of_ble_eq_true rfl) (Nat.le_of_ble_eq_true rfl) dL_early_167 (kd_i (by first | (simp only [ok_94]; done) | (simp only [ok_94]; rfl) | (simp [ok_94]; done)) (rfl) (rfl))
set_option maxHeartbeats 4000000 in
set_option maxRecDepth 100000 in
theorem c_L_does_5 (l : Launch) (hfl : l.stackTraces = false) (D : va_G) (cy : Nat → ClassId) (base : Nat → Prop) (ad : Nat → Nat) (n nc : Nat) (g : sg) (a1 : Int32) (b1 : Int32) (c1 : Int32) (hfr : ∀ j, j < 30 → g 6 j = if j < n then 1 else 0) (hR : cR n nc g) : kM l yL_does wsL_does (kR 9 3 18) D cy base ad n nc g [.ref (ad 0), .int (5 : Int32), .int a1, .int b1, .int c1] (kD True (some (.int ((dF_5 n nc g a1 b1).1))) ad n nc ((dF_5 n nc g a1 b1).2)) kNo 3 18 := by
  refine kx_methH (cc := cL_does) (maxL := 6) (ret := (some .int)) (hh := [(0, 314, 315, 78), (0, 314, 320, 81), (0, 314, 325, 83)]) (by decide) rfl (Nat.le_of_ble_eq_true rfl) ?_
  intro p e s m args below meth c ls hx hb hr hml hown hts hlk hT hG hl Q H locs hQ hw hS
  have hl : lv_has ls 6 [(0, .ref (ad 0)), (1, .int (5 : Int32)), (2, .int a1), (3, .int b1), (4, .int c1)] := hl
  have hown : s.vm.findClass RL = some m.cls := hown
  have hF : CallFix p m c cL_does 6 s args wsL_does RL := ⟨hx, hb, hml, hown, hts⟩
  have hn30 : n ≤ 30 := hw.2.2.1
  have hc20 : nc ≤ 20 := hw.2.2.2
  have k_80 := hts (.constant RL 80 (-2100000000)) (by decide +kernel)
  refine lv_iload_n hx hb dL_does_0 rfl (lv_at hl 1 rfl) ?_
  refine lv_bipush (v := 10) hx hb dL_does_1 (by decide) ?_
  refine lv_icmp_ge (tgt := 18) hx hb dL_does_3 (by decide) (fun c => absurd c (by decide +kernel)) (fun _ => ?_)
  refine lv_aload_n hx hb dL_does_6 rfl (lv_at hl 0 rfl) ?_
  refine lv_iload_n hx hb dL_does_7 rfl (lv_at hl 1 rfl) ?_
  refine lv_iload_n hx hb dL_does_8 rfl (lv_at hl 2 rfl) ?_
  refine lv_iload_n hx hb dL_does_9 rfl (lv_at hl 3 rfl) ?_
  refine lv_iload hx hb dL_does_10 (lv_at hl 4 rfl) ?_
  refine kx_do (st1 := [.int (bits (g (100 + 3 * a1.toNatClampNeg) 8 ||| b1))]) (kx_cs (As := [.ref (ad 0), .int (5 : Int32), .int a1, .int b1, .int c1]) (rest := []) hF hG hw hS hl.1 (c_L_early_5 l hfl D cy base ad n nc g a1 b1 c1 (by first | assumption | omega | exact mR_9 (by assumption) _ _ | simp [sU, hfr, hR]) (by first | assumption | omega | exact mR_9 (by assumption) _ _ | simp [sU, hfr, hR])) gL_does_L_early rfl rfl rfl hd_L_early ⟨Nat.le_of_ble_eq_true rfl, Nat.le_of_ble_eq_true rfl⟩ rfl rfl (Nat.le_of_ble_eq_true rfl) dL_does_12 ⟨Nat.le_of_ble_eq_true rfl, Nat.le_of_ble_eq_true rfl⟩) hS rfl (fun E9 ce9 q9 H1 locs1 hX9 hw1 hS1 hc9 hv9 hcl9 => ?_) (fun ok_12 H locs hw hS => ?_)
  · rcases hX9 with ⟨rfl, hk⟩ | ⟨rfl, hk⟩ | ⟨rfl, hk⟩
    · refine kx_cat0 hown hG hT ⟨by decide, by decide⟩ (by decide) mIO (hts (.classLink RL 78 "java/lang/IndexOutOfBoundsException") (by decide +kernel)) hc9 hv9 hcl9 ?_
      refine lv_astore (lv' := [(5, .ref q9), (0, .ref (ad 0)), (1, .int (5 : Int32)), (2, .int a1), (3, .int b1), (4, .int c1)]) hx hb dL_does_315 hl (by decide) rfl (fun ls hl => ?_)
      refine lv_ldc hx hb hown k_80 dL_does_317 ?_
      have hne : ¬ (kd3 (isF n a1) (inn b1 0 16777215 && decide ((b1 &&& g (100 + 3 * a1.toNatClampNeg) 3) = 0)) (decide (g (100 + 3 * a1.toNatClampNeg) 9 = 0))) = 0 := fun q => by rw [q] at hk; revert hk; decide +kernel
      exact kx_retI hQ hx hb hr hlk hw1 hS1 (Nat.le_of_ble_eq_true rfl) (Nat.le_of_ble_eq_true rfl) dL_does_319 (kd_i trivial (congrArg Prod.fst (oR_n hne)) (congrArg Prod.snd (oR_n hne)))
    · refine kx_cat1 hown hG hT ⟨by decide, by decide⟩ (by decide) mIA (hts (.classLink RL 81 "java/lang/IllegalArgumentException") (by decide +kernel)) mIO nAO (by decide) (hts (.classLink RL 78 "java/lang/IndexOutOfBoundsException") (by decide +kernel)) hc9 hv9 hcl9 ?_
      refine lv_astore (lv' := [(5, .ref q9), (0, .ref (ad 0)), (1, .int (5 : Int32)), (2, .int a1), (3, .int b1), (4, .int c1)]) hx hb dL_does_320 hl (by decide) rfl (fun ls hl => ?_)
      refine lv_ldc hx hb hown k_80 dL_does_322 ?_
      have hne : ¬ (kd3 (isF n a1) (inn b1 0 16777215 && decide ((b1 &&& g (100 + 3 * a1.toNatClampNeg) 3) = 0)) (decide (g (100 + 3 * a1.toNatClampNeg) 9 = 0))) = 0 := fun q => by rw [q] at hk; revert hk; decide +kernel
      exact kx_retI hQ hx hb hr hlk hw1 hS1 (Nat.le_of_ble_eq_true rfl) (Nat.le_of_ble_eq_true rfl) dL_does_324 (kd_i trivial (congrArg Prod.fst (oR_n hne)) (congrArg Prod.snd (oR_n hne)))
    · refine kx_cat2 hown hG hT ⟨by decide, by decide⟩ (by decide) mIS (hts (.classLink RL 83 "java/lang/IllegalStateException") (by decide +kernel)) mIO nSO (by decide) (hts (.classLink RL 78 "java/lang/IndexOutOfBoundsException") (by decide +kernel)) mIA nSA (by decide) (hts (.classLink RL 81 "java/lang/IllegalArgumentException") (by decide +kernel)) hc9 hv9 hcl9 ?_
      refine lv_astore (lv' := [(5, .ref q9), (0, .ref (ad 0)), (1, .int (5 : Int32)), (2, .int a1), (3, .int b1), (4, .int c1)]) hx hb dL_does_325 hl (by decide) rfl (fun ls hl => ?_)
      refine lv_ldc hx hb hown k_80 dL_does_327 ?_
      have hne : ¬ (kd3 (isF n a1) (inn b1 0 16777215 && decide ((b1 &&& g (100 + 3 * a1.toNatClampNeg) 3) = 0)) (decide (g (100 + 3 * a1.toNatClampNeg) 9 = 0))) = 0 := fun q => by rw [q] at hk; revert hk; decide +kernel
      exact kx_retI hQ hx hb hr hlk hw1 hS1 (Nat.le_of_ble_eq_true rfl) (Nat.le_of_ble_eq_true rfl) dL_does_329 (kd_i trivial (congrArg Prod.fst (oR_n hne)) (congrArg Prod.snd (oR_n hne)))
  · refine lv_goto (tgt := 314) hx hb dL_does_15 (by decide) ?_
    exact kx_retI hQ hx hb hr hlk hw hS (Nat.le_of_ble_eq_true rfl) (Nat.le_of_ble_eq_true rfl) dL_does_314 (kd_i (trivial) (congrArg Prod.fst (oR_y ok_12)) (congrArg Prod.snd (oR_y ok_12)))
set_option maxHeartbeats 4000000 in
set_option maxRecDepth 100000 in
theorem c_L_early_6 (l : Launch) (hfl : l.stackTraces = false) (D : va_G) (cy : Nat → ClassId) (base : Nat → Prop) (ad : Nat → Nat) (n nc : Nat) (g : sg) (a1 : Int32) (b1 : Int32) (c1 : Int32) (hfr : ∀ j, j < 30 → g 6 j = if j < n then 1 else 0) : kM l yL_early wsL_early (kR 8 3 18) D cy base ad n nc g [.ref (ad 0), .int (6 : Int32), .int a1, .int b1, .int c1] (kD (kd2 (isF n a1 && inn b1 0 5) (decide (g (100 + 3 * a1.toNatClampNeg) 9 = 0) && !decide (g (100 + 3 * a1.toNatClampNeg) 10 = b1)) = 0) (some (.int (g (100 + 3 * a1.toNatClampNeg) 10))) ad n nc (sU (sU g (100 + 3 * a1.toNatClampNeg) 9 1) (100 + 3 * a1.toNatClampNeg) 10 b1)) (kEx (e13 (kd2 (isF n a1 && inn b1 0 5) (decide (g (100 + 3 * a1.toNatClampNeg) 9 = 0) && !decide (g (100 + 3 * a1.toNatClampNeg) 10 = b1))))) 3 18 := by
  refine kx_meth (cc := cL_early) (maxL := 5) (ret := (some .int)) (by decide) rfl (Nat.le_of_ble_eq_true rfl) ?_
  intro p e s m args below meth c ls hx hb hr hml hown hts hlk hT hG hw0 hS0 hl Q H locs hQ hw hS hH0 hlocs0
  have hl : lv_has ls 5 [(0, .ref (ad 0)), (1, .int (6 : Int32)), (2, .int a1), (3, .int b1), (4, .int c1)] := hl
  have hown : s.vm.findClass RL = some m.cls := hown
  have hF : CallFix p m c cL_early 5 s args wsL_early RL := ⟨hx, hb, hml, hown, hts⟩
  have hn30 : n ≤ 30 := hw.2.2.1
  have hc20 : nc ≤ 20 := hw.2.2.2
  clear hw0 hS0 hH0 hlocs0
  refine lv_iload_n hx hb dL_early_0 rfl (lv_at hl 1 rfl) ?_
  refine lv_if_ne (tgt := 21) hx hb dL_early_1 (by decide) (fun _ => ?_) (fun c => absurd c (by decide +kernel))
  refine lv_iload_n hx hb dL_early_21 rfl (lv_at hl 1 rfl) ?_
  refine lv_iconst (v := 1) hx hb dL_early_22 (by decide) ?_
  refine lv_icmp_ne (tgt := 43) hx hb dL_early_23 (by decide) (fun _ => ?_) (fun c => absurd c (by decide +kernel))
  refine lv_iload_n hx hb dL_early_43 rfl (lv_at hl 1 rfl) ?_
  refine lv_iconst (v := 2) hx hb dL_early_44 (by decide) ?_
  refine lv_icmp_ne (tgt := 59) hx hb dL_early_45 (by decide) (fun _ => ?_) (fun c => absurd c (by decide +kernel))
  refine lv_iload_n hx hb dL_early_59 rfl (lv_at hl 1 rfl) ?_
  refine lv_iconst (v := 3) hx hb dL_early_60 (by decide) ?_
  refine lv_icmp_ne (tgt := 73) hx hb dL_early_61 (by decide) (fun _ => ?_) (fun c => absurd c (by decide +kernel))
  refine lv_iload_n hx hb dL_early_73 rfl (lv_at hl 1 rfl) ?_
  refine lv_iconst (v := 4) hx hb dL_early_74 (by decide) ?_
  refine lv_icmp_ne (tgt := 86) hx hb dL_early_75 (by decide) (fun _ => ?_) (fun c => absurd c (by decide +kernel))
  refine lv_iload_n hx hb dL_early_86 rfl (lv_at hl 1 rfl) ?_
  refine lv_iconst (v := 5) hx hb dL_early_87 (by decide) ?_
  refine lv_icmp_ne (tgt := 100) hx hb dL_early_88 (by decide) (fun _ => ?_) (fun c => absurd c (by decide +kernel))
  refine lv_iload_n hx hb dL_early_100 rfl (lv_at hl 1 rfl) ?_
  refine lv_bipush (v := 6) hx hb dL_early_101 (by decide) ?_
  refine lv_icmp_ne (tgt := 115) hx hb dL_early_103 (by decide) (fun c => absurd (by decide +kernel) c) (fun _ => ?_)
  refine lv_aload_n hx hb dL_early_106 rfl (lv_at hl 0 rfl) ?_
  refine lv_iload_n hx hb dL_early_107 rfl (lv_at hl 2 rfl) ?_
  refine lv_iload_n hx hb dL_early_108 rfl (lv_at hl 3 rfl) ?_
  refine kx_do (st1 := [.int (g (100 + 3 * a1.toNatClampNeg) 10)]) (kx_cv (As := [.int a1, .int b1]) (rest := []) hF hG hw hS hl.1 kC_0 rfl (c_X2_send l hfl D cy base ad n nc g a1 b1 (by first | assumption | omega | exact mR_9 (by assumption) _ _ | simp [sU, hfr])) gL_early_X2_send rfl rfl rfl hd_X2_send ⟨Nat.le_of_ble_eq_true rfl, Nat.le_of_ble_eq_true rfl⟩ rfl rfl (Nat.le_of_ble_eq_true rfl) dL_early_109 ⟨Nat.le_of_ble_eq_true rfl, Nat.le_of_ble_eq_true rfl⟩) hS rfl (fun E9 ce9 q9 H locs hX9 hw hS hc9 hv9 hcl9 => kx_out hQ hT hlk hw hS hX9 hc9 hv9 hcl9 (Nat.le_of_ble_eq_true rfl) (Nat.le_of_ble_eq_true rfl)) (fun ok_109 H locs hw hS => ?_)
  refine lv_goto (tgt := 167) hx hb dL_early_112 (by decide) ?_
  exact kx_retI hQ hx hb hr hlk hw hS (Nat.le_of_ble_eq_true rfl) (Nat.le_of_ble_eq_true rfl) dL_early_167 (kd_i (by first | (simp only [ok_109]; done) | (simp only [ok_109]; rfl) | (simp [ok_109]; done)) (rfl) (rfl))
set_option maxHeartbeats 4000000 in
set_option maxRecDepth 100000 in
theorem c_L_does_6 (l : Launch) (hfl : l.stackTraces = false) (D : va_G) (cy : Nat → ClassId) (base : Nat → Prop) (ad : Nat → Nat) (n nc : Nat) (g : sg) (a1 : Int32) (b1 : Int32) (c1 : Int32) (hfr : ∀ j, j < 30 → g 6 j = if j < n then 1 else 0) : kM l yL_does wsL_does (kR 9 3 18) D cy base ad n nc g [.ref (ad 0), .int (6 : Int32), .int a1, .int b1, .int c1] (kD True (some (.int ((dF_6 n nc g a1 b1).1))) ad n nc ((dF_6 n nc g a1 b1).2)) kNo 3 18 := by
  refine kx_methH (cc := cL_does) (maxL := 6) (ret := (some .int)) (hh := [(0, 314, 315, 78), (0, 314, 320, 81), (0, 314, 325, 83)]) (by decide) rfl (Nat.le_of_ble_eq_true rfl) ?_
  intro p e s m args below meth c ls hx hb hr hml hown hts hlk hT hG hl Q H locs hQ hw hS
  have hl : lv_has ls 6 [(0, .ref (ad 0)), (1, .int (6 : Int32)), (2, .int a1), (3, .int b1), (4, .int c1)] := hl
  have hown : s.vm.findClass RL = some m.cls := hown
  have hF : CallFix p m c cL_does 6 s args wsL_does RL := ⟨hx, hb, hml, hown, hts⟩
  have hn30 : n ≤ 30 := hw.2.2.1
  have hc20 : nc ≤ 20 := hw.2.2.2
  have k_80 := hts (.constant RL 80 (-2100000000)) (by decide +kernel)
  refine lv_iload_n hx hb dL_does_0 rfl (lv_at hl 1 rfl) ?_
  refine lv_bipush (v := 10) hx hb dL_does_1 (by decide) ?_
  refine lv_icmp_ge (tgt := 18) hx hb dL_does_3 (by decide) (fun c => absurd c (by decide +kernel)) (fun _ => ?_)
  refine lv_aload_n hx hb dL_does_6 rfl (lv_at hl 0 rfl) ?_
  refine lv_iload_n hx hb dL_does_7 rfl (lv_at hl 1 rfl) ?_
  refine lv_iload_n hx hb dL_does_8 rfl (lv_at hl 2 rfl) ?_
  refine lv_iload_n hx hb dL_does_9 rfl (lv_at hl 3 rfl) ?_
  refine lv_iload hx hb dL_does_10 (lv_at hl 4 rfl) ?_
  refine kx_do (st1 := [.int (g (100 + 3 * a1.toNatClampNeg) 10)]) (kx_cs (As := [.ref (ad 0), .int (6 : Int32), .int a1, .int b1, .int c1]) (rest := []) hF hG hw hS hl.1 (c_L_early_6 l hfl D cy base ad n nc g a1 b1 c1 (by first | assumption | omega | exact mR_9 (by assumption) _ _ | simp [sU, hfr])) gL_does_L_early rfl rfl rfl hd_L_early ⟨Nat.le_of_ble_eq_true rfl, Nat.le_of_ble_eq_true rfl⟩ rfl rfl (Nat.le_of_ble_eq_true rfl) dL_does_12 ⟨Nat.le_of_ble_eq_true rfl, Nat.le_of_ble_eq_true rfl⟩) hS rfl (fun E9 ce9 q9 H1 locs1 hX9 hw1 hS1 hc9 hv9 hcl9 => ?_) (fun ok_12 H locs hw hS => ?_)
  · rcases hX9 with ⟨rfl, hk⟩ | ⟨rfl, hk⟩ | ⟨rfl, hk⟩
    · refine kx_cat0 hown hG hT ⟨by decide, by decide⟩ (by decide) mIO (hts (.classLink RL 78 "java/lang/IndexOutOfBoundsException") (by decide +kernel)) hc9 hv9 hcl9 ?_
      refine lv_astore (lv' := [(5, .ref q9), (0, .ref (ad 0)), (1, .int (6 : Int32)), (2, .int a1), (3, .int b1), (4, .int c1)]) hx hb dL_does_315 hl (by decide) rfl (fun ls hl => ?_)
      refine lv_ldc hx hb hown k_80 dL_does_317 ?_
      have hne : ¬ (kd2 (isF n a1 && inn b1 0 5) (decide (g (100 + 3 * a1.toNatClampNeg) 9 = 0) && !decide (g (100 + 3 * a1.toNatClampNeg) 10 = b1))) = 0 := fun q => by rw [q] at hk; revert hk; decide +kernel
      exact kx_retI hQ hx hb hr hlk hw1 hS1 (Nat.le_of_ble_eq_true rfl) (Nat.le_of_ble_eq_true rfl) dL_does_319 (kd_i trivial (congrArg Prod.fst (oR_n hne)) (congrArg Prod.snd (oR_n hne)))
    · refine kx_cat1 hown hG hT ⟨by decide, by decide⟩ (by decide) mIA (hts (.classLink RL 81 "java/lang/IllegalArgumentException") (by decide +kernel)) mIO nAO (by decide) (hts (.classLink RL 78 "java/lang/IndexOutOfBoundsException") (by decide +kernel)) hc9 hv9 hcl9 ?_
      refine lv_astore (lv' := [(5, .ref q9), (0, .ref (ad 0)), (1, .int (6 : Int32)), (2, .int a1), (3, .int b1), (4, .int c1)]) hx hb dL_does_320 hl (by decide) rfl (fun ls hl => ?_)
      refine lv_ldc hx hb hown k_80 dL_does_322 ?_
      have hne : ¬ (kd2 (isF n a1 && inn b1 0 5) (decide (g (100 + 3 * a1.toNatClampNeg) 9 = 0) && !decide (g (100 + 3 * a1.toNatClampNeg) 10 = b1))) = 0 := fun q => by rw [q] at hk; revert hk; decide +kernel
      exact kx_retI hQ hx hb hr hlk hw1 hS1 (Nat.le_of_ble_eq_true rfl) (Nat.le_of_ble_eq_true rfl) dL_does_324 (kd_i trivial (congrArg Prod.fst (oR_n hne)) (congrArg Prod.snd (oR_n hne)))
    · refine kx_cat2 hown hG hT ⟨by decide, by decide⟩ (by decide) mIS (hts (.classLink RL 83 "java/lang/IllegalStateException") (by decide +kernel)) mIO nSO (by decide) (hts (.classLink RL 78 "java/lang/IndexOutOfBoundsException") (by decide +kernel)) mIA nSA (by decide) (hts (.classLink RL 81 "java/lang/IllegalArgumentException") (by decide +kernel)) hc9 hv9 hcl9 ?_
      refine lv_astore (lv' := [(5, .ref q9), (0, .ref (ad 0)), (1, .int (6 : Int32)), (2, .int a1), (3, .int b1), (4, .int c1)]) hx hb dL_does_325 hl (by decide) rfl (fun ls hl => ?_)
      refine lv_ldc hx hb hown k_80 dL_does_327 ?_
      have hne : ¬ (kd2 (isF n a1 && inn b1 0 5) (decide (g (100 + 3 * a1.toNatClampNeg) 9 = 0) && !decide (g (100 + 3 * a1.toNatClampNeg) 10 = b1))) = 0 := fun q => by rw [q] at hk; revert hk; decide +kernel
      exact kx_retI hQ hx hb hr hlk hw1 hS1 (Nat.le_of_ble_eq_true rfl) (Nat.le_of_ble_eq_true rfl) dL_does_329 (kd_i trivial (congrArg Prod.fst (oR_n hne)) (congrArg Prod.snd (oR_n hne)))
  · refine lv_goto (tgt := 314) hx hb dL_does_15 (by decide) ?_
    exact kx_retI hQ hx hb hr hlk hw hS (Nat.le_of_ble_eq_true rfl) (Nat.le_of_ble_eq_true rfl) dL_does_314 (kd_i (trivial) (congrArg Prod.fst (oR_y ok_12)) (congrArg Prod.snd (oR_y ok_12)))
set_option maxHeartbeats 4000000 in
set_option maxRecDepth 100000 in
theorem c_L_early_7 (l : Launch) (hfl : l.stackTraces = false) (D : va_G) (cy : Nat → ClassId) (base : Nat → Prop) (ad : Nat → Nat) (n nc : Nat) (g : sg) (a1 : Int32) (b1 : Int32) (c1 : Int32) (hfr : ∀ j, j < 30 → g 6 j = if j < n then 1 else 0) : kM l yL_early wsL_early (kR 8 1 6) D cy base ad n nc g [.ref (ad 0), .int (7 : Int32), .int a1, .int b1, .int c1] (kD (kd1 (inn a1 0 5) = 0) (some (.int (lcN g a1 n 30))) ad n nc (lcS g a1 n 30)) (kEx (kd1 (inn a1 0 5))) 1 6 := by
  refine kx_meth (cc := cL_early) (maxL := 5) (ret := (some .int)) (by decide) rfl (Nat.le_of_ble_eq_true rfl) ?_
  intro p e s m args below meth c ls hx hb hr hml hown hts hlk hT hG hw0 hS0 hl Q H locs hQ hw hS hH0 hlocs0
  have hl : lv_has ls 5 [(0, .ref (ad 0)), (1, .int (7 : Int32)), (2, .int a1), (3, .int b1), (4, .int c1)] := hl
  have hown : s.vm.findClass RL = some m.cls := hown
  have hF : CallFix p m c cL_early 5 s args wsL_early RL := ⟨hx, hb, hml, hown, hts⟩
  have hn30 : n ≤ 30 := hw.2.2.1
  have hc20 : nc ≤ 20 := hw.2.2.2
  clear hw0 hS0 hH0 hlocs0
  refine lv_iload_n hx hb dL_early_0 rfl (lv_at hl 1 rfl) ?_
  refine lv_if_ne (tgt := 21) hx hb dL_early_1 (by decide) (fun _ => ?_) (fun c => absurd c (by decide +kernel))
  refine lv_iload_n hx hb dL_early_21 rfl (lv_at hl 1 rfl) ?_
  refine lv_iconst (v := 1) hx hb dL_early_22 (by decide) ?_
  refine lv_icmp_ne (tgt := 43) hx hb dL_early_23 (by decide) (fun _ => ?_) (fun c => absurd c (by decide +kernel))
  refine lv_iload_n hx hb dL_early_43 rfl (lv_at hl 1 rfl) ?_
  refine lv_iconst (v := 2) hx hb dL_early_44 (by decide) ?_
  refine lv_icmp_ne (tgt := 59) hx hb dL_early_45 (by decide) (fun _ => ?_) (fun c => absurd c (by decide +kernel))
  refine lv_iload_n hx hb dL_early_59 rfl (lv_at hl 1 rfl) ?_
  refine lv_iconst (v := 3) hx hb dL_early_60 (by decide) ?_
  refine lv_icmp_ne (tgt := 73) hx hb dL_early_61 (by decide) (fun _ => ?_) (fun c => absurd c (by decide +kernel))
  refine lv_iload_n hx hb dL_early_73 rfl (lv_at hl 1 rfl) ?_
  refine lv_iconst (v := 4) hx hb dL_early_74 (by decide) ?_
  refine lv_icmp_ne (tgt := 86) hx hb dL_early_75 (by decide) (fun _ => ?_) (fun c => absurd c (by decide +kernel))
  refine lv_iload_n hx hb dL_early_86 rfl (lv_at hl 1 rfl) ?_
  refine lv_iconst (v := 5) hx hb dL_early_87 (by decide) ?_
  refine lv_icmp_ne (tgt := 100) hx hb dL_early_88 (by decide) (fun _ => ?_) (fun c => absurd c (by decide +kernel))
  refine lv_iload_n hx hb dL_early_100 rfl (lv_at hl 1 rfl) ?_
  refine lv_bipush (v := 6) hx hb dL_early_101 (by decide) ?_
  refine lv_icmp_ne (tgt := 115) hx hb dL_early_103 (by decide) (fun _ => ?_) (fun c => absurd c (by decide +kernel))
  refine lv_iload_n hx hb dL_early_115 rfl (lv_at hl 1 rfl) ?_
  refine lv_bipush (v := 7) hx hb dL_early_116 (by decide) ?_
  refine lv_icmp_ne (tgt := 129) hx hb dL_early_118 (by decide) (fun c => absurd (by decide +kernel) c) (fun _ => ?_)
  refine lv_aload_n hx hb dL_early_121 rfl (lv_at hl 0 rfl) ?_
  refine lv_iload_n hx hb dL_early_122 rfl (lv_at hl 2 rfl) ?_
  refine kx_do (st1 := [.int (lcN g a1 n 30)]) (kx_cv (As := [.int a1]) (rest := []) hF hG hw hS hl.1 kC_0 rfl (c_X2_lose l hfl D cy base ad n nc g a1 (by first | assumption | omega | exact mR_9 (by assumption) _ _ | simp [sU, hfr])) gL_early_X2_lose rfl rfl rfl hd_X2_lose ⟨Nat.le_of_ble_eq_true rfl, Nat.le_of_ble_eq_true rfl⟩ rfl rfl (Nat.le_of_ble_eq_true rfl) dL_early_123 ⟨Nat.le_of_ble_eq_true rfl, Nat.le_of_ble_eq_true rfl⟩) hS rfl (fun E9 ce9 q9 H locs hX9 hw hS hc9 hv9 hcl9 => kx_out hQ hT hlk hw hS hX9 hc9 hv9 hcl9 (Nat.le_of_ble_eq_true rfl) (Nat.le_of_ble_eq_true rfl)) (fun ok_123 H locs hw hS => ?_)
  refine lv_goto (tgt := 167) hx hb dL_early_126 (by decide) ?_
  exact kx_retI hQ hx hb hr hlk hw hS (Nat.le_of_ble_eq_true rfl) (Nat.le_of_ble_eq_true rfl) dL_early_167 (kd_i (by first | (simp only [ok_123]; done) | (simp only [ok_123]; rfl) | (simp [ok_123]; done)) (rfl) (rfl))
set_option maxHeartbeats 4000000 in
set_option maxRecDepth 100000 in
theorem c_L_does_7 (l : Launch) (hfl : l.stackTraces = false) (D : va_G) (cy : Nat → ClassId) (base : Nat → Prop) (ad : Nat → Nat) (n nc : Nat) (g : sg) (a1 : Int32) (b1 : Int32) (c1 : Int32) (hfr : ∀ j, j < 30 → g 6 j = if j < n then 1 else 0) : kM l yL_does wsL_does (kR 9 1 6) D cy base ad n nc g [.ref (ad 0), .int (7 : Int32), .int a1, .int b1, .int c1] (kD True (some (.int ((dF_7 n nc g a1).1))) ad n nc ((dF_7 n nc g a1).2)) kNo 1 6 := by
  refine kx_methH (cc := cL_does) (maxL := 6) (ret := (some .int)) (hh := [(0, 314, 315, 78), (0, 314, 320, 81), (0, 314, 325, 83)]) (by decide) rfl (Nat.le_of_ble_eq_true rfl) ?_
  intro p e s m args below meth c ls hx hb hr hml hown hts hlk hT hG hl Q H locs hQ hw hS
  have hl : lv_has ls 6 [(0, .ref (ad 0)), (1, .int (7 : Int32)), (2, .int a1), (3, .int b1), (4, .int c1)] := hl
  have hown : s.vm.findClass RL = some m.cls := hown
  have hF : CallFix p m c cL_does 6 s args wsL_does RL := ⟨hx, hb, hml, hown, hts⟩
  have hn30 : n ≤ 30 := hw.2.2.1
  have hc20 : nc ≤ 20 := hw.2.2.2
  have k_80 := hts (.constant RL 80 (-2100000000)) (by decide +kernel)
  refine lv_iload_n hx hb dL_does_0 rfl (lv_at hl 1 rfl) ?_
  refine lv_bipush (v := 10) hx hb dL_does_1 (by decide) ?_
  refine lv_icmp_ge (tgt := 18) hx hb dL_does_3 (by decide) (fun c => absurd c (by decide +kernel)) (fun _ => ?_)
  refine lv_aload_n hx hb dL_does_6 rfl (lv_at hl 0 rfl) ?_
  refine lv_iload_n hx hb dL_does_7 rfl (lv_at hl 1 rfl) ?_
  refine lv_iload_n hx hb dL_does_8 rfl (lv_at hl 2 rfl) ?_
  refine lv_iload_n hx hb dL_does_9 rfl (lv_at hl 3 rfl) ?_
  refine lv_iload hx hb dL_does_10 (lv_at hl 4 rfl) ?_
  refine kx_do (st1 := [.int (lcN g a1 n 30)]) (kx_cs (As := [.ref (ad 0), .int (7 : Int32), .int a1, .int b1, .int c1]) (rest := []) hF hG hw hS hl.1 (c_L_early_7 l hfl D cy base ad n nc g a1 b1 c1 (by first | assumption | omega | exact mR_9 (by assumption) _ _ | simp [sU, hfr])) gL_does_L_early rfl rfl rfl hd_L_early ⟨Nat.le_of_ble_eq_true rfl, Nat.le_of_ble_eq_true rfl⟩ rfl rfl (Nat.le_of_ble_eq_true rfl) dL_does_12 ⟨Nat.le_of_ble_eq_true rfl, Nat.le_of_ble_eq_true rfl⟩) hS rfl (fun E9 ce9 q9 H1 locs1 hX9 hw1 hS1 hc9 hv9 hcl9 => ?_) (fun ok_12 H locs hw hS => ?_)
  · rcases hX9 with ⟨rfl, hk⟩ | ⟨rfl, hk⟩ | ⟨rfl, hk⟩
    · refine kx_cat0 hown hG hT ⟨by decide, by decide⟩ (by decide) mIO (hts (.classLink RL 78 "java/lang/IndexOutOfBoundsException") (by decide +kernel)) hc9 hv9 hcl9 ?_
      refine lv_astore (lv' := [(5, .ref q9), (0, .ref (ad 0)), (1, .int (7 : Int32)), (2, .int a1), (3, .int b1), (4, .int c1)]) hx hb dL_does_315 hl (by decide) rfl (fun ls hl => ?_)
      refine lv_ldc hx hb hown k_80 dL_does_317 ?_
      have hne : ¬ (kd1 (inn a1 0 5)) = 0 := fun q => by rw [q] at hk; revert hk; decide +kernel
      exact kx_retI hQ hx hb hr hlk hw1 hS1 (Nat.le_of_ble_eq_true rfl) (Nat.le_of_ble_eq_true rfl) dL_does_319 (kd_i trivial (congrArg Prod.fst (oR_n hne)) (congrArg Prod.snd (oR_n hne)))
    · refine kx_cat1 hown hG hT ⟨by decide, by decide⟩ (by decide) mIA (hts (.classLink RL 81 "java/lang/IllegalArgumentException") (by decide +kernel)) mIO nAO (by decide) (hts (.classLink RL 78 "java/lang/IndexOutOfBoundsException") (by decide +kernel)) hc9 hv9 hcl9 ?_
      refine lv_astore (lv' := [(5, .ref q9), (0, .ref (ad 0)), (1, .int (7 : Int32)), (2, .int a1), (3, .int b1), (4, .int c1)]) hx hb dL_does_320 hl (by decide) rfl (fun ls hl => ?_)
      refine lv_ldc hx hb hown k_80 dL_does_322 ?_
      have hne : ¬ (kd1 (inn a1 0 5)) = 0 := fun q => by rw [q] at hk; revert hk; decide +kernel
      exact kx_retI hQ hx hb hr hlk hw1 hS1 (Nat.le_of_ble_eq_true rfl) (Nat.le_of_ble_eq_true rfl) dL_does_324 (kd_i trivial (congrArg Prod.fst (oR_n hne)) (congrArg Prod.snd (oR_n hne)))
    · refine kx_cat2 hown hG hT ⟨by decide, by decide⟩ (by decide) mIS (hts (.classLink RL 83 "java/lang/IllegalStateException") (by decide +kernel)) mIO nSO (by decide) (hts (.classLink RL 78 "java/lang/IndexOutOfBoundsException") (by decide +kernel)) mIA nSA (by decide) (hts (.classLink RL 81 "java/lang/IllegalArgumentException") (by decide +kernel)) hc9 hv9 hcl9 ?_
      refine lv_astore (lv' := [(5, .ref q9), (0, .ref (ad 0)), (1, .int (7 : Int32)), (2, .int a1), (3, .int b1), (4, .int c1)]) hx hb dL_does_325 hl (by decide) rfl (fun ls hl => ?_)
      refine lv_ldc hx hb hown k_80 dL_does_327 ?_
      have hne : ¬ (kd1 (inn a1 0 5)) = 0 := fun q => by rw [q] at hk; revert hk; decide +kernel
      exact kx_retI hQ hx hb hr hlk hw1 hS1 (Nat.le_of_ble_eq_true rfl) (Nat.le_of_ble_eq_true rfl) dL_does_329 (kd_i trivial (congrArg Prod.fst (oR_n hne)) (congrArg Prod.snd (oR_n hne)))
  · refine lv_goto (tgt := 314) hx hb dL_does_15 (by decide) ?_
    exact kx_retI hQ hx hb hr hlk hw hS (Nat.le_of_ble_eq_true rfl) (Nat.le_of_ble_eq_true rfl) dL_does_314 (kd_i (trivial) (congrArg Prod.fst (oR_y ok_12)) (congrArg Prod.snd (oR_y ok_12)))
set_option maxHeartbeats 4000000 in
set_option maxRecDepth 100000 in
theorem c_L_early_8 (l : Launch) (hfl : l.stackTraces = false) (D : va_G) (cy : Nat → ClassId) (base : Nat → Prop) (ad : Nat → Nat) (n nc : Nat) (g : sg) (a1 : Int32) (b1 : Int32) (c1 : Int32) (hfr : ∀ j, j < 30 → g 6 j = if j < n then 1 else 0) (hh : ∀ i, i < n → ∃ h : Nat, h ≤ 12 ∧ g (100 + 3 * i) 7 = nI h) : kM l yL_early wsL_early (kR 8 3 18) D cy base ad n nc g [.ref (ad 0), .int (8 : Int32), .int a1, .int b1, .int c1] (kD (kd2 (isF n a1 && inn b1 0 5) (decide (g (100 + 3 * a1.toNatClampNeg) 9 = 2)) = 0) (some (.int (cmH (g (100 + 3 * a1.toNatClampNeg) 7)))) ad n nc (cComes g a1.toNatClampNeg b1 (g 0 10))) (kEx (e13 (kd2 (isF n a1 && inn b1 0 5) (decide (g (100 + 3 * a1.toNatClampNeg) 9 = 2))))) 3 18 := by
  refine kx_meth (cc := cL_early) (maxL := 5) (ret := (some .int)) (by decide) rfl (Nat.le_of_ble_eq_true rfl) ?_
  intro p e s m args below meth c ls hx hb hr hml hown hts hlk hT hG hw0 hS0 hl Q H locs hQ hw hS hH0 hlocs0
  have hl : lv_has ls 5 [(0, .ref (ad 0)), (1, .int (8 : Int32)), (2, .int a1), (3, .int b1), (4, .int c1)] := hl
  have hown : s.vm.findClass RL = some m.cls := hown
  have hF : CallFix p m c cL_early 5 s args wsL_early RL := ⟨hx, hb, hml, hown, hts⟩
  have hn30 : n ≤ 30 := hw.2.2.1
  have hc20 : nc ≤ 20 := hw.2.2.2
  clear hw0 hS0 hH0 hlocs0
  refine lv_iload_n hx hb dL_early_0 rfl (lv_at hl 1 rfl) ?_
  refine lv_if_ne (tgt := 21) hx hb dL_early_1 (by decide) (fun _ => ?_) (fun c => absurd c (by decide +kernel))
  refine lv_iload_n hx hb dL_early_21 rfl (lv_at hl 1 rfl) ?_
  refine lv_iconst (v := 1) hx hb dL_early_22 (by decide) ?_
  refine lv_icmp_ne (tgt := 43) hx hb dL_early_23 (by decide) (fun _ => ?_) (fun c => absurd c (by decide +kernel))
  refine lv_iload_n hx hb dL_early_43 rfl (lv_at hl 1 rfl) ?_
  refine lv_iconst (v := 2) hx hb dL_early_44 (by decide) ?_
  refine lv_icmp_ne (tgt := 59) hx hb dL_early_45 (by decide) (fun _ => ?_) (fun c => absurd c (by decide +kernel))
  refine lv_iload_n hx hb dL_early_59 rfl (lv_at hl 1 rfl) ?_
  refine lv_iconst (v := 3) hx hb dL_early_60 (by decide) ?_
  refine lv_icmp_ne (tgt := 73) hx hb dL_early_61 (by decide) (fun _ => ?_) (fun c => absurd c (by decide +kernel))
  refine lv_iload_n hx hb dL_early_73 rfl (lv_at hl 1 rfl) ?_
  refine lv_iconst (v := 4) hx hb dL_early_74 (by decide) ?_
  refine lv_icmp_ne (tgt := 86) hx hb dL_early_75 (by decide) (fun _ => ?_) (fun c => absurd c (by decide +kernel))
  refine lv_iload_n hx hb dL_early_86 rfl (lv_at hl 1 rfl) ?_
  refine lv_iconst (v := 5) hx hb dL_early_87 (by decide) ?_
  refine lv_icmp_ne (tgt := 100) hx hb dL_early_88 (by decide) (fun _ => ?_) (fun c => absurd c (by decide +kernel))
  refine lv_iload_n hx hb dL_early_100 rfl (lv_at hl 1 rfl) ?_
  refine lv_bipush (v := 6) hx hb dL_early_101 (by decide) ?_
  refine lv_icmp_ne (tgt := 115) hx hb dL_early_103 (by decide) (fun _ => ?_) (fun c => absurd c (by decide +kernel))
  refine lv_iload_n hx hb dL_early_115 rfl (lv_at hl 1 rfl) ?_
  refine lv_bipush (v := 7) hx hb dL_early_116 (by decide) ?_
  refine lv_icmp_ne (tgt := 129) hx hb dL_early_118 (by decide) (fun _ => ?_) (fun c => absurd c (by decide +kernel))
  refine lv_iload_n hx hb dL_early_129 rfl (lv_at hl 1 rfl) ?_
  refine lv_bipush (v := 8) hx hb dL_early_130 (by decide) ?_
  refine lv_icmp_ne (tgt := 144) hx hb dL_early_132 (by decide) (fun c => absurd (by decide +kernel) c) (fun _ => ?_)
  refine lv_aload_n hx hb dL_early_135 rfl (lv_at hl 0 rfl) ?_
  refine lv_iload_n hx hb dL_early_136 rfl (lv_at hl 2 rfl) ?_
  refine lv_iload_n hx hb dL_early_137 rfl (lv_at hl 3 rfl) ?_
  refine kx_do (st1 := [.int (cmH (g (100 + 3 * a1.toNatClampNeg) 7))]) (kx_cv (As := [.int a1, .int b1]) (rest := []) hF hG hw hS hl.1 kC_0 rfl (c_X2_turnUp l hfl D cy base ad n nc g a1 b1 (by first | assumption | omega | exact mR_9 (by assumption) _ _ | simp [sU, hfr, hh]) (by first | assumption | omega | exact mR_9 (by assumption) _ _ | simp [sU, hfr, hh])) gL_early_X2_turnUp rfl rfl rfl hd_X2_turnUp ⟨Nat.le_of_ble_eq_true rfl, Nat.le_of_ble_eq_true rfl⟩ rfl rfl (Nat.le_of_ble_eq_true rfl) dL_early_138 ⟨Nat.le_of_ble_eq_true rfl, Nat.le_of_ble_eq_true rfl⟩) hS rfl (fun E9 ce9 q9 H locs hX9 hw hS hc9 hv9 hcl9 => kx_out hQ hT hlk hw hS hX9 hc9 hv9 hcl9 (Nat.le_of_ble_eq_true rfl) (Nat.le_of_ble_eq_true rfl)) (fun ok_138 H locs hw hS => ?_)
  refine lv_goto (tgt := 167) hx hb dL_early_141 (by decide) ?_
  exact kx_retI hQ hx hb hr hlk hw hS (Nat.le_of_ble_eq_true rfl) (Nat.le_of_ble_eq_true rfl) dL_early_167 (kd_i (by first | (simp only [ok_138]; done) | (simp only [ok_138]; rfl) | (simp [ok_138]; done)) (rfl) (rfl))
set_option maxHeartbeats 4000000 in
set_option maxRecDepth 100000 in
theorem c_L_does_8 (l : Launch) (hfl : l.stackTraces = false) (D : va_G) (cy : Nat → ClassId) (base : Nat → Prop) (ad : Nat → Nat) (n nc : Nat) (g : sg) (a1 : Int32) (b1 : Int32) (c1 : Int32) (hfr : ∀ j, j < 30 → g 6 j = if j < n then 1 else 0) (hh : ∀ i, i < n → ∃ h : Nat, h ≤ 12 ∧ g (100 + 3 * i) 7 = nI h) : kM l yL_does wsL_does (kR 9 3 18) D cy base ad n nc g [.ref (ad 0), .int (8 : Int32), .int a1, .int b1, .int c1] (kD True (some (.int ((dF_8 n nc g a1 b1).1))) ad n nc ((dF_8 n nc g a1 b1).2)) kNo 3 18 := by
  refine kx_methH (cc := cL_does) (maxL := 6) (ret := (some .int)) (hh := [(0, 314, 315, 78), (0, 314, 320, 81), (0, 314, 325, 83)]) (by decide) rfl (Nat.le_of_ble_eq_true rfl) ?_
  intro p e s m args below meth c ls hx hb hr hml hown hts hlk hT hG hl Q H locs hQ hw hS
  have hl : lv_has ls 6 [(0, .ref (ad 0)), (1, .int (8 : Int32)), (2, .int a1), (3, .int b1), (4, .int c1)] := hl
  have hown : s.vm.findClass RL = some m.cls := hown
  have hF : CallFix p m c cL_does 6 s args wsL_does RL := ⟨hx, hb, hml, hown, hts⟩
  have hn30 : n ≤ 30 := hw.2.2.1
  have hc20 : nc ≤ 20 := hw.2.2.2
  have k_80 := hts (.constant RL 80 (-2100000000)) (by decide +kernel)
  refine lv_iload_n hx hb dL_does_0 rfl (lv_at hl 1 rfl) ?_
  refine lv_bipush (v := 10) hx hb dL_does_1 (by decide) ?_
  refine lv_icmp_ge (tgt := 18) hx hb dL_does_3 (by decide) (fun c => absurd c (by decide +kernel)) (fun _ => ?_)
  refine lv_aload_n hx hb dL_does_6 rfl (lv_at hl 0 rfl) ?_
  refine lv_iload_n hx hb dL_does_7 rfl (lv_at hl 1 rfl) ?_
  refine lv_iload_n hx hb dL_does_8 rfl (lv_at hl 2 rfl) ?_
  refine lv_iload_n hx hb dL_does_9 rfl (lv_at hl 3 rfl) ?_
  refine lv_iload hx hb dL_does_10 (lv_at hl 4 rfl) ?_
  refine kx_do (st1 := [.int (cmH (g (100 + 3 * a1.toNatClampNeg) 7))]) (kx_cs (As := [.ref (ad 0), .int (8 : Int32), .int a1, .int b1, .int c1]) (rest := []) hF hG hw hS hl.1 (c_L_early_8 l hfl D cy base ad n nc g a1 b1 c1 (by first | assumption | omega | exact mR_9 (by assumption) _ _ | simp [sU, hfr, hh]) (by first | assumption | omega | exact mR_9 (by assumption) _ _ | simp [sU, hfr, hh])) gL_does_L_early rfl rfl rfl hd_L_early ⟨Nat.le_of_ble_eq_true rfl, Nat.le_of_ble_eq_true rfl⟩ rfl rfl (Nat.le_of_ble_eq_true rfl) dL_does_12 ⟨Nat.le_of_ble_eq_true rfl, Nat.le_of_ble_eq_true rfl⟩) hS rfl (fun E9 ce9 q9 H1 locs1 hX9 hw1 hS1 hc9 hv9 hcl9 => ?_) (fun ok_12 H locs hw hS => ?_)
  · rcases hX9 with ⟨rfl, hk⟩ | ⟨rfl, hk⟩ | ⟨rfl, hk⟩
    · refine kx_cat0 hown hG hT ⟨by decide, by decide⟩ (by decide) mIO (hts (.classLink RL 78 "java/lang/IndexOutOfBoundsException") (by decide +kernel)) hc9 hv9 hcl9 ?_
      refine lv_astore (lv' := [(5, .ref q9), (0, .ref (ad 0)), (1, .int (8 : Int32)), (2, .int a1), (3, .int b1), (4, .int c1)]) hx hb dL_does_315 hl (by decide) rfl (fun ls hl => ?_)
      refine lv_ldc hx hb hown k_80 dL_does_317 ?_
      have hne : ¬ (kd2 (isF n a1 && inn b1 0 5) (decide (g (100 + 3 * a1.toNatClampNeg) 9 = 2))) = 0 := fun q => by rw [q] at hk; revert hk; decide +kernel
      exact kx_retI hQ hx hb hr hlk hw1 hS1 (Nat.le_of_ble_eq_true rfl) (Nat.le_of_ble_eq_true rfl) dL_does_319 (kd_i trivial (congrArg Prod.fst (oR_n hne)) (congrArg Prod.snd (oR_n hne)))
    · refine kx_cat1 hown hG hT ⟨by decide, by decide⟩ (by decide) mIA (hts (.classLink RL 81 "java/lang/IllegalArgumentException") (by decide +kernel)) mIO nAO (by decide) (hts (.classLink RL 78 "java/lang/IndexOutOfBoundsException") (by decide +kernel)) hc9 hv9 hcl9 ?_
      refine lv_astore (lv' := [(5, .ref q9), (0, .ref (ad 0)), (1, .int (8 : Int32)), (2, .int a1), (3, .int b1), (4, .int c1)]) hx hb dL_does_320 hl (by decide) rfl (fun ls hl => ?_)
      refine lv_ldc hx hb hown k_80 dL_does_322 ?_
      have hne : ¬ (kd2 (isF n a1 && inn b1 0 5) (decide (g (100 + 3 * a1.toNatClampNeg) 9 = 2))) = 0 := fun q => by rw [q] at hk; revert hk; decide +kernel
      exact kx_retI hQ hx hb hr hlk hw1 hS1 (Nat.le_of_ble_eq_true rfl) (Nat.le_of_ble_eq_true rfl) dL_does_324 (kd_i trivial (congrArg Prod.fst (oR_n hne)) (congrArg Prod.snd (oR_n hne)))
    · refine kx_cat2 hown hG hT ⟨by decide, by decide⟩ (by decide) mIS (hts (.classLink RL 83 "java/lang/IllegalStateException") (by decide +kernel)) mIO nSO (by decide) (hts (.classLink RL 78 "java/lang/IndexOutOfBoundsException") (by decide +kernel)) mIA nSA (by decide) (hts (.classLink RL 81 "java/lang/IllegalArgumentException") (by decide +kernel)) hc9 hv9 hcl9 ?_
      refine lv_astore (lv' := [(5, .ref q9), (0, .ref (ad 0)), (1, .int (8 : Int32)), (2, .int a1), (3, .int b1), (4, .int c1)]) hx hb dL_does_325 hl (by decide) rfl (fun ls hl => ?_)
      refine lv_ldc hx hb hown k_80 dL_does_327 ?_
      have hne : ¬ (kd2 (isF n a1 && inn b1 0 5) (decide (g (100 + 3 * a1.toNatClampNeg) 9 = 2))) = 0 := fun q => by rw [q] at hk; revert hk; decide +kernel
      exact kx_retI hQ hx hb hr hlk hw1 hS1 (Nat.le_of_ble_eq_true rfl) (Nat.le_of_ble_eq_true rfl) dL_does_329 (kd_i trivial (congrArg Prod.fst (oR_n hne)) (congrArg Prod.snd (oR_n hne)))
  · refine lv_goto (tgt := 314) hx hb dL_does_15 (by decide) ?_
    exact kx_retI hQ hx hb hr hlk hw hS (Nat.le_of_ble_eq_true rfl) (Nat.le_of_ble_eq_true rfl) dL_does_314 (kd_i (trivial) (congrArg Prod.fst (oR_y ok_12)) (congrArg Prod.snd (oR_y ok_12)))
set_option maxHeartbeats 4000000 in
set_option maxRecDepth 100000 in
theorem c_L_early_9 (l : Launch) (hfl : l.stackTraces = false) (D : va_G) (cy : Nat → ClassId) (base : Nat → Prop) (ad : Nat → Nat) (n nc : Nat) (g : sg) (a1 : Int32) (b1 : Int32) (c1 : Int32) (hfr : ∀ j, j < 30 → g 6 j = if j < n then 1 else 0) (hz : ∀ i, i < n → g (100 + 3 * i) 12 = 0 ∨ g (100 + 3 * i) 12 = 1) : kM l yL_early wsL_early (kR 8 2 12) D cy base ad n nc g [.ref (ad 0), .int (9 : Int32), .int a1, .int b1, .int c1] (kD (kd2 (isF n a1) (cHere g a1.toNatClampNeg) = 0) (some (.int (b2 (!decide (g (100 + 3 * a1.toNatClampNeg) 12 = 0))))) ad n nc (sU g (100 + 3 * a1.toNatClampNeg) 12 (b2 (decide (b1 = (1 : Int32)))))) (kEx (e13 (kd2 (isF n a1) (cHere g a1.toNatClampNeg)))) 2 12 := by
  refine kx_meth (cc := cL_early) (maxL := 5) (ret := (some .int)) (by decide) rfl (Nat.le_of_ble_eq_true rfl) ?_
  intro p e s m args below meth c ls hx hb hr hml hown hts hlk hT hG hw0 hS0 hl Q H locs hQ hw hS hH0 hlocs0
  have hl : lv_has ls 5 [(0, .ref (ad 0)), (1, .int (9 : Int32)), (2, .int a1), (3, .int b1), (4, .int c1)] := hl
  have hown : s.vm.findClass RL = some m.cls := hown
  have hF : CallFix p m c cL_early 5 s args wsL_early RL := ⟨hx, hb, hml, hown, hts⟩
  have hn30 : n ≤ 30 := hw.2.2.1
  have hc20 : nc ≤ 20 := hw.2.2.2
  clear hw0 hS0 hH0 hlocs0
  refine lv_iload_n hx hb dL_early_0 rfl (lv_at hl 1 rfl) ?_
  refine lv_if_ne (tgt := 21) hx hb dL_early_1 (by decide) (fun _ => ?_) (fun c => absurd c (by decide +kernel))
  refine lv_iload_n hx hb dL_early_21 rfl (lv_at hl 1 rfl) ?_
  refine lv_iconst (v := 1) hx hb dL_early_22 (by decide) ?_
  refine lv_icmp_ne (tgt := 43) hx hb dL_early_23 (by decide) (fun _ => ?_) (fun c => absurd c (by decide +kernel))
  refine lv_iload_n hx hb dL_early_43 rfl (lv_at hl 1 rfl) ?_
  refine lv_iconst (v := 2) hx hb dL_early_44 (by decide) ?_
  refine lv_icmp_ne (tgt := 59) hx hb dL_early_45 (by decide) (fun _ => ?_) (fun c => absurd c (by decide +kernel))
  refine lv_iload_n hx hb dL_early_59 rfl (lv_at hl 1 rfl) ?_
  refine lv_iconst (v := 3) hx hb dL_early_60 (by decide) ?_
  refine lv_icmp_ne (tgt := 73) hx hb dL_early_61 (by decide) (fun _ => ?_) (fun c => absurd c (by decide +kernel))
  refine lv_iload_n hx hb dL_early_73 rfl (lv_at hl 1 rfl) ?_
  refine lv_iconst (v := 4) hx hb dL_early_74 (by decide) ?_
  refine lv_icmp_ne (tgt := 86) hx hb dL_early_75 (by decide) (fun _ => ?_) (fun c => absurd c (by decide +kernel))
  refine lv_iload_n hx hb dL_early_86 rfl (lv_at hl 1 rfl) ?_
  refine lv_iconst (v := 5) hx hb dL_early_87 (by decide) ?_
  refine lv_icmp_ne (tgt := 100) hx hb dL_early_88 (by decide) (fun _ => ?_) (fun c => absurd c (by decide +kernel))
  refine lv_iload_n hx hb dL_early_100 rfl (lv_at hl 1 rfl) ?_
  refine lv_bipush (v := 6) hx hb dL_early_101 (by decide) ?_
  refine lv_icmp_ne (tgt := 115) hx hb dL_early_103 (by decide) (fun _ => ?_) (fun c => absurd c (by decide +kernel))
  refine lv_iload_n hx hb dL_early_115 rfl (lv_at hl 1 rfl) ?_
  refine lv_bipush (v := 7) hx hb dL_early_116 (by decide) ?_
  refine lv_icmp_ne (tgt := 129) hx hb dL_early_118 (by decide) (fun _ => ?_) (fun c => absurd c (by decide +kernel))
  refine lv_iload_n hx hb dL_early_129 rfl (lv_at hl 1 rfl) ?_
  refine lv_bipush (v := 8) hx hb dL_early_130 (by decide) ?_
  refine lv_icmp_ne (tgt := 144) hx hb dL_early_132 (by decide) (fun _ => ?_) (fun c => absurd c (by decide +kernel))
  refine lv_aload_n hx hb dL_early_144 rfl (lv_at hl 0 rfl) ?_
  refine lv_iload_n hx hb dL_early_145 rfl (lv_at hl 2 rfl) ?_
  refine lv_iload_n hx hb dL_early_146 rfl (lv_at hl 3 rfl) ?_
  refine lv_iconst (v := 1) hx hb dL_early_147 (by decide) ?_
  have hj_156_0 : ∀ (H : Heap) (locs : List Loc) (ls : Array Slot), kW D cy base ad n nc g H → va_S (kA base) s.heap H locs → lv_has ls 5 [(0, .ref (ad 0)), (1, .int (9 : Int32)), (2, .int a1), (3, .int b1), (4, .int c1)] → W p l e (kR 8 2 12) s m args below meth c H locs 0 0 Q (F0 m 156 ls [.int (b2 (decide (b1 = (1 : Int32)))), .int a1, .ref (ad 0)]) := by
    intro H locs ls hw hS hl
    refine kx_do (st1 := [.int (b2 (!decide (g (100 + 3 * a1.toNatClampNeg) 12 = 0)))]) (kx_cv (As := [.int a1, .int (b2 (decide (b1 = (1 : Int32))))]) (rest := []) hF hG hw hS hl.1 kC_0 rfl (c_X2_hold l hfl D cy base ad n nc g a1 (decide (b1 = (1 : Int32))) (by first | assumption | omega | exact mR_9 (by assumption) _ _ | simp [sU, hfr, hz]) (by first | assumption | omega | exact mR_9 (by assumption) _ _ | simp [sU, hfr, hz])) gL_early_X2_hold rfl rfl rfl hd_X2_hold ⟨Nat.le_of_ble_eq_true rfl, Nat.le_of_ble_eq_true rfl⟩ rfl rfl (Nat.le_of_ble_eq_true rfl) dL_early_156 ⟨Nat.le_of_ble_eq_true rfl, Nat.le_of_ble_eq_true rfl⟩) hS rfl (fun E9 ce9 q9 H locs hX9 hw hS hc9 hv9 hcl9 => kx_out hQ hT hlk hw hS hX9 hc9 hv9 hcl9 (Nat.le_of_ble_eq_true rfl) (Nat.le_of_ble_eq_true rfl)) (fun ok_156 H locs hw hS => ?_)
    refine kb_eq (tgt := 166) hx hb dL_early_159 (by decide) (fun c_159 => ?_) (fun c_159 => ?_)
    · refine lv_iconst (v := 0) hx hb dL_early_166 (by decide) ?_
      exact kx_retI hQ hx hb hr hlk hw hS (Nat.le_of_ble_eq_true rfl) (Nat.le_of_ble_eq_true rfl) dL_early_167 (kd_i (by first | (simp only [ok_156, c_159]; done) | (simp only [ok_156, c_159]; rfl) | (simp [ok_156, c_159]; done)) (by first | (simp only [ok_156, c_159]; done) | (simp only [ok_156, c_159]; rfl) | (simp [ok_156, c_159]; done)) (rfl))
    · refine lv_iconst (v := 1) hx hb dL_early_162 (by decide) ?_
      refine lv_goto (tgt := 167) hx hb dL_early_163 (by decide) ?_
      exact kx_retI hQ hx hb hr hlk hw hS (Nat.le_of_ble_eq_true rfl) (Nat.le_of_ble_eq_true rfl) dL_early_167 (kd_i (by first | (simp only [ok_156, c_159]; done) | (simp only [ok_156, c_159]; rfl) | (simp [ok_156, c_159]; done)) (by first | (simp only [ok_156, c_159]; done) | (simp only [ok_156, c_159]; rfl) | (simp [ok_156, c_159]; done)) (rfl))
  refine lv_icmp_ne (tgt := 155) hx hb dL_early_148 (by decide) (fun c_148 => ?_) (fun c_148 => ?_)
  · refine lv_iconst (v := 0) hx hb dL_early_155 (by decide) ?_
    exact kx_top (v := (b2 (decide (b1 = (1 : Int32))))) (by first | (simp only [bq, decide_eq_false c_148, if_neg c_148]; done) | (simp only [bq, decide_eq_false c_148, if_neg c_148]; rfl) | (simp [bq, decide_eq_false c_148, if_neg c_148]; done)) (hj_156_0 _ _ _ hw hS hl)
  · refine lv_iconst (v := 1) hx hb dL_early_151 (by decide) ?_
    refine lv_goto (tgt := 156) hx hb dL_early_152 (by decide) ?_
    exact kx_top (v := (b2 (decide (b1 = (1 : Int32))))) (by first | (simp only [bq, decide_eq_true c_148, if_pos c_148]; done) | (simp only [bq, decide_eq_true c_148, if_pos c_148]; rfl) | (simp [bq, decide_eq_true c_148, if_pos c_148]; done)) (hj_156_0 _ _ _ hw hS hl)
set_option maxHeartbeats 4000000 in
set_option maxRecDepth 100000 in
theorem c_L_does_9 (l : Launch) (hfl : l.stackTraces = false) (D : va_G) (cy : Nat → ClassId) (base : Nat → Prop) (ad : Nat → Nat) (n nc : Nat) (g : sg) (a1 : Int32) (b1 : Int32) (c1 : Int32) (hfr : ∀ j, j < 30 → g 6 j = if j < n then 1 else 0) (hz : ∀ i, i < n → g (100 + 3 * i) 12 = 0 ∨ g (100 + 3 * i) 12 = 1) : kM l yL_does wsL_does (kR 9 2 12) D cy base ad n nc g [.ref (ad 0), .int (9 : Int32), .int a1, .int b1, .int c1] (kD True (some (.int ((dF_9 n nc g a1 b1).1))) ad n nc ((dF_9 n nc g a1 b1).2)) kNo 2 12 := by
  refine kx_methH (cc := cL_does) (maxL := 6) (ret := (some .int)) (hh := [(0, 314, 315, 78), (0, 314, 320, 81), (0, 314, 325, 83)]) (by decide) rfl (Nat.le_of_ble_eq_true rfl) ?_
  intro p e s m args below meth c ls hx hb hr hml hown hts hlk hT hG hl Q H locs hQ hw hS
  have hl : lv_has ls 6 [(0, .ref (ad 0)), (1, .int (9 : Int32)), (2, .int a1), (3, .int b1), (4, .int c1)] := hl
  have hown : s.vm.findClass RL = some m.cls := hown
  have hF : CallFix p m c cL_does 6 s args wsL_does RL := ⟨hx, hb, hml, hown, hts⟩
  have hn30 : n ≤ 30 := hw.2.2.1
  have hc20 : nc ≤ 20 := hw.2.2.2
  have k_80 := hts (.constant RL 80 (-2100000000)) (by decide +kernel)
  refine lv_iload_n hx hb dL_does_0 rfl (lv_at hl 1 rfl) ?_
  refine lv_bipush (v := 10) hx hb dL_does_1 (by decide) ?_
  refine lv_icmp_ge (tgt := 18) hx hb dL_does_3 (by decide) (fun c => absurd c (by decide +kernel)) (fun _ => ?_)
  refine lv_aload_n hx hb dL_does_6 rfl (lv_at hl 0 rfl) ?_
  refine lv_iload_n hx hb dL_does_7 rfl (lv_at hl 1 rfl) ?_
  refine lv_iload_n hx hb dL_does_8 rfl (lv_at hl 2 rfl) ?_
  refine lv_iload_n hx hb dL_does_9 rfl (lv_at hl 3 rfl) ?_
  refine lv_iload hx hb dL_does_10 (lv_at hl 4 rfl) ?_
  refine kx_do (st1 := [.int (b2 (!decide (g (100 + 3 * a1.toNatClampNeg) 12 = 0)))]) (kx_cs (As := [.ref (ad 0), .int (9 : Int32), .int a1, .int b1, .int c1]) (rest := []) hF hG hw hS hl.1 (c_L_early_9 l hfl D cy base ad n nc g a1 b1 c1 (by first | assumption | omega | exact mR_9 (by assumption) _ _ | simp [sU, hfr, hz]) (by first | assumption | omega | exact mR_9 (by assumption) _ _ | simp [sU, hfr, hz])) gL_does_L_early rfl rfl rfl hd_L_early ⟨Nat.le_of_ble_eq_true rfl, Nat.le_of_ble_eq_true rfl⟩ rfl rfl (Nat.le_of_ble_eq_true rfl) dL_does_12 ⟨Nat.le_of_ble_eq_true rfl, Nat.le_of_ble_eq_true rfl⟩) hS rfl (fun E9 ce9 q9 H1 locs1 hX9 hw1 hS1 hc9 hv9 hcl9 => ?_) (fun ok_12 H locs hw hS => ?_)
  · rcases hX9 with ⟨rfl, hk⟩ | ⟨rfl, hk⟩ | ⟨rfl, hk⟩
    · refine kx_cat0 hown hG hT ⟨by decide, by decide⟩ (by decide) mIO (hts (.classLink RL 78 "java/lang/IndexOutOfBoundsException") (by decide +kernel)) hc9 hv9 hcl9 ?_
      refine lv_astore (lv' := [(5, .ref q9), (0, .ref (ad 0)), (1, .int (9 : Int32)), (2, .int a1), (3, .int b1), (4, .int c1)]) hx hb dL_does_315 hl (by decide) rfl (fun ls hl => ?_)
      refine lv_ldc hx hb hown k_80 dL_does_317 ?_
      have hne : ¬ (kd2 (isF n a1) (cHere g a1.toNatClampNeg)) = 0 := fun q => by rw [q] at hk; revert hk; decide +kernel
      exact kx_retI hQ hx hb hr hlk hw1 hS1 (Nat.le_of_ble_eq_true rfl) (Nat.le_of_ble_eq_true rfl) dL_does_319 (kd_i trivial (congrArg Prod.fst (oR_n hne)) (congrArg Prod.snd (oR_n hne)))
    · refine kx_cat1 hown hG hT ⟨by decide, by decide⟩ (by decide) mIA (hts (.classLink RL 81 "java/lang/IllegalArgumentException") (by decide +kernel)) mIO nAO (by decide) (hts (.classLink RL 78 "java/lang/IndexOutOfBoundsException") (by decide +kernel)) hc9 hv9 hcl9 ?_
      refine lv_astore (lv' := [(5, .ref q9), (0, .ref (ad 0)), (1, .int (9 : Int32)), (2, .int a1), (3, .int b1), (4, .int c1)]) hx hb dL_does_320 hl (by decide) rfl (fun ls hl => ?_)
      refine lv_ldc hx hb hown k_80 dL_does_322 ?_
      have hne : ¬ (kd2 (isF n a1) (cHere g a1.toNatClampNeg)) = 0 := fun q => by rw [q] at hk; revert hk; decide +kernel
      exact kx_retI hQ hx hb hr hlk hw1 hS1 (Nat.le_of_ble_eq_true rfl) (Nat.le_of_ble_eq_true rfl) dL_does_324 (kd_i trivial (congrArg Prod.fst (oR_n hne)) (congrArg Prod.snd (oR_n hne)))
    · refine kx_cat2 hown hG hT ⟨by decide, by decide⟩ (by decide) mIS (hts (.classLink RL 83 "java/lang/IllegalStateException") (by decide +kernel)) mIO nSO (by decide) (hts (.classLink RL 78 "java/lang/IndexOutOfBoundsException") (by decide +kernel)) mIA nSA (by decide) (hts (.classLink RL 81 "java/lang/IllegalArgumentException") (by decide +kernel)) hc9 hv9 hcl9 ?_
      refine lv_astore (lv' := [(5, .ref q9), (0, .ref (ad 0)), (1, .int (9 : Int32)), (2, .int a1), (3, .int b1), (4, .int c1)]) hx hb dL_does_325 hl (by decide) rfl (fun ls hl => ?_)
      refine lv_ldc hx hb hown k_80 dL_does_327 ?_
      have hne : ¬ (kd2 (isF n a1) (cHere g a1.toNatClampNeg)) = 0 := fun q => by rw [q] at hk; revert hk; decide +kernel
      exact kx_retI hQ hx hb hr hlk hw1 hS1 (Nat.le_of_ble_eq_true rfl) (Nat.le_of_ble_eq_true rfl) dL_does_329 (kd_i trivial (congrArg Prod.fst (oR_n hne)) (congrArg Prod.snd (oR_n hne)))
  · refine lv_goto (tgt := 314) hx hb dL_does_15 (by decide) ?_
    exact kx_retI hQ hx hb hr hlk hw hS (Nat.le_of_ble_eq_true rfl) (Nat.le_of_ble_eq_true rfl) dL_does_314 (kd_i (trivial) (congrArg Prod.fst (oR_y ok_12)) (congrArg Prod.snd (oR_y ok_12)))
set_option maxHeartbeats 4000000 in
set_option maxRecDepth 100000 in
theorem c_L_does_10 (l : Launch) (hfl : l.stackTraces = false) (D : va_G) (cy : Nat → ClassId) (base : Nat → Prop) (ad : Nat → Nat) (n nc : Nat) (g : sg) (a1 : Int32) (b1 : Int32) (c1 : Int32) (hcr : ∀ j, j < 20 → g 7 j = if j < nc then 1 else 0) (hR : cR n nc g) : kM l yL_does wsL_does (kR 9 3 18) D cy base ad n nc g [.ref (ad 0), .int (10 : Int32), .int a1, .int b1, .int c1] (kD True (some (.int ((dF_10 n nc g a1 b1).1))) ad n nc ((dF_10 n nc g a1 b1).2)) kNo 3 18 := by
  refine kx_methH (cc := cL_does) (maxL := 6) (ret := (some .int)) (hh := [(0, 314, 315, 78), (0, 314, 320, 81), (0, 314, 325, 83)]) (by decide) rfl (Nat.le_of_ble_eq_true rfl) ?_
  intro p e s m args below meth c ls hx hb hr hml hown hts hlk hT hG hl Q H locs hQ hw hS
  have hl : lv_has ls 6 [(0, .ref (ad 0)), (1, .int (10 : Int32)), (2, .int a1), (3, .int b1), (4, .int c1)] := hl
  have hown : s.vm.findClass RL = some m.cls := hown
  have hF : CallFix p m c cL_does 6 s args wsL_does RL := ⟨hx, hb, hml, hown, hts⟩
  have hn30 : n ≤ 30 := hw.2.2.1
  have hc20 : nc ≤ 20 := hw.2.2.2
  have k_80 := hts (.constant RL 80 (-2100000000)) (by decide +kernel)
  refine lv_iload_n hx hb dL_does_0 rfl (lv_at hl 1 rfl) ?_
  refine lv_bipush (v := 10) hx hb dL_does_1 (by decide) ?_
  refine lv_icmp_ge (tgt := 18) hx hb dL_does_3 (by decide) (fun _ => ?_) (fun c => absurd (by decide +kernel) c)
  refine lv_iload_n hx hb dL_does_18 rfl (lv_at hl 1 rfl) ?_
  refine lv_bipush (v := 10) hx hb dL_does_19 (by decide) ?_
  refine lv_icmp_ne (tgt := 33) hx hb dL_does_21 (by decide) (fun c => absurd (by decide +kernel) c) (fun _ => ?_)
  refine lv_aload_n hx hb dL_does_24 rfl (lv_at hl 0 rfl) ?_
  refine lv_iload_n hx hb dL_does_25 rfl (lv_at hl 2 rfl) ?_
  refine lv_iload_n hx hb dL_does_26 rfl (lv_at hl 3 rfl) ?_
  refine kx_do (st1 := [.int (bits (g (200 + a1.toNatClampNeg) 5 ||| b1))]) (kx_cv (As := [.int a1, .int b1]) (rest := []) hF hG hw hS hl.1 kC_0 rfl (c_X2_say l hfl D cy base ad n nc g a1 b1 (by first | assumption | omega | exact mR_9 (by assumption) _ _ | simp [sU, hcr, hR]) (by first | assumption | omega | exact mR_9 (by assumption) _ _ | simp [sU, hcr, hR])) gL_does_X2_say rfl rfl rfl hd_X2_say ⟨Nat.le_of_ble_eq_true rfl, Nat.le_of_ble_eq_true rfl⟩ rfl rfl (Nat.le_of_ble_eq_true rfl) dL_does_27 ⟨Nat.le_of_ble_eq_true rfl, Nat.le_of_ble_eq_true rfl⟩) hS rfl (fun E9 ce9 q9 H1 locs1 hX9 hw1 hS1 hc9 hv9 hcl9 => ?_) (fun ok_27 H locs hw hS => ?_)
  · rcases hX9 with ⟨rfl, hk⟩ | ⟨rfl, hk⟩ | ⟨rfl, hk⟩
    · refine kx_cat0 hown hG hT ⟨by decide, by decide⟩ (by decide) mIO (hts (.classLink RL 78 "java/lang/IndexOutOfBoundsException") (by decide +kernel)) hc9 hv9 hcl9 ?_
      refine lv_astore (lv' := [(5, .ref q9), (0, .ref (ad 0)), (1, .int (10 : Int32)), (2, .int a1), (3, .int b1), (4, .int c1)]) hx hb dL_does_315 hl (by decide) rfl (fun ls hl => ?_)
      refine lv_ldc hx hb hown k_80 dL_does_317 ?_
      have hne : ¬ (kd3 (isF nc a1) (inn b1 0 16777215) (decide (g (200 + a1.toNatClampNeg) 7 = 0))) = 0 := fun q => by rw [q] at hk; revert hk; decide +kernel
      exact kx_retI hQ hx hb hr hlk hw1 hS1 (Nat.le_of_ble_eq_true rfl) (Nat.le_of_ble_eq_true rfl) dL_does_319 (kd_i trivial (congrArg Prod.fst (oR_n hne)) (congrArg Prod.snd (oR_n hne)))
    · refine kx_cat1 hown hG hT ⟨by decide, by decide⟩ (by decide) mIA (hts (.classLink RL 81 "java/lang/IllegalArgumentException") (by decide +kernel)) mIO nAO (by decide) (hts (.classLink RL 78 "java/lang/IndexOutOfBoundsException") (by decide +kernel)) hc9 hv9 hcl9 ?_
      refine lv_astore (lv' := [(5, .ref q9), (0, .ref (ad 0)), (1, .int (10 : Int32)), (2, .int a1), (3, .int b1), (4, .int c1)]) hx hb dL_does_320 hl (by decide) rfl (fun ls hl => ?_)
      refine lv_ldc hx hb hown k_80 dL_does_322 ?_
      have hne : ¬ (kd3 (isF nc a1) (inn b1 0 16777215) (decide (g (200 + a1.toNatClampNeg) 7 = 0))) = 0 := fun q => by rw [q] at hk; revert hk; decide +kernel
      exact kx_retI hQ hx hb hr hlk hw1 hS1 (Nat.le_of_ble_eq_true rfl) (Nat.le_of_ble_eq_true rfl) dL_does_324 (kd_i trivial (congrArg Prod.fst (oR_n hne)) (congrArg Prod.snd (oR_n hne)))
    · refine kx_cat2 hown hG hT ⟨by decide, by decide⟩ (by decide) mIS (hts (.classLink RL 83 "java/lang/IllegalStateException") (by decide +kernel)) mIO nSO (by decide) (hts (.classLink RL 78 "java/lang/IndexOutOfBoundsException") (by decide +kernel)) mIA nSA (by decide) (hts (.classLink RL 81 "java/lang/IllegalArgumentException") (by decide +kernel)) hc9 hv9 hcl9 ?_
      refine lv_astore (lv' := [(5, .ref q9), (0, .ref (ad 0)), (1, .int (10 : Int32)), (2, .int a1), (3, .int b1), (4, .int c1)]) hx hb dL_does_325 hl (by decide) rfl (fun ls hl => ?_)
      refine lv_ldc hx hb hown k_80 dL_does_327 ?_
      have hne : ¬ (kd3 (isF nc a1) (inn b1 0 16777215) (decide (g (200 + a1.toNatClampNeg) 7 = 0))) = 0 := fun q => by rw [q] at hk; revert hk; decide +kernel
      exact kx_retI hQ hx hb hr hlk hw1 hS1 (Nat.le_of_ble_eq_true rfl) (Nat.le_of_ble_eq_true rfl) dL_does_329 (kd_i trivial (congrArg Prod.fst (oR_n hne)) (congrArg Prod.snd (oR_n hne)))
  · refine lv_goto (tgt := 314) hx hb dL_does_30 (by decide) ?_
    exact kx_retI hQ hx hb hr hlk hw hS (Nat.le_of_ble_eq_true rfl) (Nat.le_of_ble_eq_true rfl) dL_does_314 (kd_i (trivial) (congrArg Prod.fst (oR_y ok_27)) (congrArg Prod.snd (oR_y ok_27)))
set_option maxHeartbeats 4000000 in
set_option maxRecDepth 100000 in
theorem c_L_does_11 (l : Launch) (hfl : l.stackTraces = false) (D : va_G) (cy : Nat → ClassId) (base : Nat → Prop) (ad : Nat → Nat) (n nc : Nat) (g : sg) (a1 : Int32) (b1 : Int32) (c1 : Int32) (hcr : ∀ j, j < 20 → g 7 j = if j < nc then 1 else 0) (hR : cR n nc g) : kM l yL_does wsL_does (kR 9 3 18) D cy base ad n nc g [.ref (ad 0), .int (11 : Int32), .int a1, .int b1, .int c1] (kD True (some (.int ((dF_11 n nc g a1 b1).1))) ad n nc ((dF_11 n nc g a1 b1).2)) kNo 3 18 := by
  refine kx_methH (cc := cL_does) (maxL := 6) (ret := (some .int)) (hh := [(0, 314, 315, 78), (0, 314, 320, 81), (0, 314, 325, 83)]) (by decide) rfl (Nat.le_of_ble_eq_true rfl) ?_
  intro p e s m args below meth c ls hx hb hr hml hown hts hlk hT hG hl Q H locs hQ hw hS
  have hl : lv_has ls 6 [(0, .ref (ad 0)), (1, .int (11 : Int32)), (2, .int a1), (3, .int b1), (4, .int c1)] := hl
  have hown : s.vm.findClass RL = some m.cls := hown
  have hF : CallFix p m c cL_does 6 s args wsL_does RL := ⟨hx, hb, hml, hown, hts⟩
  have hn30 : n ≤ 30 := hw.2.2.1
  have hc20 : nc ≤ 20 := hw.2.2.2
  have k_80 := hts (.constant RL 80 (-2100000000)) (by decide +kernel)
  refine lv_iload_n hx hb dL_does_0 rfl (lv_at hl 1 rfl) ?_
  refine lv_bipush (v := 10) hx hb dL_does_1 (by decide) ?_
  refine lv_icmp_ge (tgt := 18) hx hb dL_does_3 (by decide) (fun _ => ?_) (fun c => absurd (by decide +kernel) c)
  refine lv_iload_n hx hb dL_does_18 rfl (lv_at hl 1 rfl) ?_
  refine lv_bipush (v := 10) hx hb dL_does_19 (by decide) ?_
  refine lv_icmp_ne (tgt := 33) hx hb dL_does_21 (by decide) (fun _ => ?_) (fun c => absurd c (by decide +kernel))
  refine lv_iload_n hx hb dL_does_33 rfl (lv_at hl 1 rfl) ?_
  refine lv_bipush (v := 11) hx hb dL_does_34 (by decide) ?_
  refine lv_icmp_ne (tgt := 48) hx hb dL_does_36 (by decide) (fun c => absurd (by decide +kernel) c) (fun _ => ?_)
  refine lv_aload_n hx hb dL_does_39 rfl (lv_at hl 0 rfl) ?_
  refine lv_iload_n hx hb dL_does_40 rfl (lv_at hl 2 rfl) ?_
  refine lv_iload_n hx hb dL_does_41 rfl (lv_at hl 3 rfl) ?_
  refine kx_do (st1 := [.int (bits (g (200 + a1.toNatClampNeg) 6 ||| b1))]) (kx_cv (As := [.int a1, .int b1]) (rest := []) hF hG hw hS hl.1 kC_0 rfl (c_X2_tell l hfl D cy base ad n nc g a1 b1 (by first | assumption | omega | exact mR_9 (by assumption) _ _ | simp [sU, hcr, hR]) (by first | assumption | omega | exact mR_9 (by assumption) _ _ | simp [sU, hcr, hR])) gL_does_X2_tell rfl rfl rfl hd_X2_tell ⟨Nat.le_of_ble_eq_true rfl, Nat.le_of_ble_eq_true rfl⟩ rfl rfl (Nat.le_of_ble_eq_true rfl) dL_does_42 ⟨Nat.le_of_ble_eq_true rfl, Nat.le_of_ble_eq_true rfl⟩) hS rfl (fun E9 ce9 q9 H1 locs1 hX9 hw1 hS1 hc9 hv9 hcl9 => ?_) (fun ok_42 H locs hw hS => ?_)
  · rcases hX9 with ⟨rfl, hk⟩ | ⟨rfl, hk⟩ | ⟨rfl, hk⟩
    · refine kx_cat0 hown hG hT ⟨by decide, by decide⟩ (by decide) mIO (hts (.classLink RL 78 "java/lang/IndexOutOfBoundsException") (by decide +kernel)) hc9 hv9 hcl9 ?_
      refine lv_astore (lv' := [(5, .ref q9), (0, .ref (ad 0)), (1, .int (11 : Int32)), (2, .int a1), (3, .int b1), (4, .int c1)]) hx hb dL_does_315 hl (by decide) rfl (fun ls hl => ?_)
      refine lv_ldc hx hb hown k_80 dL_does_317 ?_
      have hne : ¬ (kd3 (isF nc a1) (inn b1 0 16777215) (decide (g (200 + a1.toNatClampNeg) 7 = 0))) = 0 := fun q => by rw [q] at hk; revert hk; decide +kernel
      exact kx_retI hQ hx hb hr hlk hw1 hS1 (Nat.le_of_ble_eq_true rfl) (Nat.le_of_ble_eq_true rfl) dL_does_319 (kd_i trivial (congrArg Prod.fst (oR_n hne)) (congrArg Prod.snd (oR_n hne)))
    · refine kx_cat1 hown hG hT ⟨by decide, by decide⟩ (by decide) mIA (hts (.classLink RL 81 "java/lang/IllegalArgumentException") (by decide +kernel)) mIO nAO (by decide) (hts (.classLink RL 78 "java/lang/IndexOutOfBoundsException") (by decide +kernel)) hc9 hv9 hcl9 ?_
      refine lv_astore (lv' := [(5, .ref q9), (0, .ref (ad 0)), (1, .int (11 : Int32)), (2, .int a1), (3, .int b1), (4, .int c1)]) hx hb dL_does_320 hl (by decide) rfl (fun ls hl => ?_)
      refine lv_ldc hx hb hown k_80 dL_does_322 ?_
      have hne : ¬ (kd3 (isF nc a1) (inn b1 0 16777215) (decide (g (200 + a1.toNatClampNeg) 7 = 0))) = 0 := fun q => by rw [q] at hk; revert hk; decide +kernel
      exact kx_retI hQ hx hb hr hlk hw1 hS1 (Nat.le_of_ble_eq_true rfl) (Nat.le_of_ble_eq_true rfl) dL_does_324 (kd_i trivial (congrArg Prod.fst (oR_n hne)) (congrArg Prod.snd (oR_n hne)))
    · refine kx_cat2 hown hG hT ⟨by decide, by decide⟩ (by decide) mIS (hts (.classLink RL 83 "java/lang/IllegalStateException") (by decide +kernel)) mIO nSO (by decide) (hts (.classLink RL 78 "java/lang/IndexOutOfBoundsException") (by decide +kernel)) mIA nSA (by decide) (hts (.classLink RL 81 "java/lang/IllegalArgumentException") (by decide +kernel)) hc9 hv9 hcl9 ?_
      refine lv_astore (lv' := [(5, .ref q9), (0, .ref (ad 0)), (1, .int (11 : Int32)), (2, .int a1), (3, .int b1), (4, .int c1)]) hx hb dL_does_325 hl (by decide) rfl (fun ls hl => ?_)
      refine lv_ldc hx hb hown k_80 dL_does_327 ?_
      have hne : ¬ (kd3 (isF nc a1) (inn b1 0 16777215) (decide (g (200 + a1.toNatClampNeg) 7 = 0))) = 0 := fun q => by rw [q] at hk; revert hk; decide +kernel
      exact kx_retI hQ hx hb hr hlk hw1 hS1 (Nat.le_of_ble_eq_true rfl) (Nat.le_of_ble_eq_true rfl) dL_does_329 (kd_i trivial (congrArg Prod.fst (oR_n hne)) (congrArg Prod.snd (oR_n hne)))
  · refine lv_goto (tgt := 314) hx hb dL_does_45 (by decide) ?_
    exact kx_retI hQ hx hb hr hlk hw hS (Nat.le_of_ble_eq_true rfl) (Nat.le_of_ble_eq_true rfl) dL_does_314 (kd_i (trivial) (congrArg Prod.fst (oR_y ok_42)) (congrArg Prod.snd (oR_y ok_42)))
set_option maxHeartbeats 4000000 in
set_option maxRecDepth 100000 in
theorem c_L_does_12 (l : Launch) (hfl : l.stackTraces = false) (D : va_G) (cy : Nat → ClassId) (base : Nat → Prop) (ad : Nat → Nat) (n nc : Nat) (g : sg) (a1 : Int32) (b1 : Int32) (c1 : Int32) (hcr : ∀ j, j < 20 → g 7 j = if j < nc then 1 else 0) : kM l yL_does wsL_does (kR 9 2 12) D cy base ad n nc g [.ref (ad 0), .int (12 : Int32), .int a1, .int b1, .int c1] (kD True (some (.int ((dF_12 n nc g a1).1))) ad n nc ((dF_12 n nc g a1).2)) kNo 2 12 := by
  refine kx_methH (cc := cL_does) (maxL := 6) (ret := (some .int)) (hh := [(0, 314, 315, 78), (0, 314, 320, 81), (0, 314, 325, 83)]) (by decide) rfl (Nat.le_of_ble_eq_true rfl) ?_
  intro p e s m args below meth c ls hx hb hr hml hown hts hlk hT hG hl Q H locs hQ hw hS
  have hl : lv_has ls 6 [(0, .ref (ad 0)), (1, .int (12 : Int32)), (2, .int a1), (3, .int b1), (4, .int c1)] := hl
  have hown : s.vm.findClass RL = some m.cls := hown
  have hF : CallFix p m c cL_does 6 s args wsL_does RL := ⟨hx, hb, hml, hown, hts⟩
  have hn30 : n ≤ 30 := hw.2.2.1
  have hc20 : nc ≤ 20 := hw.2.2.2
  have k_80 := hts (.constant RL 80 (-2100000000)) (by decide +kernel)
  refine lv_iload_n hx hb dL_does_0 rfl (lv_at hl 1 rfl) ?_
  refine lv_bipush (v := 10) hx hb dL_does_1 (by decide) ?_
  refine lv_icmp_ge (tgt := 18) hx hb dL_does_3 (by decide) (fun _ => ?_) (fun c => absurd (by decide +kernel) c)
  refine lv_iload_n hx hb dL_does_18 rfl (lv_at hl 1 rfl) ?_
  refine lv_bipush (v := 10) hx hb dL_does_19 (by decide) ?_
  refine lv_icmp_ne (tgt := 33) hx hb dL_does_21 (by decide) (fun _ => ?_) (fun c => absurd c (by decide +kernel))
  refine lv_iload_n hx hb dL_does_33 rfl (lv_at hl 1 rfl) ?_
  refine lv_bipush (v := 11) hx hb dL_does_34 (by decide) ?_
  refine lv_icmp_ne (tgt := 48) hx hb dL_does_36 (by decide) (fun _ => ?_) (fun c => absurd c (by decide +kernel))
  refine lv_iload_n hx hb dL_does_48 rfl (lv_at hl 1 rfl) ?_
  refine lv_bipush (v := 12) hx hb dL_does_49 (by decide) ?_
  refine lv_icmp_ne (tgt := 62) hx hb dL_does_51 (by decide) (fun c => absurd (by decide +kernel) c) (fun _ => ?_)
  refine lv_aload_n hx hb dL_does_54 rfl (lv_at hl 0 rfl) ?_
  refine lv_iload_n hx hb dL_does_55 rfl (lv_at hl 2 rfl) ?_
  refine kx_do (st1 := [.int (g 0 10)]) (kx_cv (As := [.int a1]) (rest := []) hF hG hw hS hl.1 kC_0 rfl (c_X2_withdraw l hfl D cy base ad n nc g a1 (by first | assumption | omega | exact mR_9 (by assumption) _ _ | simp [sU, hcr])) gL_does_X2_withdraw rfl rfl rfl hd_X2_withdraw ⟨Nat.le_of_ble_eq_true rfl, Nat.le_of_ble_eq_true rfl⟩ rfl rfl (Nat.le_of_ble_eq_true rfl) dL_does_56 ⟨Nat.le_of_ble_eq_true rfl, Nat.le_of_ble_eq_true rfl⟩) hS rfl (fun E9 ce9 q9 H1 locs1 hX9 hw1 hS1 hc9 hv9 hcl9 => ?_) (fun ok_56 H locs hw hS => ?_)
  · rcases hX9 with ⟨rfl, hk⟩ | ⟨rfl, hk⟩ | ⟨rfl, hk⟩
    · refine kx_cat0 hown hG hT ⟨by decide, by decide⟩ (by decide) mIO (hts (.classLink RL 78 "java/lang/IndexOutOfBoundsException") (by decide +kernel)) hc9 hv9 hcl9 ?_
      refine lv_astore (lv' := [(5, .ref q9), (0, .ref (ad 0)), (1, .int (12 : Int32)), (2, .int a1), (3, .int b1), (4, .int c1)]) hx hb dL_does_315 hl (by decide) rfl (fun ls hl => ?_)
      refine lv_ldc hx hb hown k_80 dL_does_317 ?_
      have hne : ¬ (kd2 (isF nc a1) (decide (g (200 + a1.toNatClampNeg) 7 = 0))) = 0 := fun q => by rw [q] at hk; revert hk; decide +kernel
      exact kx_retI hQ hx hb hr hlk hw1 hS1 (Nat.le_of_ble_eq_true rfl) (Nat.le_of_ble_eq_true rfl) dL_does_319 (kd_i trivial (congrArg Prod.fst (oR_n hne)) (congrArg Prod.snd (oR_n hne)))
    · refine kx_cat1 hown hG hT ⟨by decide, by decide⟩ (by decide) mIA (hts (.classLink RL 81 "java/lang/IllegalArgumentException") (by decide +kernel)) mIO nAO (by decide) (hts (.classLink RL 78 "java/lang/IndexOutOfBoundsException") (by decide +kernel)) hc9 hv9 hcl9 ?_
      refine lv_astore (lv' := [(5, .ref q9), (0, .ref (ad 0)), (1, .int (12 : Int32)), (2, .int a1), (3, .int b1), (4, .int c1)]) hx hb dL_does_320 hl (by decide) rfl (fun ls hl => ?_)
      refine lv_ldc hx hb hown k_80 dL_does_322 ?_
      have hne : ¬ (kd2 (isF nc a1) (decide (g (200 + a1.toNatClampNeg) 7 = 0))) = 0 := fun q => by rw [q] at hk; revert hk; decide +kernel
      exact kx_retI hQ hx hb hr hlk hw1 hS1 (Nat.le_of_ble_eq_true rfl) (Nat.le_of_ble_eq_true rfl) dL_does_324 (kd_i trivial (congrArg Prod.fst (oR_n hne)) (congrArg Prod.snd (oR_n hne)))
    · refine kx_cat2 hown hG hT ⟨by decide, by decide⟩ (by decide) mIS (hts (.classLink RL 83 "java/lang/IllegalStateException") (by decide +kernel)) mIO nSO (by decide) (hts (.classLink RL 78 "java/lang/IndexOutOfBoundsException") (by decide +kernel)) mIA nSA (by decide) (hts (.classLink RL 81 "java/lang/IllegalArgumentException") (by decide +kernel)) hc9 hv9 hcl9 ?_
      refine lv_astore (lv' := [(5, .ref q9), (0, .ref (ad 0)), (1, .int (12 : Int32)), (2, .int a1), (3, .int b1), (4, .int c1)]) hx hb dL_does_325 hl (by decide) rfl (fun ls hl => ?_)
      refine lv_ldc hx hb hown k_80 dL_does_327 ?_
      have hne : ¬ (kd2 (isF nc a1) (decide (g (200 + a1.toNatClampNeg) 7 = 0))) = 0 := fun q => by rw [q] at hk; revert hk; decide +kernel
      exact kx_retI hQ hx hb hr hlk hw1 hS1 (Nat.le_of_ble_eq_true rfl) (Nat.le_of_ble_eq_true rfl) dL_does_329 (kd_i trivial (congrArg Prod.fst (oR_n hne)) (congrArg Prod.snd (oR_n hne)))
  · refine lv_goto (tgt := 314) hx hb dL_does_59 (by decide) ?_
    exact kx_retI hQ hx hb hr hlk hw hS (Nat.le_of_ble_eq_true rfl) (Nat.le_of_ble_eq_true rfl) dL_does_314 (kd_i (trivial) (congrArg Prod.fst (oR_y ok_56)) (congrArg Prod.snd (oR_y ok_56)))
set_option maxHeartbeats 4000000 in
set_option maxRecDepth 100000 in
theorem c_L_does_13 (l : Launch) (hfl : l.stackTraces = false) (D : va_G) (cy : Nat → ClassId) (base : Nat → Prop) (ad : Nat → Nat) (n nc : Nat) (g : sg) (a1 : Int32) (b1 : Int32) (c1 : Int32) (hfr : ∀ j, j < 30 → g 6 j = if j < n then 1 else 0) (hcr : ∀ j, j < 20 → g 7 j = if j < nc then 1 else 0) (hR : cR n nc g) : kM l yL_does wsL_does (kR 9 3 18) D cy base ad n nc g [.ref (ad 0), .int (13 : Int32), .int a1, .int b1, .int c1] (kD True (some (.int ((dF_13 n nc g a1 b1).1))) ad n nc ((dF_13 n nc g a1 b1).2)) kNo 3 18 := by
  refine kx_methH (cc := cL_does) (maxL := 6) (ret := (some .int)) (hh := [(0, 314, 315, 78), (0, 314, 320, 81), (0, 314, 325, 83)]) (by decide) rfl (Nat.le_of_ble_eq_true rfl) ?_
  intro p e s m args below meth c ls hx hb hr hml hown hts hlk hT hG hl Q H locs hQ hw hS
  have hl : lv_has ls 6 [(0, .ref (ad 0)), (1, .int (13 : Int32)), (2, .int a1), (3, .int b1), (4, .int c1)] := hl
  have hown : s.vm.findClass RL = some m.cls := hown
  have hF : CallFix p m c cL_does 6 s args wsL_does RL := ⟨hx, hb, hml, hown, hts⟩
  have hn30 : n ≤ 30 := hw.2.2.1
  have hc20 : nc ≤ 20 := hw.2.2.2
  have k_80 := hts (.constant RL 80 (-2100000000)) (by decide +kernel)
  refine lv_iload_n hx hb dL_does_0 rfl (lv_at hl 1 rfl) ?_
  refine lv_bipush (v := 10) hx hb dL_does_1 (by decide) ?_
  refine lv_icmp_ge (tgt := 18) hx hb dL_does_3 (by decide) (fun _ => ?_) (fun c => absurd (by decide +kernel) c)
  refine lv_iload_n hx hb dL_does_18 rfl (lv_at hl 1 rfl) ?_
  refine lv_bipush (v := 10) hx hb dL_does_19 (by decide) ?_
  refine lv_icmp_ne (tgt := 33) hx hb dL_does_21 (by decide) (fun _ => ?_) (fun c => absurd c (by decide +kernel))
  refine lv_iload_n hx hb dL_does_33 rfl (lv_at hl 1 rfl) ?_
  refine lv_bipush (v := 11) hx hb dL_does_34 (by decide) ?_
  refine lv_icmp_ne (tgt := 48) hx hb dL_does_36 (by decide) (fun _ => ?_) (fun c => absurd c (by decide +kernel))
  refine lv_iload_n hx hb dL_does_48 rfl (lv_at hl 1 rfl) ?_
  refine lv_bipush (v := 12) hx hb dL_does_49 (by decide) ?_
  refine lv_icmp_ne (tgt := 62) hx hb dL_does_51 (by decide) (fun _ => ?_) (fun c => absurd c (by decide +kernel))
  refine lv_iload_n hx hb dL_does_62 rfl (lv_at hl 1 rfl) ?_
  refine lv_bipush (v := 13) hx hb dL_does_63 (by decide) ?_
  refine lv_icmp_ne (tgt := 77) hx hb dL_does_65 (by decide) (fun c => absurd (by decide +kernel) c) (fun _ => ?_)
  refine lv_aload_n hx hb dL_does_68 rfl (lv_at hl 0 rfl) ?_
  refine lv_iload_n hx hb dL_does_69 rfl (lv_at hl 2 rfl) ?_
  refine lv_iload_n hx hb dL_does_70 rfl (lv_at hl 3 rfl) ?_
  refine kx_do (st1 := [.int (5 + ((g (100 + 3 * a1.toNatClampNeg) 4 * g 5 (g (100 + 3 * a1.toNatClampNeg) 0).toNatClampNeg) / 100))]) (kx_cv (As := [.int a1, .int b1]) (rest := []) hF hG hw hS hl.1 kC_0 rfl (c_X2_release l hfl D cy base ad n nc g a1 b1 (by first | assumption | omega | exact mR_9 (by assumption) _ _ | simp [sU, hfr, hcr, hR]) (by first | assumption | omega | exact mR_9 (by assumption) _ _ | simp [sU, hfr, hcr, hR]) (by first | assumption | omega | exact mR_9 (by assumption) _ _ | simp [sU, hfr, hcr, hR])) gL_does_X2_release rfl rfl rfl hd_X2_release ⟨Nat.le_of_ble_eq_true rfl, Nat.le_of_ble_eq_true rfl⟩ rfl rfl (Nat.le_of_ble_eq_true rfl) dL_does_71 ⟨Nat.le_of_ble_eq_true rfl, Nat.le_of_ble_eq_true rfl⟩) hS rfl (fun E9 ce9 q9 H1 locs1 hX9 hw1 hS1 hc9 hv9 hcl9 => ?_) (fun ok_71 H locs hw hS => ?_)
  · rcases hX9 with ⟨rfl, hk⟩ | ⟨rfl, hk⟩ | ⟨rfl, hk⟩
    · refine kx_cat0 hown hG hT ⟨by decide, by decide⟩ (by decide) mIO (hts (.classLink RL 78 "java/lang/IndexOutOfBoundsException") (by decide +kernel)) hc9 hv9 hcl9 ?_
      refine lv_astore (lv' := [(5, .ref q9), (0, .ref (ad 0)), (1, .int (13 : Int32)), (2, .int a1), (3, .int b1), (4, .int c1)]) hx hb dL_does_315 hl (by decide) rfl (fun ls hl => ?_)
      refine lv_ldc hx hb hown k_80 dL_does_317 ?_
      have hne : ¬ (kd2 (isF n a1 && isF nc b1) (decide (g (100 + 3 * a1.toNatClampNeg) 9 = 0) && (decide (g (100 + 3 * a1.toNatClampNeg) 12 = 0) && cServe g nc a1.toNatClampNeg b1.toNatClampNeg))) = 0 := fun q => by rw [q] at hk; revert hk; decide +kernel
      exact kx_retI hQ hx hb hr hlk hw1 hS1 (Nat.le_of_ble_eq_true rfl) (Nat.le_of_ble_eq_true rfl) dL_does_319 (kd_i trivial (congrArg Prod.fst (oR_n hne)) (congrArg Prod.snd (oR_n hne)))
    · refine kx_cat1 hown hG hT ⟨by decide, by decide⟩ (by decide) mIA (hts (.classLink RL 81 "java/lang/IllegalArgumentException") (by decide +kernel)) mIO nAO (by decide) (hts (.classLink RL 78 "java/lang/IndexOutOfBoundsException") (by decide +kernel)) hc9 hv9 hcl9 ?_
      refine lv_astore (lv' := [(5, .ref q9), (0, .ref (ad 0)), (1, .int (13 : Int32)), (2, .int a1), (3, .int b1), (4, .int c1)]) hx hb dL_does_320 hl (by decide) rfl (fun ls hl => ?_)
      refine lv_ldc hx hb hown k_80 dL_does_322 ?_
      have hne : ¬ (kd2 (isF n a1 && isF nc b1) (decide (g (100 + 3 * a1.toNatClampNeg) 9 = 0) && (decide (g (100 + 3 * a1.toNatClampNeg) 12 = 0) && cServe g nc a1.toNatClampNeg b1.toNatClampNeg))) = 0 := fun q => by rw [q] at hk; revert hk; decide +kernel
      exact kx_retI hQ hx hb hr hlk hw1 hS1 (Nat.le_of_ble_eq_true rfl) (Nat.le_of_ble_eq_true rfl) dL_does_324 (kd_i trivial (congrArg Prod.fst (oR_n hne)) (congrArg Prod.snd (oR_n hne)))
    · refine kx_cat2 hown hG hT ⟨by decide, by decide⟩ (by decide) mIS (hts (.classLink RL 83 "java/lang/IllegalStateException") (by decide +kernel)) mIO nSO (by decide) (hts (.classLink RL 78 "java/lang/IndexOutOfBoundsException") (by decide +kernel)) mIA nSA (by decide) (hts (.classLink RL 81 "java/lang/IllegalArgumentException") (by decide +kernel)) hc9 hv9 hcl9 ?_
      refine lv_astore (lv' := [(5, .ref q9), (0, .ref (ad 0)), (1, .int (13 : Int32)), (2, .int a1), (3, .int b1), (4, .int c1)]) hx hb dL_does_325 hl (by decide) rfl (fun ls hl => ?_)
      refine lv_ldc hx hb hown k_80 dL_does_327 ?_
      have hne : ¬ (kd2 (isF n a1 && isF nc b1) (decide (g (100 + 3 * a1.toNatClampNeg) 9 = 0) && (decide (g (100 + 3 * a1.toNatClampNeg) 12 = 0) && cServe g nc a1.toNatClampNeg b1.toNatClampNeg))) = 0 := fun q => by rw [q] at hk; revert hk; decide +kernel
      exact kx_retI hQ hx hb hr hlk hw1 hS1 (Nat.le_of_ble_eq_true rfl) (Nat.le_of_ble_eq_true rfl) dL_does_329 (kd_i trivial (congrArg Prod.fst (oR_n hne)) (congrArg Prod.snd (oR_n hne)))
  · refine lv_goto (tgt := 314) hx hb dL_does_74 (by decide) ?_
    exact kx_retI hQ hx hb hr hlk hw hS (Nat.le_of_ble_eq_true rfl) (Nat.le_of_ble_eq_true rfl) dL_does_314 (kd_i (trivial) (congrArg Prod.fst (oR_y ok_71)) (congrArg Prod.snd (oR_y ok_71)))
set_option maxHeartbeats 4000000 in
set_option maxRecDepth 100000 in
theorem c_L_does_14 (l : Launch) (hfl : l.stackTraces = false) (D : va_G) (cy : Nat → ClassId) (base : Nat → Prop) (ad : Nat → Nat) (n nc : Nat) (g : sg) (a1 : Int32) (b1 : Int32) (c1 : Int32) (hfr : ∀ j, j < 30 → g 6 j = if j < n then 1 else 0) : kM l yL_does wsL_does (kR 9 2 12) D cy base ad n nc g [.ref (ad 0), .int (14 : Int32), .int a1, .int b1, .int c1] (kD True (some (.int ((dF_14 n nc g a1 b1).1))) ad n nc ((dF_14 n nc g a1 b1).2)) kNo 2 12 := by
  refine kx_methH (cc := cL_does) (maxL := 6) (ret := (some .int)) (hh := [(0, 314, 315, 78), (0, 314, 320, 81), (0, 314, 325, 83)]) (by decide) rfl (Nat.le_of_ble_eq_true rfl) ?_
  intro p e s m args below meth c ls hx hb hr hml hown hts hlk hT hG hl Q H locs hQ hw hS
  have hl : lv_has ls 6 [(0, .ref (ad 0)), (1, .int (14 : Int32)), (2, .int a1), (3, .int b1), (4, .int c1)] := hl
  have hown : s.vm.findClass RL = some m.cls := hown
  have hF : CallFix p m c cL_does 6 s args wsL_does RL := ⟨hx, hb, hml, hown, hts⟩
  have hn30 : n ≤ 30 := hw.2.2.1
  have hc20 : nc ≤ 20 := hw.2.2.2
  have k_80 := hts (.constant RL 80 (-2100000000)) (by decide +kernel)
  refine lv_iload_n hx hb dL_does_0 rfl (lv_at hl 1 rfl) ?_
  refine lv_bipush (v := 10) hx hb dL_does_1 (by decide) ?_
  refine lv_icmp_ge (tgt := 18) hx hb dL_does_3 (by decide) (fun _ => ?_) (fun c => absurd (by decide +kernel) c)
  refine lv_iload_n hx hb dL_does_18 rfl (lv_at hl 1 rfl) ?_
  refine lv_bipush (v := 10) hx hb dL_does_19 (by decide) ?_
  refine lv_icmp_ne (tgt := 33) hx hb dL_does_21 (by decide) (fun _ => ?_) (fun c => absurd c (by decide +kernel))
  refine lv_iload_n hx hb dL_does_33 rfl (lv_at hl 1 rfl) ?_
  refine lv_bipush (v := 11) hx hb dL_does_34 (by decide) ?_
  refine lv_icmp_ne (tgt := 48) hx hb dL_does_36 (by decide) (fun _ => ?_) (fun c => absurd c (by decide +kernel))
  refine lv_iload_n hx hb dL_does_48 rfl (lv_at hl 1 rfl) ?_
  refine lv_bipush (v := 12) hx hb dL_does_49 (by decide) ?_
  refine lv_icmp_ne (tgt := 62) hx hb dL_does_51 (by decide) (fun _ => ?_) (fun c => absurd c (by decide +kernel))
  refine lv_iload_n hx hb dL_does_62 rfl (lv_at hl 1 rfl) ?_
  refine lv_bipush (v := 13) hx hb dL_does_63 (by decide) ?_
  refine lv_icmp_ne (tgt := 77) hx hb dL_does_65 (by decide) (fun _ => ?_) (fun c => absurd c (by decide +kernel))
  refine lv_iload_n hx hb dL_does_77 rfl (lv_at hl 1 rfl) ?_
  refine lv_bipush (v := 14) hx hb dL_does_78 (by decide) ?_
  refine lv_icmp_ne (tgt := 92) hx hb dL_does_80 (by decide) (fun c => absurd (by decide +kernel) c) (fun _ => ?_)
  refine lv_aload_n hx hb dL_does_83 rfl (lv_at hl 0 rfl) ?_
  refine lv_iload_n hx hb dL_does_84 rfl (lv_at hl 2 rfl) ?_
  refine lv_iload_n hx hb dL_does_85 rfl (lv_at hl 3 rfl) ?_
  refine kx_do (st1 := [.int ((if g (100 + 3 * a1.toNatClampNeg) 11 < g 0 10 + b1 then g 0 10 + b1 else g (100 + 3 * a1.toNatClampNeg) 11))]) (kx_cv (As := [.int a1, .int b1]) (rest := []) hF hG hw hS hl.1 kC_0 rfl (c_X2_extend l hfl D cy base ad n nc g a1 b1 (by first | assumption | omega | exact mR_9 (by assumption) _ _ | simp [sU, hfr])) gL_does_X2_extend rfl rfl rfl hd_X2_extend ⟨Nat.le_of_ble_eq_true rfl, Nat.le_of_ble_eq_true rfl⟩ rfl rfl (Nat.le_of_ble_eq_true rfl) dL_does_86 ⟨Nat.le_of_ble_eq_true rfl, Nat.le_of_ble_eq_true rfl⟩) hS rfl (fun E9 ce9 q9 H1 locs1 hX9 hw1 hS1 hc9 hv9 hcl9 => ?_) (fun ok_86 H locs hw hS => ?_)
  · rcases hX9 with ⟨rfl, hk⟩ | ⟨rfl, hk⟩ | ⟨rfl, hk⟩
    · refine kx_cat0 hown hG hT ⟨by decide, by decide⟩ (by decide) mIO (hts (.classLink RL 78 "java/lang/IndexOutOfBoundsException") (by decide +kernel)) hc9 hv9 hcl9 ?_
      refine lv_astore (lv' := [(5, .ref q9), (0, .ref (ad 0)), (1, .int (14 : Int32)), (2, .int a1), (3, .int b1), (4, .int c1)]) hx hb dL_does_315 hl (by decide) rfl (fun ls hl => ?_)
      refine lv_ldc hx hb hown k_80 dL_does_317 ?_
      have hne : ¬ (kd3 (isF n a1) (inn b1 1 365) (cHere g a1.toNatClampNeg && !decide (g (100 + 3 * a1.toNatClampNeg) 0 = 7))) = 0 := fun q => by rw [q] at hk; revert hk; decide +kernel
      exact kx_retI hQ hx hb hr hlk hw1 hS1 (Nat.le_of_ble_eq_true rfl) (Nat.le_of_ble_eq_true rfl) dL_does_319 (kd_i trivial (congrArg Prod.fst (oR_n hne)) (congrArg Prod.snd (oR_n hne)))
    · refine kx_cat1 hown hG hT ⟨by decide, by decide⟩ (by decide) mIA (hts (.classLink RL 81 "java/lang/IllegalArgumentException") (by decide +kernel)) mIO nAO (by decide) (hts (.classLink RL 78 "java/lang/IndexOutOfBoundsException") (by decide +kernel)) hc9 hv9 hcl9 ?_
      refine lv_astore (lv' := [(5, .ref q9), (0, .ref (ad 0)), (1, .int (14 : Int32)), (2, .int a1), (3, .int b1), (4, .int c1)]) hx hb dL_does_320 hl (by decide) rfl (fun ls hl => ?_)
      refine lv_ldc hx hb hown k_80 dL_does_322 ?_
      have hne : ¬ (kd3 (isF n a1) (inn b1 1 365) (cHere g a1.toNatClampNeg && !decide (g (100 + 3 * a1.toNatClampNeg) 0 = 7))) = 0 := fun q => by rw [q] at hk; revert hk; decide +kernel
      exact kx_retI hQ hx hb hr hlk hw1 hS1 (Nat.le_of_ble_eq_true rfl) (Nat.le_of_ble_eq_true rfl) dL_does_324 (kd_i trivial (congrArg Prod.fst (oR_n hne)) (congrArg Prod.snd (oR_n hne)))
    · refine kx_cat2 hown hG hT ⟨by decide, by decide⟩ (by decide) mIS (hts (.classLink RL 83 "java/lang/IllegalStateException") (by decide +kernel)) mIO nSO (by decide) (hts (.classLink RL 78 "java/lang/IndexOutOfBoundsException") (by decide +kernel)) mIA nSA (by decide) (hts (.classLink RL 81 "java/lang/IllegalArgumentException") (by decide +kernel)) hc9 hv9 hcl9 ?_
      refine lv_astore (lv' := [(5, .ref q9), (0, .ref (ad 0)), (1, .int (14 : Int32)), (2, .int a1), (3, .int b1), (4, .int c1)]) hx hb dL_does_325 hl (by decide) rfl (fun ls hl => ?_)
      refine lv_ldc hx hb hown k_80 dL_does_327 ?_
      have hne : ¬ (kd3 (isF n a1) (inn b1 1 365) (cHere g a1.toNatClampNeg && !decide (g (100 + 3 * a1.toNatClampNeg) 0 = 7))) = 0 := fun q => by rw [q] at hk; revert hk; decide +kernel
      exact kx_retI hQ hx hb hr hlk hw1 hS1 (Nat.le_of_ble_eq_true rfl) (Nat.le_of_ble_eq_true rfl) dL_does_329 (kd_i trivial (congrArg Prod.fst (oR_n hne)) (congrArg Prod.snd (oR_n hne)))
  · refine lv_goto (tgt := 314) hx hb dL_does_89 (by decide) ?_
    exact kx_retI hQ hx hb hr hlk hw hS (Nat.le_of_ble_eq_true rfl) (Nat.le_of_ble_eq_true rfl) dL_does_314 (kd_i (trivial) (congrArg Prod.fst (oR_y ok_86)) (congrArg Prod.snd (oR_y ok_86)))
set_option maxHeartbeats 4000000 in
set_option maxRecDepth 100000 in
theorem c_L_does_15 (l : Launch) (hfl : l.stackTraces = false) (D : va_G) (cy : Nat → ClassId) (base : Nat → Prop) (ad : Nat → Nat) (n nc : Nat) (g : sg) (a1 : Int32) (b1 : Int32) (c1 : Int32) (hfr : ∀ j, j < 30 → g 6 j = if j < n then 1 else 0) (hcr : ∀ j, j < 20 → g 7 j = if j < nc then 1 else 0) (hR : cR n nc g) : kM l yL_does wsL_does (kR 9 2 12) D cy base ad n nc g [.ref (ad 0), .int (15 : Int32), .int a1, .int b1, .int c1] (kD True (some (.int ((dF_15 n nc g a1 b1).1))) ad n nc ((dF_15 n nc g a1 b1).2)) kNo 2 12 := by
  refine kx_methH (cc := cL_does) (maxL := 6) (ret := (some .int)) (hh := [(0, 314, 315, 78), (0, 314, 320, 81), (0, 314, 325, 83)]) (by decide) rfl (Nat.le_of_ble_eq_true rfl) ?_
  intro p e s m args below meth c ls hx hb hr hml hown hts hlk hT hG hl Q H locs hQ hw hS
  have hl : lv_has ls 6 [(0, .ref (ad 0)), (1, .int (15 : Int32)), (2, .int a1), (3, .int b1), (4, .int c1)] := hl
  have hown : s.vm.findClass RL = some m.cls := hown
  have hF : CallFix p m c cL_does 6 s args wsL_does RL := ⟨hx, hb, hml, hown, hts⟩
  have hn30 : n ≤ 30 := hw.2.2.1
  have hc20 : nc ≤ 20 := hw.2.2.2
  have k_80 := hts (.constant RL 80 (-2100000000)) (by decide +kernel)
  refine lv_iload_n hx hb dL_does_0 rfl (lv_at hl 1 rfl) ?_
  refine lv_bipush (v := 10) hx hb dL_does_1 (by decide) ?_
  refine lv_icmp_ge (tgt := 18) hx hb dL_does_3 (by decide) (fun _ => ?_) (fun c => absurd (by decide +kernel) c)
  refine lv_iload_n hx hb dL_does_18 rfl (lv_at hl 1 rfl) ?_
  refine lv_bipush (v := 10) hx hb dL_does_19 (by decide) ?_
  refine lv_icmp_ne (tgt := 33) hx hb dL_does_21 (by decide) (fun _ => ?_) (fun c => absurd c (by decide +kernel))
  refine lv_iload_n hx hb dL_does_33 rfl (lv_at hl 1 rfl) ?_
  refine lv_bipush (v := 11) hx hb dL_does_34 (by decide) ?_
  refine lv_icmp_ne (tgt := 48) hx hb dL_does_36 (by decide) (fun _ => ?_) (fun c => absurd c (by decide +kernel))
  refine lv_iload_n hx hb dL_does_48 rfl (lv_at hl 1 rfl) ?_
  refine lv_bipush (v := 12) hx hb dL_does_49 (by decide) ?_
  refine lv_icmp_ne (tgt := 62) hx hb dL_does_51 (by decide) (fun _ => ?_) (fun c => absurd c (by decide +kernel))
  refine lv_iload_n hx hb dL_does_62 rfl (lv_at hl 1 rfl) ?_
  refine lv_bipush (v := 13) hx hb dL_does_63 (by decide) ?_
  refine lv_icmp_ne (tgt := 77) hx hb dL_does_65 (by decide) (fun _ => ?_) (fun c => absurd c (by decide +kernel))
  refine lv_iload_n hx hb dL_does_77 rfl (lv_at hl 1 rfl) ?_
  refine lv_bipush (v := 14) hx hb dL_does_78 (by decide) ?_
  refine lv_icmp_ne (tgt := 92) hx hb dL_does_80 (by decide) (fun _ => ?_) (fun c => absurd c (by decide +kernel))
  refine lv_iload_n hx hb dL_does_92 rfl (lv_at hl 1 rfl) ?_
  refine lv_bipush (v := 15) hx hb dL_does_93 (by decide) ?_
  refine lv_icmp_ne (tgt := 107) hx hb dL_does_95 (by decide) (fun c => absurd (by decide +kernel) c) (fun _ => ?_)
  refine lv_aload_n hx hb dL_does_98 rfl (lv_at hl 0 rfl) ?_
  refine lv_iload_n hx hb dL_does_99 rfl (lv_at hl 2 rfl) ?_
  refine lv_iload_n hx hb dL_does_100 rfl (lv_at hl 3 rfl) ?_
  refine kx_do (st1 := [.int (g 0 14 + b1)]) (kx_cv (As := [.int a1, .int b1]) (rest := []) hF hG hw hS hl.1 kC_0 rfl (c_X2_sell l hfl D cy base ad n nc g a1 b1 (by first | assumption | omega | exact mR_9 (by assumption) _ _ | simp [sU, hfr, hcr, hR]) (by first | assumption | omega | exact mR_9 (by assumption) _ _ | simp [sU, hfr, hcr, hR]) (by first | assumption | omega | exact mR_9 (by assumption) _ _ | simp [sU, hfr, hcr, hR])) gL_does_X2_sell rfl rfl rfl hd_X2_sell ⟨Nat.le_of_ble_eq_true rfl, Nat.le_of_ble_eq_true rfl⟩ rfl rfl (Nat.le_of_ble_eq_true rfl) dL_does_101 ⟨Nat.le_of_ble_eq_true rfl, Nat.le_of_ble_eq_true rfl⟩) hS rfl (fun E9 ce9 q9 H1 locs1 hX9 hw1 hS1 hc9 hv9 hcl9 => ?_) (fun ok_101 H locs hw hS => ?_)
  · rcases hX9 with ⟨rfl, hk⟩ | ⟨rfl, hk⟩ | ⟨rfl, hk⟩
    · refine kx_cat0 hown hG hT ⟨by decide, by decide⟩ (by decide) mIO (hts (.classLink RL 78 "java/lang/IndexOutOfBoundsException") (by decide +kernel)) hc9 hv9 hcl9 ?_
      refine lv_astore (lv' := [(5, .ref q9), (0, .ref (ad 0)), (1, .int (15 : Int32)), (2, .int a1), (3, .int b1), (4, .int c1)]) hx hb dL_does_315 hl (by decide) rfl (fun ls hl => ?_)
      refine lv_ldc hx hb hown k_80 dL_does_317 ?_
      have hne : ¬ (kd3 (isF n a1) (inn b1 1 9999) (cOver g nc a1.toNatClampNeg && !decide (g (100 + 3 * a1.toNatClampNeg) 0 = 7))) = 0 := fun q => by rw [q] at hk; revert hk; decide +kernel
      exact kx_retI hQ hx hb hr hlk hw1 hS1 (Nat.le_of_ble_eq_true rfl) (Nat.le_of_ble_eq_true rfl) dL_does_319 (kd_i trivial (congrArg Prod.fst (oR_n hne)) (congrArg Prod.snd (oR_n hne)))
    · refine kx_cat1 hown hG hT ⟨by decide, by decide⟩ (by decide) mIA (hts (.classLink RL 81 "java/lang/IllegalArgumentException") (by decide +kernel)) mIO nAO (by decide) (hts (.classLink RL 78 "java/lang/IndexOutOfBoundsException") (by decide +kernel)) hc9 hv9 hcl9 ?_
      refine lv_astore (lv' := [(5, .ref q9), (0, .ref (ad 0)), (1, .int (15 : Int32)), (2, .int a1), (3, .int b1), (4, .int c1)]) hx hb dL_does_320 hl (by decide) rfl (fun ls hl => ?_)
      refine lv_ldc hx hb hown k_80 dL_does_322 ?_
      have hne : ¬ (kd3 (isF n a1) (inn b1 1 9999) (cOver g nc a1.toNatClampNeg && !decide (g (100 + 3 * a1.toNatClampNeg) 0 = 7))) = 0 := fun q => by rw [q] at hk; revert hk; decide +kernel
      exact kx_retI hQ hx hb hr hlk hw1 hS1 (Nat.le_of_ble_eq_true rfl) (Nat.le_of_ble_eq_true rfl) dL_does_324 (kd_i trivial (congrArg Prod.fst (oR_n hne)) (congrArg Prod.snd (oR_n hne)))
    · refine kx_cat2 hown hG hT ⟨by decide, by decide⟩ (by decide) mIS (hts (.classLink RL 83 "java/lang/IllegalStateException") (by decide +kernel)) mIO nSO (by decide) (hts (.classLink RL 78 "java/lang/IndexOutOfBoundsException") (by decide +kernel)) mIA nSA (by decide) (hts (.classLink RL 81 "java/lang/IllegalArgumentException") (by decide +kernel)) hc9 hv9 hcl9 ?_
      refine lv_astore (lv' := [(5, .ref q9), (0, .ref (ad 0)), (1, .int (15 : Int32)), (2, .int a1), (3, .int b1), (4, .int c1)]) hx hb dL_does_325 hl (by decide) rfl (fun ls hl => ?_)
      refine lv_ldc hx hb hown k_80 dL_does_327 ?_
      have hne : ¬ (kd3 (isF n a1) (inn b1 1 9999) (cOver g nc a1.toNatClampNeg && !decide (g (100 + 3 * a1.toNatClampNeg) 0 = 7))) = 0 := fun q => by rw [q] at hk; revert hk; decide +kernel
      exact kx_retI hQ hx hb hr hlk hw1 hS1 (Nat.le_of_ble_eq_true rfl) (Nat.le_of_ble_eq_true rfl) dL_does_329 (kd_i trivial (congrArg Prod.fst (oR_n hne)) (congrArg Prod.snd (oR_n hne)))
  · refine lv_goto (tgt := 314) hx hb dL_does_104 (by decide) ?_
    exact kx_retI hQ hx hb hr hlk hw hS (Nat.le_of_ble_eq_true rfl) (Nat.le_of_ble_eq_true rfl) dL_does_314 (kd_i (trivial) (congrArg Prod.fst (oR_y ok_101)) (congrArg Prod.snd (oR_y ok_101)))
set_option maxHeartbeats 4000000 in
set_option maxRecDepth 100000 in
theorem c_L_does_16 (l : Launch) (hfl : l.stackTraces = false) (D : va_G) (cy : Nat → ClassId) (base : Nat → Prop) (ad : Nat → Nat) (n nc : Nat) (g : sg) (a1 : Int32) (b1 : Int32) (c1 : Int32) (hfr : ∀ j, j < 30 → g 6 j = if j < n then 1 else 0) (hcr : ∀ j, j < 20 → g 7 j = if j < nc then 1 else 0) (hR : cR n nc g) : kM l yL_does wsL_does (kR 9 2 12) D cy base ad n nc g [.ref (ad 0), .int (16 : Int32), .int a1, .int b1, .int c1] (kD True (some (.int ((dF_16 n nc g a1).1))) ad n nc ((dF_16 n nc g a1).2)) kNo 2 12 := by
  refine kx_methH (cc := cL_does) (maxL := 6) (ret := (some .int)) (hh := [(0, 314, 315, 78), (0, 314, 320, 81), (0, 314, 325, 83)]) (by decide) rfl (Nat.le_of_ble_eq_true rfl) ?_
  intro p e s m args below meth c ls hx hb hr hml hown hts hlk hT hG hl Q H locs hQ hw hS
  have hl : lv_has ls 6 [(0, .ref (ad 0)), (1, .int (16 : Int32)), (2, .int a1), (3, .int b1), (4, .int c1)] := hl
  have hown : s.vm.findClass RL = some m.cls := hown
  have hF : CallFix p m c cL_does 6 s args wsL_does RL := ⟨hx, hb, hml, hown, hts⟩
  have hn30 : n ≤ 30 := hw.2.2.1
  have hc20 : nc ≤ 20 := hw.2.2.2
  have k_80 := hts (.constant RL 80 (-2100000000)) (by decide +kernel)
  refine lv_iload_n hx hb dL_does_0 rfl (lv_at hl 1 rfl) ?_
  refine lv_bipush (v := 10) hx hb dL_does_1 (by decide) ?_
  refine lv_icmp_ge (tgt := 18) hx hb dL_does_3 (by decide) (fun _ => ?_) (fun c => absurd (by decide +kernel) c)
  refine lv_iload_n hx hb dL_does_18 rfl (lv_at hl 1 rfl) ?_
  refine lv_bipush (v := 10) hx hb dL_does_19 (by decide) ?_
  refine lv_icmp_ne (tgt := 33) hx hb dL_does_21 (by decide) (fun _ => ?_) (fun c => absurd c (by decide +kernel))
  refine lv_iload_n hx hb dL_does_33 rfl (lv_at hl 1 rfl) ?_
  refine lv_bipush (v := 11) hx hb dL_does_34 (by decide) ?_
  refine lv_icmp_ne (tgt := 48) hx hb dL_does_36 (by decide) (fun _ => ?_) (fun c => absurd c (by decide +kernel))
  refine lv_iload_n hx hb dL_does_48 rfl (lv_at hl 1 rfl) ?_
  refine lv_bipush (v := 12) hx hb dL_does_49 (by decide) ?_
  refine lv_icmp_ne (tgt := 62) hx hb dL_does_51 (by decide) (fun _ => ?_) (fun c => absurd c (by decide +kernel))
  refine lv_iload_n hx hb dL_does_62 rfl (lv_at hl 1 rfl) ?_
  refine lv_bipush (v := 13) hx hb dL_does_63 (by decide) ?_
  refine lv_icmp_ne (tgt := 77) hx hb dL_does_65 (by decide) (fun _ => ?_) (fun c => absurd c (by decide +kernel))
  refine lv_iload_n hx hb dL_does_77 rfl (lv_at hl 1 rfl) ?_
  refine lv_bipush (v := 14) hx hb dL_does_78 (by decide) ?_
  refine lv_icmp_ne (tgt := 92) hx hb dL_does_80 (by decide) (fun _ => ?_) (fun c => absurd c (by decide +kernel))
  refine lv_iload_n hx hb dL_does_92 rfl (lv_at hl 1 rfl) ?_
  refine lv_bipush (v := 15) hx hb dL_does_93 (by decide) ?_
  refine lv_icmp_ne (tgt := 107) hx hb dL_does_95 (by decide) (fun _ => ?_) (fun c => absurd c (by decide +kernel))
  refine lv_iload_n hx hb dL_does_107 rfl (lv_at hl 1 rfl) ?_
  refine lv_bipush (v := 16) hx hb dL_does_108 (by decide) ?_
  refine lv_icmp_ne (tgt := 121) hx hb dL_does_110 (by decide) (fun c => absurd (by decide +kernel) c) (fun _ => ?_)
  refine lv_aload_n hx hb dL_does_113 rfl (lv_at hl 0 rfl) ?_
  refine lv_iload_n hx hb dL_does_114 rfl (lv_at hl 2 rfl) ?_
  refine kx_do (st1 := [.int (g (100 + 3 * a1.toNatClampNeg) 10)]) (kx_cv (As := [.int a1]) (rest := []) hF hG hw hS hl.1 kC_0 rfl (c_X2_destroy l hfl D cy base ad n nc g a1 (by first | assumption | omega | exact mR_9 (by assumption) _ _ | simp [sU, hfr, hcr, hR]) (by first | assumption | omega | exact mR_9 (by assumption) _ _ | simp [sU, hfr, hcr, hR]) (by first | assumption | omega | exact mR_9 (by assumption) _ _ | simp [sU, hfr, hcr, hR])) gL_does_X2_destroy rfl rfl rfl hd_X2_destroy ⟨Nat.le_of_ble_eq_true rfl, Nat.le_of_ble_eq_true rfl⟩ rfl rfl (Nat.le_of_ble_eq_true rfl) dL_does_115 ⟨Nat.le_of_ble_eq_true rfl, Nat.le_of_ble_eq_true rfl⟩) hS rfl (fun E9 ce9 q9 H1 locs1 hX9 hw1 hS1 hc9 hv9 hcl9 => ?_) (fun ok_115 H locs hw hS => ?_)
  · rcases hX9 with ⟨rfl, hk⟩ | ⟨rfl, hk⟩ | ⟨rfl, hk⟩
    · refine kx_cat0 hown hG hT ⟨by decide, by decide⟩ (by decide) mIO (hts (.classLink RL 78 "java/lang/IndexOutOfBoundsException") (by decide +kernel)) hc9 hv9 hcl9 ?_
      refine lv_astore (lv' := [(5, .ref q9), (0, .ref (ad 0)), (1, .int (16 : Int32)), (2, .int a1), (3, .int b1), (4, .int c1)]) hx hb dL_does_315 hl (by decide) rfl (fun ls hl => ?_)
      refine lv_ldc hx hb hown k_80 dL_does_317 ?_
      have hne : ¬ (kd2 (isF n a1) (cOver g nc a1.toNatClampNeg)) = 0 := fun q => by rw [q] at hk; revert hk; decide +kernel
      exact kx_retI hQ hx hb hr hlk hw1 hS1 (Nat.le_of_ble_eq_true rfl) (Nat.le_of_ble_eq_true rfl) dL_does_319 (kd_i trivial (congrArg Prod.fst (oR_n hne)) (congrArg Prod.snd (oR_n hne)))
    · refine kx_cat1 hown hG hT ⟨by decide, by decide⟩ (by decide) mIA (hts (.classLink RL 81 "java/lang/IllegalArgumentException") (by decide +kernel)) mIO nAO (by decide) (hts (.classLink RL 78 "java/lang/IndexOutOfBoundsException") (by decide +kernel)) hc9 hv9 hcl9 ?_
      refine lv_astore (lv' := [(5, .ref q9), (0, .ref (ad 0)), (1, .int (16 : Int32)), (2, .int a1), (3, .int b1), (4, .int c1)]) hx hb dL_does_320 hl (by decide) rfl (fun ls hl => ?_)
      refine lv_ldc hx hb hown k_80 dL_does_322 ?_
      have hne : ¬ (kd2 (isF n a1) (cOver g nc a1.toNatClampNeg)) = 0 := fun q => by rw [q] at hk; revert hk; decide +kernel
      exact kx_retI hQ hx hb hr hlk hw1 hS1 (Nat.le_of_ble_eq_true rfl) (Nat.le_of_ble_eq_true rfl) dL_does_324 (kd_i trivial (congrArg Prod.fst (oR_n hne)) (congrArg Prod.snd (oR_n hne)))
    · refine kx_cat2 hown hG hT ⟨by decide, by decide⟩ (by decide) mIS (hts (.classLink RL 83 "java/lang/IllegalStateException") (by decide +kernel)) mIO nSO (by decide) (hts (.classLink RL 78 "java/lang/IndexOutOfBoundsException") (by decide +kernel)) mIA nSA (by decide) (hts (.classLink RL 81 "java/lang/IllegalArgumentException") (by decide +kernel)) hc9 hv9 hcl9 ?_
      refine lv_astore (lv' := [(5, .ref q9), (0, .ref (ad 0)), (1, .int (16 : Int32)), (2, .int a1), (3, .int b1), (4, .int c1)]) hx hb dL_does_325 hl (by decide) rfl (fun ls hl => ?_)
      refine lv_ldc hx hb hown k_80 dL_does_327 ?_
      have hne : ¬ (kd2 (isF n a1) (cOver g nc a1.toNatClampNeg)) = 0 := fun q => by rw [q] at hk; revert hk; decide +kernel
      exact kx_retI hQ hx hb hr hlk hw1 hS1 (Nat.le_of_ble_eq_true rfl) (Nat.le_of_ble_eq_true rfl) dL_does_329 (kd_i trivial (congrArg Prod.fst (oR_n hne)) (congrArg Prod.snd (oR_n hne)))
  · refine lv_goto (tgt := 314) hx hb dL_does_118 (by decide) ?_
    exact kx_retI hQ hx hb hr hlk hw hS (Nat.le_of_ble_eq_true rfl) (Nat.le_of_ble_eq_true rfl) dL_does_314 (kd_i (trivial) (congrArg Prod.fst (oR_y ok_115)) (congrArg Prod.snd (oR_y ok_115)))
set_option maxHeartbeats 4000000 in
set_option maxRecDepth 100000 in
theorem c_L_does_17 (l : Launch) (hfl : l.stackTraces = false) (D : va_G) (cy : Nat → ClassId) (base : Nat → Prop) (ad : Nat → Nat) (n nc : Nat) (g : sg) (a1 : Int32) (b1 : Int32) (c1 : Int32) (hfr : ∀ j, j < 30 → g 6 j = if j < n then 1 else 0) (hcr : ∀ j, j < 20 → g 7 j = if j < nc then 1 else 0) (hR : cR n nc g) : kM l yL_does wsL_does (kR 9 3 18) D cy base ad n nc g [.ref (ad 0), .int (17 : Int32), .int a1, .int b1, .int c1] (kD True (some (.int ((dF_17 n nc g a1 b1).1))) ad n nc ((dF_17 n nc g a1 b1).2)) kNo 3 18 := by
  refine kx_methH (cc := cL_does) (maxL := 6) (ret := (some .int)) (hh := [(0, 314, 315, 78), (0, 314, 320, 81), (0, 314, 325, 83)]) (by decide) rfl (Nat.le_of_ble_eq_true rfl) ?_
  intro p e s m args below meth c ls hx hb hr hml hown hts hlk hT hG hl Q H locs hQ hw hS
  have hl : lv_has ls 6 [(0, .ref (ad 0)), (1, .int (17 : Int32)), (2, .int a1), (3, .int b1), (4, .int c1)] := hl
  have hown : s.vm.findClass RL = some m.cls := hown
  have hF : CallFix p m c cL_does 6 s args wsL_does RL := ⟨hx, hb, hml, hown, hts⟩
  have hn30 : n ≤ 30 := hw.2.2.1
  have hc20 : nc ≤ 20 := hw.2.2.2
  have k_80 := hts (.constant RL 80 (-2100000000)) (by decide +kernel)
  refine lv_iload_n hx hb dL_does_0 rfl (lv_at hl 1 rfl) ?_
  refine lv_bipush (v := 10) hx hb dL_does_1 (by decide) ?_
  refine lv_icmp_ge (tgt := 18) hx hb dL_does_3 (by decide) (fun _ => ?_) (fun c => absurd (by decide +kernel) c)
  refine lv_iload_n hx hb dL_does_18 rfl (lv_at hl 1 rfl) ?_
  refine lv_bipush (v := 10) hx hb dL_does_19 (by decide) ?_
  refine lv_icmp_ne (tgt := 33) hx hb dL_does_21 (by decide) (fun _ => ?_) (fun c => absurd c (by decide +kernel))
  refine lv_iload_n hx hb dL_does_33 rfl (lv_at hl 1 rfl) ?_
  refine lv_bipush (v := 11) hx hb dL_does_34 (by decide) ?_
  refine lv_icmp_ne (tgt := 48) hx hb dL_does_36 (by decide) (fun _ => ?_) (fun c => absurd c (by decide +kernel))
  refine lv_iload_n hx hb dL_does_48 rfl (lv_at hl 1 rfl) ?_
  refine lv_bipush (v := 12) hx hb dL_does_49 (by decide) ?_
  refine lv_icmp_ne (tgt := 62) hx hb dL_does_51 (by decide) (fun _ => ?_) (fun c => absurd c (by decide +kernel))
  refine lv_iload_n hx hb dL_does_62 rfl (lv_at hl 1 rfl) ?_
  refine lv_bipush (v := 13) hx hb dL_does_63 (by decide) ?_
  refine lv_icmp_ne (tgt := 77) hx hb dL_does_65 (by decide) (fun _ => ?_) (fun c => absurd c (by decide +kernel))
  refine lv_iload_n hx hb dL_does_77 rfl (lv_at hl 1 rfl) ?_
  refine lv_bipush (v := 14) hx hb dL_does_78 (by decide) ?_
  refine lv_icmp_ne (tgt := 92) hx hb dL_does_80 (by decide) (fun _ => ?_) (fun c => absurd c (by decide +kernel))
  refine lv_iload_n hx hb dL_does_92 rfl (lv_at hl 1 rfl) ?_
  refine lv_bipush (v := 15) hx hb dL_does_93 (by decide) ?_
  refine lv_icmp_ne (tgt := 107) hx hb dL_does_95 (by decide) (fun _ => ?_) (fun c => absurd c (by decide +kernel))
  refine lv_iload_n hx hb dL_does_107 rfl (lv_at hl 1 rfl) ?_
  refine lv_bipush (v := 16) hx hb dL_does_108 (by decide) ?_
  refine lv_icmp_ne (tgt := 121) hx hb dL_does_110 (by decide) (fun _ => ?_) (fun c => absurd c (by decide +kernel))
  refine lv_iload_n hx hb dL_does_121 rfl (lv_at hl 1 rfl) ?_
  refine lv_bipush (v := 17) hx hb dL_does_122 (by decide) ?_
  refine lv_icmp_ne (tgt := 136) hx hb dL_does_124 (by decide) (fun c => absurd (by decide +kernel) c) (fun _ => ?_)
  refine lv_aload_n hx hb dL_does_127 rfl (lv_at hl 0 rfl) ?_
  refine lv_iload_n hx hb dL_does_128 rfl (lv_at hl 2 rfl) ?_
  refine lv_iload_n hx hb dL_does_129 rfl (lv_at hl 3 rfl) ?_
  refine kx_do (st1 := [.int (g (100 + 3 * a1.toNatClampNeg) 13 - (if g (100 + 3 * a1.toNatClampNeg) 13 < 5 then g (100 + 3 * a1.toNatClampNeg) 13 else 5))]) (kx_cv (As := [.int a1, .int b1]) (rest := []) hF hG hw hS hl.1 kC_0 rfl (c_X2_payOut l hfl D cy base ad n nc g a1 b1 (by first | assumption | omega | exact mR_9 (by assumption) _ _ | simp [sU, hfr, hcr, hR]) (by first | assumption | omega | exact mR_9 (by assumption) _ _ | simp [sU, hfr, hcr, hR]) (by first | assumption | omega | exact mR_9 (by assumption) _ _ | simp [sU, hfr, hcr, hR])) gL_does_X2_payOut rfl rfl rfl hd_X2_payOut ⟨Nat.le_of_ble_eq_true rfl, Nat.le_of_ble_eq_true rfl⟩ rfl rfl (Nat.le_of_ble_eq_true rfl) dL_does_130 ⟨Nat.le_of_ble_eq_true rfl, Nat.le_of_ble_eq_true rfl⟩) hS rfl (fun E9 ce9 q9 H1 locs1 hX9 hw1 hS1 hc9 hv9 hcl9 => ?_) (fun ok_130 H locs hw hS => ?_)
  · rcases hX9 with ⟨rfl, hk⟩ | ⟨rfl, hk⟩ | ⟨rfl, hk⟩
    · refine kx_cat0 hown hG hT ⟨by decide, by decide⟩ (by decide) mIO (hts (.classLink RL 78 "java/lang/IndexOutOfBoundsException") (by decide +kernel)) hc9 hv9 hcl9 ?_
      refine lv_astore (lv' := [(5, .ref q9), (0, .ref (ad 0)), (1, .int (17 : Int32)), (2, .int a1), (3, .int b1), (4, .int c1)]) hx hb dL_does_315 hl (by decide) rfl (fun ls hl => ?_)
      refine lv_ldc hx hb hown k_80 dL_does_317 ?_
      have hne : ¬ (kd2 (isF n a1 && isF nc b1) (decide (g (100 + 3 * a1.toNatClampNeg) 9 = 4) && (decide (g 0 10 - g (100 + 3 * a1.toNatClampNeg) 14 ≤ 365) && cServe g nc a1.toNatClampNeg b1.toNatClampNeg))) = 0 := fun q => by rw [q] at hk; revert hk; decide +kernel
      exact kx_retI hQ hx hb hr hlk hw1 hS1 (Nat.le_of_ble_eq_true rfl) (Nat.le_of_ble_eq_true rfl) dL_does_319 (kd_i trivial (congrArg Prod.fst (oR_n hne)) (congrArg Prod.snd (oR_n hne)))
    · refine kx_cat1 hown hG hT ⟨by decide, by decide⟩ (by decide) mIA (hts (.classLink RL 81 "java/lang/IllegalArgumentException") (by decide +kernel)) mIO nAO (by decide) (hts (.classLink RL 78 "java/lang/IndexOutOfBoundsException") (by decide +kernel)) hc9 hv9 hcl9 ?_
      refine lv_astore (lv' := [(5, .ref q9), (0, .ref (ad 0)), (1, .int (17 : Int32)), (2, .int a1), (3, .int b1), (4, .int c1)]) hx hb dL_does_320 hl (by decide) rfl (fun ls hl => ?_)
      refine lv_ldc hx hb hown k_80 dL_does_322 ?_
      have hne : ¬ (kd2 (isF n a1 && isF nc b1) (decide (g (100 + 3 * a1.toNatClampNeg) 9 = 4) && (decide (g 0 10 - g (100 + 3 * a1.toNatClampNeg) 14 ≤ 365) && cServe g nc a1.toNatClampNeg b1.toNatClampNeg))) = 0 := fun q => by rw [q] at hk; revert hk; decide +kernel
      exact kx_retI hQ hx hb hr hlk hw1 hS1 (Nat.le_of_ble_eq_true rfl) (Nat.le_of_ble_eq_true rfl) dL_does_324 (kd_i trivial (congrArg Prod.fst (oR_n hne)) (congrArg Prod.snd (oR_n hne)))
    · refine kx_cat2 hown hG hT ⟨by decide, by decide⟩ (by decide) mIS (hts (.classLink RL 83 "java/lang/IllegalStateException") (by decide +kernel)) mIO nSO (by decide) (hts (.classLink RL 78 "java/lang/IndexOutOfBoundsException") (by decide +kernel)) mIA nSA (by decide) (hts (.classLink RL 81 "java/lang/IllegalArgumentException") (by decide +kernel)) hc9 hv9 hcl9 ?_
      refine lv_astore (lv' := [(5, .ref q9), (0, .ref (ad 0)), (1, .int (17 : Int32)), (2, .int a1), (3, .int b1), (4, .int c1)]) hx hb dL_does_325 hl (by decide) rfl (fun ls hl => ?_)
      refine lv_ldc hx hb hown k_80 dL_does_327 ?_
      have hne : ¬ (kd2 (isF n a1 && isF nc b1) (decide (g (100 + 3 * a1.toNatClampNeg) 9 = 4) && (decide (g 0 10 - g (100 + 3 * a1.toNatClampNeg) 14 ≤ 365) && cServe g nc a1.toNatClampNeg b1.toNatClampNeg))) = 0 := fun q => by rw [q] at hk; revert hk; decide +kernel
      exact kx_retI hQ hx hb hr hlk hw1 hS1 (Nat.le_of_ble_eq_true rfl) (Nat.le_of_ble_eq_true rfl) dL_does_329 (kd_i trivial (congrArg Prod.fst (oR_n hne)) (congrArg Prod.snd (oR_n hne)))
  · refine lv_goto (tgt := 314) hx hb dL_does_133 (by decide) ?_
    exact kx_retI hQ hx hb hr hlk hw hS (Nat.le_of_ble_eq_true rfl) (Nat.le_of_ble_eq_true rfl) dL_does_314 (kd_i (trivial) (congrArg Prod.fst (oR_y ok_130)) (congrArg Prod.snd (oR_y ok_130)))
set_option maxHeartbeats 4000000 in
set_option maxRecDepth 100000 in
theorem c_L_does_18 (l : Launch) (hfl : l.stackTraces = false) (D : va_G) (cy : Nat → ClassId) (base : Nat → Prop) (ad : Nat → Nat) (n nc : Nat) (g : sg) (a1 : Int32) (b1 : Int32) (c1 : Int32) (hfr : ∀ j, j < 30 → g 6 j = if j < n then 1 else 0) (hcr : ∀ j, j < 20 → g 7 j = if j < nc then 1 else 0) (hh : ∀ i, i < n → ∃ h : Nat, h ≤ 12 ∧ g (100 + 3 * i) 7 = nI h) : kM l yL_does wsL_does (kR 9 1 6) D cy base ad n nc g [.ref (ad 0), .int (18 : Int32), .int a1, .int b1, .int c1] (kD True (some (.int ((dF_18 n nc g a1).1))) ad n nc ((dF_18 n nc g a1).2)) kNo 1 6 := by
  refine kx_methH (cc := cL_does) (maxL := 6) (ret := (some .int)) (hh := [(0, 314, 315, 78), (0, 314, 320, 81), (0, 314, 325, 83)]) (by decide) rfl (Nat.le_of_ble_eq_true rfl) ?_
  intro p e s m args below meth c ls hx hb hr hml hown hts hlk hT hG hl Q H locs hQ hw hS
  have hl : lv_has ls 6 [(0, .ref (ad 0)), (1, .int (18 : Int32)), (2, .int a1), (3, .int b1), (4, .int c1)] := hl
  have hown : s.vm.findClass RL = some m.cls := hown
  have hF : CallFix p m c cL_does 6 s args wsL_does RL := ⟨hx, hb, hml, hown, hts⟩
  have hn30 : n ≤ 30 := hw.2.2.1
  have hc20 : nc ≤ 20 := hw.2.2.2
  have k_80 := hts (.constant RL 80 (-2100000000)) (by decide +kernel)
  refine lv_iload_n hx hb dL_does_0 rfl (lv_at hl 1 rfl) ?_
  refine lv_bipush (v := 10) hx hb dL_does_1 (by decide) ?_
  refine lv_icmp_ge (tgt := 18) hx hb dL_does_3 (by decide) (fun _ => ?_) (fun c => absurd (by decide +kernel) c)
  refine lv_iload_n hx hb dL_does_18 rfl (lv_at hl 1 rfl) ?_
  refine lv_bipush (v := 10) hx hb dL_does_19 (by decide) ?_
  refine lv_icmp_ne (tgt := 33) hx hb dL_does_21 (by decide) (fun _ => ?_) (fun c => absurd c (by decide +kernel))
  refine lv_iload_n hx hb dL_does_33 rfl (lv_at hl 1 rfl) ?_
  refine lv_bipush (v := 11) hx hb dL_does_34 (by decide) ?_
  refine lv_icmp_ne (tgt := 48) hx hb dL_does_36 (by decide) (fun _ => ?_) (fun c => absurd c (by decide +kernel))
  refine lv_iload_n hx hb dL_does_48 rfl (lv_at hl 1 rfl) ?_
  refine lv_bipush (v := 12) hx hb dL_does_49 (by decide) ?_
  refine lv_icmp_ne (tgt := 62) hx hb dL_does_51 (by decide) (fun _ => ?_) (fun c => absurd c (by decide +kernel))
  refine lv_iload_n hx hb dL_does_62 rfl (lv_at hl 1 rfl) ?_
  refine lv_bipush (v := 13) hx hb dL_does_63 (by decide) ?_
  refine lv_icmp_ne (tgt := 77) hx hb dL_does_65 (by decide) (fun _ => ?_) (fun c => absurd c (by decide +kernel))
  refine lv_iload_n hx hb dL_does_77 rfl (lv_at hl 1 rfl) ?_
  refine lv_bipush (v := 14) hx hb dL_does_78 (by decide) ?_
  refine lv_icmp_ne (tgt := 92) hx hb dL_does_80 (by decide) (fun _ => ?_) (fun c => absurd c (by decide +kernel))
  refine lv_iload_n hx hb dL_does_92 rfl (lv_at hl 1 rfl) ?_
  refine lv_bipush (v := 15) hx hb dL_does_93 (by decide) ?_
  refine lv_icmp_ne (tgt := 107) hx hb dL_does_95 (by decide) (fun _ => ?_) (fun c => absurd c (by decide +kernel))
  refine lv_iload_n hx hb dL_does_107 rfl (lv_at hl 1 rfl) ?_
  refine lv_bipush (v := 16) hx hb dL_does_108 (by decide) ?_
  refine lv_icmp_ne (tgt := 121) hx hb dL_does_110 (by decide) (fun _ => ?_) (fun c => absurd c (by decide +kernel))
  refine lv_iload_n hx hb dL_does_121 rfl (lv_at hl 1 rfl) ?_
  refine lv_bipush (v := 17) hx hb dL_does_122 (by decide) ?_
  refine lv_icmp_ne (tgt := 136) hx hb dL_does_124 (by decide) (fun _ => ?_) (fun c => absurd c (by decide +kernel))
  refine lv_iload_n hx hb dL_does_136 rfl (lv_at hl 1 rfl) ?_
  refine lv_bipush (v := 18) hx hb dL_does_137 (by decide) ?_
  refine lv_icmp_ne (tgt := 150) hx hb dL_does_139 (by decide) (fun c => absurd (by decide +kernel) c) (fun _ => ?_)
  refine lv_aload_n hx hb dL_does_142 rfl (lv_at hl 0 rfl) ?_
  refine lv_iload_n hx hb dL_does_143 rfl (lv_at hl 2 rfl) ?_
  refine kx_do (st1 := [.int (cDays g n nc a1.toNatClampNeg 0 10)]) (kx_cv (As := [.int a1]) (rest := []) hF hG hw hS hl.1 kC_0 rfl (c_X2_pass l hfl D cy base ad n nc g a1 (by first | assumption | omega | exact mR_9 (by assumption) _ _ | simp [sU, hfr, hcr, hh]) (by first | assumption | omega | exact mR_9 (by assumption) _ _ | simp [sU, hfr, hcr, hh]) (by first | assumption | omega | exact mR_9 (by assumption) _ _ | simp [sU, hfr, hcr, hh])) gL_does_X2_pass rfl rfl rfl hd_X2_pass ⟨Nat.le_of_ble_eq_true rfl, Nat.le_of_ble_eq_true rfl⟩ rfl rfl (Nat.le_of_ble_eq_true rfl) dL_does_144 ⟨Nat.le_of_ble_eq_true rfl, Nat.le_of_ble_eq_true rfl⟩) hS rfl (fun E9 ce9 q9 H1 locs1 hX9 hw1 hS1 hc9 hv9 hcl9 => ?_) (fun ok_144 H locs hw hS => ?_)
  · rcases hX9 with ⟨rfl, hk⟩ | ⟨rfl, hk⟩ | ⟨rfl, hk⟩
    · refine kx_cat0 hown hG hT ⟨by decide, by decide⟩ (by decide) mIO (hts (.classLink RL 78 "java/lang/IndexOutOfBoundsException") (by decide +kernel)) hc9 hv9 hcl9 ?_
      refine lv_astore (lv' := [(5, .ref q9), (0, .ref (ad 0)), (1, .int (18 : Int32)), (2, .int a1), (3, .int b1), (4, .int c1)]) hx hb dL_does_315 hl (by decide) rfl (fun ls hl => ?_)
      refine lv_ldc hx hb hown k_80 dL_does_317 ?_
      have hne : ¬ (kd2 (inn a1 1 400) (decide (g 0 10 + a1 ≤ 9999))) = 0 := fun q => by rw [q] at hk; revert hk; decide +kernel
      exact kx_retI hQ hx hb hr hlk hw1 hS1 (Nat.le_of_ble_eq_true rfl) (Nat.le_of_ble_eq_true rfl) dL_does_319 (kd_i trivial (congrArg Prod.fst (oR_n hne)) (congrArg Prod.snd (oR_n hne)))
    · refine kx_cat1 hown hG hT ⟨by decide, by decide⟩ (by decide) mIA (hts (.classLink RL 81 "java/lang/IllegalArgumentException") (by decide +kernel)) mIO nAO (by decide) (hts (.classLink RL 78 "java/lang/IndexOutOfBoundsException") (by decide +kernel)) hc9 hv9 hcl9 ?_
      refine lv_astore (lv' := [(5, .ref q9), (0, .ref (ad 0)), (1, .int (18 : Int32)), (2, .int a1), (3, .int b1), (4, .int c1)]) hx hb dL_does_320 hl (by decide) rfl (fun ls hl => ?_)
      refine lv_ldc hx hb hown k_80 dL_does_322 ?_
      have hne : ¬ (kd2 (inn a1 1 400) (decide (g 0 10 + a1 ≤ 9999))) = 0 := fun q => by rw [q] at hk; revert hk; decide +kernel
      exact kx_retI hQ hx hb hr hlk hw1 hS1 (Nat.le_of_ble_eq_true rfl) (Nat.le_of_ble_eq_true rfl) dL_does_324 (kd_i trivial (congrArg Prod.fst (oR_n hne)) (congrArg Prod.snd (oR_n hne)))
    · refine kx_cat2 hown hG hT ⟨by decide, by decide⟩ (by decide) mIS (hts (.classLink RL 83 "java/lang/IllegalStateException") (by decide +kernel)) mIO nSO (by decide) (hts (.classLink RL 78 "java/lang/IndexOutOfBoundsException") (by decide +kernel)) mIA nSA (by decide) (hts (.classLink RL 81 "java/lang/IllegalArgumentException") (by decide +kernel)) hc9 hv9 hcl9 ?_
      refine lv_astore (lv' := [(5, .ref q9), (0, .ref (ad 0)), (1, .int (18 : Int32)), (2, .int a1), (3, .int b1), (4, .int c1)]) hx hb dL_does_325 hl (by decide) rfl (fun ls hl => ?_)
      refine lv_ldc hx hb hown k_80 dL_does_327 ?_
      have hne : ¬ (kd2 (inn a1 1 400) (decide (g 0 10 + a1 ≤ 9999))) = 0 := fun q => by rw [q] at hk; revert hk; decide +kernel
      exact kx_retI hQ hx hb hr hlk hw1 hS1 (Nat.le_of_ble_eq_true rfl) (Nat.le_of_ble_eq_true rfl) dL_does_329 (kd_i trivial (congrArg Prod.fst (oR_n hne)) (congrArg Prod.snd (oR_n hne)))
  · refine lv_goto (tgt := 314) hx hb dL_does_147 (by decide) ?_
    exact kx_retI hQ hx hb hr hlk hw hS (Nat.le_of_ble_eq_true rfl) (Nat.le_of_ble_eq_true rfl) dL_does_314 (kd_i (trivial) (congrArg Prod.fst (oR_y ok_144)) (congrArg Prod.snd (oR_y ok_144)))
set_option maxHeartbeats 4000000 in
set_option maxRecDepth 100000 in
theorem c_L_does_19 (l : Launch) (hfl : l.stackTraces = false) (D : va_G) (cy : Nat → ClassId) (base : Nat → Prop) (ad : Nat → Nat) (n nc : Nat) (g : sg) (a1 : Int32) (b1 : Int32) (c1 : Int32) (hfr : ∀ j, j < 30 → g 6 j = if j < n then 1 else 0) (hcr : ∀ j, j < 20 → g 7 j = if j < nc then 1 else 0) (hR : cR n nc g) : kM l yL_does wsL_does (kR 9 2 12) D cy base ad n nc g [.ref (ad 0), .int (19 : Int32), .int a1, .int b1, .int c1] (kD True (some (.int ((dF_19 n nc g a1 b1).1))) ad n nc g) kNo 2 12 := by
  refine kx_methH (cc := cL_does) (maxL := 6) (ret := (some .int)) (hh := [(0, 314, 315, 78), (0, 314, 320, 81), (0, 314, 325, 83)]) (by decide) rfl (Nat.le_of_ble_eq_true rfl) ?_
  intro p e s m args below meth c ls hx hb hr hml hown hts hlk hT hG hl Q H locs hQ hw hS
  have hl : lv_has ls 6 [(0, .ref (ad 0)), (1, .int (19 : Int32)), (2, .int a1), (3, .int b1), (4, .int c1)] := hl
  have hown : s.vm.findClass RL = some m.cls := hown
  have hF : CallFix p m c cL_does 6 s args wsL_does RL := ⟨hx, hb, hml, hown, hts⟩
  have hn30 : n ≤ 30 := hw.2.2.1
  have hc20 : nc ≤ 20 := hw.2.2.2
  have k_80 := hts (.constant RL 80 (-2100000000)) (by decide +kernel)
  refine lv_iload_n hx hb dL_does_0 rfl (lv_at hl 1 rfl) ?_
  refine lv_bipush (v := 10) hx hb dL_does_1 (by decide) ?_
  refine lv_icmp_ge (tgt := 18) hx hb dL_does_3 (by decide) (fun _ => ?_) (fun c => absurd (by decide +kernel) c)
  refine lv_iload_n hx hb dL_does_18 rfl (lv_at hl 1 rfl) ?_
  refine lv_bipush (v := 10) hx hb dL_does_19 (by decide) ?_
  refine lv_icmp_ne (tgt := 33) hx hb dL_does_21 (by decide) (fun _ => ?_) (fun c => absurd c (by decide +kernel))
  refine lv_iload_n hx hb dL_does_33 rfl (lv_at hl 1 rfl) ?_
  refine lv_bipush (v := 11) hx hb dL_does_34 (by decide) ?_
  refine lv_icmp_ne (tgt := 48) hx hb dL_does_36 (by decide) (fun _ => ?_) (fun c => absurd c (by decide +kernel))
  refine lv_iload_n hx hb dL_does_48 rfl (lv_at hl 1 rfl) ?_
  refine lv_bipush (v := 12) hx hb dL_does_49 (by decide) ?_
  refine lv_icmp_ne (tgt := 62) hx hb dL_does_51 (by decide) (fun _ => ?_) (fun c => absurd c (by decide +kernel))
  refine lv_iload_n hx hb dL_does_62 rfl (lv_at hl 1 rfl) ?_
  refine lv_bipush (v := 13) hx hb dL_does_63 (by decide) ?_
  refine lv_icmp_ne (tgt := 77) hx hb dL_does_65 (by decide) (fun _ => ?_) (fun c => absurd c (by decide +kernel))
  refine lv_iload_n hx hb dL_does_77 rfl (lv_at hl 1 rfl) ?_
  refine lv_bipush (v := 14) hx hb dL_does_78 (by decide) ?_
  refine lv_icmp_ne (tgt := 92) hx hb dL_does_80 (by decide) (fun _ => ?_) (fun c => absurd c (by decide +kernel))
  refine lv_iload_n hx hb dL_does_92 rfl (lv_at hl 1 rfl) ?_
  refine lv_bipush (v := 15) hx hb dL_does_93 (by decide) ?_
  refine lv_icmp_ne (tgt := 107) hx hb dL_does_95 (by decide) (fun _ => ?_) (fun c => absurd c (by decide +kernel))
  refine lv_iload_n hx hb dL_does_107 rfl (lv_at hl 1 rfl) ?_
  refine lv_bipush (v := 16) hx hb dL_does_108 (by decide) ?_
  refine lv_icmp_ne (tgt := 121) hx hb dL_does_110 (by decide) (fun _ => ?_) (fun c => absurd c (by decide +kernel))
  refine lv_iload_n hx hb dL_does_121 rfl (lv_at hl 1 rfl) ?_
  refine lv_bipush (v := 17) hx hb dL_does_122 (by decide) ?_
  refine lv_icmp_ne (tgt := 136) hx hb dL_does_124 (by decide) (fun _ => ?_) (fun c => absurd c (by decide +kernel))
  refine lv_iload_n hx hb dL_does_136 rfl (lv_at hl 1 rfl) ?_
  refine lv_bipush (v := 18) hx hb dL_does_137 (by decide) ?_
  refine lv_icmp_ne (tgt := 150) hx hb dL_does_139 (by decide) (fun _ => ?_) (fun c => absurd c (by decide +kernel))
  refine lv_iload_n hx hb dL_does_150 rfl (lv_at hl 1 rfl) ?_
  refine lv_bipush (v := 19) hx hb dL_does_151 (by decide) ?_
  refine lv_icmp_ne (tgt := 165) hx hb dL_does_153 (by decide) (fun c => absurd (by decide +kernel) c) (fun _ => ?_)
  refine lv_aload_n hx hb dL_does_156 rfl (lv_at hl 0 rfl) ?_
  refine lv_iload_n hx hb dL_does_157 rfl (lv_at hl 2 rfl) ?_
  refine lv_iload_n hx hb dL_does_158 rfl (lv_at hl 3 rfl) ?_
  refine kx_do (st1 := [.int (cSc g a1.toNatClampNeg b1.toNatClampNeg)]) (kx_cv (As := [.int a1, .int b1]) (rest := []) hF hG hw hS hl.1 kC_0 rfl (c_X2_fit l hfl D cy base ad n nc g a1 b1 (by first | assumption | omega | exact mR_9 (by assumption) _ _ | simp [sU, hfr, hcr, hR]) (by first | assumption | omega | exact mR_9 (by assumption) _ _ | simp [sU, hfr, hcr, hR]) (by first | assumption | omega | exact mR_9 (by assumption) _ _ | simp [sU, hfr, hcr, hR])) gL_does_X2_fit rfl rfl rfl hd_X2_fit ⟨Nat.le_of_ble_eq_true rfl, Nat.le_of_ble_eq_true rfl⟩ rfl rfl (Nat.le_of_ble_eq_true rfl) dL_does_159 ⟨Nat.le_of_ble_eq_true rfl, Nat.le_of_ble_eq_true rfl⟩) hS rfl (fun E9 ce9 q9 H1 locs1 hX9 hw1 hS1 hc9 hv9 hcl9 => ?_) (fun ok_159 H locs hw hS => ?_)
  · rcases hX9 with ⟨rfl, hk⟩ | ⟨rfl, hk⟩ | ⟨rfl, hk⟩
    · refine kx_cat0 hown hG hT ⟨by decide, by decide⟩ (by decide) mIO (hts (.classLink RL 78 "java/lang/IndexOutOfBoundsException") (by decide +kernel)) hc9 hv9 hcl9 ?_
      refine lv_astore (lv' := [(5, .ref q9), (0, .ref (ad 0)), (1, .int (19 : Int32)), (2, .int a1), (3, .int b1), (4, .int c1)]) hx hb dL_does_315 hl (by decide) rfl (fun ls hl => ?_)
      refine lv_ldc hx hb hown k_80 dL_does_317 ?_
      have hne : ¬ (kd1 (isF n a1 && isF nc b1)) = 0 := fun q => by rw [q] at hk; revert hk; decide +kernel
      exact kx_retI hQ hx hb hr hlk hw1 hS1 (Nat.le_of_ble_eq_true rfl) (Nat.le_of_ble_eq_true rfl) dL_does_319 (kd_i trivial (congrArg Prod.fst (oR_n hne)) rfl)
    · refine kx_cat1 hown hG hT ⟨by decide, by decide⟩ (by decide) mIA (hts (.classLink RL 81 "java/lang/IllegalArgumentException") (by decide +kernel)) mIO nAO (by decide) (hts (.classLink RL 78 "java/lang/IndexOutOfBoundsException") (by decide +kernel)) hc9 hv9 hcl9 ?_
      refine lv_astore (lv' := [(5, .ref q9), (0, .ref (ad 0)), (1, .int (19 : Int32)), (2, .int a1), (3, .int b1), (4, .int c1)]) hx hb dL_does_320 hl (by decide) rfl (fun ls hl => ?_)
      refine lv_ldc hx hb hown k_80 dL_does_322 ?_
      have hne : ¬ (kd1 (isF n a1 && isF nc b1)) = 0 := fun q => by rw [q] at hk; revert hk; decide +kernel
      exact kx_retI hQ hx hb hr hlk hw1 hS1 (Nat.le_of_ble_eq_true rfl) (Nat.le_of_ble_eq_true rfl) dL_does_324 (kd_i trivial (congrArg Prod.fst (oR_n hne)) rfl)
    · refine kx_cat2 hown hG hT ⟨by decide, by decide⟩ (by decide) mIS (hts (.classLink RL 83 "java/lang/IllegalStateException") (by decide +kernel)) mIO nSO (by decide) (hts (.classLink RL 78 "java/lang/IndexOutOfBoundsException") (by decide +kernel)) mIA nSA (by decide) (hts (.classLink RL 81 "java/lang/IllegalArgumentException") (by decide +kernel)) hc9 hv9 hcl9 ?_
      refine lv_astore (lv' := [(5, .ref q9), (0, .ref (ad 0)), (1, .int (19 : Int32)), (2, .int a1), (3, .int b1), (4, .int c1)]) hx hb dL_does_325 hl (by decide) rfl (fun ls hl => ?_)
      refine lv_ldc hx hb hown k_80 dL_does_327 ?_
      have hne : ¬ (kd1 (isF n a1 && isF nc b1)) = 0 := fun q => by rw [q] at hk; revert hk; decide +kernel
      exact kx_retI hQ hx hb hr hlk hw1 hS1 (Nat.le_of_ble_eq_true rfl) (Nat.le_of_ble_eq_true rfl) dL_does_329 (kd_i trivial (congrArg Prod.fst (oR_n hne)) rfl)
  · refine lv_goto (tgt := 314) hx hb dL_does_162 (by decide) ?_
    exact kx_retI hQ hx hb hr hlk hw hS (Nat.le_of_ble_eq_true rfl) (Nat.le_of_ble_eq_true rfl) dL_does_314 (kd_i (trivial) (congrArg Prod.fst (oR_y ok_159)) (rfl))
set_option maxHeartbeats 4000000 in
set_option maxRecDepth 100000 in
theorem c_L_does_20 (l : Launch) (hfl : l.stackTraces = false) (D : va_G) (cy : Nat → ClassId) (base : Nat → Prop) (ad : Nat → Nat) (n nc : Nat) (g : sg) (a1 : Int32) (b1 : Int32) (c1 : Int32) (hfr : ∀ j, j < 30 → g 6 j = if j < n then 1 else 0) (hcr : ∀ j, j < 20 → g 7 j = if j < nc then 1 else 0) (hR : cR n nc g) : kM l yL_does wsL_does (kR 9 2 12) D cy base ad n nc g [.ref (ad 0), .int (20 : Int32), .int a1, .int b1, .int c1] (kD True (some (.int ((dF_20 n nc g a1 b1).1))) ad n nc ((dF_20 n nc g a1 b1).2)) kNo 2 12 := by
  refine kx_methH (cc := cL_does) (maxL := 6) (ret := (some .int)) (hh := [(0, 314, 315, 78), (0, 314, 320, 81), (0, 314, 325, 83)]) (by decide) rfl (Nat.le_of_ble_eq_true rfl) ?_
  intro p e s m args below meth c ls hx hb hr hml hown hts hlk hT hG hl Q H locs hQ hw hS
  have hl : lv_has ls 6 [(0, .ref (ad 0)), (1, .int (20 : Int32)), (2, .int a1), (3, .int b1), (4, .int c1)] := hl
  have hown : s.vm.findClass RL = some m.cls := hown
  have hF : CallFix p m c cL_does 6 s args wsL_does RL := ⟨hx, hb, hml, hown, hts⟩
  have hn30 : n ≤ 30 := hw.2.2.1
  have hc20 : nc ≤ 20 := hw.2.2.2
  have k_80 := hts (.constant RL 80 (-2100000000)) (by decide +kernel)
  refine lv_iload_n hx hb dL_does_0 rfl (lv_at hl 1 rfl) ?_
  refine lv_bipush (v := 10) hx hb dL_does_1 (by decide) ?_
  refine lv_icmp_ge (tgt := 18) hx hb dL_does_3 (by decide) (fun _ => ?_) (fun c => absurd (by decide +kernel) c)
  refine lv_iload_n hx hb dL_does_18 rfl (lv_at hl 1 rfl) ?_
  refine lv_bipush (v := 10) hx hb dL_does_19 (by decide) ?_
  refine lv_icmp_ne (tgt := 33) hx hb dL_does_21 (by decide) (fun _ => ?_) (fun c => absurd c (by decide +kernel))
  refine lv_iload_n hx hb dL_does_33 rfl (lv_at hl 1 rfl) ?_
  refine lv_bipush (v := 11) hx hb dL_does_34 (by decide) ?_
  refine lv_icmp_ne (tgt := 48) hx hb dL_does_36 (by decide) (fun _ => ?_) (fun c => absurd c (by decide +kernel))
  refine lv_iload_n hx hb dL_does_48 rfl (lv_at hl 1 rfl) ?_
  refine lv_bipush (v := 12) hx hb dL_does_49 (by decide) ?_
  refine lv_icmp_ne (tgt := 62) hx hb dL_does_51 (by decide) (fun _ => ?_) (fun c => absurd c (by decide +kernel))
  refine lv_iload_n hx hb dL_does_62 rfl (lv_at hl 1 rfl) ?_
  refine lv_bipush (v := 13) hx hb dL_does_63 (by decide) ?_
  refine lv_icmp_ne (tgt := 77) hx hb dL_does_65 (by decide) (fun _ => ?_) (fun c => absurd c (by decide +kernel))
  refine lv_iload_n hx hb dL_does_77 rfl (lv_at hl 1 rfl) ?_
  refine lv_bipush (v := 14) hx hb dL_does_78 (by decide) ?_
  refine lv_icmp_ne (tgt := 92) hx hb dL_does_80 (by decide) (fun _ => ?_) (fun c => absurd c (by decide +kernel))
  refine lv_iload_n hx hb dL_does_92 rfl (lv_at hl 1 rfl) ?_
  refine lv_bipush (v := 15) hx hb dL_does_93 (by decide) ?_
  refine lv_icmp_ne (tgt := 107) hx hb dL_does_95 (by decide) (fun _ => ?_) (fun c => absurd c (by decide +kernel))
  refine lv_iload_n hx hb dL_does_107 rfl (lv_at hl 1 rfl) ?_
  refine lv_bipush (v := 16) hx hb dL_does_108 (by decide) ?_
  refine lv_icmp_ne (tgt := 121) hx hb dL_does_110 (by decide) (fun _ => ?_) (fun c => absurd c (by decide +kernel))
  refine lv_iload_n hx hb dL_does_121 rfl (lv_at hl 1 rfl) ?_
  refine lv_bipush (v := 17) hx hb dL_does_122 (by decide) ?_
  refine lv_icmp_ne (tgt := 136) hx hb dL_does_124 (by decide) (fun _ => ?_) (fun c => absurd c (by decide +kernel))
  refine lv_iload_n hx hb dL_does_136 rfl (lv_at hl 1 rfl) ?_
  refine lv_bipush (v := 18) hx hb dL_does_137 (by decide) ?_
  refine lv_icmp_ne (tgt := 150) hx hb dL_does_139 (by decide) (fun _ => ?_) (fun c => absurd c (by decide +kernel))
  refine lv_iload_n hx hb dL_does_150 rfl (lv_at hl 1 rfl) ?_
  refine lv_bipush (v := 19) hx hb dL_does_151 (by decide) ?_
  refine lv_icmp_ne (tgt := 165) hx hb dL_does_153 (by decide) (fun _ => ?_) (fun c => absurd c (by decide +kernel))
  refine lv_iload_n hx hb dL_does_165 rfl (lv_at hl 1 rfl) ?_
  refine lv_bipush (v := 20) hx hb dL_does_166 (by decide) ?_
  refine lv_icmp_ne (tgt := 180) hx hb dL_does_168 (by decide) (fun c => absurd (by decide +kernel) c) (fun _ => ?_)
  refine lv_aload_n hx hb dL_does_171 rfl (lv_at hl 0 rfl) ?_
  refine lv_iload_n hx hb dL_does_172 rfl (lv_at hl 2 rfl) ?_
  refine lv_iload_n hx hb dL_does_173 rfl (lv_at hl 3 rfl) ?_
  refine kx_do (st1 := [.int (fstI (cdB (cNS g n a1.toNatClampNeg 30) b1) 30)]) (kx_cv (As := [.int a1, .int b1]) (rest := []) hF hG hw hS hl.1 kC_0 rfl (c_X2_candidate l hfl D cy base ad n nc g a1 b1 (by first | assumption | omega | exact mR_9 (by assumption) _ _ | simp [sU, hfr, hcr, hR]) (by first | assumption | omega | exact mR_9 (by assumption) _ _ | simp [sU, hfr, hcr, hR]) (by first | assumption | omega | exact mR_9 (by assumption) _ _ | simp [sU, hfr, hcr, hR])) gL_does_X2_candidate rfl rfl rfl hd_X2_candidate ⟨Nat.le_of_ble_eq_true rfl, Nat.le_of_ble_eq_true rfl⟩ rfl rfl (Nat.le_of_ble_eq_true rfl) dL_does_174 ⟨Nat.le_of_ble_eq_true rfl, Nat.le_of_ble_eq_true rfl⟩) hS rfl (fun E9 ce9 q9 H1 locs1 hX9 hw1 hS1 hc9 hv9 hcl9 => ?_) (fun ok_174 H locs hw hS => ?_)
  · rcases hX9 with ⟨rfl, hk⟩ | ⟨rfl, hk⟩ | ⟨rfl, hk⟩
    · refine kx_cat0 hown hG hT ⟨by decide, by decide⟩ (by decide) mIO (hts (.classLink RL 78 "java/lang/IndexOutOfBoundsException") (by decide +kernel)) hc9 hv9 hcl9 ?_
      refine lv_astore (lv' := [(5, .ref q9), (0, .ref (ad 0)), (1, .int (20 : Int32)), (2, .int a1), (3, .int b1), (4, .int c1)]) hx hb dL_does_315 hl (by decide) rfl (fun ls hl => ?_)
      refine lv_ldc hx hb hown k_80 dL_does_317 ?_
      have hne : ¬ (kd1 (isF nc a1 && !decide (b1 < 0))) = 0 := fun q => by rw [q] at hk; revert hk; decide +kernel
      exact kx_retI hQ hx hb hr hlk hw1 hS1 (Nat.le_of_ble_eq_true rfl) (Nat.le_of_ble_eq_true rfl) dL_does_319 (kd_i trivial (congrArg Prod.fst (oR_n hne)) (congrArg Prod.snd (oR_n hne)))
    · refine kx_cat1 hown hG hT ⟨by decide, by decide⟩ (by decide) mIA (hts (.classLink RL 81 "java/lang/IllegalArgumentException") (by decide +kernel)) mIO nAO (by decide) (hts (.classLink RL 78 "java/lang/IndexOutOfBoundsException") (by decide +kernel)) hc9 hv9 hcl9 ?_
      refine lv_astore (lv' := [(5, .ref q9), (0, .ref (ad 0)), (1, .int (20 : Int32)), (2, .int a1), (3, .int b1), (4, .int c1)]) hx hb dL_does_320 hl (by decide) rfl (fun ls hl => ?_)
      refine lv_ldc hx hb hown k_80 dL_does_322 ?_
      have hne : ¬ (kd1 (isF nc a1 && !decide (b1 < 0))) = 0 := fun q => by rw [q] at hk; revert hk; decide +kernel
      exact kx_retI hQ hx hb hr hlk hw1 hS1 (Nat.le_of_ble_eq_true rfl) (Nat.le_of_ble_eq_true rfl) dL_does_324 (kd_i trivial (congrArg Prod.fst (oR_n hne)) (congrArg Prod.snd (oR_n hne)))
    · refine kx_cat2 hown hG hT ⟨by decide, by decide⟩ (by decide) mIS (hts (.classLink RL 83 "java/lang/IllegalStateException") (by decide +kernel)) mIO nSO (by decide) (hts (.classLink RL 78 "java/lang/IndexOutOfBoundsException") (by decide +kernel)) mIA nSA (by decide) (hts (.classLink RL 81 "java/lang/IllegalArgumentException") (by decide +kernel)) hc9 hv9 hcl9 ?_
      refine lv_astore (lv' := [(5, .ref q9), (0, .ref (ad 0)), (1, .int (20 : Int32)), (2, .int a1), (3, .int b1), (4, .int c1)]) hx hb dL_does_325 hl (by decide) rfl (fun ls hl => ?_)
      refine lv_ldc hx hb hown k_80 dL_does_327 ?_
      have hne : ¬ (kd1 (isF nc a1 && !decide (b1 < 0))) = 0 := fun q => by rw [q] at hk; revert hk; decide +kernel
      exact kx_retI hQ hx hb hr hlk hw1 hS1 (Nat.le_of_ble_eq_true rfl) (Nat.le_of_ble_eq_true rfl) dL_does_329 (kd_i trivial (congrArg Prod.fst (oR_n hne)) (congrArg Prod.snd (oR_n hne)))
  · refine lv_goto (tgt := 314) hx hb dL_does_177 (by decide) ?_
    exact kx_retI hQ hx hb hr hlk hw hS (Nat.le_of_ble_eq_true rfl) (Nat.le_of_ble_eq_true rfl) dL_does_314 (kd_i (trivial) (congrArg Prod.fst (oR_y ok_174)) (congrArg Prod.snd (oR_y ok_174)))
set_option maxHeartbeats 4000000 in
set_option maxRecDepth 100000 in
theorem c_L_does_21 (l : Launch) (hfl : l.stackTraces = false) (D : va_G) (cy : Nat → ClassId) (base : Nat → Prop) (ad : Nat → Nat) (n nc : Nat) (g : sg) (a1 : Int32) (b1 : Int32) (c1 : Int32) (hfr : ∀ j, j < 30 → g 6 j = if j < n then 1 else 0) (hcr : ∀ j, j < 20 → g 7 j = if j < nc then 1 else 0) (hR : cR n nc g) : kM l yL_does wsL_does (kR 9 1 6) D cy base ad n nc g [.ref (ad 0), .int (21 : Int32), .int a1, .int b1, .int c1] (kD True (some (.int ((dF_21 n nc g a1).1))) ad n nc ((dF_21 n nc g a1).2)) kNo 1 6 := by
  refine kx_methH (cc := cL_does) (maxL := 6) (ret := (some .int)) (hh := [(0, 314, 315, 78), (0, 314, 320, 81), (0, 314, 325, 83)]) (by decide) rfl (Nat.le_of_ble_eq_true rfl) ?_
  intro p e s m args below meth c ls hx hb hr hml hown hts hlk hT hG hl Q H locs hQ hw hS
  have hl : lv_has ls 6 [(0, .ref (ad 0)), (1, .int (21 : Int32)), (2, .int a1), (3, .int b1), (4, .int c1)] := hl
  have hown : s.vm.findClass RL = some m.cls := hown
  have hF : CallFix p m c cL_does 6 s args wsL_does RL := ⟨hx, hb, hml, hown, hts⟩
  have hn30 : n ≤ 30 := hw.2.2.1
  have hc20 : nc ≤ 20 := hw.2.2.2
  have k_80 := hts (.constant RL 80 (-2100000000)) (by decide +kernel)
  refine lv_iload_n hx hb dL_does_0 rfl (lv_at hl 1 rfl) ?_
  refine lv_bipush (v := 10) hx hb dL_does_1 (by decide) ?_
  refine lv_icmp_ge (tgt := 18) hx hb dL_does_3 (by decide) (fun _ => ?_) (fun c => absurd (by decide +kernel) c)
  refine lv_iload_n hx hb dL_does_18 rfl (lv_at hl 1 rfl) ?_
  refine lv_bipush (v := 10) hx hb dL_does_19 (by decide) ?_
  refine lv_icmp_ne (tgt := 33) hx hb dL_does_21 (by decide) (fun _ => ?_) (fun c => absurd c (by decide +kernel))
  refine lv_iload_n hx hb dL_does_33 rfl (lv_at hl 1 rfl) ?_
  refine lv_bipush (v := 11) hx hb dL_does_34 (by decide) ?_
  refine lv_icmp_ne (tgt := 48) hx hb dL_does_36 (by decide) (fun _ => ?_) (fun c => absurd c (by decide +kernel))
  refine lv_iload_n hx hb dL_does_48 rfl (lv_at hl 1 rfl) ?_
  refine lv_bipush (v := 12) hx hb dL_does_49 (by decide) ?_
  refine lv_icmp_ne (tgt := 62) hx hb dL_does_51 (by decide) (fun _ => ?_) (fun c => absurd c (by decide +kernel))
  refine lv_iload_n hx hb dL_does_62 rfl (lv_at hl 1 rfl) ?_
  refine lv_bipush (v := 13) hx hb dL_does_63 (by decide) ?_
  refine lv_icmp_ne (tgt := 77) hx hb dL_does_65 (by decide) (fun _ => ?_) (fun c => absurd c (by decide +kernel))
  refine lv_iload_n hx hb dL_does_77 rfl (lv_at hl 1 rfl) ?_
  refine lv_bipush (v := 14) hx hb dL_does_78 (by decide) ?_
  refine lv_icmp_ne (tgt := 92) hx hb dL_does_80 (by decide) (fun _ => ?_) (fun c => absurd c (by decide +kernel))
  refine lv_iload_n hx hb dL_does_92 rfl (lv_at hl 1 rfl) ?_
  refine lv_bipush (v := 15) hx hb dL_does_93 (by decide) ?_
  refine lv_icmp_ne (tgt := 107) hx hb dL_does_95 (by decide) (fun _ => ?_) (fun c => absurd c (by decide +kernel))
  refine lv_iload_n hx hb dL_does_107 rfl (lv_at hl 1 rfl) ?_
  refine lv_bipush (v := 16) hx hb dL_does_108 (by decide) ?_
  refine lv_icmp_ne (tgt := 121) hx hb dL_does_110 (by decide) (fun _ => ?_) (fun c => absurd c (by decide +kernel))
  refine lv_iload_n hx hb dL_does_121 rfl (lv_at hl 1 rfl) ?_
  refine lv_bipush (v := 17) hx hb dL_does_122 (by decide) ?_
  refine lv_icmp_ne (tgt := 136) hx hb dL_does_124 (by decide) (fun _ => ?_) (fun c => absurd c (by decide +kernel))
  refine lv_iload_n hx hb dL_does_136 rfl (lv_at hl 1 rfl) ?_
  refine lv_bipush (v := 18) hx hb dL_does_137 (by decide) ?_
  refine lv_icmp_ne (tgt := 150) hx hb dL_does_139 (by decide) (fun _ => ?_) (fun c => absurd c (by decide +kernel))
  refine lv_iload_n hx hb dL_does_150 rfl (lv_at hl 1 rfl) ?_
  refine lv_bipush (v := 19) hx hb dL_does_151 (by decide) ?_
  refine lv_icmp_ne (tgt := 165) hx hb dL_does_153 (by decide) (fun _ => ?_) (fun c => absurd c (by decide +kernel))
  refine lv_iload_n hx hb dL_does_165 rfl (lv_at hl 1 rfl) ?_
  refine lv_bipush (v := 20) hx hb dL_does_166 (by decide) ?_
  refine lv_icmp_ne (tgt := 180) hx hb dL_does_168 (by decide) (fun _ => ?_) (fun c => absurd c (by decide +kernel))
  refine lv_iload_n hx hb dL_does_180 rfl (lv_at hl 1 rfl) ?_
  refine lv_bipush (v := 21) hx hb dL_does_181 (by decide) ?_
  refine lv_icmp_ne (tgt := 194) hx hb dL_does_183 (by decide) (fun c => absurd (by decide +kernel) c) (fun _ => ?_)
  refine lv_aload_n hx hb dL_does_186 rfl (lv_at hl 0 rfl) ?_
  refine lv_iload_n hx hb dL_does_187 rfl (lv_at hl 2 rfl) ?_
  refine kx_do (st1 := [.int ((cQ (cNS g n a1.toNatClampNeg 30) n (g (200 + a1.toNatClampNeg) 5) (cntB (askN g n a1.toNatClampNeg) 30) 24).1)]) (kx_cv (As := [.int a1]) (rest := []) hF hG hw hS hl.1 kC_0 rfl (c_X2_question l hfl D cy base ad n nc g a1 (by first | assumption | omega | exact mR_9 (by assumption) _ _ | simp [sU, hfr, hcr, hR]) (by first | assumption | omega | exact mR_9 (by assumption) _ _ | simp [sU, hfr, hcr, hR]) (by first | assumption | omega | exact mR_9 (by assumption) _ _ | simp [sU, hfr, hcr, hR])) gL_does_X2_question rfl rfl rfl hd_X2_question ⟨Nat.le_of_ble_eq_true rfl, Nat.le_of_ble_eq_true rfl⟩ rfl rfl (Nat.le_of_ble_eq_true rfl) dL_does_188 ⟨Nat.le_of_ble_eq_true rfl, Nat.le_of_ble_eq_true rfl⟩) hS rfl (fun E9 ce9 q9 H1 locs1 hX9 hw1 hS1 hc9 hv9 hcl9 => ?_) (fun ok_188 H locs hw hS => ?_)
  · rcases hX9 with ⟨rfl, hk⟩ | ⟨rfl, hk⟩ | ⟨rfl, hk⟩
    · refine kx_cat0 hown hG hT ⟨by decide, by decide⟩ (by decide) mIO (hts (.classLink RL 78 "java/lang/IndexOutOfBoundsException") (by decide +kernel)) hc9 hv9 hcl9 ?_
      refine lv_astore (lv' := [(5, .ref q9), (0, .ref (ad 0)), (1, .int (21 : Int32)), (2, .int a1), (3, .int b1), (4, .int c1)]) hx hb dL_does_315 hl (by decide) rfl (fun ls hl => ?_)
      refine lv_ldc hx hb hown k_80 dL_does_317 ?_
      have hne : ¬ (kd1 (isF nc a1)) = 0 := fun q => by rw [q] at hk; revert hk; decide +kernel
      exact kx_retI hQ hx hb hr hlk hw1 hS1 (Nat.le_of_ble_eq_true rfl) (Nat.le_of_ble_eq_true rfl) dL_does_319 (kd_i trivial (congrArg Prod.fst (oR_n hne)) (congrArg Prod.snd (oR_n hne)))
    · refine kx_cat1 hown hG hT ⟨by decide, by decide⟩ (by decide) mIA (hts (.classLink RL 81 "java/lang/IllegalArgumentException") (by decide +kernel)) mIO nAO (by decide) (hts (.classLink RL 78 "java/lang/IndexOutOfBoundsException") (by decide +kernel)) hc9 hv9 hcl9 ?_
      refine lv_astore (lv' := [(5, .ref q9), (0, .ref (ad 0)), (1, .int (21 : Int32)), (2, .int a1), (3, .int b1), (4, .int c1)]) hx hb dL_does_320 hl (by decide) rfl (fun ls hl => ?_)
      refine lv_ldc hx hb hown k_80 dL_does_322 ?_
      have hne : ¬ (kd1 (isF nc a1)) = 0 := fun q => by rw [q] at hk; revert hk; decide +kernel
      exact kx_retI hQ hx hb hr hlk hw1 hS1 (Nat.le_of_ble_eq_true rfl) (Nat.le_of_ble_eq_true rfl) dL_does_324 (kd_i trivial (congrArg Prod.fst (oR_n hne)) (congrArg Prod.snd (oR_n hne)))
    · refine kx_cat2 hown hG hT ⟨by decide, by decide⟩ (by decide) mIS (hts (.classLink RL 83 "java/lang/IllegalStateException") (by decide +kernel)) mIO nSO (by decide) (hts (.classLink RL 78 "java/lang/IndexOutOfBoundsException") (by decide +kernel)) mIA nSA (by decide) (hts (.classLink RL 81 "java/lang/IllegalArgumentException") (by decide +kernel)) hc9 hv9 hcl9 ?_
      refine lv_astore (lv' := [(5, .ref q9), (0, .ref (ad 0)), (1, .int (21 : Int32)), (2, .int a1), (3, .int b1), (4, .int c1)]) hx hb dL_does_325 hl (by decide) rfl (fun ls hl => ?_)
      refine lv_ldc hx hb hown k_80 dL_does_327 ?_
      have hne : ¬ (kd1 (isF nc a1)) = 0 := fun q => by rw [q] at hk; revert hk; decide +kernel
      exact kx_retI hQ hx hb hr hlk hw1 hS1 (Nat.le_of_ble_eq_true rfl) (Nat.le_of_ble_eq_true rfl) dL_does_329 (kd_i trivial (congrArg Prod.fst (oR_n hne)) (congrArg Prod.snd (oR_n hne)))
  · refine lv_goto (tgt := 314) hx hb dL_does_191 (by decide) ?_
    exact kx_retI hQ hx hb hr hlk hw hS (Nat.le_of_ble_eq_true rfl) (Nat.le_of_ble_eq_true rfl) dL_does_314 (kd_i (trivial) (congrArg Prod.fst (oR_y ok_188)) (congrArg Prod.snd (oR_y ok_188)))
set_option maxHeartbeats 4000000 in
set_option maxRecDepth 100000 in
theorem c_L_does_22 (l : Launch) (hfl : l.stackTraces = false) (D : va_G) (cy : Nat → ClassId) (base : Nat → Prop) (ad : Nat → Nat) (n nc : Nat) (g : sg) (a1 : Int32) (b1 : Int32) (c1 : Int32) (hfr : ∀ j, j < 30 → g 6 j = if j < n then 1 else 0) (hcr : ∀ j, j < 20 → g 7 j = if j < nc then 1 else 0) (hR : cR n nc g) : kM l yL_does wsL_does (kR 9 2 12) D cy base ad n nc g [.ref (ad 0), .int (22 : Int32), .int a1, .int b1, .int c1] (kD True (some (.int ((dF_22 n nc g a1 b1).1))) ad n nc g) kNo 2 12 := by
  refine kx_methH (cc := cL_does) (maxL := 6) (ret := (some .int)) (hh := [(0, 314, 315, 78), (0, 314, 320, 81), (0, 314, 325, 83)]) (by decide) rfl (Nat.le_of_ble_eq_true rfl) ?_
  intro p e s m args below meth c ls hx hb hr hml hown hts hlk hT hG hl Q H locs hQ hw hS
  have hl : lv_has ls 6 [(0, .ref (ad 0)), (1, .int (22 : Int32)), (2, .int a1), (3, .int b1), (4, .int c1)] := hl
  have hown : s.vm.findClass RL = some m.cls := hown
  have hF : CallFix p m c cL_does 6 s args wsL_does RL := ⟨hx, hb, hml, hown, hts⟩
  have hn30 : n ≤ 30 := hw.2.2.1
  have hc20 : nc ≤ 20 := hw.2.2.2
  have k_80 := hts (.constant RL 80 (-2100000000)) (by decide +kernel)
  refine lv_iload_n hx hb dL_does_0 rfl (lv_at hl 1 rfl) ?_
  refine lv_bipush (v := 10) hx hb dL_does_1 (by decide) ?_
  refine lv_icmp_ge (tgt := 18) hx hb dL_does_3 (by decide) (fun _ => ?_) (fun c => absurd (by decide +kernel) c)
  refine lv_iload_n hx hb dL_does_18 rfl (lv_at hl 1 rfl) ?_
  refine lv_bipush (v := 10) hx hb dL_does_19 (by decide) ?_
  refine lv_icmp_ne (tgt := 33) hx hb dL_does_21 (by decide) (fun _ => ?_) (fun c => absurd c (by decide +kernel))
  refine lv_iload_n hx hb dL_does_33 rfl (lv_at hl 1 rfl) ?_
  refine lv_bipush (v := 11) hx hb dL_does_34 (by decide) ?_
  refine lv_icmp_ne (tgt := 48) hx hb dL_does_36 (by decide) (fun _ => ?_) (fun c => absurd c (by decide +kernel))
  refine lv_iload_n hx hb dL_does_48 rfl (lv_at hl 1 rfl) ?_
  refine lv_bipush (v := 12) hx hb dL_does_49 (by decide) ?_
  refine lv_icmp_ne (tgt := 62) hx hb dL_does_51 (by decide) (fun _ => ?_) (fun c => absurd c (by decide +kernel))
  refine lv_iload_n hx hb dL_does_62 rfl (lv_at hl 1 rfl) ?_
  refine lv_bipush (v := 13) hx hb dL_does_63 (by decide) ?_
  refine lv_icmp_ne (tgt := 77) hx hb dL_does_65 (by decide) (fun _ => ?_) (fun c => absurd c (by decide +kernel))
  refine lv_iload_n hx hb dL_does_77 rfl (lv_at hl 1 rfl) ?_
  refine lv_bipush (v := 14) hx hb dL_does_78 (by decide) ?_
  refine lv_icmp_ne (tgt := 92) hx hb dL_does_80 (by decide) (fun _ => ?_) (fun c => absurd c (by decide +kernel))
  refine lv_iload_n hx hb dL_does_92 rfl (lv_at hl 1 rfl) ?_
  refine lv_bipush (v := 15) hx hb dL_does_93 (by decide) ?_
  refine lv_icmp_ne (tgt := 107) hx hb dL_does_95 (by decide) (fun _ => ?_) (fun c => absurd c (by decide +kernel))
  refine lv_iload_n hx hb dL_does_107 rfl (lv_at hl 1 rfl) ?_
  refine lv_bipush (v := 16) hx hb dL_does_108 (by decide) ?_
  refine lv_icmp_ne (tgt := 121) hx hb dL_does_110 (by decide) (fun _ => ?_) (fun c => absurd c (by decide +kernel))
  refine lv_iload_n hx hb dL_does_121 rfl (lv_at hl 1 rfl) ?_
  refine lv_bipush (v := 17) hx hb dL_does_122 (by decide) ?_
  refine lv_icmp_ne (tgt := 136) hx hb dL_does_124 (by decide) (fun _ => ?_) (fun c => absurd c (by decide +kernel))
  refine lv_iload_n hx hb dL_does_136 rfl (lv_at hl 1 rfl) ?_
  refine lv_bipush (v := 18) hx hb dL_does_137 (by decide) ?_
  refine lv_icmp_ne (tgt := 150) hx hb dL_does_139 (by decide) (fun _ => ?_) (fun c => absurd c (by decide +kernel))
  refine lv_iload_n hx hb dL_does_150 rfl (lv_at hl 1 rfl) ?_
  refine lv_bipush (v := 19) hx hb dL_does_151 (by decide) ?_
  refine lv_icmp_ne (tgt := 165) hx hb dL_does_153 (by decide) (fun _ => ?_) (fun c => absurd c (by decide +kernel))
  refine lv_iload_n hx hb dL_does_165 rfl (lv_at hl 1 rfl) ?_
  refine lv_bipush (v := 20) hx hb dL_does_166 (by decide) ?_
  refine lv_icmp_ne (tgt := 180) hx hb dL_does_168 (by decide) (fun _ => ?_) (fun c => absurd c (by decide +kernel))
  refine lv_iload_n hx hb dL_does_180 rfl (lv_at hl 1 rfl) ?_
  refine lv_bipush (v := 21) hx hb dL_does_181 (by decide) ?_
  refine lv_icmp_ne (tgt := 194) hx hb dL_does_183 (by decide) (fun _ => ?_) (fun c => absurd c (by decide +kernel))
  refine lv_iload_n hx hb dL_does_194 rfl (lv_at hl 1 rfl) ?_
  refine lv_bipush (v := 22) hx hb dL_does_195 (by decide) ?_
  refine lv_icmp_ne (tgt := 217) hx hb dL_does_197 (by decide) (fun c => absurd (by decide +kernel) c) (fun _ => ?_)
  refine lv_aload_n hx hb dL_does_200 rfl (lv_at hl 0 rfl) ?_
  refine lv_iload_n hx hb dL_does_201 rfl (lv_at hl 2 rfl) ?_
  refine lv_iload_n hx hb dL_does_202 rfl (lv_at hl 3 rfl) ?_
  refine kx_do (st1 := [.int (b2 (cPrv g a1.toNatClampNeg b1.toNatClampNeg))]) (kx_cv (As := [.int a1, .int b1]) (rest := []) hF hG hw hS hl.1 kC_0 rfl (c_X2_isProven l hfl D cy base ad n nc g a1 b1 (by first | assumption | omega | exact mR_9 (by assumption) _ _ | simp [sU, hfr, hcr, hR]) (by first | assumption | omega | exact mR_9 (by assumption) _ _ | simp [sU, hfr, hcr, hR]) (by first | assumption | omega | exact mR_9 (by assumption) _ _ | simp [sU, hfr, hcr, hR])) gL_does_X2_isProven rfl rfl rfl hd_X2_isProven ⟨Nat.le_of_ble_eq_true rfl, Nat.le_of_ble_eq_true rfl⟩ rfl rfl (Nat.le_of_ble_eq_true rfl) dL_does_203 ⟨Nat.le_of_ble_eq_true rfl, Nat.le_of_ble_eq_true rfl⟩) hS rfl (fun E9 ce9 q9 H1 locs1 hX9 hw1 hS1 hc9 hv9 hcl9 => ?_) (fun ok_203 H locs hw hS => ?_)
  · rcases hX9 with ⟨rfl, hk⟩ | ⟨rfl, hk⟩ | ⟨rfl, hk⟩
    · refine kx_cat0 hown hG hT ⟨by decide, by decide⟩ (by decide) mIO (hts (.classLink RL 78 "java/lang/IndexOutOfBoundsException") (by decide +kernel)) hc9 hv9 hcl9 ?_
      refine lv_astore (lv' := [(5, .ref q9), (0, .ref (ad 0)), (1, .int (22 : Int32)), (2, .int a1), (3, .int b1), (4, .int c1)]) hx hb dL_does_315 hl (by decide) rfl (fun ls hl => ?_)
      refine lv_ldc hx hb hown k_80 dL_does_317 ?_
      have hne : ¬ (kd1 (isF n a1 && isF nc b1)) = 0 := fun q => by rw [q] at hk; revert hk; decide +kernel
      exact kx_retI hQ hx hb hr hlk hw1 hS1 (Nat.le_of_ble_eq_true rfl) (Nat.le_of_ble_eq_true rfl) dL_does_319 (kd_i trivial (congrArg Prod.fst (oR_n hne)) rfl)
    · refine kx_cat1 hown hG hT ⟨by decide, by decide⟩ (by decide) mIA (hts (.classLink RL 81 "java/lang/IllegalArgumentException") (by decide +kernel)) mIO nAO (by decide) (hts (.classLink RL 78 "java/lang/IndexOutOfBoundsException") (by decide +kernel)) hc9 hv9 hcl9 ?_
      refine lv_astore (lv' := [(5, .ref q9), (0, .ref (ad 0)), (1, .int (22 : Int32)), (2, .int a1), (3, .int b1), (4, .int c1)]) hx hb dL_does_320 hl (by decide) rfl (fun ls hl => ?_)
      refine lv_ldc hx hb hown k_80 dL_does_322 ?_
      have hne : ¬ (kd1 (isF n a1 && isF nc b1)) = 0 := fun q => by rw [q] at hk; revert hk; decide +kernel
      exact kx_retI hQ hx hb hr hlk hw1 hS1 (Nat.le_of_ble_eq_true rfl) (Nat.le_of_ble_eq_true rfl) dL_does_324 (kd_i trivial (congrArg Prod.fst (oR_n hne)) rfl)
    · refine kx_cat2 hown hG hT ⟨by decide, by decide⟩ (by decide) mIS (hts (.classLink RL 83 "java/lang/IllegalStateException") (by decide +kernel)) mIO nSO (by decide) (hts (.classLink RL 78 "java/lang/IndexOutOfBoundsException") (by decide +kernel)) mIA nSA (by decide) (hts (.classLink RL 81 "java/lang/IllegalArgumentException") (by decide +kernel)) hc9 hv9 hcl9 ?_
      refine lv_astore (lv' := [(5, .ref q9), (0, .ref (ad 0)), (1, .int (22 : Int32)), (2, .int a1), (3, .int b1), (4, .int c1)]) hx hb dL_does_325 hl (by decide) rfl (fun ls hl => ?_)
      refine lv_ldc hx hb hown k_80 dL_does_327 ?_
      have hne : ¬ (kd1 (isF n a1 && isF nc b1)) = 0 := fun q => by rw [q] at hk; revert hk; decide +kernel
      exact kx_retI hQ hx hb hr hlk hw1 hS1 (Nat.le_of_ble_eq_true rfl) (Nat.le_of_ble_eq_true rfl) dL_does_329 (kd_i trivial (congrArg Prod.fst (oR_n hne)) rfl)
  · refine kb_eq (tgt := 213) hx hb dL_does_206 (by decide) (fun c_206 => ?_) (fun c_206 => ?_)
    · refine lv_iconst (v := 0) hx hb dL_does_213 (by decide) ?_
      refine lv_goto (tgt := 314) hx hb dL_does_214 (by decide) ?_
      exact kx_retI hQ hx hb hr hlk hw hS (Nat.le_of_ble_eq_true rfl) (Nat.le_of_ble_eq_true rfl) dL_does_314 (kd_i (trivial) ((congrArg Prod.fst (oR_y ok_203)).trans (by first | (simp only [c_206]; done) | (simp only [c_206]; rfl) | (simp [c_206]; done))) (rfl))
    · refine lv_iconst (v := 1) hx hb dL_does_209 (by decide) ?_
      refine lv_goto (tgt := 314) hx hb dL_does_210 (by decide) ?_
      exact kx_retI hQ hx hb hr hlk hw hS (Nat.le_of_ble_eq_true rfl) (Nat.le_of_ble_eq_true rfl) dL_does_314 (kd_i (trivial) ((congrArg Prod.fst (oR_y ok_203)).trans (by first | (simp only [c_206]; done) | (simp only [c_206]; rfl) | (simp [c_206]; done))) (rfl))
set_option maxHeartbeats 4000000 in
set_option maxRecDepth 100000 in
theorem c_L_does_23 (l : Launch) (hfl : l.stackTraces = false) (D : va_G) (cy : Nat → ClassId) (base : Nat → Prop) (ad : Nat → Nat) (n nc : Nat) (g : sg) (a1 : Int32) (b1 : Int32) (c1 : Int32) (hfr : ∀ j, j < 30 → g 6 j = if j < n then 1 else 0) (hcr : ∀ j, j < 20 → g 7 j = if j < nc then 1 else 0) (hR : cR n nc g) : kM l yL_does wsL_does (kR 9 1 6) D cy base ad n nc g [.ref (ad 0), .int (23 : Int32), .int a1, .int b1, .int c1] (kD True (some (.int ((dF_23 n nc g a1).1))) ad n nc g) kNo 1 6 := by
  refine kx_methH (cc := cL_does) (maxL := 6) (ret := (some .int)) (hh := [(0, 314, 315, 78), (0, 314, 320, 81), (0, 314, 325, 83)]) (by decide) rfl (Nat.le_of_ble_eq_true rfl) ?_
  intro p e s m args below meth c ls hx hb hr hml hown hts hlk hT hG hl Q H locs hQ hw hS
  have hl : lv_has ls 6 [(0, .ref (ad 0)), (1, .int (23 : Int32)), (2, .int a1), (3, .int b1), (4, .int c1)] := hl
  have hown : s.vm.findClass RL = some m.cls := hown
  have hF : CallFix p m c cL_does 6 s args wsL_does RL := ⟨hx, hb, hml, hown, hts⟩
  have hn30 : n ≤ 30 := hw.2.2.1
  have hc20 : nc ≤ 20 := hw.2.2.2
  have k_80 := hts (.constant RL 80 (-2100000000)) (by decide +kernel)
  refine lv_iload_n hx hb dL_does_0 rfl (lv_at hl 1 rfl) ?_
  refine lv_bipush (v := 10) hx hb dL_does_1 (by decide) ?_
  refine lv_icmp_ge (tgt := 18) hx hb dL_does_3 (by decide) (fun _ => ?_) (fun c => absurd (by decide +kernel) c)
  refine lv_iload_n hx hb dL_does_18 rfl (lv_at hl 1 rfl) ?_
  refine lv_bipush (v := 10) hx hb dL_does_19 (by decide) ?_
  refine lv_icmp_ne (tgt := 33) hx hb dL_does_21 (by decide) (fun _ => ?_) (fun c => absurd c (by decide +kernel))
  refine lv_iload_n hx hb dL_does_33 rfl (lv_at hl 1 rfl) ?_
  refine lv_bipush (v := 11) hx hb dL_does_34 (by decide) ?_
  refine lv_icmp_ne (tgt := 48) hx hb dL_does_36 (by decide) (fun _ => ?_) (fun c => absurd c (by decide +kernel))
  refine lv_iload_n hx hb dL_does_48 rfl (lv_at hl 1 rfl) ?_
  refine lv_bipush (v := 12) hx hb dL_does_49 (by decide) ?_
  refine lv_icmp_ne (tgt := 62) hx hb dL_does_51 (by decide) (fun _ => ?_) (fun c => absurd c (by decide +kernel))
  refine lv_iload_n hx hb dL_does_62 rfl (lv_at hl 1 rfl) ?_
  refine lv_bipush (v := 13) hx hb dL_does_63 (by decide) ?_
  refine lv_icmp_ne (tgt := 77) hx hb dL_does_65 (by decide) (fun _ => ?_) (fun c => absurd c (by decide +kernel))
  refine lv_iload_n hx hb dL_does_77 rfl (lv_at hl 1 rfl) ?_
  refine lv_bipush (v := 14) hx hb dL_does_78 (by decide) ?_
  refine lv_icmp_ne (tgt := 92) hx hb dL_does_80 (by decide) (fun _ => ?_) (fun c => absurd c (by decide +kernel))
  refine lv_iload_n hx hb dL_does_92 rfl (lv_at hl 1 rfl) ?_
  refine lv_bipush (v := 15) hx hb dL_does_93 (by decide) ?_
  refine lv_icmp_ne (tgt := 107) hx hb dL_does_95 (by decide) (fun _ => ?_) (fun c => absurd c (by decide +kernel))
  refine lv_iload_n hx hb dL_does_107 rfl (lv_at hl 1 rfl) ?_
  refine lv_bipush (v := 16) hx hb dL_does_108 (by decide) ?_
  refine lv_icmp_ne (tgt := 121) hx hb dL_does_110 (by decide) (fun _ => ?_) (fun c => absurd c (by decide +kernel))
  refine lv_iload_n hx hb dL_does_121 rfl (lv_at hl 1 rfl) ?_
  refine lv_bipush (v := 17) hx hb dL_does_122 (by decide) ?_
  refine lv_icmp_ne (tgt := 136) hx hb dL_does_124 (by decide) (fun _ => ?_) (fun c => absurd c (by decide +kernel))
  refine lv_iload_n hx hb dL_does_136 rfl (lv_at hl 1 rfl) ?_
  refine lv_bipush (v := 18) hx hb dL_does_137 (by decide) ?_
  refine lv_icmp_ne (tgt := 150) hx hb dL_does_139 (by decide) (fun _ => ?_) (fun c => absurd c (by decide +kernel))
  refine lv_iload_n hx hb dL_does_150 rfl (lv_at hl 1 rfl) ?_
  refine lv_bipush (v := 19) hx hb dL_does_151 (by decide) ?_
  refine lv_icmp_ne (tgt := 165) hx hb dL_does_153 (by decide) (fun _ => ?_) (fun c => absurd c (by decide +kernel))
  refine lv_iload_n hx hb dL_does_165 rfl (lv_at hl 1 rfl) ?_
  refine lv_bipush (v := 20) hx hb dL_does_166 (by decide) ?_
  refine lv_icmp_ne (tgt := 180) hx hb dL_does_168 (by decide) (fun _ => ?_) (fun c => absurd c (by decide +kernel))
  refine lv_iload_n hx hb dL_does_180 rfl (lv_at hl 1 rfl) ?_
  refine lv_bipush (v := 21) hx hb dL_does_181 (by decide) ?_
  refine lv_icmp_ne (tgt := 194) hx hb dL_does_183 (by decide) (fun _ => ?_) (fun c => absurd c (by decide +kernel))
  refine lv_iload_n hx hb dL_does_194 rfl (lv_at hl 1 rfl) ?_
  refine lv_bipush (v := 22) hx hb dL_does_195 (by decide) ?_
  refine lv_icmp_ne (tgt := 217) hx hb dL_does_197 (by decide) (fun _ => ?_) (fun c => absurd c (by decide +kernel))
  refine lv_iload_n hx hb dL_does_217 rfl (lv_at hl 1 rfl) ?_
  refine lv_bipush (v := 23) hx hb dL_does_218 (by decide) ?_
  refine lv_icmp_ne (tgt := 239) hx hb dL_does_220 (by decide) (fun c => absurd (by decide +kernel) c) (fun _ => ?_)
  refine lv_aload_n hx hb dL_does_223 rfl (lv_at hl 0 rfl) ?_
  refine lv_iload_n hx hb dL_does_224 rfl (lv_at hl 2 rfl) ?_
  refine kx_do (st1 := [.int (b2 (cOver g nc a1.toNatClampNeg))]) (kx_cv (As := [.int a1]) (rest := []) hF hG hw hS hl.1 kC_0 rfl (c_X2_isDue l hfl D cy base ad n nc g a1 (by first | assumption | omega | exact mR_9 (by assumption) _ _ | simp [sU, hfr, hcr, hR]) (by first | assumption | omega | exact mR_9 (by assumption) _ _ | simp [sU, hfr, hcr, hR]) (by first | assumption | omega | exact mR_9 (by assumption) _ _ | simp [sU, hfr, hcr, hR])) gL_does_X2_isDue rfl rfl rfl hd_X2_isDue ⟨Nat.le_of_ble_eq_true rfl, Nat.le_of_ble_eq_true rfl⟩ rfl rfl (Nat.le_of_ble_eq_true rfl) dL_does_225 ⟨Nat.le_of_ble_eq_true rfl, Nat.le_of_ble_eq_true rfl⟩) hS rfl (fun E9 ce9 q9 H1 locs1 hX9 hw1 hS1 hc9 hv9 hcl9 => ?_) (fun ok_225 H locs hw hS => ?_)
  · rcases hX9 with ⟨rfl, hk⟩ | ⟨rfl, hk⟩ | ⟨rfl, hk⟩
    · refine kx_cat0 hown hG hT ⟨by decide, by decide⟩ (by decide) mIO (hts (.classLink RL 78 "java/lang/IndexOutOfBoundsException") (by decide +kernel)) hc9 hv9 hcl9 ?_
      refine lv_astore (lv' := [(5, .ref q9), (0, .ref (ad 0)), (1, .int (23 : Int32)), (2, .int a1), (3, .int b1), (4, .int c1)]) hx hb dL_does_315 hl (by decide) rfl (fun ls hl => ?_)
      refine lv_ldc hx hb hown k_80 dL_does_317 ?_
      have hne : ¬ (kd1 (isF n a1)) = 0 := fun q => by rw [q] at hk; revert hk; decide +kernel
      exact kx_retI hQ hx hb hr hlk hw1 hS1 (Nat.le_of_ble_eq_true rfl) (Nat.le_of_ble_eq_true rfl) dL_does_319 (kd_i trivial (congrArg Prod.fst (oR_n hne)) rfl)
    · refine kx_cat1 hown hG hT ⟨by decide, by decide⟩ (by decide) mIA (hts (.classLink RL 81 "java/lang/IllegalArgumentException") (by decide +kernel)) mIO nAO (by decide) (hts (.classLink RL 78 "java/lang/IndexOutOfBoundsException") (by decide +kernel)) hc9 hv9 hcl9 ?_
      refine lv_astore (lv' := [(5, .ref q9), (0, .ref (ad 0)), (1, .int (23 : Int32)), (2, .int a1), (3, .int b1), (4, .int c1)]) hx hb dL_does_320 hl (by decide) rfl (fun ls hl => ?_)
      refine lv_ldc hx hb hown k_80 dL_does_322 ?_
      have hne : ¬ (kd1 (isF n a1)) = 0 := fun q => by rw [q] at hk; revert hk; decide +kernel
      exact kx_retI hQ hx hb hr hlk hw1 hS1 (Nat.le_of_ble_eq_true rfl) (Nat.le_of_ble_eq_true rfl) dL_does_324 (kd_i trivial (congrArg Prod.fst (oR_n hne)) rfl)
    · refine kx_cat2 hown hG hT ⟨by decide, by decide⟩ (by decide) mIS (hts (.classLink RL 83 "java/lang/IllegalStateException") (by decide +kernel)) mIO nSO (by decide) (hts (.classLink RL 78 "java/lang/IndexOutOfBoundsException") (by decide +kernel)) mIA nSA (by decide) (hts (.classLink RL 81 "java/lang/IllegalArgumentException") (by decide +kernel)) hc9 hv9 hcl9 ?_
      refine lv_astore (lv' := [(5, .ref q9), (0, .ref (ad 0)), (1, .int (23 : Int32)), (2, .int a1), (3, .int b1), (4, .int c1)]) hx hb dL_does_325 hl (by decide) rfl (fun ls hl => ?_)
      refine lv_ldc hx hb hown k_80 dL_does_327 ?_
      have hne : ¬ (kd1 (isF n a1)) = 0 := fun q => by rw [q] at hk; revert hk; decide +kernel
      exact kx_retI hQ hx hb hr hlk hw1 hS1 (Nat.le_of_ble_eq_true rfl) (Nat.le_of_ble_eq_true rfl) dL_does_329 (kd_i trivial (congrArg Prod.fst (oR_n hne)) rfl)
  · refine kb_eq (tgt := 235) hx hb dL_does_228 (by decide) (fun c_228 => ?_) (fun c_228 => ?_)
    · refine lv_iconst (v := 0) hx hb dL_does_235 (by decide) ?_
      refine lv_goto (tgt := 314) hx hb dL_does_236 (by decide) ?_
      exact kx_retI hQ hx hb hr hlk hw hS (Nat.le_of_ble_eq_true rfl) (Nat.le_of_ble_eq_true rfl) dL_does_314 (kd_i (trivial) ((congrArg Prod.fst (oR_y ok_225)).trans (by first | (simp only [c_228]; done) | (simp only [c_228]; rfl) | (simp [c_228]; done))) (rfl))
    · refine lv_iconst (v := 1) hx hb dL_does_231 (by decide) ?_
      refine lv_goto (tgt := 314) hx hb dL_does_232 (by decide) ?_
      exact kx_retI hQ hx hb hr hlk hw hS (Nat.le_of_ble_eq_true rfl) (Nat.le_of_ble_eq_true rfl) dL_does_314 (kd_i (trivial) ((congrArg Prod.fst (oR_y ok_225)).trans (by first | (simp only [c_228]; done) | (simp only [c_228]; rfl) | (simp [c_228]; done))) (rfl))
set_option maxHeartbeats 4000000 in
set_option maxRecDepth 100000 in
theorem c_L_does_24 (l : Launch) (hfl : l.stackTraces = false) (D : va_G) (cy : Nat → ClassId) (base : Nat → Prop) (ad : Nat → Nat) (n nc : Nat) (g : sg) (a1 : Int32) (b1 : Int32) (c1 : Int32) (hfr : ∀ j, j < 30 → g 6 j = if j < n then 1 else 0) : kM l yL_does wsL_does (kR 9 2 12) D cy base ad n nc g [.ref (ad 0), .int (24 : Int32), .int a1, .int b1, .int c1] (kD True (some (.int ((dF_24 n nc g a1 b1).1))) ad n nc g) kNo 2 12 := by
  refine kx_methH (cc := cL_does) (maxL := 6) (ret := (some .int)) (hh := [(0, 314, 315, 78), (0, 314, 320, 81), (0, 314, 325, 83)]) (by decide) rfl (Nat.le_of_ble_eq_true rfl) ?_
  intro p e s m args below meth c ls hx hb hr hml hown hts hlk hT hG hl Q H locs hQ hw hS
  have hl : lv_has ls 6 [(0, .ref (ad 0)), (1, .int (24 : Int32)), (2, .int a1), (3, .int b1), (4, .int c1)] := hl
  have hown : s.vm.findClass RL = some m.cls := hown
  have hF : CallFix p m c cL_does 6 s args wsL_does RL := ⟨hx, hb, hml, hown, hts⟩
  have hn30 : n ≤ 30 := hw.2.2.1
  have hc20 : nc ≤ 20 := hw.2.2.2
  have k_80 := hts (.constant RL 80 (-2100000000)) (by decide +kernel)
  refine lv_iload_n hx hb dL_does_0 rfl (lv_at hl 1 rfl) ?_
  refine lv_bipush (v := 10) hx hb dL_does_1 (by decide) ?_
  refine lv_icmp_ge (tgt := 18) hx hb dL_does_3 (by decide) (fun _ => ?_) (fun c => absurd (by decide +kernel) c)
  refine lv_iload_n hx hb dL_does_18 rfl (lv_at hl 1 rfl) ?_
  refine lv_bipush (v := 10) hx hb dL_does_19 (by decide) ?_
  refine lv_icmp_ne (tgt := 33) hx hb dL_does_21 (by decide) (fun _ => ?_) (fun c => absurd c (by decide +kernel))
  refine lv_iload_n hx hb dL_does_33 rfl (lv_at hl 1 rfl) ?_
  refine lv_bipush (v := 11) hx hb dL_does_34 (by decide) ?_
  refine lv_icmp_ne (tgt := 48) hx hb dL_does_36 (by decide) (fun _ => ?_) (fun c => absurd c (by decide +kernel))
  refine lv_iload_n hx hb dL_does_48 rfl (lv_at hl 1 rfl) ?_
  refine lv_bipush (v := 12) hx hb dL_does_49 (by decide) ?_
  refine lv_icmp_ne (tgt := 62) hx hb dL_does_51 (by decide) (fun _ => ?_) (fun c => absurd c (by decide +kernel))
  refine lv_iload_n hx hb dL_does_62 rfl (lv_at hl 1 rfl) ?_
  refine lv_bipush (v := 13) hx hb dL_does_63 (by decide) ?_
  refine lv_icmp_ne (tgt := 77) hx hb dL_does_65 (by decide) (fun _ => ?_) (fun c => absurd c (by decide +kernel))
  refine lv_iload_n hx hb dL_does_77 rfl (lv_at hl 1 rfl) ?_
  refine lv_bipush (v := 14) hx hb dL_does_78 (by decide) ?_
  refine lv_icmp_ne (tgt := 92) hx hb dL_does_80 (by decide) (fun _ => ?_) (fun c => absurd c (by decide +kernel))
  refine lv_iload_n hx hb dL_does_92 rfl (lv_at hl 1 rfl) ?_
  refine lv_bipush (v := 15) hx hb dL_does_93 (by decide) ?_
  refine lv_icmp_ne (tgt := 107) hx hb dL_does_95 (by decide) (fun _ => ?_) (fun c => absurd c (by decide +kernel))
  refine lv_iload_n hx hb dL_does_107 rfl (lv_at hl 1 rfl) ?_
  refine lv_bipush (v := 16) hx hb dL_does_108 (by decide) ?_
  refine lv_icmp_ne (tgt := 121) hx hb dL_does_110 (by decide) (fun _ => ?_) (fun c => absurd c (by decide +kernel))
  refine lv_iload_n hx hb dL_does_121 rfl (lv_at hl 1 rfl) ?_
  refine lv_bipush (v := 17) hx hb dL_does_122 (by decide) ?_
  refine lv_icmp_ne (tgt := 136) hx hb dL_does_124 (by decide) (fun _ => ?_) (fun c => absurd c (by decide +kernel))
  refine lv_iload_n hx hb dL_does_136 rfl (lv_at hl 1 rfl) ?_
  refine lv_bipush (v := 18) hx hb dL_does_137 (by decide) ?_
  refine lv_icmp_ne (tgt := 150) hx hb dL_does_139 (by decide) (fun _ => ?_) (fun c => absurd c (by decide +kernel))
  refine lv_iload_n hx hb dL_does_150 rfl (lv_at hl 1 rfl) ?_
  refine lv_bipush (v := 19) hx hb dL_does_151 (by decide) ?_
  refine lv_icmp_ne (tgt := 165) hx hb dL_does_153 (by decide) (fun _ => ?_) (fun c => absurd c (by decide +kernel))
  refine lv_iload_n hx hb dL_does_165 rfl (lv_at hl 1 rfl) ?_
  refine lv_bipush (v := 20) hx hb dL_does_166 (by decide) ?_
  refine lv_icmp_ne (tgt := 180) hx hb dL_does_168 (by decide) (fun _ => ?_) (fun c => absurd c (by decide +kernel))
  refine lv_iload_n hx hb dL_does_180 rfl (lv_at hl 1 rfl) ?_
  refine lv_bipush (v := 21) hx hb dL_does_181 (by decide) ?_
  refine lv_icmp_ne (tgt := 194) hx hb dL_does_183 (by decide) (fun _ => ?_) (fun c => absurd c (by decide +kernel))
  refine lv_iload_n hx hb dL_does_194 rfl (lv_at hl 1 rfl) ?_
  refine lv_bipush (v := 22) hx hb dL_does_195 (by decide) ?_
  refine lv_icmp_ne (tgt := 217) hx hb dL_does_197 (by decide) (fun _ => ?_) (fun c => absurd c (by decide +kernel))
  refine lv_iload_n hx hb dL_does_217 rfl (lv_at hl 1 rfl) ?_
  refine lv_bipush (v := 23) hx hb dL_does_218 (by decide) ?_
  refine lv_icmp_ne (tgt := 239) hx hb dL_does_220 (by decide) (fun _ => ?_) (fun c => absurd c (by decide +kernel))
  refine lv_iload_n hx hb dL_does_239 rfl (lv_at hl 1 rfl) ?_
  refine lv_bipush (v := 24) hx hb dL_does_240 (by decide) ?_
  refine lv_icmp_ne (tgt := 254) hx hb dL_does_242 (by decide) (fun c => absurd (by decide +kernel) c) (fun _ => ?_)
  refine lv_aload_n hx hb dL_does_245 rfl (lv_at hl 0 rfl) ?_
  refine lv_iload_n hx hb dL_does_246 rfl (lv_at hl 2 rfl) ?_
  refine lv_iload_n hx hb dL_does_247 rfl (lv_at hl 3 rfl) ?_
  refine kx_do (st1 := [.int ((if b1 = nI 0 then g (100 + 3 * a1.toNatClampNeg) 9 else if b1 = nI 1 then g (100 + 3 * a1.toNatClampNeg) 10 else if b1 = nI 2 then g (100 + 3 * a1.toNatClampNeg) 11 else if b1 = nI 3 then g (100 + 3 * a1.toNatClampNeg) 8 else g (100 + 3 * a1.toNatClampNeg) 7))]) (kx_cv (As := [.int a1, .int b1]) (rest := []) hF hG hw hS hl.1 kC_0 rfl (c_X2_ofFind l hfl D cy base ad n nc g a1 b1 (by first | assumption | omega | exact mR_9 (by assumption) _ _ | simp [sU, hfr])) gL_does_X2_ofFind rfl rfl rfl hd_X2_ofFind ⟨Nat.le_of_ble_eq_true rfl, Nat.le_of_ble_eq_true rfl⟩ rfl rfl (Nat.le_of_ble_eq_true rfl) dL_does_248 ⟨Nat.le_of_ble_eq_true rfl, Nat.le_of_ble_eq_true rfl⟩) hS rfl (fun E9 ce9 q9 H1 locs1 hX9 hw1 hS1 hc9 hv9 hcl9 => ?_) (fun ok_248 H locs hw hS => ?_)
  · rcases hX9 with ⟨rfl, hk⟩ | ⟨rfl, hk⟩ | ⟨rfl, hk⟩
    · refine kx_cat0 hown hG hT ⟨by decide, by decide⟩ (by decide) mIO (hts (.classLink RL 78 "java/lang/IndexOutOfBoundsException") (by decide +kernel)) hc9 hv9 hcl9 ?_
      refine lv_astore (lv' := [(5, .ref q9), (0, .ref (ad 0)), (1, .int (24 : Int32)), (2, .int a1), (3, .int b1), (4, .int c1)]) hx hb dL_does_315 hl (by decide) rfl (fun ls hl => ?_)
      refine lv_ldc hx hb hown k_80 dL_does_317 ?_
      have hne : ¬ (kd2 (isF n a1) (inn b1 0 4)) = 0 := fun q => by rw [q] at hk; revert hk; decide +kernel
      exact kx_retI hQ hx hb hr hlk hw1 hS1 (Nat.le_of_ble_eq_true rfl) (Nat.le_of_ble_eq_true rfl) dL_does_319 (kd_i trivial (congrArg Prod.fst (oR_n hne)) rfl)
    · refine kx_cat1 hown hG hT ⟨by decide, by decide⟩ (by decide) mIA (hts (.classLink RL 81 "java/lang/IllegalArgumentException") (by decide +kernel)) mIO nAO (by decide) (hts (.classLink RL 78 "java/lang/IndexOutOfBoundsException") (by decide +kernel)) hc9 hv9 hcl9 ?_
      refine lv_astore (lv' := [(5, .ref q9), (0, .ref (ad 0)), (1, .int (24 : Int32)), (2, .int a1), (3, .int b1), (4, .int c1)]) hx hb dL_does_320 hl (by decide) rfl (fun ls hl => ?_)
      refine lv_ldc hx hb hown k_80 dL_does_322 ?_
      have hne : ¬ (kd2 (isF n a1) (inn b1 0 4)) = 0 := fun q => by rw [q] at hk; revert hk; decide +kernel
      exact kx_retI hQ hx hb hr hlk hw1 hS1 (Nat.le_of_ble_eq_true rfl) (Nat.le_of_ble_eq_true rfl) dL_does_324 (kd_i trivial (congrArg Prod.fst (oR_n hne)) rfl)
    · refine kx_cat2 hown hG hT ⟨by decide, by decide⟩ (by decide) mIS (hts (.classLink RL 83 "java/lang/IllegalStateException") (by decide +kernel)) mIO nSO (by decide) (hts (.classLink RL 78 "java/lang/IndexOutOfBoundsException") (by decide +kernel)) mIA nSA (by decide) (hts (.classLink RL 81 "java/lang/IllegalArgumentException") (by decide +kernel)) hc9 hv9 hcl9 ?_
      refine lv_astore (lv' := [(5, .ref q9), (0, .ref (ad 0)), (1, .int (24 : Int32)), (2, .int a1), (3, .int b1), (4, .int c1)]) hx hb dL_does_325 hl (by decide) rfl (fun ls hl => ?_)
      refine lv_ldc hx hb hown k_80 dL_does_327 ?_
      have hne : ¬ (kd2 (isF n a1) (inn b1 0 4)) = 0 := fun q => by rw [q] at hk; revert hk; decide +kernel
      exact kx_retI hQ hx hb hr hlk hw1 hS1 (Nat.le_of_ble_eq_true rfl) (Nat.le_of_ble_eq_true rfl) dL_does_329 (kd_i trivial (congrArg Prod.fst (oR_n hne)) rfl)
  · refine lv_goto (tgt := 314) hx hb dL_does_251 (by decide) ?_
    exact kx_retI hQ hx hb hr hlk hw hS (Nat.le_of_ble_eq_true rfl) (Nat.le_of_ble_eq_true rfl) dL_does_314 (kd_i (trivial) (congrArg Prod.fst (oR_y ok_248)) (rfl))
set_option maxHeartbeats 4000000 in
set_option maxRecDepth 100000 in
theorem c_L_does_25 (l : Launch) (hfl : l.stackTraces = false) (D : va_G) (cy : Nat → ClassId) (base : Nat → Prop) (ad : Nat → Nat) (n nc : Nat) (g : sg) (a1 : Int32) (b1 : Int32) (c1 : Int32) (hfr : ∀ j, j < 30 → g 6 j = if j < n then 1 else 0) (hh : ∀ i, i < n → ∃ h : Nat, h ≤ 12 ∧ g (100 + 3 * i) 7 = nI h) : kM l yL_does wsL_does (kR 9 2 12) D cy base ad n nc g [.ref (ad 0), .int (25 : Int32), .int a1, .int b1, .int c1] (kD True (some (.int ((dF_25 n nc g a1 b1 c1).1))) ad n nc g) kNo 2 12 := by
  refine kx_methH (cc := cL_does) (maxL := 6) (ret := (some .int)) (hh := [(0, 314, 315, 78), (0, 314, 320, 81), (0, 314, 325, 83)]) (by decide) rfl (Nat.le_of_ble_eq_true rfl) ?_
  intro p e s m args below meth c ls hx hb hr hml hown hts hlk hT hG hl Q H locs hQ hw hS
  have hl : lv_has ls 6 [(0, .ref (ad 0)), (1, .int (25 : Int32)), (2, .int a1), (3, .int b1), (4, .int c1)] := hl
  have hown : s.vm.findClass RL = some m.cls := hown
  have hF : CallFix p m c cL_does 6 s args wsL_does RL := ⟨hx, hb, hml, hown, hts⟩
  have hn30 : n ≤ 30 := hw.2.2.1
  have hc20 : nc ≤ 20 := hw.2.2.2
  have k_80 := hts (.constant RL 80 (-2100000000)) (by decide +kernel)
  refine lv_iload_n hx hb dL_does_0 rfl (lv_at hl 1 rfl) ?_
  refine lv_bipush (v := 10) hx hb dL_does_1 (by decide) ?_
  refine lv_icmp_ge (tgt := 18) hx hb dL_does_3 (by decide) (fun _ => ?_) (fun c => absurd (by decide +kernel) c)
  refine lv_iload_n hx hb dL_does_18 rfl (lv_at hl 1 rfl) ?_
  refine lv_bipush (v := 10) hx hb dL_does_19 (by decide) ?_
  refine lv_icmp_ne (tgt := 33) hx hb dL_does_21 (by decide) (fun _ => ?_) (fun c => absurd c (by decide +kernel))
  refine lv_iload_n hx hb dL_does_33 rfl (lv_at hl 1 rfl) ?_
  refine lv_bipush (v := 11) hx hb dL_does_34 (by decide) ?_
  refine lv_icmp_ne (tgt := 48) hx hb dL_does_36 (by decide) (fun _ => ?_) (fun c => absurd c (by decide +kernel))
  refine lv_iload_n hx hb dL_does_48 rfl (lv_at hl 1 rfl) ?_
  refine lv_bipush (v := 12) hx hb dL_does_49 (by decide) ?_
  refine lv_icmp_ne (tgt := 62) hx hb dL_does_51 (by decide) (fun _ => ?_) (fun c => absurd c (by decide +kernel))
  refine lv_iload_n hx hb dL_does_62 rfl (lv_at hl 1 rfl) ?_
  refine lv_bipush (v := 13) hx hb dL_does_63 (by decide) ?_
  refine lv_icmp_ne (tgt := 77) hx hb dL_does_65 (by decide) (fun _ => ?_) (fun c => absurd c (by decide +kernel))
  refine lv_iload_n hx hb dL_does_77 rfl (lv_at hl 1 rfl) ?_
  refine lv_bipush (v := 14) hx hb dL_does_78 (by decide) ?_
  refine lv_icmp_ne (tgt := 92) hx hb dL_does_80 (by decide) (fun _ => ?_) (fun c => absurd c (by decide +kernel))
  refine lv_iload_n hx hb dL_does_92 rfl (lv_at hl 1 rfl) ?_
  refine lv_bipush (v := 15) hx hb dL_does_93 (by decide) ?_
  refine lv_icmp_ne (tgt := 107) hx hb dL_does_95 (by decide) (fun _ => ?_) (fun c => absurd c (by decide +kernel))
  refine lv_iload_n hx hb dL_does_107 rfl (lv_at hl 1 rfl) ?_
  refine lv_bipush (v := 16) hx hb dL_does_108 (by decide) ?_
  refine lv_icmp_ne (tgt := 121) hx hb dL_does_110 (by decide) (fun _ => ?_) (fun c => absurd c (by decide +kernel))
  refine lv_iload_n hx hb dL_does_121 rfl (lv_at hl 1 rfl) ?_
  refine lv_bipush (v := 17) hx hb dL_does_122 (by decide) ?_
  refine lv_icmp_ne (tgt := 136) hx hb dL_does_124 (by decide) (fun _ => ?_) (fun c => absurd c (by decide +kernel))
  refine lv_iload_n hx hb dL_does_136 rfl (lv_at hl 1 rfl) ?_
  refine lv_bipush (v := 18) hx hb dL_does_137 (by decide) ?_
  refine lv_icmp_ne (tgt := 150) hx hb dL_does_139 (by decide) (fun _ => ?_) (fun c => absurd c (by decide +kernel))
  refine lv_iload_n hx hb dL_does_150 rfl (lv_at hl 1 rfl) ?_
  refine lv_bipush (v := 19) hx hb dL_does_151 (by decide) ?_
  refine lv_icmp_ne (tgt := 165) hx hb dL_does_153 (by decide) (fun _ => ?_) (fun c => absurd c (by decide +kernel))
  refine lv_iload_n hx hb dL_does_165 rfl (lv_at hl 1 rfl) ?_
  refine lv_bipush (v := 20) hx hb dL_does_166 (by decide) ?_
  refine lv_icmp_ne (tgt := 180) hx hb dL_does_168 (by decide) (fun _ => ?_) (fun c => absurd c (by decide +kernel))
  refine lv_iload_n hx hb dL_does_180 rfl (lv_at hl 1 rfl) ?_
  refine lv_bipush (v := 21) hx hb dL_does_181 (by decide) ?_
  refine lv_icmp_ne (tgt := 194) hx hb dL_does_183 (by decide) (fun _ => ?_) (fun c => absurd c (by decide +kernel))
  refine lv_iload_n hx hb dL_does_194 rfl (lv_at hl 1 rfl) ?_
  refine lv_bipush (v := 22) hx hb dL_does_195 (by decide) ?_
  refine lv_icmp_ne (tgt := 217) hx hb dL_does_197 (by decide) (fun _ => ?_) (fun c => absurd c (by decide +kernel))
  refine lv_iload_n hx hb dL_does_217 rfl (lv_at hl 1 rfl) ?_
  refine lv_bipush (v := 23) hx hb dL_does_218 (by decide) ?_
  refine lv_icmp_ne (tgt := 239) hx hb dL_does_220 (by decide) (fun _ => ?_) (fun c => absurd c (by decide +kernel))
  refine lv_iload_n hx hb dL_does_239 rfl (lv_at hl 1 rfl) ?_
  refine lv_bipush (v := 24) hx hb dL_does_240 (by decide) ?_
  refine lv_icmp_ne (tgt := 254) hx hb dL_does_242 (by decide) (fun _ => ?_) (fun c => absurd c (by decide +kernel))
  refine lv_iload_n hx hb dL_does_254 rfl (lv_at hl 1 rfl) ?_
  refine lv_bipush (v := 25) hx hb dL_does_255 (by decide) ?_
  refine lv_icmp_ne (tgt := 280) hx hb dL_does_257 (by decide) (fun c => absurd (by decide +kernel) c) (fun _ => ?_)
  refine lv_aload_n hx hb dL_does_260 rfl (lv_at hl 0 rfl) ?_
  refine lv_iload_n hx hb dL_does_261 rfl (lv_at hl 2 rfl) ?_
  refine lv_iload_n hx hb dL_does_262 rfl (lv_at hl 3 rfl) ?_
  refine lv_iload hx hb dL_does_263 (lv_at hl 4 rfl) ?_
  refine lv_iconst (v := 1) hx hb dL_does_265 (by decide) ?_
  have hj_274_0 : ∀ (H : Heap) (locs : List Loc) (ls : Array Slot), kW D cy base ad n nc g H → va_S (kA base) s.heap H locs → lv_has ls 6 [(0, .ref (ad 0)), (1, .int (25 : Int32)), (2, .int a1), (3, .int b1), (4, .int c1)] → W p l e (kR 9 2 12) s m args below meth c H locs 0 0 Q (F0 m 274 ls [.int (b2 (decide (c1 = (1 : Int32)))), .int b1, .int a1, .ref (ad 0)]) := by
    intro H locs ls hw hS hl
    refine kx_do (st1 := [.int ((if (decide (c1 = (1 : Int32))) = true then g (100 + 3 * a1.toNatClampNeg + 2) b1.toNatClampNeg else g (100 + 3 * a1.toNatClampNeg + 1) b1.toNatClampNeg))]) (kx_cv (As := [.int a1, .int b1, .int (b2 (decide (c1 = (1 : Int32))))]) (rest := []) hF hG hw hS hl.1 kC_0 rfl (c_X2_hand l hfl D cy base ad n nc g a1 b1 (decide (c1 = (1 : Int32))) (by first | assumption | omega | exact mR_9 (by assumption) _ _ | simp [sU, hfr, hh]) (by first | assumption | omega | exact mR_9 (by assumption) _ _ | simp [sU, hfr, hh])) gL_does_X2_hand rfl rfl rfl hd_X2_hand ⟨Nat.le_of_ble_eq_true rfl, Nat.le_of_ble_eq_true rfl⟩ rfl rfl (Nat.le_of_ble_eq_true rfl) dL_does_274 ⟨Nat.le_of_ble_eq_true rfl, Nat.le_of_ble_eq_true rfl⟩) hS rfl (fun E9 ce9 q9 H1 locs1 hX9 hw1 hS1 hc9 hv9 hcl9 => ?_) (fun ok_274 H locs hw hS => ?_)
    · rcases hX9 with ⟨rfl, hk⟩ | ⟨rfl, hk⟩ | ⟨rfl, hk⟩
      · refine kx_cat0 hown hG hT ⟨by decide, by decide⟩ (by decide) mIO (hts (.classLink RL 78 "java/lang/IndexOutOfBoundsException") (by decide +kernel)) hc9 hv9 hcl9 ?_
        refine lv_astore (lv' := [(5, .ref q9), (0, .ref (ad 0)), (1, .int (25 : Int32)), (2, .int a1), (3, .int b1), (4, .int c1)]) hx hb dL_does_315 hl (by decide) rfl (fun ls hl => ?_)
        refine lv_ldc hx hb hown k_80 dL_does_317 ?_
        have hne : ¬ (kd1 (isF n a1 && inn b1 0 (g (100 + 3 * a1.toNatClampNeg) 7 - 1))) = 0 := fun q => by rw [q] at hk; revert hk; decide +kernel
        exact kx_retI hQ hx hb hr hlk hw1 hS1 (Nat.le_of_ble_eq_true rfl) (Nat.le_of_ble_eq_true rfl) dL_does_319 (kd_i trivial (congrArg Prod.fst (oR_n hne)) rfl)
      · refine kx_cat1 hown hG hT ⟨by decide, by decide⟩ (by decide) mIA (hts (.classLink RL 81 "java/lang/IllegalArgumentException") (by decide +kernel)) mIO nAO (by decide) (hts (.classLink RL 78 "java/lang/IndexOutOfBoundsException") (by decide +kernel)) hc9 hv9 hcl9 ?_
        refine lv_astore (lv' := [(5, .ref q9), (0, .ref (ad 0)), (1, .int (25 : Int32)), (2, .int a1), (3, .int b1), (4, .int c1)]) hx hb dL_does_320 hl (by decide) rfl (fun ls hl => ?_)
        refine lv_ldc hx hb hown k_80 dL_does_322 ?_
        have hne : ¬ (kd1 (isF n a1 && inn b1 0 (g (100 + 3 * a1.toNatClampNeg) 7 - 1))) = 0 := fun q => by rw [q] at hk; revert hk; decide +kernel
        exact kx_retI hQ hx hb hr hlk hw1 hS1 (Nat.le_of_ble_eq_true rfl) (Nat.le_of_ble_eq_true rfl) dL_does_324 (kd_i trivial (congrArg Prod.fst (oR_n hne)) rfl)
      · refine kx_cat2 hown hG hT ⟨by decide, by decide⟩ (by decide) mIS (hts (.classLink RL 83 "java/lang/IllegalStateException") (by decide +kernel)) mIO nSO (by decide) (hts (.classLink RL 78 "java/lang/IndexOutOfBoundsException") (by decide +kernel)) mIA nSA (by decide) (hts (.classLink RL 81 "java/lang/IllegalArgumentException") (by decide +kernel)) hc9 hv9 hcl9 ?_
        refine lv_astore (lv' := [(5, .ref q9), (0, .ref (ad 0)), (1, .int (25 : Int32)), (2, .int a1), (3, .int b1), (4, .int c1)]) hx hb dL_does_325 hl (by decide) rfl (fun ls hl => ?_)
        refine lv_ldc hx hb hown k_80 dL_does_327 ?_
        have hne : ¬ (kd1 (isF n a1 && inn b1 0 (g (100 + 3 * a1.toNatClampNeg) 7 - 1))) = 0 := fun q => by rw [q] at hk; revert hk; decide +kernel
        exact kx_retI hQ hx hb hr hlk hw1 hS1 (Nat.le_of_ble_eq_true rfl) (Nat.le_of_ble_eq_true rfl) dL_does_329 (kd_i trivial (congrArg Prod.fst (oR_n hne)) rfl)
    · refine lv_goto (tgt := 314) hx hb dL_does_277 (by decide) ?_
      exact kx_retI hQ hx hb hr hlk hw hS (Nat.le_of_ble_eq_true rfl) (Nat.le_of_ble_eq_true rfl) dL_does_314 (kd_i (trivial) (congrArg Prod.fst (oR_y ok_274)) (rfl))
  refine lv_icmp_ne (tgt := 273) hx hb dL_does_266 (by decide) (fun c_266 => ?_) (fun c_266 => ?_)
  · refine lv_iconst (v := 0) hx hb dL_does_273 (by decide) ?_
    exact kx_top (v := (b2 (decide (c1 = (1 : Int32))))) (by first | (simp only [bq, decide_eq_false c_266, if_neg c_266]; done) | (simp only [bq, decide_eq_false c_266, if_neg c_266]; rfl) | (simp [bq, decide_eq_false c_266, if_neg c_266]; done)) (hj_274_0 _ _ _ hw hS hl)
  · refine lv_iconst (v := 1) hx hb dL_does_269 (by decide) ?_
    refine lv_goto (tgt := 274) hx hb dL_does_270 (by decide) ?_
    exact kx_top (v := (b2 (decide (c1 = (1 : Int32))))) (by first | (simp only [bq, decide_eq_true c_266, if_pos c_266]; done) | (simp only [bq, decide_eq_true c_266, if_pos c_266]; rfl) | (simp [bq, decide_eq_true c_266, if_pos c_266]; done)) (hj_274_0 _ _ _ hw hS hl)
set_option maxHeartbeats 4000000 in
set_option maxRecDepth 100000 in
theorem c_L_does_26 (l : Launch) (hfl : l.stackTraces = false) (D : va_G) (cy : Nat → ClassId) (base : Nat → Prop) (ad : Nat → Nat) (n nc : Nat) (g : sg) (a1 : Int32) (b1 : Int32) (c1 : Int32) (hcr : ∀ j, j < 20 → g 7 j = if j < nc then 1 else 0) : kM l yL_does wsL_does (kR 9 2 12) D cy base ad n nc g [.ref (ad 0), .int (26 : Int32), .int a1, .int b1, .int c1] (kD True (some (.int ((dF_26 n nc g a1 b1).1))) ad n nc g) kNo 2 12 := by
  refine kx_methH (cc := cL_does) (maxL := 6) (ret := (some .int)) (hh := [(0, 314, 315, 78), (0, 314, 320, 81), (0, 314, 325, 83)]) (by decide) rfl (Nat.le_of_ble_eq_true rfl) ?_
  intro p e s m args below meth c ls hx hb hr hml hown hts hlk hT hG hl Q H locs hQ hw hS
  have hl : lv_has ls 6 [(0, .ref (ad 0)), (1, .int (26 : Int32)), (2, .int a1), (3, .int b1), (4, .int c1)] := hl
  have hown : s.vm.findClass RL = some m.cls := hown
  have hF : CallFix p m c cL_does 6 s args wsL_does RL := ⟨hx, hb, hml, hown, hts⟩
  have hn30 : n ≤ 30 := hw.2.2.1
  have hc20 : nc ≤ 20 := hw.2.2.2
  have k_80 := hts (.constant RL 80 (-2100000000)) (by decide +kernel)
  refine lv_iload_n hx hb dL_does_0 rfl (lv_at hl 1 rfl) ?_
  refine lv_bipush (v := 10) hx hb dL_does_1 (by decide) ?_
  refine lv_icmp_ge (tgt := 18) hx hb dL_does_3 (by decide) (fun _ => ?_) (fun c => absurd (by decide +kernel) c)
  refine lv_iload_n hx hb dL_does_18 rfl (lv_at hl 1 rfl) ?_
  refine lv_bipush (v := 10) hx hb dL_does_19 (by decide) ?_
  refine lv_icmp_ne (tgt := 33) hx hb dL_does_21 (by decide) (fun _ => ?_) (fun c => absurd c (by decide +kernel))
  refine lv_iload_n hx hb dL_does_33 rfl (lv_at hl 1 rfl) ?_
  refine lv_bipush (v := 11) hx hb dL_does_34 (by decide) ?_
  refine lv_icmp_ne (tgt := 48) hx hb dL_does_36 (by decide) (fun _ => ?_) (fun c => absurd c (by decide +kernel))
  refine lv_iload_n hx hb dL_does_48 rfl (lv_at hl 1 rfl) ?_
  refine lv_bipush (v := 12) hx hb dL_does_49 (by decide) ?_
  refine lv_icmp_ne (tgt := 62) hx hb dL_does_51 (by decide) (fun _ => ?_) (fun c => absurd c (by decide +kernel))
  refine lv_iload_n hx hb dL_does_62 rfl (lv_at hl 1 rfl) ?_
  refine lv_bipush (v := 13) hx hb dL_does_63 (by decide) ?_
  refine lv_icmp_ne (tgt := 77) hx hb dL_does_65 (by decide) (fun _ => ?_) (fun c => absurd c (by decide +kernel))
  refine lv_iload_n hx hb dL_does_77 rfl (lv_at hl 1 rfl) ?_
  refine lv_bipush (v := 14) hx hb dL_does_78 (by decide) ?_
  refine lv_icmp_ne (tgt := 92) hx hb dL_does_80 (by decide) (fun _ => ?_) (fun c => absurd c (by decide +kernel))
  refine lv_iload_n hx hb dL_does_92 rfl (lv_at hl 1 rfl) ?_
  refine lv_bipush (v := 15) hx hb dL_does_93 (by decide) ?_
  refine lv_icmp_ne (tgt := 107) hx hb dL_does_95 (by decide) (fun _ => ?_) (fun c => absurd c (by decide +kernel))
  refine lv_iload_n hx hb dL_does_107 rfl (lv_at hl 1 rfl) ?_
  refine lv_bipush (v := 16) hx hb dL_does_108 (by decide) ?_
  refine lv_icmp_ne (tgt := 121) hx hb dL_does_110 (by decide) (fun _ => ?_) (fun c => absurd c (by decide +kernel))
  refine lv_iload_n hx hb dL_does_121 rfl (lv_at hl 1 rfl) ?_
  refine lv_bipush (v := 17) hx hb dL_does_122 (by decide) ?_
  refine lv_icmp_ne (tgt := 136) hx hb dL_does_124 (by decide) (fun _ => ?_) (fun c => absurd c (by decide +kernel))
  refine lv_iload_n hx hb dL_does_136 rfl (lv_at hl 1 rfl) ?_
  refine lv_bipush (v := 18) hx hb dL_does_137 (by decide) ?_
  refine lv_icmp_ne (tgt := 150) hx hb dL_does_139 (by decide) (fun _ => ?_) (fun c => absurd c (by decide +kernel))
  refine lv_iload_n hx hb dL_does_150 rfl (lv_at hl 1 rfl) ?_
  refine lv_bipush (v := 19) hx hb dL_does_151 (by decide) ?_
  refine lv_icmp_ne (tgt := 165) hx hb dL_does_153 (by decide) (fun _ => ?_) (fun c => absurd c (by decide +kernel))
  refine lv_iload_n hx hb dL_does_165 rfl (lv_at hl 1 rfl) ?_
  refine lv_bipush (v := 20) hx hb dL_does_166 (by decide) ?_
  refine lv_icmp_ne (tgt := 180) hx hb dL_does_168 (by decide) (fun _ => ?_) (fun c => absurd c (by decide +kernel))
  refine lv_iload_n hx hb dL_does_180 rfl (lv_at hl 1 rfl) ?_
  refine lv_bipush (v := 21) hx hb dL_does_181 (by decide) ?_
  refine lv_icmp_ne (tgt := 194) hx hb dL_does_183 (by decide) (fun _ => ?_) (fun c => absurd c (by decide +kernel))
  refine lv_iload_n hx hb dL_does_194 rfl (lv_at hl 1 rfl) ?_
  refine lv_bipush (v := 22) hx hb dL_does_195 (by decide) ?_
  refine lv_icmp_ne (tgt := 217) hx hb dL_does_197 (by decide) (fun _ => ?_) (fun c => absurd c (by decide +kernel))
  refine lv_iload_n hx hb dL_does_217 rfl (lv_at hl 1 rfl) ?_
  refine lv_bipush (v := 23) hx hb dL_does_218 (by decide) ?_
  refine lv_icmp_ne (tgt := 239) hx hb dL_does_220 (by decide) (fun _ => ?_) (fun c => absurd c (by decide +kernel))
  refine lv_iload_n hx hb dL_does_239 rfl (lv_at hl 1 rfl) ?_
  refine lv_bipush (v := 24) hx hb dL_does_240 (by decide) ?_
  refine lv_icmp_ne (tgt := 254) hx hb dL_does_242 (by decide) (fun _ => ?_) (fun c => absurd c (by decide +kernel))
  refine lv_iload_n hx hb dL_does_254 rfl (lv_at hl 1 rfl) ?_
  refine lv_bipush (v := 25) hx hb dL_does_255 (by decide) ?_
  refine lv_icmp_ne (tgt := 280) hx hb dL_does_257 (by decide) (fun _ => ?_) (fun c => absurd c (by decide +kernel))
  refine lv_iload_n hx hb dL_does_280 rfl (lv_at hl 1 rfl) ?_
  refine lv_bipush (v := 26) hx hb dL_does_281 (by decide) ?_
  refine lv_icmp_ne (tgt := 295) hx hb dL_does_283 (by decide) (fun c => absurd (by decide +kernel) c) (fun _ => ?_)
  refine lv_aload_n hx hb dL_does_286 rfl (lv_at hl 0 rfl) ?_
  refine lv_iload_n hx hb dL_does_287 rfl (lv_at hl 2 rfl) ?_
  refine lv_iload_n hx hb dL_does_288 rfl (lv_at hl 3 rfl) ?_
  refine kx_do (st1 := [.int ((if b1 = nI 0 then g (200 + a1.toNatClampNeg) 7 else if b1 = nI 1 then g (200 + a1.toNatClampNeg) 5 else if b1 = nI 2 then g (200 + a1.toNatClampNeg) 6 else g (200 + a1.toNatClampNeg) 8))]) (kx_cv (As := [.int a1, .int b1]) (rest := []) hF hG hw hS hl.1 kC_0 rfl (c_X2_ofClaim l hfl D cy base ad n nc g a1 b1 (by first | assumption | omega | exact mR_9 (by assumption) _ _ | simp [sU, hcr])) gL_does_X2_ofClaim rfl rfl rfl hd_X2_ofClaim ⟨Nat.le_of_ble_eq_true rfl, Nat.le_of_ble_eq_true rfl⟩ rfl rfl (Nat.le_of_ble_eq_true rfl) dL_does_289 ⟨Nat.le_of_ble_eq_true rfl, Nat.le_of_ble_eq_true rfl⟩) hS rfl (fun E9 ce9 q9 H1 locs1 hX9 hw1 hS1 hc9 hv9 hcl9 => ?_) (fun ok_289 H locs hw hS => ?_)
  · rcases hX9 with ⟨rfl, hk⟩ | ⟨rfl, hk⟩ | ⟨rfl, hk⟩
    · refine kx_cat0 hown hG hT ⟨by decide, by decide⟩ (by decide) mIO (hts (.classLink RL 78 "java/lang/IndexOutOfBoundsException") (by decide +kernel)) hc9 hv9 hcl9 ?_
      refine lv_astore (lv' := [(5, .ref q9), (0, .ref (ad 0)), (1, .int (26 : Int32)), (2, .int a1), (3, .int b1), (4, .int c1)]) hx hb dL_does_315 hl (by decide) rfl (fun ls hl => ?_)
      refine lv_ldc hx hb hown k_80 dL_does_317 ?_
      have hne : ¬ (kd2 (isF nc a1) (inn b1 0 3)) = 0 := fun q => by rw [q] at hk; revert hk; decide +kernel
      exact kx_retI hQ hx hb hr hlk hw1 hS1 (Nat.le_of_ble_eq_true rfl) (Nat.le_of_ble_eq_true rfl) dL_does_319 (kd_i trivial (congrArg Prod.fst (oR_n hne)) rfl)
    · refine kx_cat1 hown hG hT ⟨by decide, by decide⟩ (by decide) mIA (hts (.classLink RL 81 "java/lang/IllegalArgumentException") (by decide +kernel)) mIO nAO (by decide) (hts (.classLink RL 78 "java/lang/IndexOutOfBoundsException") (by decide +kernel)) hc9 hv9 hcl9 ?_
      refine lv_astore (lv' := [(5, .ref q9), (0, .ref (ad 0)), (1, .int (26 : Int32)), (2, .int a1), (3, .int b1), (4, .int c1)]) hx hb dL_does_320 hl (by decide) rfl (fun ls hl => ?_)
      refine lv_ldc hx hb hown k_80 dL_does_322 ?_
      have hne : ¬ (kd2 (isF nc a1) (inn b1 0 3)) = 0 := fun q => by rw [q] at hk; revert hk; decide +kernel
      exact kx_retI hQ hx hb hr hlk hw1 hS1 (Nat.le_of_ble_eq_true rfl) (Nat.le_of_ble_eq_true rfl) dL_does_324 (kd_i trivial (congrArg Prod.fst (oR_n hne)) rfl)
    · refine kx_cat2 hown hG hT ⟨by decide, by decide⟩ (by decide) mIS (hts (.classLink RL 83 "java/lang/IllegalStateException") (by decide +kernel)) mIO nSO (by decide) (hts (.classLink RL 78 "java/lang/IndexOutOfBoundsException") (by decide +kernel)) mIA nSA (by decide) (hts (.classLink RL 81 "java/lang/IllegalArgumentException") (by decide +kernel)) hc9 hv9 hcl9 ?_
      refine lv_astore (lv' := [(5, .ref q9), (0, .ref (ad 0)), (1, .int (26 : Int32)), (2, .int a1), (3, .int b1), (4, .int c1)]) hx hb dL_does_325 hl (by decide) rfl (fun ls hl => ?_)
      refine lv_ldc hx hb hown k_80 dL_does_327 ?_
      have hne : ¬ (kd2 (isF nc a1) (inn b1 0 3)) = 0 := fun q => by rw [q] at hk; revert hk; decide +kernel
      exact kx_retI hQ hx hb hr hlk hw1 hS1 (Nat.le_of_ble_eq_true rfl) (Nat.le_of_ble_eq_true rfl) dL_does_329 (kd_i trivial (congrArg Prod.fst (oR_n hne)) rfl)
  · refine lv_goto (tgt := 314) hx hb dL_does_292 (by decide) ?_
    exact kx_retI hQ hx hb hr hlk hw hS (Nat.le_of_ble_eq_true rfl) (Nat.le_of_ble_eq_true rfl) dL_does_314 (kd_i (trivial) (congrArg Prod.fst (oR_y ok_289)) (rfl))
set_option maxHeartbeats 4000000 in
set_option maxRecDepth 100000 in
theorem c_L_does_27 (l : Launch) (hfl : l.stackTraces = false) (D : va_G) (cy : Nat → ClassId) (base : Nat → Prop) (ad : Nat → Nat) (n nc : Nat) (g : sg) (a1 : Int32) (b1 : Int32) (c1 : Int32) : kM l yL_does wsL_does (kR 9 1 6) D cy base ad n nc g [.ref (ad 0), .int (27 : Int32), .int a1, .int b1, .int c1] (kD True (some (.int ((dF_27 n nc g a1).1))) ad n nc g) kNo 1 6 := by
  refine kx_methH (cc := cL_does) (maxL := 6) (ret := (some .int)) (hh := [(0, 314, 315, 78), (0, 314, 320, 81), (0, 314, 325, 83)]) (by decide) rfl (Nat.le_of_ble_eq_true rfl) ?_
  intro p e s m args below meth c ls hx hb hr hml hown hts hlk hT hG hl Q H locs hQ hw hS
  have hl : lv_has ls 6 [(0, .ref (ad 0)), (1, .int (27 : Int32)), (2, .int a1), (3, .int b1), (4, .int c1)] := hl
  have hown : s.vm.findClass RL = some m.cls := hown
  have hF : CallFix p m c cL_does 6 s args wsL_does RL := ⟨hx, hb, hml, hown, hts⟩
  have hn30 : n ≤ 30 := hw.2.2.1
  have hc20 : nc ≤ 20 := hw.2.2.2
  have k_80 := hts (.constant RL 80 (-2100000000)) (by decide +kernel)
  refine lv_iload_n hx hb dL_does_0 rfl (lv_at hl 1 rfl) ?_
  refine lv_bipush (v := 10) hx hb dL_does_1 (by decide) ?_
  refine lv_icmp_ge (tgt := 18) hx hb dL_does_3 (by decide) (fun _ => ?_) (fun c => absurd (by decide +kernel) c)
  refine lv_iload_n hx hb dL_does_18 rfl (lv_at hl 1 rfl) ?_
  refine lv_bipush (v := 10) hx hb dL_does_19 (by decide) ?_
  refine lv_icmp_ne (tgt := 33) hx hb dL_does_21 (by decide) (fun _ => ?_) (fun c => absurd c (by decide +kernel))
  refine lv_iload_n hx hb dL_does_33 rfl (lv_at hl 1 rfl) ?_
  refine lv_bipush (v := 11) hx hb dL_does_34 (by decide) ?_
  refine lv_icmp_ne (tgt := 48) hx hb dL_does_36 (by decide) (fun _ => ?_) (fun c => absurd c (by decide +kernel))
  refine lv_iload_n hx hb dL_does_48 rfl (lv_at hl 1 rfl) ?_
  refine lv_bipush (v := 12) hx hb dL_does_49 (by decide) ?_
  refine lv_icmp_ne (tgt := 62) hx hb dL_does_51 (by decide) (fun _ => ?_) (fun c => absurd c (by decide +kernel))
  refine lv_iload_n hx hb dL_does_62 rfl (lv_at hl 1 rfl) ?_
  refine lv_bipush (v := 13) hx hb dL_does_63 (by decide) ?_
  refine lv_icmp_ne (tgt := 77) hx hb dL_does_65 (by decide) (fun _ => ?_) (fun c => absurd c (by decide +kernel))
  refine lv_iload_n hx hb dL_does_77 rfl (lv_at hl 1 rfl) ?_
  refine lv_bipush (v := 14) hx hb dL_does_78 (by decide) ?_
  refine lv_icmp_ne (tgt := 92) hx hb dL_does_80 (by decide) (fun _ => ?_) (fun c => absurd c (by decide +kernel))
  refine lv_iload_n hx hb dL_does_92 rfl (lv_at hl 1 rfl) ?_
  refine lv_bipush (v := 15) hx hb dL_does_93 (by decide) ?_
  refine lv_icmp_ne (tgt := 107) hx hb dL_does_95 (by decide) (fun _ => ?_) (fun c => absurd c (by decide +kernel))
  refine lv_iload_n hx hb dL_does_107 rfl (lv_at hl 1 rfl) ?_
  refine lv_bipush (v := 16) hx hb dL_does_108 (by decide) ?_
  refine lv_icmp_ne (tgt := 121) hx hb dL_does_110 (by decide) (fun _ => ?_) (fun c => absurd c (by decide +kernel))
  refine lv_iload_n hx hb dL_does_121 rfl (lv_at hl 1 rfl) ?_
  refine lv_bipush (v := 17) hx hb dL_does_122 (by decide) ?_
  refine lv_icmp_ne (tgt := 136) hx hb dL_does_124 (by decide) (fun _ => ?_) (fun c => absurd c (by decide +kernel))
  refine lv_iload_n hx hb dL_does_136 rfl (lv_at hl 1 rfl) ?_
  refine lv_bipush (v := 18) hx hb dL_does_137 (by decide) ?_
  refine lv_icmp_ne (tgt := 150) hx hb dL_does_139 (by decide) (fun _ => ?_) (fun c => absurd c (by decide +kernel))
  refine lv_iload_n hx hb dL_does_150 rfl (lv_at hl 1 rfl) ?_
  refine lv_bipush (v := 19) hx hb dL_does_151 (by decide) ?_
  refine lv_icmp_ne (tgt := 165) hx hb dL_does_153 (by decide) (fun _ => ?_) (fun c => absurd c (by decide +kernel))
  refine lv_iload_n hx hb dL_does_165 rfl (lv_at hl 1 rfl) ?_
  refine lv_bipush (v := 20) hx hb dL_does_166 (by decide) ?_
  refine lv_icmp_ne (tgt := 180) hx hb dL_does_168 (by decide) (fun _ => ?_) (fun c => absurd c (by decide +kernel))
  refine lv_iload_n hx hb dL_does_180 rfl (lv_at hl 1 rfl) ?_
  refine lv_bipush (v := 21) hx hb dL_does_181 (by decide) ?_
  refine lv_icmp_ne (tgt := 194) hx hb dL_does_183 (by decide) (fun _ => ?_) (fun c => absurd c (by decide +kernel))
  refine lv_iload_n hx hb dL_does_194 rfl (lv_at hl 1 rfl) ?_
  refine lv_bipush (v := 22) hx hb dL_does_195 (by decide) ?_
  refine lv_icmp_ne (tgt := 217) hx hb dL_does_197 (by decide) (fun _ => ?_) (fun c => absurd c (by decide +kernel))
  refine lv_iload_n hx hb dL_does_217 rfl (lv_at hl 1 rfl) ?_
  refine lv_bipush (v := 23) hx hb dL_does_218 (by decide) ?_
  refine lv_icmp_ne (tgt := 239) hx hb dL_does_220 (by decide) (fun _ => ?_) (fun c => absurd c (by decide +kernel))
  refine lv_iload_n hx hb dL_does_239 rfl (lv_at hl 1 rfl) ?_
  refine lv_bipush (v := 24) hx hb dL_does_240 (by decide) ?_
  refine lv_icmp_ne (tgt := 254) hx hb dL_does_242 (by decide) (fun _ => ?_) (fun c => absurd c (by decide +kernel))
  refine lv_iload_n hx hb dL_does_254 rfl (lv_at hl 1 rfl) ?_
  refine lv_bipush (v := 25) hx hb dL_does_255 (by decide) ?_
  refine lv_icmp_ne (tgt := 280) hx hb dL_does_257 (by decide) (fun _ => ?_) (fun c => absurd c (by decide +kernel))
  refine lv_iload_n hx hb dL_does_280 rfl (lv_at hl 1 rfl) ?_
  refine lv_bipush (v := 26) hx hb dL_does_281 (by decide) ?_
  refine lv_icmp_ne (tgt := 295) hx hb dL_does_283 (by decide) (fun _ => ?_) (fun c => absurd c (by decide +kernel))
  refine lv_iload_n hx hb dL_does_295 rfl (lv_at hl 1 rfl) ?_
  refine lv_bipush (v := 27) hx hb dL_does_296 (by decide) ?_
  refine lv_icmp_ne (tgt := 309) hx hb dL_does_298 (by decide) (fun c => absurd (by decide +kernel) c) (fun _ => ?_)
  refine lv_aload_n hx hb dL_does_301 rfl (lv_at hl 0 rfl) ?_
  refine lv_iload_n hx hb dL_does_302 rfl (lv_at hl 2 rfl) ?_
  refine kx_do (st1 := [.int ((if a1 = nI 0 then g 0 12 else if a1 = nI 1 then g 0 13 else g 0 14))]) (kx_cv (As := [.int a1]) (rest := []) hF hG hw hS hl.1 kC_0 rfl (c_X2_money l hfl D cy base ad n nc g a1 ) gL_does_X2_money rfl rfl rfl hd_X2_money ⟨Nat.le_of_ble_eq_true rfl, Nat.le_of_ble_eq_true rfl⟩ rfl rfl (Nat.le_of_ble_eq_true rfl) dL_does_303 ⟨Nat.le_of_ble_eq_true rfl, Nat.le_of_ble_eq_true rfl⟩) hS rfl (fun E9 ce9 q9 H1 locs1 hX9 hw1 hS1 hc9 hv9 hcl9 => ?_) (fun ok_303 H locs hw hS => ?_)
  · rcases hX9 with ⟨rfl, hk⟩ | ⟨rfl, hk⟩ | ⟨rfl, hk⟩
    · refine kx_cat0 hown hG hT ⟨by decide, by decide⟩ (by decide) mIO (hts (.classLink RL 78 "java/lang/IndexOutOfBoundsException") (by decide +kernel)) hc9 hv9 hcl9 ?_
      refine lv_astore (lv' := [(5, .ref q9), (0, .ref (ad 0)), (1, .int (27 : Int32)), (2, .int a1), (3, .int b1), (4, .int c1)]) hx hb dL_does_315 hl (by decide) rfl (fun ls hl => ?_)
      refine lv_ldc hx hb hown k_80 dL_does_317 ?_
      have hne : ¬ (kd1 (inn a1 0 2)) = 0 := fun q => by rw [q] at hk; revert hk; decide +kernel
      exact kx_retI hQ hx hb hr hlk hw1 hS1 (Nat.le_of_ble_eq_true rfl) (Nat.le_of_ble_eq_true rfl) dL_does_319 (kd_i trivial (congrArg Prod.fst (oR_n hne)) rfl)
    · refine kx_cat1 hown hG hT ⟨by decide, by decide⟩ (by decide) mIA (hts (.classLink RL 81 "java/lang/IllegalArgumentException") (by decide +kernel)) mIO nAO (by decide) (hts (.classLink RL 78 "java/lang/IndexOutOfBoundsException") (by decide +kernel)) hc9 hv9 hcl9 ?_
      refine lv_astore (lv' := [(5, .ref q9), (0, .ref (ad 0)), (1, .int (27 : Int32)), (2, .int a1), (3, .int b1), (4, .int c1)]) hx hb dL_does_320 hl (by decide) rfl (fun ls hl => ?_)
      refine lv_ldc hx hb hown k_80 dL_does_322 ?_
      have hne : ¬ (kd1 (inn a1 0 2)) = 0 := fun q => by rw [q] at hk; revert hk; decide +kernel
      exact kx_retI hQ hx hb hr hlk hw1 hS1 (Nat.le_of_ble_eq_true rfl) (Nat.le_of_ble_eq_true rfl) dL_does_324 (kd_i trivial (congrArg Prod.fst (oR_n hne)) rfl)
    · refine kx_cat2 hown hG hT ⟨by decide, by decide⟩ (by decide) mIS (hts (.classLink RL 83 "java/lang/IllegalStateException") (by decide +kernel)) mIO nSO (by decide) (hts (.classLink RL 78 "java/lang/IndexOutOfBoundsException") (by decide +kernel)) mIA nSA (by decide) (hts (.classLink RL 81 "java/lang/IllegalArgumentException") (by decide +kernel)) hc9 hv9 hcl9 ?_
      refine lv_astore (lv' := [(5, .ref q9), (0, .ref (ad 0)), (1, .int (27 : Int32)), (2, .int a1), (3, .int b1), (4, .int c1)]) hx hb dL_does_325 hl (by decide) rfl (fun ls hl => ?_)
      refine lv_ldc hx hb hown k_80 dL_does_327 ?_
      have hne : ¬ (kd1 (inn a1 0 2)) = 0 := fun q => by rw [q] at hk; revert hk; decide +kernel
      exact kx_retI hQ hx hb hr hlk hw1 hS1 (Nat.le_of_ble_eq_true rfl) (Nat.le_of_ble_eq_true rfl) dL_does_329 (kd_i trivial (congrArg Prod.fst (oR_n hne)) rfl)
  · refine lv_goto (tgt := 314) hx hb dL_does_306 (by decide) ?_
    exact kx_retI hQ hx hb hr hlk hw hS (Nat.le_of_ble_eq_true rfl) (Nat.le_of_ble_eq_true rfl) dL_does_314 (kd_i (trivial) (congrArg Prod.fst (oR_y ok_303)) (rfl))
set_option maxHeartbeats 4000000 in
set_option maxRecDepth 100000 in
theorem c_L_does_28 (l : Launch) (hfl : l.stackTraces = false) (D : va_G) (cy : Nat → ClassId) (base : Nat → Prop) (ad : Nat → Nat) (n nc : Nat) (g : sg) (a1 : Int32) (b1 : Int32) (c1 : Int32) (hfr : ∀ j, j < 30 → g 6 j = if j < n then 1 else 0) : kM l yL_does wsL_does (kR 9 1 6) D cy base ad n nc g [.ref (ad 0), .int (28 : Int32), .int a1, .int b1, .int c1] (kD True (some (.int ((dF_28 n nc g a1).1))) ad n nc g) kNo 1 6 := by
  refine kx_methH (cc := cL_does) (maxL := 6) (ret := (some .int)) (hh := [(0, 314, 315, 78), (0, 314, 320, 81), (0, 314, 325, 83)]) (by decide) rfl (Nat.le_of_ble_eq_true rfl) ?_
  intro p e s m args below meth c ls hx hb hr hml hown hts hlk hT hG hl Q H locs hQ hw hS
  have hl : lv_has ls 6 [(0, .ref (ad 0)), (1, .int (28 : Int32)), (2, .int a1), (3, .int b1), (4, .int c1)] := hl
  have hown : s.vm.findClass RL = some m.cls := hown
  have hF : CallFix p m c cL_does 6 s args wsL_does RL := ⟨hx, hb, hml, hown, hts⟩
  have hn30 : n ≤ 30 := hw.2.2.1
  have hc20 : nc ≤ 20 := hw.2.2.2
  have k_80 := hts (.constant RL 80 (-2100000000)) (by decide +kernel)
  refine lv_iload_n hx hb dL_does_0 rfl (lv_at hl 1 rfl) ?_
  refine lv_bipush (v := 10) hx hb dL_does_1 (by decide) ?_
  refine lv_icmp_ge (tgt := 18) hx hb dL_does_3 (by decide) (fun _ => ?_) (fun c => absurd (by decide +kernel) c)
  refine lv_iload_n hx hb dL_does_18 rfl (lv_at hl 1 rfl) ?_
  refine lv_bipush (v := 10) hx hb dL_does_19 (by decide) ?_
  refine lv_icmp_ne (tgt := 33) hx hb dL_does_21 (by decide) (fun _ => ?_) (fun c => absurd c (by decide +kernel))
  refine lv_iload_n hx hb dL_does_33 rfl (lv_at hl 1 rfl) ?_
  refine lv_bipush (v := 11) hx hb dL_does_34 (by decide) ?_
  refine lv_icmp_ne (tgt := 48) hx hb dL_does_36 (by decide) (fun _ => ?_) (fun c => absurd c (by decide +kernel))
  refine lv_iload_n hx hb dL_does_48 rfl (lv_at hl 1 rfl) ?_
  refine lv_bipush (v := 12) hx hb dL_does_49 (by decide) ?_
  refine lv_icmp_ne (tgt := 62) hx hb dL_does_51 (by decide) (fun _ => ?_) (fun c => absurd c (by decide +kernel))
  refine lv_iload_n hx hb dL_does_62 rfl (lv_at hl 1 rfl) ?_
  refine lv_bipush (v := 13) hx hb dL_does_63 (by decide) ?_
  refine lv_icmp_ne (tgt := 77) hx hb dL_does_65 (by decide) (fun _ => ?_) (fun c => absurd c (by decide +kernel))
  refine lv_iload_n hx hb dL_does_77 rfl (lv_at hl 1 rfl) ?_
  refine lv_bipush (v := 14) hx hb dL_does_78 (by decide) ?_
  refine lv_icmp_ne (tgt := 92) hx hb dL_does_80 (by decide) (fun _ => ?_) (fun c => absurd c (by decide +kernel))
  refine lv_iload_n hx hb dL_does_92 rfl (lv_at hl 1 rfl) ?_
  refine lv_bipush (v := 15) hx hb dL_does_93 (by decide) ?_
  refine lv_icmp_ne (tgt := 107) hx hb dL_does_95 (by decide) (fun _ => ?_) (fun c => absurd c (by decide +kernel))
  refine lv_iload_n hx hb dL_does_107 rfl (lv_at hl 1 rfl) ?_
  refine lv_bipush (v := 16) hx hb dL_does_108 (by decide) ?_
  refine lv_icmp_ne (tgt := 121) hx hb dL_does_110 (by decide) (fun _ => ?_) (fun c => absurd c (by decide +kernel))
  refine lv_iload_n hx hb dL_does_121 rfl (lv_at hl 1 rfl) ?_
  refine lv_bipush (v := 17) hx hb dL_does_122 (by decide) ?_
  refine lv_icmp_ne (tgt := 136) hx hb dL_does_124 (by decide) (fun _ => ?_) (fun c => absurd c (by decide +kernel))
  refine lv_iload_n hx hb dL_does_136 rfl (lv_at hl 1 rfl) ?_
  refine lv_bipush (v := 18) hx hb dL_does_137 (by decide) ?_
  refine lv_icmp_ne (tgt := 150) hx hb dL_does_139 (by decide) (fun _ => ?_) (fun c => absurd c (by decide +kernel))
  refine lv_iload_n hx hb dL_does_150 rfl (lv_at hl 1 rfl) ?_
  refine lv_bipush (v := 19) hx hb dL_does_151 (by decide) ?_
  refine lv_icmp_ne (tgt := 165) hx hb dL_does_153 (by decide) (fun _ => ?_) (fun c => absurd c (by decide +kernel))
  refine lv_iload_n hx hb dL_does_165 rfl (lv_at hl 1 rfl) ?_
  refine lv_bipush (v := 20) hx hb dL_does_166 (by decide) ?_
  refine lv_icmp_ne (tgt := 180) hx hb dL_does_168 (by decide) (fun _ => ?_) (fun c => absurd c (by decide +kernel))
  refine lv_iload_n hx hb dL_does_180 rfl (lv_at hl 1 rfl) ?_
  refine lv_bipush (v := 21) hx hb dL_does_181 (by decide) ?_
  refine lv_icmp_ne (tgt := 194) hx hb dL_does_183 (by decide) (fun _ => ?_) (fun c => absurd c (by decide +kernel))
  refine lv_iload_n hx hb dL_does_194 rfl (lv_at hl 1 rfl) ?_
  refine lv_bipush (v := 22) hx hb dL_does_195 (by decide) ?_
  refine lv_icmp_ne (tgt := 217) hx hb dL_does_197 (by decide) (fun _ => ?_) (fun c => absurd c (by decide +kernel))
  refine lv_iload_n hx hb dL_does_217 rfl (lv_at hl 1 rfl) ?_
  refine lv_bipush (v := 23) hx hb dL_does_218 (by decide) ?_
  refine lv_icmp_ne (tgt := 239) hx hb dL_does_220 (by decide) (fun _ => ?_) (fun c => absurd c (by decide +kernel))
  refine lv_iload_n hx hb dL_does_239 rfl (lv_at hl 1 rfl) ?_
  refine lv_bipush (v := 24) hx hb dL_does_240 (by decide) ?_
  refine lv_icmp_ne (tgt := 254) hx hb dL_does_242 (by decide) (fun _ => ?_) (fun c => absurd c (by decide +kernel))
  refine lv_iload_n hx hb dL_does_254 rfl (lv_at hl 1 rfl) ?_
  refine lv_bipush (v := 25) hx hb dL_does_255 (by decide) ?_
  refine lv_icmp_ne (tgt := 280) hx hb dL_does_257 (by decide) (fun _ => ?_) (fun c => absurd c (by decide +kernel))
  refine lv_iload_n hx hb dL_does_280 rfl (lv_at hl 1 rfl) ?_
  refine lv_bipush (v := 26) hx hb dL_does_281 (by decide) ?_
  refine lv_icmp_ne (tgt := 295) hx hb dL_does_283 (by decide) (fun _ => ?_) (fun c => absurd c (by decide +kernel))
  refine lv_iload_n hx hb dL_does_295 rfl (lv_at hl 1 rfl) ?_
  refine lv_bipush (v := 27) hx hb dL_does_296 (by decide) ?_
  refine lv_icmp_ne (tgt := 309) hx hb dL_does_298 (by decide) (fun _ => ?_) (fun c => absurd c (by decide +kernel))
  refine lv_aload_n hx hb dL_does_309 rfl (lv_at hl 0 rfl) ?_
  refine lv_iload_n hx hb dL_does_310 rfl (lv_at hl 2 rfl) ?_
  refine kx_do (st1 := [.int (auC g a1 n 30)]) (kx_cv (As := [.int a1]) (rest := []) hF hG hw hS hl.1 kC_0 rfl (c_X2_audit l hfl D cy base ad n nc g a1 (by first | assumption | omega | exact mR_9 (by assumption) _ _ | simp [sU, hfr])) gL_does_X2_audit rfl rfl rfl hd_X2_audit ⟨Nat.le_of_ble_eq_true rfl, Nat.le_of_ble_eq_true rfl⟩ rfl rfl (Nat.le_of_ble_eq_true rfl) dL_does_311 ⟨Nat.le_of_ble_eq_true rfl, Nat.le_of_ble_eq_true rfl⟩) hS rfl (fun E9 ce9 q9 H1 locs1 hX9 hw1 hS1 hc9 hv9 hcl9 => ?_) (fun ok_311 H locs hw hS => ?_)
  · rcases hX9 with ⟨rfl, hk⟩ | ⟨rfl, hk⟩ | ⟨rfl, hk⟩
    · refine kx_cat0 hown hG hT ⟨by decide, by decide⟩ (by decide) mIO (hts (.classLink RL 78 "java/lang/IndexOutOfBoundsException") (by decide +kernel)) hc9 hv9 hcl9 ?_
      refine lv_astore (lv' := [(5, .ref q9), (0, .ref (ad 0)), (1, .int (28 : Int32)), (2, .int a1), (3, .int b1), (4, .int c1)]) hx hb dL_does_315 hl (by decide) rfl (fun ls hl => ?_)
      refine lv_ldc hx hb hown k_80 dL_does_317 ?_
      have hne : ¬ (kd1 (inn a1 0 5)) = 0 := fun q => by rw [q] at hk; revert hk; decide +kernel
      exact kx_retI hQ hx hb hr hlk hw1 hS1 (Nat.le_of_ble_eq_true rfl) (Nat.le_of_ble_eq_true rfl) dL_does_319 (kd_i trivial (congrArg Prod.fst (oR_n hne)) rfl)
    · refine kx_cat1 hown hG hT ⟨by decide, by decide⟩ (by decide) mIA (hts (.classLink RL 81 "java/lang/IllegalArgumentException") (by decide +kernel)) mIO nAO (by decide) (hts (.classLink RL 78 "java/lang/IndexOutOfBoundsException") (by decide +kernel)) hc9 hv9 hcl9 ?_
      refine lv_astore (lv' := [(5, .ref q9), (0, .ref (ad 0)), (1, .int (28 : Int32)), (2, .int a1), (3, .int b1), (4, .int c1)]) hx hb dL_does_320 hl (by decide) rfl (fun ls hl => ?_)
      refine lv_ldc hx hb hown k_80 dL_does_322 ?_
      have hne : ¬ (kd1 (inn a1 0 5)) = 0 := fun q => by rw [q] at hk; revert hk; decide +kernel
      exact kx_retI hQ hx hb hr hlk hw1 hS1 (Nat.le_of_ble_eq_true rfl) (Nat.le_of_ble_eq_true rfl) dL_does_324 (kd_i trivial (congrArg Prod.fst (oR_n hne)) rfl)
    · refine kx_cat2 hown hG hT ⟨by decide, by decide⟩ (by decide) mIS (hts (.classLink RL 83 "java/lang/IllegalStateException") (by decide +kernel)) mIO nSO (by decide) (hts (.classLink RL 78 "java/lang/IndexOutOfBoundsException") (by decide +kernel)) mIA nSA (by decide) (hts (.classLink RL 81 "java/lang/IllegalArgumentException") (by decide +kernel)) hc9 hv9 hcl9 ?_
      refine lv_astore (lv' := [(5, .ref q9), (0, .ref (ad 0)), (1, .int (28 : Int32)), (2, .int a1), (3, .int b1), (4, .int c1)]) hx hb dL_does_325 hl (by decide) rfl (fun ls hl => ?_)
      refine lv_ldc hx hb hown k_80 dL_does_327 ?_
      have hne : ¬ (kd1 (inn a1 0 5)) = 0 := fun q => by rw [q] at hk; revert hk; decide +kernel
      exact kx_retI hQ hx hb hr hlk hw1 hS1 (Nat.le_of_ble_eq_true rfl) (Nat.le_of_ble_eq_true rfl) dL_does_329 (kd_i trivial (congrArg Prod.fst (oR_n hne)) rfl)
  · exact kx_retI hQ hx hb hr hlk hw hS (Nat.le_of_ble_eq_true rfl) (Nat.le_of_ble_eq_true rfl) dL_does_314 (kd_i (trivial) (congrArg Prod.fst (oR_y ok_311)) (rfl))
