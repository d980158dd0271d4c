/-! walks laid by wip/whole/kgen.py, kall.py -/
theorem hd_X3_release : yX3_release.cls = RX3 ∧ yX3_release.cls ≠ "java/lang/invoke/MethodHandle" ∧ yX3_release.cls ≠ "java/lang/invoke/VarHandle" ∧ (parseMethodDescriptor yX3_release.desc).map (fun d => d.parameters.length) = some 2 := by decide +kernel
set_option maxHeartbeats 4000000 in
set_option maxRecDepth 100000 in
theorem c_X3_release (l : Launch) (hfl : l.stackTraces = false) (D : va_G) (cy : Nat → ClassId) (base : Nat) (ad : Nat → Nat) (n nc : Nat) (g : sg) (x : Int32) (y : Int32) (hfn : g 9 8 = nI n) (hcn : g 9 25 = nI nc) (hR : mR n nc g) : kM l yX3_release wsX3_release (kR 4 0 0) D cy base ad n nc g [.ref (ad 9), .int x, .int y] (kD True (some (.int (rv (kd2 (isF n x && isF nc y) (decide (g 65 x.toNatClampNeg = 0) && (decide (g 69 x.toNatClampNeg = 0) && mServe g nc x.toNatClampNeg y.toNatClampNeg))) (5 + mRew g x.toNatClampNeg)))) ad n nc (mk (kd2 (isF n x && isF nc y) (decide (g 65 x.toNatClampNeg = 0) && (decide (g 69 x.toNatClampNeg = 0) && mServe g nc x.toNatClampNeg y.toNatClampNeg))) (mEnds (sU (sU (sU (sU g 9 0 0) 9 35 (g 9 35 + 5)) 9 36 (g 9 36 + mRew g x.toNatClampNeg)) 65 x.toNatClampNeg 3) y.toNatClampNeg 1 x) g)) kNo 0 0 := by
  refine kx_meth (cc := cX3_release) (maxL := 5) (ret := (some .int)) (by decide) rfl (Nat.le_of_ble_eq_true rfl) ?_
  intro p e s m args below meth c ls hx hb hr hml hown hts hlk hT hG hw0 hS0 hl Q H locs hQ hw hS hH0 hlocs0
  have hl : lv_has ls 5 [(0, .ref (ad 9)), (1, .int x), (2, .int y)] := hl
  have hown : s.vm.findClass RX3 = some m.cls := hown
  have hF : CallFix p m c cX3_release 5 s args wsX3_release RX3 := ⟨hx, hb, hml, hown, hts⟩
  have hn30 : n ≤ 30 := hw.2.2.1
  have hc20 : nc ≤ 20 := hw.2.2.2
  clear hw0 hS0 hH0 hlocs0
  have i3 : ∀ w ∈ wsX30, w ∈ wsX3_release := by decide +kernel
  have f_19 := hts (.fieldLink RX3 19 "LostroomModel" "rates" "[I") (by decide +kernel)
  have f_29 := hts (.fieldLink RX3 29 "LostroomModel" "kinds" "[I") (by decide +kernel)
  have f_44 := hts (.fieldLink RX3 44 "LostroomModel" "values" "[I") (by decide +kernel)
  have f_47 := hts (.fieldLink RX3 47 "LostroomModel" "states" "[I") (by decide +kernel)
  have f_59 := hts (.fieldLink RX3 59 "LostroomModel" "areHeld" "[Z") (by decide +kernel)
  have f_185 := hts (.fieldLink RX3 185 "LostroomModel" "fees" "I") (by decide +kernel)
  have f_188 := hts (.fieldLink RX3 188 "LostroomModel" "rewards" "I") (by decide +kernel)
  refine lv_aload_n hx hb dX3_release_0 rfl (lv_at hl 0 rfl) ?_
  refine lv_iload_n hx hb dX3_release_1 rfl (lv_at hl 1 rfl) ?_
  refine kx_do0 (st1 := [.int (b2 (isF n x))]) (kx_cv (As := [.int x]) (rest := []) hF hG hw hS hl.1 kC_9 rfl (c_X3_isFind l hfl D cy base ad n nc g x (by first | assumption | omega | exact mR_9 (by assumption) _ _ | simp [sU, hfn, hcn, hR])) gX3_release_X3_isFind rfl rfl rfl hd_X3_isFind ⟨Nat.le_of_ble_eq_true rfl, Nat.le_of_ble_eq_true rfl⟩ rfl rfl (Nat.le_of_ble_eq_true rfl) dX3_release_2 ⟨Nat.le_of_ble_eq_true rfl, Nat.le_of_ble_eq_true rfl⟩) hS rfl (fun H locs hw hS => ?_)
  have hj_21_0 : ∀ (H : Heap) (locs : List Loc) (ls : Array Slot), kW D cy base ad n nc g H → va_S (kA base) s.heap H locs → lv_has ls 5 [(0, .ref (ad 9)), (1, .int x), (2, .int y)] → W p l e (kR 4 0 0) s m args below meth c H locs 0 0 Q (F0 m 21 ls [.int (b2 ((isF n x) && (isF nc y)))]) := by
    intro H locs ls hw hS hl
    refine lv_istore_n (lv' := [(3, .int (b2 ((isF n x) && (isF nc y)))), (0, .ref (ad 9)), (1, .int x), (2, .int y)]) hx hb dX3_release_21 rfl hl (by decide) rfl (fun ls hl => ?_)
    refine lv_aload_n hx hb dX3_release_22 rfl (lv_at hl 1 rfl) ?_
    refine lv_iload_n hx hb dX3_release_23 rfl (lv_at hl 0 rfl) ?_
    have hj_63_1 : ∀ (H : Heap) (locs : List Loc) (ls : Array Slot), kW D cy base ad n nc g H → va_S (kA base) s.heap H locs → lv_has ls 5 [(3, .int (b2 ((isF n x) && (isF nc y)))), (0, .ref (ad 9)), (1, .int x), (2, .int y)] → W p l e (kR 4 0 0) s m args below meth c H locs 0 0 Q (F0 m 63 ls [.int (kd2 (isF n x && isF nc y) (decide (g 65 x.toNatClampNeg = 0) && (decide (g 69 x.toNatClampNeg = 0) && mServe g nc x.toNatClampNeg y.toNatClampNeg))), .ref (ad 9)]) := by
      intro H locs ls hw hS hl
      refine kx_do0 (st1 := [.int (b2 (decide ((kd2 (isF n x && isF nc y) (decide (g 65 x.toNatClampNeg = 0) && (decide (g 69 x.toNatClampNeg = 0) && mServe g nc x.toNatClampNeg y.toNatClampNeg))) = 0)))]) (kx_cv (As := [.int (kd2 (isF n x && isF nc y) (decide (g 65 x.toNatClampNeg = 0) && (decide (g 69 x.toNatClampNeg = 0) && mServe g nc x.toNatClampNeg y.toNatClampNeg)))]) (rest := []) hF hG hw hS hl.1 kC_9 rfl (c_X3_holds l hfl D cy base ad n nc g (kd2 (isF n x && isF nc y) (decide (g 65 x.toNatClampNeg = 0) && (decide (g 69 x.toNatClampNeg = 0) && mServe g nc x.toNatClampNeg y.toNatClampNeg))) ) gX3_release_X3_holds rfl rfl rfl hd_X3_holds ⟨Nat.le_of_ble_eq_true rfl, Nat.le_of_ble_eq_true rfl⟩ rfl rfl (Nat.le_of_ble_eq_true rfl) dX3_release_63 ⟨Nat.le_of_ble_eq_true rfl, Nat.le_of_ble_eq_true rfl⟩) hS rfl (fun H locs hw hS => ?_)
      refine kb_ne (tgt := 71) hx hb dX3_release_66 (by decide) (fun c_66 => ?_) (fun c_66 => ?_)
      · have h0 : kd2 (isF n x && isF nc y) (decide (g 65 x.toNatClampNeg = 0) && (decide (g 69 x.toNatClampNeg = 0) && mServe g nc x.toNatClampNeg y.toNatClampNeg)) = 0 := of_decide_eq_true c_66
        rw [h0] at hw
        have hk := kd2_0.mp h0
        obtain ⟨i_x, hi_x, rfl⟩ := isF_ex (and_l (hk.1)) hn30
        have hcl_x : (nI i_x).toNatClampNeg = i_x := cl_nI (by omega)
        obtain ⟨i_y, hi_y, rfl⟩ := isF_ex (and_r (hk.1)) (Nat.le_trans hc20 (by decide))
        have hcl_y : (nI i_y).toNatClampNeg = i_y := cl_nI (by omega)
        have hr1 := (hR.1 i_x hi_x).1
        have hj20 : i_y < 20 := by omega
        refine lv_aload_n hx hb dX3_release_71 rfl (lv_at hl 1 rfl) ?_
        refine kx_getM (v := .ref (ad 64)) hx hb hts hown hG hw i3 14 (by decide) f_44 rfl dX3_release_72 ?_
        refine lv_iload_n hx hb dX3_release_75 rfl (lv_at hl 2 rfl) ?_
        refine kx_iald (v := (g 64 i_x)) hx hb hG hw (kC_I rfl) i_x (nI_clamp (by omega)) (vp_in_nI (by omega) (by decide)) (sU_k _ _ _ _ (by omega)) dX3_release_76 ?_
        refine lv_aload_n hx hb dX3_release_77 rfl (lv_at hl 1 rfl) ?_
        refine kx_getM (v := .ref (ad 55)) hx hb hts hown hG hw i3 5 (by decide) f_19 rfl dX3_release_78 ?_
        refine lv_aload_n hx hb dX3_release_81 rfl (lv_at hl 1 rfl) ?_
        refine kx_getM (v := .ref (ad 59)) hx hb hts hown hG hw i3 9 (by decide) f_29 rfl dX3_release_82 ?_
        refine lv_iload_n hx hb dX3_release_85 rfl (lv_at hl 2 rfl) ?_
        refine kx_iald (v := (g 59 i_x)) hx hb hG hw (kC_I rfl) i_x (nI_clamp (by omega)) (vp_in_nI (by omega) (by decide)) (sU_k _ _ _ _ (by omega)) dX3_release_86 ?_
        refine kx_iald (v := (g 55 (g 59 i_x).toNatClampNeg)) hx hb hG hw (kC_I rfl) ((g 59 i_x).toNatClampNeg) rfl (by first | assumption | exact ix_of (by assumption) (by assumption) rfl (by decide)) (sU_k _ _ _ _ (by omega)) dX3_release_87 ?_
        refine lv_imul hx hb dX3_release_88 ?_
        refine lv_bipush (v := 100) hx hb dX3_release_89 (by decide) ?_
        refine lv_idiv hx hb dX3_release_91 (by decide) ?_
        refine lv_istore (lv' := [(4, .int (((g 64 i_x) * (g 55 (g 59 i_x).toNatClampNeg)) / (100 : Int32))), (3, .int (b2 ((isF n (nI i_x)) && (isF nc (nI i_y))))), (0, .ref (ad 9)), (1, .int (nI i_x)), (2, .int (nI i_y))]) hx hb dX3_release_92 hl (by decide) rfl (fun ls hl => ?_)
        refine lv_aload_n hx hb dX3_release_94 rfl (lv_at hl 2 rfl) ?_
        refine lv_dup hx hb dX3_release_95 rfl ?_
        refine kx_getM (v := .int (g 9 35)) hx hb hts hown hG hw i3 35 (by decide) f_185 (congrArg Value.int (sU_j _ _ _ _ (by decide))) dX3_release_96 ?_
        refine lv_iconst (v := 5) hx hb dX3_release_99 (by decide) ?_
        refine lv_iadd hx hb dX3_release_100 ?_
        refine kx_putM (v := ((g 9 35) + (5 : Int32))) hx hb hts hown hG hw hS i3 35 (by decide) f_185 (by decide) rfl rfl rfl dX3_release_101 (fun H locs hw hS => ?_)
        refine lv_aload_n hx hb dX3_release_104 rfl (lv_at hl 2 rfl) ?_
        refine lv_dup hx hb dX3_release_105 rfl ?_
        refine kx_getM (v := .int (g 9 36)) hx hb hts hown hG hw i3 36 (by decide) f_188 (congrArg Value.int ((sU_j _ _ _ _ (by decide)).trans (sU_j _ _ _ _ (by decide)))) dX3_release_106 ?_
        refine lv_iload hx hb dX3_release_109 (lv_at hl 0 rfl) ?_
        refine lv_iadd hx hb dX3_release_111 ?_
        refine kx_putM (v := ((g 9 36) + (((g 64 i_x) * (g 55 (g 59 i_x).toNatClampNeg)) / (100 : Int32)))) hx hb hts hown hG hw hS i3 36 (by decide) f_188 (by decide) rfl rfl rfl dX3_release_112 (fun H locs hw hS => ?_)
        refine lv_aload_n hx hb dX3_release_115 rfl (lv_at hl 2 rfl) ?_
        refine kx_getM (v := .ref (ad 65)) hx hb hts hown hG hw i3 15 (by decide) f_47 rfl dX3_release_116 ?_
        refine lv_iload_n hx hb dX3_release_119 rfl (lv_at hl 3 rfl) ?_
        refine lv_iconst (v := 3) hx hb dX3_release_120 (by decide) ?_
        refine kx_iast hx hb hG hw hS (fun _ => (kC_I rfl)) i_x (nI_clamp (by omega)) (vp_in_nI (by omega) (by decide)) dX3_release_121 (fun H locs hw hS => ?_)
        refine lv_aload_n hx hb dX3_release_122 rfl (lv_at hl 2 rfl) ?_
        refine lv_iload_n hx hb dX3_release_123 rfl (lv_at hl 4 rfl) ?_
        refine lv_iconst (v := 1) hx hb dX3_release_124 (by decide) ?_
        refine lv_iload_n hx hb dX3_release_125 rfl (lv_at hl 3 rfl) ?_
        refine kx_do0 (st1 := []) (kx_cv (As := [.int (nI i_y), .int (1 : Int32), .int (nI i_x)]) (rest := []) hF hG hw hS hl.1 kC_9 rfl (c_X3_ends l hfl D cy base ad n nc (sU (sU (sU (sU g 9 0 (0 : Int32)) 9 35 ((g 9 35) + (5 : Int32))) 9 36 ((g 9 36) + (((g 64 i_x) * (g 55 (g 59 i_x).toNatClampNeg)) / (100 : Int32)))) 65 i_x (3 : Int32)) i_y (1 : Int32) (nI i_x) (by first | assumption | omega | exact mR_9 (by assumption) _ _ | simp [sU, hfn, hcn, hR])) gX3_release_X3_ends rfl rfl rfl hd_X3_ends ⟨Nat.le_of_ble_eq_true rfl, Nat.le_of_ble_eq_true rfl⟩ rfl rfl (Nat.le_of_ble_eq_true rfl) dX3_release_126 ⟨Nat.le_of_ble_eq_true rfl, Nat.le_of_ble_eq_true rfl⟩) hS rfl (fun H locs hw hS => ?_)
        refine lv_iconst (v := 5) hx hb dX3_release_129 (by decide) ?_
        refine lv_iload hx hb dX3_release_130 (lv_at hl 0 rfl) ?_
        refine lv_iadd hx hb dX3_release_132 ?_
        exact kx_retI hQ hx hb hr hlk hw hS (Nat.le_of_ble_eq_true rfl) (Nat.le_of_ble_eq_true rfl) dX3_release_133 (kd_i (trivial) ((rv_0 h0).trans (by simp only [hcl_x]; rfl)) ((mk_0 h0).trans (by simp only [hcl_x, hcl_y]; rfl)))
      · have h0 : ¬ kd2 (isF n x && isF nc y) (decide (g 65 x.toNatClampNeg = 0) && (decide (g 69 x.toNatClampNeg = 0) && mServe g nc x.toNatClampNeg y.toNatClampNeg)) = 0 := of_decide_eq_false c_66
        refine lv_iconst (v := 0) hx hb dX3_release_69 (by decide) ?_
        exact kx_retI hQ hx hb hr hlk hw hS (Nat.le_of_ble_eq_true rfl) (Nat.le_of_ble_eq_true rfl) dX3_release_70 (kd_i (trivial) (rv_n h0) (mk_n h0))
    refine kb_ne (tgt := 31) hx hb dX3_release_24 (by decide) (fun c_24 => ?_) (fun c_24 => ?_)
    · have v_x : vp_in x 30 := isF_vp (and_l (c_24)) hn30 (by decide)
      have w_x : x.toNatClampNeg < n := isF_lt (and_l (c_24)) hn30
      have v_y : vp_in y 20 := isF_vp (and_r (c_24)) hc20 (by decide)
      have w_y : y.toNatClampNeg < nc := isF_lt (and_r (c_24)) (Nat.le_trans hc20 (by decide))
      refine lv_aload_n hx hb dX3_release_31 rfl (lv_at hl 1 rfl) ?_
      refine kx_getM (v := .ref (ad 65)) hx hb hts hown hG hw i3 15 (by decide) f_47 rfl dX3_release_32 ?_
      refine lv_iload_n hx hb dX3_release_35 rfl (lv_at hl 2 rfl) ?_
      refine kx_iald (v := (g 65 x.toNatClampNeg)) hx hb hG hw (kC_I rfl) x.toNatClampNeg rfl (by first | assumption | exact ix_of (by assumption) (by assumption) rfl (by decide)) rfl dX3_release_36 ?_
      refine lv_if_ne (tgt := 58) hx hb dX3_release_37 (by decide) (fun c_37 => ?_) (fun c_37 => ?_)
      · refine lv_iconst (v := 2) hx hb dX3_release_58 (by decide) ?_
        refine lv_goto (tgt := 63) hx hb dX3_release_59 (by decide) ?_
        exact kx_top (v := (kd2 (isF n x && isF nc y) (decide (g 65 x.toNatClampNeg = 0) && (decide (g 69 x.toNatClampNeg = 0) && mServe g nc x.toNatClampNeg y.toNatClampNeg)))) (by first | (simp only [bq, c_24, decide_eq_false c_37, if_neg c_37]; done) | (simp only [bq, c_24, decide_eq_false c_37, if_neg c_37]; rfl) | (simp [bq, c_24, decide_eq_false c_37, if_neg c_37]; done)) (hj_63_1 _ _ _ hw hS hl)
      · refine lv_aload_n hx hb dX3_release_40 rfl (lv_at hl 1 rfl) ?_
        refine kx_getM (v := .ref (ad 69)) hx hb hts hown hG hw i3 19 (by decide) f_59 rfl dX3_release_41 ?_
        refine lv_iload_n hx hb dX3_release_44 rfl (lv_at hl 2 rfl) ?_
        refine kx_zald (v := (g 69 x.toNatClampNeg)) hx hb hG hw x.toNatClampNeg rfl (by first | assumption | exact ix_of (by assumption) (by assumption) rfl (by decide)) rfl dX3_release_45 ?_
        refine lv_if_ne (tgt := 58) hx hb dX3_release_46 (by decide) (fun c_46 => ?_) (fun c_46 => ?_)
        · refine lv_iconst (v := 2) hx hb dX3_release_58 (by decide) ?_
          refine lv_goto (tgt := 63) hx hb dX3_release_59 (by decide) ?_
          exact kx_top (v := (kd2 (isF n x && isF nc y) (decide (g 65 x.toNatClampNeg = 0) && (decide (g 69 x.toNatClampNeg = 0) && mServe g nc x.toNatClampNeg y.toNatClampNeg)))) (by first | (simp only [bq, c_24, decide_eq_true c_37, if_pos c_37, decide_eq_false c_46, if_neg c_46]; done) | (simp only [bq, c_24, decide_eq_true c_37, if_pos c_37, decide_eq_false c_46, if_neg c_46]; rfl) | (simp [bq, c_24, decide_eq_true c_37, if_pos c_37, decide_eq_false c_46, if_neg c_46]; done)) (hj_63_1 _ _ _ hw hS hl)
        · refine lv_aload_n hx hb dX3_release_49 rfl (lv_at hl 1 rfl) ?_
          refine lv_iload_n hx hb dX3_release_50 rfl (lv_at hl 2 rfl) ?_
          refine lv_iload_n hx hb dX3_release_51 rfl (lv_at hl 3 rfl) ?_
          refine W.eq (g2 := F0 m 52 ls [.int (nI (y.toNatClampNeg)), .int (nI (x.toNatClampNeg)), .ref (ad 9), .ref (ad 9)]) (by rw [nI_cl (x := x) (by assumption), nI_cl (x := y) (by assumption)]) ?_
          refine kx_do0 (st1 := [.int (b2 (mServe g nc (x.toNatClampNeg) (y.toNatClampNeg))), .ref (ad 9)]) (kx_cv (As := [.int (nI (x.toNatClampNeg)), .int (nI (y.toNatClampNeg))]) (rest := [.ref (ad 9)]) hF hG hw hS hl.1 kC_9 rfl (c_X3_canServe l hfl D cy base ad n nc g (x.toNatClampNeg) (y.toNatClampNeg) (by first | assumption | omega | exact mR_9 (by assumption) _ _ | simp [sU, hfn, hcn, hR]) (by first | assumption | omega | exact mR_9 (by assumption) _ _ | simp [sU, hfn, hcn, hR]) (by first | assumption | omega | exact mR_9 (by assumption) _ _ | simp [sU, hfn, hcn, hR]) (by first | assumption | omega | exact mR_9 (by assumption) _ _ | simp [sU, hfn, hcn, hR])) gX3_release_X3_canServe rfl rfl rfl hd_X3_canServe ⟨Nat.le_of_ble_eq_true rfl, Nat.le_of_ble_eq_true rfl⟩ rfl rfl (Nat.le_of_ble_eq_true rfl) dX3_release_52 ⟨Nat.le_of_ble_eq_true rfl, Nat.le_of_ble_eq_true rfl⟩) hS rfl (fun H locs hw hS => ?_)
          refine kb_ne (tgt := 62) hx hb dX3_release_55 (by decide) (fun c_55 => ?_) (fun c_55 => ?_)
          · refine lv_iconst (v := 0) hx hb dX3_release_62 (by decide) ?_
            exact kx_top (v := (kd2 (isF n x && isF nc y) (decide (g 65 x.toNatClampNeg = 0) && (decide (g 69 x.toNatClampNeg = 0) && mServe g nc x.toNatClampNeg y.toNatClampNeg)))) (by first | (simp only [bq, c_24, decide_eq_true c_37, if_pos c_37, decide_eq_true c_46, if_pos c_46, c_55]; done) | (simp only [bq, c_24, decide_eq_true c_37, if_pos c_37, decide_eq_true c_46, if_pos c_46, c_55]; rfl) | (simp [bq, c_24, decide_eq_true c_37, if_pos c_37, decide_eq_true c_46, if_pos c_46, c_55]; done)) (hj_63_1 _ _ _ hw hS hl)
          · refine lv_iconst (v := 2) hx hb dX3_release_58 (by decide) ?_
            refine lv_goto (tgt := 63) hx hb dX3_release_59 (by decide) ?_
            exact kx_top (v := (kd2 (isF n x && isF nc y) (decide (g 65 x.toNatClampNeg = 0) && (decide (g 69 x.toNatClampNeg = 0) && mServe g nc x.toNatClampNeg y.toNatClampNeg)))) (by first | (simp only [bq, c_24, decide_eq_true c_37, if_pos c_37, decide_eq_true c_46, if_pos c_46, c_55]; done) | (simp only [bq, c_24, decide_eq_true c_37, if_pos c_37, decide_eq_true c_46, if_pos c_46, c_55]; rfl) | (simp [bq, c_24, decide_eq_true c_37, if_pos c_37, decide_eq_true c_46, if_pos c_46, c_55]; done)) (hj_63_1 _ _ _ hw hS hl)
    · refine lv_iconst (v := 1) hx hb dX3_release_27 (by decide) ?_
      refine lv_goto (tgt := 63) hx hb dX3_release_28 (by decide) ?_
      exact kx_top (v := (kd2 (isF n x && isF nc y) (decide (g 65 x.toNatClampNeg = 0) && (decide (g 69 x.toNatClampNeg = 0) && mServe g nc x.toNatClampNeg y.toNatClampNeg)))) (by first | (simp only [bq, c_24]; done) | (simp only [bq, c_24]; rfl) | (simp [bq, c_24]; done)) (hj_63_1 _ _ _ hw hS hl)
  refine kb_eq (tgt := 20) hx hb dX3_release_5 (by decide) (fun c_5 => ?_) (fun c_5 => ?_)
  · refine lv_iconst (v := 0) hx hb dX3_release_20 (by decide) ?_
    exact kx_top (v := (b2 ((isF n x) && (isF nc y)))) (by first | (simp only [bq, c_5]; done) | (simp only [bq, c_5]; rfl) | (simp [bq, c_5]; done)) (hj_21_0 _ _ _ hw hS hl)
  · have v_x : vp_in x 30 := isF_vp (c_5) hn30 (by decide)
    have w_x : x.toNatClampNeg < n := isF_lt (c_5) hn30
    refine lv_aload_n hx hb dX3_release_8 rfl (lv_at hl 0 rfl) ?_
    refine lv_iload_n hx hb dX3_release_9 rfl (lv_at hl 2 rfl) ?_
    refine kx_do0 (st1 := [.int (b2 (isF nc y))]) (kx_cv (As := [.int y]) (rest := []) hF hG hw hS hl.1 kC_9 rfl (c_X3_isClaim l hfl D cy base ad n nc g y (by first | assumption | omega | exact mR_9 (by assumption) _ _ | simp [sU, hfn, hcn, hR])) gX3_release_X3_isClaim rfl rfl rfl hd_X3_isClaim ⟨Nat.le_of_ble_eq_true rfl, Nat.le_of_ble_eq_true rfl⟩ rfl rfl (Nat.le_of_ble_eq_true rfl) dX3_release_10 ⟨Nat.le_of_ble_eq_true rfl, Nat.le_of_ble_eq_true rfl⟩) hS rfl (fun H locs hw hS => ?_)
    refine kb_eq (tgt := 20) hx hb dX3_release_13 (by decide) (fun c_13 => ?_) (fun c_13 => ?_)
    · refine lv_iconst (v := 0) hx hb dX3_release_20 (by decide) ?_
      exact kx_top (v := (b2 ((isF n x) && (isF nc y)))) (by first | (simp only [bq, c_5, c_13]; done) | (simp only [bq, c_5, c_13]; rfl) | (simp [bq, c_5, c_13]; done)) (hj_21_0 _ _ _ hw hS hl)
    · have v_y : vp_in y 20 := isF_vp (c_13) hc20 (by decide)
      have w_y : y.toNatClampNeg < nc := isF_lt (c_13) (Nat.le_trans hc20 (by decide))
      refine lv_iconst (v := 1) hx hb dX3_release_16 (by decide) ?_
      refine lv_goto (tgt := 21) hx hb dX3_release_17 (by decide) ?_
      exact kx_top (v := (b2 ((isF n x) && (isF nc y)))) (by first | (simp only [bq, c_5, c_13]; done) | (simp only [bq, c_5, c_13]; rfl) | (simp [bq, c_5, c_13]; done)) (hj_21_0 _ _ _ hw hS hl)
theorem hd_X3_extend : yX3_extend.cls = RX3 ∧ yX3_extend.cls ≠ "java/lang/invoke/MethodHandle" ∧ yX3_extend.cls ≠ "java/lang/invoke/VarHandle" ∧ (parseMethodDescriptor yX3_extend.desc).map (fun d => d.parameters.length) = some 2 := by decide +kernel
set_option maxHeartbeats 4000000 in
set_option maxRecDepth 100000 in
theorem c_X3_extend (l : Launch) (hfl : l.stackTraces = false) (D : va_G) (cy : Nat → ClassId) (base : Nat) (ad : Nat → Nat) (n nc : Nat) (g : sg) (x : Int32) (many : Int32) (hfn : g 9 8 = nI n) : kM l yX3_extend wsX3_extend (kR 2 0 0) D cy base ad n nc g [.ref (ad 9), .int x, .int many] (kD True (some (.int (rv (kd3 (isF n x) (inn many 1 365) (mHere g x.toNatClampNeg && !decide (g 59 x.toNatClampNeg = 7))) ((if g 9 1 + many ≤ g 68 x.toNatClampNeg then g 68 x.toNatClampNeg else g 9 1 + many))))) ad n nc (mk (kd3 (isF n x) (inn many 1 365) (mHere g x.toNatClampNeg && !decide (g 59 x.toNatClampNeg = 7))) (sU (sU g 9 0 0) 68 x.toNatClampNeg (if g 9 1 + many ≤ g 68 x.toNatClampNeg then g 68 x.toNatClampNeg else g 9 1 + many)) g)) kNo 0 0 := by
  refine kx_meth (cc := cX3_extend) (maxL := 4) (ret := (some .int)) (by decide) rfl (Nat.le_of_ble_eq_true rfl) ?_
  intro p e s m args below meth c ls hx hb hr hml hown hts hlk hT hG hw0 hS0 hl Q H locs hQ hw hS hH0 hlocs0
  have hl : lv_has ls 4 [(0, .ref (ad 9)), (1, .int x), (2, .int many)] := hl
  have hown : s.vm.findClass RX3 = some m.cls := hown
  have hF : CallFix p m c cX3_extend 4 s args wsX3_extend RX3 := ⟨hx, hb, hml, hown, hts⟩
  have hn30 : n ≤ 30 := hw.2.2.1
  have hc20 : nc ≤ 20 := hw.2.2.2
  clear hw0 hS0 hH0 hlocs0
  have i3 : ∀ w ∈ wsX30, w ∈ wsX3_extend := by decide +kernel
  have f_29 := hts (.fieldLink RX3 29 "LostroomModel" "kinds" "[I") (by decide +kernel)
  have f_56 := hts (.fieldLink RX3 56 "LostroomModel" "lasts" "[I") (by decide +kernel)
  have f_136 := hts (.fieldLink RX3 136 "LostroomModel" "today" "I") (by decide +kernel)
  refine lv_aload_n hx hb dX3_extend_0 rfl (lv_at hl 0 rfl) ?_
  refine lv_iload_n hx hb dX3_extend_1 rfl (lv_at hl 1 rfl) ?_
  refine kx_do0 (st1 := [.int (b2 (isF n x))]) (kx_cv (As := [.int x]) (rest := []) hF hG hw hS hl.1 kC_9 rfl (c_X3_isFind l hfl D cy base ad n nc g x (by first | assumption | omega | exact mR_9 (by assumption) _ _ | simp [sU, hfn])) gX3_extend_X3_isFind rfl rfl rfl hd_X3_isFind ⟨Nat.le_of_ble_eq_true rfl, Nat.le_of_ble_eq_true rfl⟩ rfl rfl (Nat.le_of_ble_eq_true rfl) dX3_extend_2 ⟨Nat.le_of_ble_eq_true rfl, Nat.le_of_ble_eq_true rfl⟩) hS rfl (fun H locs hw hS => ?_)
  refine lv_istore_n (lv' := [(3, .int (b2 (isF n x))), (0, .ref (ad 9)), (1, .int x), (2, .int many)]) hx hb dX3_extend_5 rfl hl (by decide) rfl (fun ls hl => ?_)
  refine lv_aload_n hx hb dX3_extend_6 rfl (lv_at hl 1 rfl) ?_
  refine lv_iload_n hx hb dX3_extend_7 rfl (lv_at hl 0 rfl) ?_
  have hj_54_0 : ∀ (H : Heap) (locs : List Loc) (ls : Array Slot), kW D cy base ad n nc g H → va_S (kA base) s.heap H locs → lv_has ls 4 [(3, .int (b2 (isF n x))), (0, .ref (ad 9)), (1, .int x), (2, .int many)] → W p l e (kR 2 0 0) s m args below meth c H locs 0 0 Q (F0 m 54 ls [.int (kd3 (isF n x) (inn many 1 365) (mHere g x.toNatClampNeg && !decide (g 59 x.toNatClampNeg = 7))), .ref (ad 9)]) := by
    intro H locs ls hw hS hl
    refine kx_do0 (st1 := [.int (b2 (decide ((kd3 (isF n x) (inn many 1 365) (mHere g x.toNatClampNeg && !decide (g 59 x.toNatClampNeg = 7))) = 0)))]) (kx_cv (As := [.int (kd3 (isF n x) (inn many 1 365) (mHere g x.toNatClampNeg && !decide (g 59 x.toNatClampNeg = 7)))]) (rest := []) hF hG hw hS hl.1 kC_9 rfl (c_X3_holds l hfl D cy base ad n nc g (kd3 (isF n x) (inn many 1 365) (mHere g x.toNatClampNeg && !decide (g 59 x.toNatClampNeg = 7))) ) gX3_extend_X3_holds rfl rfl rfl hd_X3_holds ⟨Nat.le_of_ble_eq_true rfl, Nat.le_of_ble_eq_true rfl⟩ rfl rfl (Nat.le_of_ble_eq_true rfl) dX3_extend_54 ⟨Nat.le_of_ble_eq_true rfl, Nat.le_of_ble_eq_true rfl⟩) hS rfl (fun H locs hw hS => ?_)
    refine kb_ne (tgt := 62) hx hb dX3_extend_57 (by decide) (fun c_57 => ?_) (fun c_57 => ?_)
    · have h0 : kd3 (isF n x) (inn many 1 365) (mHere g x.toNatClampNeg && !decide (g 59 x.toNatClampNeg = 7)) = 0 := of_decide_eq_true c_57
      rw [h0] at hw
      have hk := kd3_0.mp h0
      obtain ⟨i_x, hi_x, rfl⟩ := isF_ex (hk.1) hn30
      have hcl_x : (nI i_x).toNatClampNeg = i_x := cl_nI (by omega)
      refine lv_aload_n hx hb dX3_extend_62 rfl (lv_at hl 1 rfl) ?_
      refine kx_getM (v := .ref (ad 68)) hx hb hts hown hG hw i3 18 (by decide) f_56 rfl dX3_extend_63 ?_
      refine lv_iload_n hx hb dX3_extend_66 rfl (lv_at hl 2 rfl) ?_
      refine lv_aload_n hx hb dX3_extend_67 rfl (lv_at hl 1 rfl) ?_
      refine kx_getM (v := .int (g 9 1)) hx hb hts hown hG hw i3 1 (by decide) f_136 (congrArg Value.int (sU_j _ _ _ _ (by decide))) dX3_extend_68 ?_
      refine lv_iload_n hx hb dX3_extend_71 rfl (lv_at hl 3 rfl) ?_
      refine lv_iadd hx hb dX3_extend_72 ?_
      refine lv_aload_n hx hb dX3_extend_73 rfl (lv_at hl 1 rfl) ?_
      refine kx_getM (v := .ref (ad 68)) hx hb hts hown hG hw i3 18 (by decide) f_56 rfl dX3_extend_74 ?_
      refine lv_iload_n hx hb dX3_extend_77 rfl (lv_at hl 2 rfl) ?_
      refine kx_iald (v := (g 68 i_x)) hx hb hG hw (kC_I rfl) i_x (nI_clamp (by omega)) (vp_in_nI (by omega) (by decide)) (sU_k _ _ _ _ (by omega)) dX3_extend_78 ?_
      have hj_97_1 : ∀ (H : Heap) (locs : List Loc) (ls : Array Slot), kW D cy base ad n nc (sU g 9 0 (0 : Int32)) H → va_S (kA base) s.heap H locs → lv_has ls 4 [(3, .int (b2 (isF n (nI i_x)))), (0, .ref (ad 9)), (1, .int (nI i_x)), (2, .int many)] → W p l e (kR 2 0 0) s m args below meth c H locs 0 0 Q (F0 m 97 ls [.int (if ((g 9 1) + many) ≤ (g 68 i_x) then (g 68 i_x) else ((g 9 1) + many)), .int (nI i_x), .ref (ad 68)]) := by
        intro H locs ls hw hS hl
        refine kx_iast hx hb hG hw hS (fun _ => (kC_I rfl)) i_x (nI_clamp (by omega)) (vp_in_nI (by omega) (by decide)) dX3_extend_97 (fun H locs hw hS => ?_)
        refine lv_aload_n hx hb dX3_extend_98 rfl (lv_at hl 1 rfl) ?_
        refine kx_getM (v := .ref (ad 68)) hx hb hts hown hG hw i3 18 (by decide) f_56 rfl dX3_extend_99 ?_
        refine lv_iload_n hx hb dX3_extend_102 rfl (lv_at hl 2 rfl) ?_
        refine kx_iald (v := (if ((g 9 1) + many) ≤ (g 68 i_x) then (g 68 i_x) else ((g 9 1) + many))) hx hb hG hw (kC_I rfl) i_x (nI_clamp (by omega)) (vp_in_nI (by omega) (by decide)) (sU_s _ _ _ _) dX3_extend_103 ?_
        exact kx_retI hQ hx hb hr hlk hw hS (Nat.le_of_ble_eq_true rfl) (Nat.le_of_ble_eq_true rfl) dX3_extend_104 (kd_i (trivial) ((rv_0 h0).trans (by simp only [hcl_x])) ((mk_0 h0).trans (by simp only [hcl_x])))
      refine lv_icmp_le (tgt := 91) hx hb dX3_extend_79 (by decide) (fun c_79 => ?_) (fun c_79 => ?_)
      · refine lv_aload_n hx hb dX3_extend_91 rfl (lv_at hl 1 rfl) ?_
        refine kx_getM (v := .ref (ad 68)) hx hb hts hown hG hw i3 18 (by decide) f_56 rfl dX3_extend_92 ?_
        refine lv_iload_n hx hb dX3_extend_95 rfl (lv_at hl 2 rfl) ?_
        refine kx_iald (v := (g 68 i_x)) hx hb hG hw (kC_I rfl) i_x (nI_clamp (by omega)) (vp_in_nI (by omega) (by decide)) (sU_k _ _ _ _ (by omega)) dX3_extend_96 ?_
        exact kx_top (v := (if ((g 9 1) + many) ≤ (g 68 i_x) then (g 68 i_x) else ((g 9 1) + many))) (by first | (simp only [bq, decide_eq_true c_79, if_pos c_79]; done) | (simp only [bq, decide_eq_true c_79, if_pos c_79]; rfl) | (simp [bq, decide_eq_true c_79, if_pos c_79]; done)) (hj_97_1 _ _ _ hw hS hl)
      · refine lv_aload_n hx hb dX3_extend_82 rfl (lv_at hl 1 rfl) ?_
        refine kx_getM (v := .int (g 9 1)) hx hb hts hown hG hw i3 1 (by decide) f_136 (congrArg Value.int (sU_j _ _ _ _ (by decide))) dX3_extend_83 ?_
        refine lv_iload_n hx hb dX3_extend_86 rfl (lv_at hl 3 rfl) ?_
        refine lv_iadd hx hb dX3_extend_87 ?_
        refine lv_goto (tgt := 97) hx hb dX3_extend_88 (by decide) ?_
        exact kx_top (v := (if ((g 9 1) + many) ≤ (g 68 i_x) then (g 68 i_x) else ((g 9 1) + many))) (by first | (simp only [bq, decide_eq_false c_79, if_neg c_79]; done) | (simp only [bq, decide_eq_false c_79, if_neg c_79]; rfl) | (simp [bq, decide_eq_false c_79, if_neg c_79]; done)) (hj_97_1 _ _ _ hw hS hl)
    · have h0 : ¬ kd3 (isF n x) (inn many 1 365) (mHere g x.toNatClampNeg && !decide (g 59 x.toNatClampNeg = 7)) = 0 := of_decide_eq_false c_57
      refine lv_iconst (v := 0) hx hb dX3_extend_60 (by decide) ?_
      exact kx_retI hQ hx hb hr hlk hw hS (Nat.le_of_ble_eq_true rfl) (Nat.le_of_ble_eq_true rfl) dX3_extend_61 (kd_i (trivial) (rv_n h0) (mk_n h0))
  refine kb_ne (tgt := 15) hx hb dX3_extend_8 (by decide) (fun c_8 => ?_) (fun c_8 => ?_)
  · have v_x : vp_in x 30 := isF_vp (c_8) hn30 (by decide)
    have w_x : x.toNatClampNeg < n := isF_lt (c_8) hn30
    refine lv_iload_n hx hb dX3_extend_15 rfl (lv_at hl 3 rfl) ?_
    refine lv_iconst (v := 1) hx hb dX3_extend_16 (by decide) ?_
    refine lv_sipush (v := 365) hx hb dX3_extend_17 (by decide) ?_
    refine kx_do0 (st1 := [.int (b2 (inn many (1 : Int32) (365 : Int32))), .ref (ad 9)]) (kx_cs (As := [.int many, .int (1 : Int32), .int (365 : Int32)]) (rest := [.ref (ad 9)]) hF hG hw hS hl.1 (c_X3_in l hfl D cy base ad n nc g many (1 : Int32) (365 : Int32) ) gX3_extend_X3_in rfl rfl rfl hd_X3_in ⟨Nat.le_of_ble_eq_true rfl, Nat.le_of_ble_eq_true rfl⟩ rfl rfl (Nat.le_of_ble_eq_true rfl) dX3_extend_20 ⟨Nat.le_of_ble_eq_true rfl, Nat.le_of_ble_eq_true rfl⟩) hS rfl (fun H locs hw hS => ?_)
    refine kb_ne (tgt := 30) hx hb dX3_extend_23 (by decide) (fun c_23 => ?_) (fun c_23 => ?_)
    · refine lv_aload_n hx hb dX3_extend_30 rfl (lv_at hl 1 rfl) ?_
      refine lv_iload_n hx hb dX3_extend_31 rfl (lv_at hl 2 rfl) ?_
      refine W.eq (g2 := F0 m 32 ls [.int (nI (x.toNatClampNeg)), .ref (ad 9), .ref (ad 9)]) (by rw [nI_cl (x := x) (by assumption)]) ?_
      refine kx_do0 (st1 := [.int (b2 (mHere g (x.toNatClampNeg))), .ref (ad 9)]) (kx_cv (As := [.int (nI (x.toNatClampNeg))]) (rest := [.ref (ad 9)]) hF hG hw hS hl.1 kC_9 rfl (c_X3_isHere l hfl D cy base ad n nc g (x.toNatClampNeg) (by first | assumption | omega | exact mR_9 (by assumption) _ _ | simp [sU, hfn])) gX3_extend_X3_isHere rfl rfl rfl hd_X3_isHere ⟨Nat.le_of_ble_eq_true rfl, Nat.le_of_ble_eq_true rfl⟩ rfl rfl (Nat.le_of_ble_eq_true rfl) dX3_extend_32 ⟨Nat.le_of_ble_eq_true rfl, Nat.le_of_ble_eq_true rfl⟩) hS rfl (fun H locs hw hS => ?_)
      refine kb_eq (tgt := 49) hx hb dX3_extend_35 (by decide) (fun c_35 => ?_) (fun c_35 => ?_)
      · refine lv_iconst (v := 3) hx hb dX3_extend_49 (by decide) ?_
        refine lv_goto (tgt := 54) hx hb dX3_extend_50 (by decide) ?_
        exact kx_top (v := (kd3 (isF n x) (inn many 1 365) (mHere g x.toNatClampNeg && !decide (g 59 x.toNatClampNeg = 7)))) (by first | (simp only [bq, c_8, c_23, c_35]; done) | (simp only [bq, c_8, c_23, c_35]; rfl) | (simp [bq, c_8, c_23, c_35]; done)) (hj_54_0 _ _ _ hw hS hl)
      · refine lv_aload_n hx hb dX3_extend_38 rfl (lv_at hl 1 rfl) ?_
        refine kx_getM (v := .ref (ad 59)) hx hb hts hown hG hw i3 9 (by decide) f_29 rfl dX3_extend_39 ?_
        refine lv_iload_n hx hb dX3_extend_42 rfl (lv_at hl 2 rfl) ?_
        refine kx_iald (v := (g 59 x.toNatClampNeg)) hx hb hG hw (kC_I rfl) x.toNatClampNeg rfl (by first | assumption | exact ix_of (by assumption) (by assumption) rfl (by decide)) rfl dX3_extend_43 ?_
        refine lv_bipush (v := 7) hx hb dX3_extend_44 (by decide) ?_
        refine lv_icmp_ne (tgt := 53) hx hb dX3_extend_46 (by decide) (fun c_46 => ?_) (fun c_46 => ?_)
        · refine lv_iconst (v := 0) hx hb dX3_extend_53 (by decide) ?_
          exact kx_top (v := (kd3 (isF n x) (inn many 1 365) (mHere g x.toNatClampNeg && !decide (g 59 x.toNatClampNeg = 7)))) (by first | (simp only [bq, c_8, c_23, c_35, decide_eq_false c_46, if_neg c_46]; done) | (simp only [bq, c_8, c_23, c_35, decide_eq_false c_46, if_neg c_46]; rfl) | (simp [bq, c_8, c_23, c_35, decide_eq_false c_46, if_neg c_46]; done)) (hj_54_0 _ _ _ hw hS hl)
        · refine lv_iconst (v := 3) hx hb dX3_extend_49 (by decide) ?_
          refine lv_goto (tgt := 54) hx hb dX3_extend_50 (by decide) ?_
          exact kx_top (v := (kd3 (isF n x) (inn many 1 365) (mHere g x.toNatClampNeg && !decide (g 59 x.toNatClampNeg = 7)))) (by first | (simp only [bq, c_8, c_23, c_35, decide_eq_true c_46, if_pos c_46]; done) | (simp only [bq, c_8, c_23, c_35, decide_eq_true c_46, if_pos c_46]; rfl) | (simp [bq, c_8, c_23, c_35, decide_eq_true c_46, if_pos c_46]; done)) (hj_54_0 _ _ _ hw hS hl)
    · refine lv_iconst (v := 2) hx hb dX3_extend_26 (by decide) ?_
      refine lv_goto (tgt := 54) hx hb dX3_extend_27 (by decide) ?_
      exact kx_top (v := (kd3 (isF n x) (inn many 1 365) (mHere g x.toNatClampNeg && !decide (g 59 x.toNatClampNeg = 7)))) (by first | (simp only [bq, c_8, c_23]; done) | (simp only [bq, c_8, c_23]; rfl) | (simp [bq, c_8, c_23]; done)) (hj_54_0 _ _ _ hw hS hl)
  · refine lv_iconst (v := 1) hx hb dX3_extend_11 (by decide) ?_
    refine lv_goto (tgt := 54) hx hb dX3_extend_12 (by decide) ?_
    exact kx_top (v := (kd3 (isF n x) (inn many 1 365) (mHere g x.toNatClampNeg && !decide (g 59 x.toNatClampNeg = 7)))) (by first | (simp only [bq, c_8]; done) | (simp only [bq, c_8]; rfl) | (simp [bq, c_8]; done)) (hj_54_0 _ _ _ hw hS hl)
theorem hd_X3_sell : yX3_sell.cls = RX3 ∧ yX3_sell.cls ≠ "java/lang/invoke/MethodHandle" ∧ yX3_sell.cls ≠ "java/lang/invoke/VarHandle" ∧ (parseMethodDescriptor yX3_sell.desc).map (fun d => d.parameters.length) = some 2 := by decide +kernel
set_option maxHeartbeats 4000000 in
set_option maxRecDepth 100000 in
theorem c_X3_sell (l : Launch) (hfl : l.stackTraces = false) (D : va_G) (cy : Nat → ClassId) (base : Nat) (ad : Nat → Nat) (n nc : Nat) (g : sg) (x : Int32) (price : Int32) (hfn : g 9 8 = nI n) (hcn : g 9 25 = nI nc) (hR : mR n nc g) : kM l yX3_sell wsX3_sell (kR 4 0 0) D cy base ad n nc g [.ref (ad 9), .int x, .int price] (kD True (some (.int (rv (kd3 (isF n x) (inn price 1 9999) (mOver g nc x.toNatClampNeg && !decide (g 59 x.toNatClampNeg = 7))) (g 9 37 + price)))) ad n nc (mk (kd3 (isF n x) (inn price 1 9999) (mOver g nc x.toNatClampNeg && !decide (g 59 x.toNatClampNeg = 7))) (sU (sU (sU (sU (sU g 9 0 0) 65 x.toNatClampNeg 4) 70 x.toNatClampNeg price) 71 x.toNatClampNeg (g 9 1)) 9 37 (g 9 37 + price)) g)) kNo 0 0 := by
  refine kx_meth (cc := cX3_sell) (maxL := 4) (ret := (some .int)) (by decide) rfl (Nat.le_of_ble_eq_true rfl) ?_
  intro p e s m args below meth c ls hx hb hr hml hown hts hlk hT hG hw0 hS0 hl Q H locs hQ hw hS hH0 hlocs0
  have hl : lv_has ls 4 [(0, .ref (ad 9)), (1, .int x), (2, .int price)] := hl
  have hown : s.vm.findClass RX3 = some m.cls := hown
  have hF : CallFix p m c cX3_sell 4 s args wsX3_sell RX3 := ⟨hx, hb, hml, hown, hts⟩
  have hn30 : n ≤ 30 := hw.2.2.1
  have hc20 : nc ≤ 20 := hw.2.2.2
  clear hw0 hS0 hH0 hlocs0
  have i3 : ∀ w ∈ wsX30, w ∈ wsX3_sell := by decide +kernel
  have f_29 := hts (.fieldLink RX3 29 "LostroomModel" "kinds" "[I") (by decide +kernel)
  have f_47 := hts (.fieldLink RX3 47 "LostroomModel" "states" "[I") (by decide +kernel)
  have f_63 := hts (.fieldLink RX3 63 "LostroomModel" "prices" "[I") (by decide +kernel)
  have f_66 := hts (.fieldLink RX3 66 "LostroomModel" "soldOn" "[I") (by decide +kernel)
  have f_136 := hts (.fieldLink RX3 136 "LostroomModel" "today" "I") (by decide +kernel)
  have f_194 := hts (.fieldLink RX3 194 "LostroomModel" "proceeds" "I") (by decide +kernel)
  refine lv_aload_n hx hb dX3_sell_0 rfl (lv_at hl 0 rfl) ?_
  refine lv_iload_n hx hb dX3_sell_1 rfl (lv_at hl 1 rfl) ?_
  refine kx_do0 (st1 := [.int (b2 (isF n x))]) (kx_cv (As := [.int x]) (rest := []) hF hG hw hS hl.1 kC_9 rfl (c_X3_isFind l hfl D cy base ad n nc g x (by first | assumption | omega | exact mR_9 (by assumption) _ _ | simp [sU, hfn, hcn, hR])) gX3_sell_X3_isFind rfl rfl rfl hd_X3_isFind ⟨Nat.le_of_ble_eq_true rfl, Nat.le_of_ble_eq_true rfl⟩ rfl rfl (Nat.le_of_ble_eq_true rfl) dX3_sell_2 ⟨Nat.le_of_ble_eq_true rfl, Nat.le_of_ble_eq_true rfl⟩) hS rfl (fun H locs hw hS => ?_)
  refine lv_istore_n (lv' := [(3, .int (b2 (isF n x))), (0, .ref (ad 9)), (1, .int x), (2, .int price)]) hx hb dX3_sell_5 rfl hl (by decide) rfl (fun ls hl => ?_)
  refine lv_aload_n hx hb dX3_sell_6 rfl (lv_at hl 1 rfl) ?_
  refine lv_iload_n hx hb dX3_sell_7 rfl (lv_at hl 0 rfl) ?_
  have hj_54_0 : ∀ (H : Heap) (locs : List Loc) (ls : Array Slot), kW D cy base ad n nc g H → va_S (kA base) s.heap H locs → lv_has ls 4 [(3, .int (b2 (isF n x))), (0, .ref (ad 9)), (1, .int x), (2, .int price)] → W p l e (kR 4 0 0) s m args below meth c H locs 0 0 Q (F0 m 54 ls [.int (kd3 (isF n x) (inn price 1 9999) (mOver g nc x.toNatClampNeg && !decide (g 59 x.toNatClampNeg = 7))), .ref (ad 9)]) := by
    intro H locs ls hw hS hl
    refine kx_do0 (st1 := [.int (b2 (decide ((kd3 (isF n x) (inn price 1 9999) (mOver g nc x.toNatClampNeg && !decide (g 59 x.toNatClampNeg = 7))) = 0)))]) (kx_cv (As := [.int (kd3 (isF n x) (inn price 1 9999) (mOver g nc x.toNatClampNeg && !decide (g 59 x.toNatClampNeg = 7)))]) (rest := []) hF hG hw hS hl.1 kC_9 rfl (c_X3_holds l hfl D cy base ad n nc g (kd3 (isF n x) (inn price 1 9999) (mOver g nc x.toNatClampNeg && !decide (g 59 x.toNatClampNeg = 7))) ) gX3_sell_X3_holds rfl rfl rfl hd_X3_holds ⟨Nat.le_of_ble_eq_true rfl, Nat.le_of_ble_eq_true rfl⟩ rfl rfl (Nat.le_of_ble_eq_true rfl) dX3_sell_54 ⟨Nat.le_of_ble_eq_true rfl, Nat.le_of_ble_eq_true rfl⟩) hS rfl (fun H locs hw hS => ?_)
    refine kb_ne (tgt := 62) hx hb dX3_sell_57 (by decide) (fun c_57 => ?_) (fun c_57 => ?_)
    · have h0 : kd3 (isF n x) (inn price 1 9999) (mOver g nc x.toNatClampNeg && !decide (g 59 x.toNatClampNeg = 7)) = 0 := of_decide_eq_true c_57
      rw [h0] at hw
      have hk := kd3_0.mp h0
      obtain ⟨i_x, hi_x, rfl⟩ := isF_ex (hk.1) hn30
      have hcl_x : (nI i_x).toNatClampNeg = i_x := cl_nI (by omega)
      refine lv_aload_n hx hb dX3_sell_62 rfl (lv_at hl 1 rfl) ?_
      refine kx_getM (v := .ref (ad 65)) hx hb hts hown hG hw i3 15 (by decide) f_47 rfl dX3_sell_63 ?_
      refine lv_iload_n hx hb dX3_sell_66 rfl (lv_at hl 2 rfl) ?_
      refine lv_iconst (v := 4) hx hb dX3_sell_67 (by decide) ?_
      refine kx_iast hx hb hG hw hS (fun _ => (kC_I rfl)) i_x (nI_clamp (by omega)) (vp_in_nI (by omega) (by decide)) dX3_sell_68 (fun H locs hw hS => ?_)
      refine lv_aload_n hx hb dX3_sell_69 rfl (lv_at hl 1 rfl) ?_
      refine kx_getM (v := .ref (ad 70)) hx hb hts hown hG hw i3 20 (by decide) f_63 rfl dX3_sell_70 ?_
      refine lv_iload_n hx hb dX3_sell_73 rfl (lv_at hl 2 rfl) ?_
      refine lv_iload_n hx hb dX3_sell_74 rfl (lv_at hl 3 rfl) ?_
      refine kx_iast hx hb hG hw hS (fun _ => (kC_I rfl)) i_x (nI_clamp (by omega)) (vp_in_nI (by omega) (by decide)) dX3_sell_75 (fun H locs hw hS => ?_)
      refine lv_aload_n hx hb dX3_sell_76 rfl (lv_at hl 1 rfl) ?_
      refine kx_getM (v := .ref (ad 71)) hx hb hts hown hG hw i3 21 (by decide) f_66 rfl dX3_sell_77 ?_
      refine lv_iload_n hx hb dX3_sell_80 rfl (lv_at hl 2 rfl) ?_
      refine lv_aload_n hx hb dX3_sell_81 rfl (lv_at hl 1 rfl) ?_
      refine kx_getM (v := .int (g 9 1)) hx hb hts hown hG hw i3 1 (by decide) f_136 (congrArg Value.int ((sU_k _ _ _ _ (by omega)).trans ((sU_k _ _ _ _ (by omega)).trans (sU_j _ _ _ _ (by decide))))) dX3_sell_82 ?_
      refine kx_iast hx hb hG hw hS (fun _ => (kC_I rfl)) i_x (nI_clamp (by omega)) (vp_in_nI (by omega) (by decide)) dX3_sell_85 (fun H locs hw hS => ?_)
      refine lv_aload_n hx hb dX3_sell_86 rfl (lv_at hl 1 rfl) ?_
      refine lv_dup hx hb dX3_sell_87 rfl ?_
      refine kx_getM (v := .int (g 9 37)) hx hb hts hown hG hw i3 37 (by decide) f_194 (congrArg Value.int ((sU_k _ _ _ _ (by omega)).trans ((sU_k _ _ _ _ (by omega)).trans ((sU_k _ _ _ _ (by omega)).trans (sU_j _ _ _ _ (by decide)))))) dX3_sell_88 ?_
      refine lv_iload_n hx hb dX3_sell_91 rfl (lv_at hl 3 rfl) ?_
      refine lv_iadd hx hb dX3_sell_92 ?_
      refine kx_putM (v := ((g 9 37) + price)) hx hb hts hown hG hw hS i3 37 (by decide) f_194 (by decide) rfl rfl rfl dX3_sell_93 (fun H locs hw hS => ?_)
      refine lv_aload_n hx hb dX3_sell_96 rfl (lv_at hl 1 rfl) ?_
      refine kx_getM (v := .int ((g 9 37) + price)) hx hb hts hown hG hw i3 37 (by decide) f_194 (congrArg Value.int (sU_s _ _ _ _)) dX3_sell_97 ?_
      exact kx_retI hQ hx hb hr hlk hw hS (Nat.le_of_ble_eq_true rfl) (Nat.le_of_ble_eq_true rfl) dX3_sell_100 (kd_i (trivial) ((rv_0 h0).trans (by rfl)) ((mk_0 h0).trans (by simp only [hcl_x])))
    · have h0 : ¬ kd3 (isF n x) (inn price 1 9999) (mOver g nc x.toNatClampNeg && !decide (g 59 x.toNatClampNeg = 7)) = 0 := of_decide_eq_false c_57
      refine lv_iconst (v := 0) hx hb dX3_sell_60 (by decide) ?_
      exact kx_retI hQ hx hb hr hlk hw hS (Nat.le_of_ble_eq_true rfl) (Nat.le_of_ble_eq_true rfl) dX3_sell_61 (kd_i (trivial) (rv_n h0) (mk_n h0))
  refine kb_ne (tgt := 15) hx hb dX3_sell_8 (by decide) (fun c_8 => ?_) (fun c_8 => ?_)
  · have v_x : vp_in x 30 := isF_vp (c_8) hn30 (by decide)
    have w_x : x.toNatClampNeg < n := isF_lt (c_8) hn30
    refine lv_iload_n hx hb dX3_sell_15 rfl (lv_at hl 3 rfl) ?_
    refine lv_iconst (v := 1) hx hb dX3_sell_16 (by decide) ?_
    refine lv_sipush (v := 9999) hx hb dX3_sell_17 (by decide) ?_
    refine kx_do0 (st1 := [.int (b2 (inn price (1 : Int32) (9999 : Int32))), .ref (ad 9)]) (kx_cs (As := [.int price, .int (1 : Int32), .int (9999 : Int32)]) (rest := [.ref (ad 9)]) hF hG hw hS hl.1 (c_X3_in l hfl D cy base ad n nc g price (1 : Int32) (9999 : Int32) ) gX3_sell_X3_in rfl rfl rfl hd_X3_in ⟨Nat.le_of_ble_eq_true rfl, Nat.le_of_ble_eq_true rfl⟩ rfl rfl (Nat.le_of_ble_eq_true rfl) dX3_sell_20 ⟨Nat.le_of_ble_eq_true rfl, Nat.le_of_ble_eq_true rfl⟩) hS rfl (fun H locs hw hS => ?_)
    refine kb_ne (tgt := 30) hx hb dX3_sell_23 (by decide) (fun c_23 => ?_) (fun c_23 => ?_)
    · refine lv_aload_n hx hb dX3_sell_30 rfl (lv_at hl 1 rfl) ?_
      refine lv_iload_n hx hb dX3_sell_31 rfl (lv_at hl 2 rfl) ?_
      refine W.eq (g2 := F0 m 32 ls [.int (nI (x.toNatClampNeg)), .ref (ad 9), .ref (ad 9)]) (by rw [nI_cl (x := x) (by assumption)]) ?_
      refine kx_do0 (st1 := [.int (b2 (mOver g nc (x.toNatClampNeg))), .ref (ad 9)]) (kx_cv (As := [.int (nI (x.toNatClampNeg))]) (rest := [.ref (ad 9)]) hF hG hw hS hl.1 kC_9 rfl (c_X3_isOver l hfl D cy base ad n nc g (x.toNatClampNeg) (by first | assumption | omega | exact mR_9 (by assumption) _ _ | simp [sU, hfn, hcn, hR]) (by first | assumption | omega | exact mR_9 (by assumption) _ _ | simp [sU, hfn, hcn, hR]) (by first | assumption | omega | exact mR_9 (by assumption) _ _ | simp [sU, hfn, hcn, hR])) gX3_sell_X3_isOver rfl rfl rfl hd_X3_isOver ⟨Nat.le_of_ble_eq_true rfl, Nat.le_of_ble_eq_true rfl⟩ rfl rfl (Nat.le_of_ble_eq_true rfl) dX3_sell_32 ⟨Nat.le_of_ble_eq_true rfl, Nat.le_of_ble_eq_true rfl⟩) hS rfl (fun H locs hw hS => ?_)
      refine kb_eq (tgt := 49) hx hb dX3_sell_35 (by decide) (fun c_35 => ?_) (fun c_35 => ?_)
      · refine lv_iconst (v := 3) hx hb dX3_sell_49 (by decide) ?_
        refine lv_goto (tgt := 54) hx hb dX3_sell_50 (by decide) ?_
        exact kx_top (v := (kd3 (isF n x) (inn price 1 9999) (mOver g nc x.toNatClampNeg && !decide (g 59 x.toNatClampNeg = 7)))) (by first | (simp only [bq, c_8, c_23, c_35]; done) | (simp only [bq, c_8, c_23, c_35]; rfl) | (simp [bq, c_8, c_23, c_35]; done)) (hj_54_0 _ _ _ hw hS hl)
      · refine lv_aload_n hx hb dX3_sell_38 rfl (lv_at hl 1 rfl) ?_
        refine kx_getM (v := .ref (ad 59)) hx hb hts hown hG hw i3 9 (by decide) f_29 rfl dX3_sell_39 ?_
        refine lv_iload_n hx hb dX3_sell_42 rfl (lv_at hl 2 rfl) ?_
        refine kx_iald (v := (g 59 x.toNatClampNeg)) hx hb hG hw (kC_I rfl) x.toNatClampNeg rfl (by first | assumption | exact ix_of (by assumption) (by assumption) rfl (by decide)) rfl dX3_sell_43 ?_
        refine lv_bipush (v := 7) hx hb dX3_sell_44 (by decide) ?_
        refine lv_icmp_ne (tgt := 53) hx hb dX3_sell_46 (by decide) (fun c_46 => ?_) (fun c_46 => ?_)
        · refine lv_iconst (v := 0) hx hb dX3_sell_53 (by decide) ?_
          exact kx_top (v := (kd3 (isF n x) (inn price 1 9999) (mOver g nc x.toNatClampNeg && !decide (g 59 x.toNatClampNeg = 7)))) (by first | (simp only [bq, c_8, c_23, c_35, decide_eq_false c_46, if_neg c_46]; done) | (simp only [bq, c_8, c_23, c_35, decide_eq_false c_46, if_neg c_46]; rfl) | (simp [bq, c_8, c_23, c_35, decide_eq_false c_46, if_neg c_46]; done)) (hj_54_0 _ _ _ hw hS hl)
        · refine lv_iconst (v := 3) hx hb dX3_sell_49 (by decide) ?_
          refine lv_goto (tgt := 54) hx hb dX3_sell_50 (by decide) ?_
          exact kx_top (v := (kd3 (isF n x) (inn price 1 9999) (mOver g nc x.toNatClampNeg && !decide (g 59 x.toNatClampNeg = 7)))) (by first | (simp only [bq, c_8, c_23, c_35, decide_eq_true c_46, if_pos c_46]; done) | (simp only [bq, c_8, c_23, c_35, decide_eq_true c_46, if_pos c_46]; rfl) | (simp [bq, c_8, c_23, c_35, decide_eq_true c_46, if_pos c_46]; done)) (hj_54_0 _ _ _ hw hS hl)
    · refine lv_iconst (v := 2) hx hb dX3_sell_26 (by decide) ?_
      refine lv_goto (tgt := 54) hx hb dX3_sell_27 (by decide) ?_
      exact kx_top (v := (kd3 (isF n x) (inn price 1 9999) (mOver g nc x.toNatClampNeg && !decide (g 59 x.toNatClampNeg = 7)))) (by first | (simp only [bq, c_8, c_23]; done) | (simp only [bq, c_8, c_23]; rfl) | (simp [bq, c_8, c_23]; done)) (hj_54_0 _ _ _ hw hS hl)
  · refine lv_iconst (v := 1) hx hb dX3_sell_11 (by decide) ?_
    refine lv_goto (tgt := 54) hx hb dX3_sell_12 (by decide) ?_
    exact kx_top (v := (kd3 (isF n x) (inn price 1 9999) (mOver g nc x.toNatClampNeg && !decide (g 59 x.toNatClampNeg = 7)))) (by first | (simp only [bq, c_8]; done) | (simp only [bq, c_8]; rfl) | (simp [bq, c_8]; done)) (hj_54_0 _ _ _ hw hS hl)
theorem hd_X3_destroy : yX3_destroy.cls = RX3 ∧ yX3_destroy.cls ≠ "java/lang/invoke/MethodHandle" ∧ yX3_destroy.cls ≠ "java/lang/invoke/VarHandle" ∧ (parseMethodDescriptor yX3_destroy.desc).map (fun d => d.parameters.length) = some 1 := by decide +kernel
set_option maxHeartbeats 4000000 in
set_option maxRecDepth 100000 in
theorem c_X3_destroy (l : Launch) (hfl : l.stackTraces = false) (D : va_G) (cy : Nat → ClassId) (base : Nat) (ad : Nat → Nat) (n nc : Nat) (g : sg) (x : Int32) (hfn : g 9 8 = nI n) (hcn : g 9 25 = nI nc) (hR : mR n nc g) : kM l yX3_destroy wsX3_destroy (kR 4 0 0) D cy base ad n nc g [.ref (ad 9), .int x] (kD True (some (.int (rv (kd2 (isF n x) (mOver g nc x.toNatClampNeg)) (g 66 x.toNatClampNeg)))) ad n nc (mk (kd2 (isF n x) (mOver g nc x.toNatClampNeg)) (sU (sU g 9 0 0) 65 x.toNatClampNeg 5) g)) kNo 0 0 := by
  refine kx_meth (cc := cX3_destroy) (maxL := 3) (ret := (some .int)) (by decide) rfl (Nat.le_of_ble_eq_true rfl) ?_
  intro p e s m args below meth c ls hx hb hr hml hown hts hlk hT hG hw0 hS0 hl Q H locs hQ hw hS hH0 hlocs0
  have hl : lv_has ls 3 [(0, .ref (ad 9)), (1, .int x)] := hl
  have hown : s.vm.findClass RX3 = some m.cls := hown
  have hF : CallFix p m c cX3_destroy 3 s args wsX3_destroy RX3 := ⟨hx, hb, hml, hown, hts⟩
  have hn30 : n ≤ 30 := hw.2.2.1
  have hc20 : nc ≤ 20 := hw.2.2.2
  clear hw0 hS0 hH0 hlocs0
  have i3 : ∀ w ∈ wsX30, w ∈ wsX3_destroy := by decide +kernel
  have f_47 := hts (.fieldLink RX3 47 "LostroomModel" "states" "[I") (by decide +kernel)
  have f_50 := hts (.fieldLink RX3 50 "LostroomModel" "rooms" "[I") (by decide +kernel)
  refine lv_aload_n hx hb dX3_destroy_0 rfl (lv_at hl 0 rfl) ?_
  refine lv_iload_n hx hb dX3_destroy_1 rfl (lv_at hl 1 rfl) ?_
  refine kx_do0 (st1 := [.int (b2 (isF n x))]) (kx_cv (As := [.int x]) (rest := []) hF hG hw hS hl.1 kC_9 rfl (c_X3_isFind l hfl D cy base ad n nc g x (by first | assumption | omega | exact mR_9 (by assumption) _ _ | simp [sU, hfn, hcn, hR])) gX3_destroy_X3_isFind rfl rfl rfl hd_X3_isFind ⟨Nat.le_of_ble_eq_true rfl, Nat.le_of_ble_eq_true rfl⟩ rfl rfl (Nat.le_of_ble_eq_true rfl) dX3_destroy_2 ⟨Nat.le_of_ble_eq_true rfl, Nat.le_of_ble_eq_true rfl⟩) hS rfl (fun H locs hw hS => ?_)
  refine lv_istore_n (lv' := [(2, .int (b2 (isF n x))), (0, .ref (ad 9)), (1, .int x)]) hx hb dX3_destroy_5 rfl hl (by decide) rfl (fun ls hl => ?_)
  refine lv_aload_n hx hb dX3_destroy_6 rfl (lv_at hl 1 rfl) ?_
  refine lv_iload_n hx hb dX3_destroy_7 rfl (lv_at hl 0 rfl) ?_
  have hj_28_0 : ∀ (H : Heap) (locs : List Loc) (ls : Array Slot), kW D cy base ad n nc g H → va_S (kA base) s.heap H locs → lv_has ls 3 [(2, .int (b2 (isF n x))), (0, .ref (ad 9)), (1, .int x)] → W p l e (kR 4 0 0) s m args below meth c H locs 0 0 Q (F0 m 28 ls [.int (kd2 (isF n x) (mOver g nc x.toNatClampNeg)), .ref (ad 9)]) := by
    intro H locs ls hw hS hl
    refine kx_do0 (st1 := [.int (b2 (decide ((kd2 (isF n x) (mOver g nc x.toNatClampNeg)) = 0)))]) (kx_cv (As := [.int (kd2 (isF n x) (mOver g nc x.toNatClampNeg))]) (rest := []) hF hG hw hS hl.1 kC_9 rfl (c_X3_holds l hfl D cy base ad n nc g (kd2 (isF n x) (mOver g nc x.toNatClampNeg)) ) gX3_destroy_X3_holds rfl rfl rfl hd_X3_holds ⟨Nat.le_of_ble_eq_true rfl, Nat.le_of_ble_eq_true rfl⟩ rfl rfl (Nat.le_of_ble_eq_true rfl) dX3_destroy_28 ⟨Nat.le_of_ble_eq_true rfl, Nat.le_of_ble_eq_true rfl⟩) hS rfl (fun H locs hw hS => ?_)
    refine kb_ne (tgt := 36) hx hb dX3_destroy_31 (by decide) (fun c_31 => ?_) (fun c_31 => ?_)
    · have h0 : kd2 (isF n x) (mOver g nc x.toNatClampNeg) = 0 := of_decide_eq_true c_31
      rw [h0] at hw
      have hk := kd2_0.mp h0
      obtain ⟨i_x, hi_x, rfl⟩ := isF_ex (hk.1) hn30
      have hcl_x : (nI i_x).toNatClampNeg = i_x := cl_nI (by omega)
      refine lv_aload_n hx hb dX3_destroy_36 rfl (lv_at hl 1 rfl) ?_
      refine kx_getM (v := .ref (ad 65)) hx hb hts hown hG hw i3 15 (by decide) f_47 rfl dX3_destroy_37 ?_
      refine lv_iload_n hx hb dX3_destroy_40 rfl (lv_at hl 2 rfl) ?_
      refine lv_iconst (v := 5) hx hb dX3_destroy_41 (by decide) ?_
      refine kx_iast hx hb hG hw hS (fun _ => (kC_I rfl)) i_x (nI_clamp (by omega)) (vp_in_nI (by omega) (by decide)) dX3_destroy_42 (fun H locs hw hS => ?_)
      refine lv_aload_n hx hb dX3_destroy_43 rfl (lv_at hl 1 rfl) ?_
      refine kx_getM (v := .ref (ad 66)) hx hb hts hown hG hw i3 16 (by decide) f_50 rfl dX3_destroy_44 ?_
      refine lv_iload_n hx hb dX3_destroy_47 rfl (lv_at hl 2 rfl) ?_
      refine kx_iald (v := (g 66 i_x)) hx hb hG hw (kC_I rfl) i_x (nI_clamp (by omega)) (vp_in_nI (by omega) (by decide)) ((sU_k _ _ _ _ (by omega)).trans (sU_k _ _ _ _ (by omega))) dX3_destroy_48 ?_
      exact kx_retI hQ hx hb hr hlk hw hS (Nat.le_of_ble_eq_true rfl) (Nat.le_of_ble_eq_true rfl) dX3_destroy_49 (kd_i (trivial) ((rv_0 h0).trans (by simp only [hcl_x])) ((mk_0 h0).trans (by simp only [hcl_x])))
    · have h0 : ¬ kd2 (isF n x) (mOver g nc x.toNatClampNeg) = 0 := of_decide_eq_false c_31
      refine lv_iconst (v := 0) hx hb dX3_destroy_34 (by decide) ?_
      exact kx_retI hQ hx hb hr hlk hw hS (Nat.le_of_ble_eq_true rfl) (Nat.le_of_ble_eq_true rfl) dX3_destroy_35 (kd_i (trivial) (rv_n h0) (mk_n h0))
  refine kb_ne (tgt := 15) hx hb dX3_destroy_8 (by decide) (fun c_8 => ?_) (fun c_8 => ?_)
  · have v_x : vp_in x 30 := isF_vp (c_8) hn30 (by decide)
    have w_x : x.toNatClampNeg < n := isF_lt (c_8) hn30
    refine lv_aload_n hx hb dX3_destroy_15 rfl (lv_at hl 1 rfl) ?_
    refine lv_iload_n hx hb dX3_destroy_16 rfl (lv_at hl 2 rfl) ?_
    refine W.eq (g2 := F0 m 17 ls [.int (nI (x.toNatClampNeg)), .ref (ad 9), .ref (ad 9)]) (by rw [nI_cl (x := x) (by assumption)]) ?_
    refine kx_do0 (st1 := [.int (b2 (mOver g nc (x.toNatClampNeg))), .ref (ad 9)]) (kx_cv (As := [.int (nI (x.toNatClampNeg))]) (rest := [.ref (ad 9)]) hF hG hw hS hl.1 kC_9 rfl (c_X3_isOver l hfl D cy base ad n nc g (x.toNatClampNeg) (by first | assumption | omega | exact mR_9 (by assumption) _ _ | simp [sU, hfn, hcn, hR]) (by first | assumption | omega | exact mR_9 (by assumption) _ _ | simp [sU, hfn, hcn, hR]) (by first | assumption | omega | exact mR_9 (by assumption) _ _ | simp [sU, hfn, hcn, hR])) gX3_destroy_X3_isOver rfl rfl rfl hd_X3_isOver ⟨Nat.le_of_ble_eq_true rfl, Nat.le_of_ble_eq_true rfl⟩ rfl rfl (Nat.le_of_ble_eq_true rfl) dX3_destroy_17 ⟨Nat.le_of_ble_eq_true rfl, Nat.le_of_ble_eq_true rfl⟩) hS rfl (fun H locs hw hS => ?_)
    refine kb_eq (tgt := 27) hx hb dX3_destroy_20 (by decide) (fun c_20 => ?_) (fun c_20 => ?_)
    · refine lv_iconst (v := 2) hx hb dX3_destroy_27 (by decide) ?_
      exact kx_top (v := (kd2 (isF n x) (mOver g nc x.toNatClampNeg))) (by first | (simp only [bq, c_8, c_20]; done) | (simp only [bq, c_8, c_20]; rfl) | (simp [bq, c_8, c_20]; done)) (hj_28_0 _ _ _ hw hS hl)
    · refine lv_iconst (v := 0) hx hb dX3_destroy_23 (by decide) ?_
      refine lv_goto (tgt := 28) hx hb dX3_destroy_24 (by decide) ?_
      exact kx_top (v := (kd2 (isF n x) (mOver g nc x.toNatClampNeg))) (by first | (simp only [bq, c_8, c_20]; done) | (simp only [bq, c_8, c_20]; rfl) | (simp [bq, c_8, c_20]; done)) (hj_28_0 _ _ _ hw hS hl)
  · refine lv_iconst (v := 1) hx hb dX3_destroy_11 (by decide) ?_
    refine lv_goto (tgt := 28) hx hb dX3_destroy_12 (by decide) ?_
    exact kx_top (v := (kd2 (isF n x) (mOver g nc x.toNatClampNeg))) (by first | (simp only [bq, c_8]; done) | (simp only [bq, c_8]; rfl) | (simp [bq, c_8]; done)) (hj_28_0 _ _ _ hw hS hl)
theorem hd_X3_payOut : yX3_payOut.cls = RX3 ∧ yX3_payOut.cls ≠ "java/lang/invoke/MethodHandle" ∧ yX3_payOut.cls ≠ "java/lang/invoke/VarHandle" ∧ (parseMethodDescriptor yX3_payOut.desc).map (fun d => d.parameters.length) = some 2 := by decide +kernel
set_option maxHeartbeats 4000000 in
set_option maxRecDepth 100000 in
theorem c_X3_payOut (l : Launch) (hfl : l.stackTraces = false) (D : va_G) (cy : Nat → ClassId) (base : Nat) (ad : Nat → Nat) (n nc : Nat) (g : sg) (x : Int32) (y : Int32) (hfn : g 9 8 = nI n) (hcn : g 9 25 = nI nc) (hR : mR n nc g) : kM l yX3_payOut wsX3_payOut (kR 4 0 0) D cy base ad n nc g [.ref (ad 9), .int x, .int y] (kD True (some (.int (rv (kd2 (isF n x && isF nc y) (decide (g 65 x.toNatClampNeg = 4) && ((!decide (365 < g 9 1 - g 71 x.toNatClampNeg)) && mServe g nc x.toNatClampNeg y.toNatClampNeg))) (g 70 x.toNatClampNeg - mFee g x.toNatClampNeg)))) ad n nc (mk (kd2 (isF n x && isF nc y) (decide (g 65 x.toNatClampNeg = 4) && ((!decide (365 < g 9 1 - g 71 x.toNatClampNeg)) && mServe g nc x.toNatClampNeg y.toNatClampNeg))) (mEnds (sU (sU (sU (sU g 9 0 0) 9 35 (g 9 35 + mFee g x.toNatClampNeg)) 9 37 (g 9 37 - g 70 x.toNatClampNeg)) 65 x.toNatClampNeg 6) y.toNatClampNeg 1 x) g)) kNo 0 0 := by
  refine kx_meth (cc := cX3_payOut) (maxL := 5) (ret := (some .int)) (by decide) rfl (Nat.le_of_ble_eq_true rfl) ?_
  intro p e s m args below meth c ls hx hb hr hml hown hts hlk hT hG hw0 hS0 hl Q H locs hQ hw hS hH0 hlocs0
  have hl : lv_has ls 5 [(0, .ref (ad 9)), (1, .int x), (2, .int y)] := hl
  have hown : s.vm.findClass RX3 = some m.cls := hown
  have hF : CallFix p m c cX3_payOut 5 s args wsX3_payOut RX3 := ⟨hx, hb, hml, hown, hts⟩
  have hn30 : n ≤ 30 := hw.2.2.1
  have hc20 : nc ≤ 20 := hw.2.2.2
  clear hw0 hS0 hH0 hlocs0
  have i3 : ∀ w ∈ wsX30, w ∈ wsX3_payOut := by decide +kernel
  have f_47 := hts (.fieldLink RX3 47 "LostroomModel" "states" "[I") (by decide +kernel)
  have f_63 := hts (.fieldLink RX3 63 "LostroomModel" "prices" "[I") (by decide +kernel)
  have f_66 := hts (.fieldLink RX3 66 "LostroomModel" "soldOn" "[I") (by decide +kernel)
  have f_136 := hts (.fieldLink RX3 136 "LostroomModel" "today" "I") (by decide +kernel)
  have f_185 := hts (.fieldLink RX3 185 "LostroomModel" "fees" "I") (by decide +kernel)
  have f_194 := hts (.fieldLink RX3 194 "LostroomModel" "proceeds" "I") (by decide +kernel)
  refine lv_aload_n hx hb dX3_payOut_0 rfl (lv_at hl 0 rfl) ?_
  refine lv_iload_n hx hb dX3_payOut_1 rfl (lv_at hl 1 rfl) ?_
  refine kx_do0 (st1 := [.int (b2 (isF n x))]) (kx_cv (As := [.int x]) (rest := []) hF hG hw hS hl.1 kC_9 rfl (c_X3_isFind l hfl D cy base ad n nc g x (by first | assumption | omega | exact mR_9 (by assumption) _ _ | simp [sU, hfn, hcn, hR])) gX3_payOut_X3_isFind rfl rfl rfl hd_X3_isFind ⟨Nat.le_of_ble_eq_true rfl, Nat.le_of_ble_eq_true rfl⟩ rfl rfl (Nat.le_of_ble_eq_true rfl) dX3_payOut_2 ⟨Nat.le_of_ble_eq_true rfl, Nat.le_of_ble_eq_true rfl⟩) hS rfl (fun H locs hw hS => ?_)
  have hj_21_0 : ∀ (H : Heap) (locs : List Loc) (ls : Array Slot), kW D cy base ad n nc g H → va_S (kA base) s.heap H locs → lv_has ls 5 [(0, .ref (ad 9)), (1, .int x), (2, .int y)] → W p l e (kR 4 0 0) s m args below meth c H locs 0 0 Q (F0 m 21 ls [.int (b2 ((isF n x) && (isF nc y)))]) := by
    intro H locs ls hw hS hl
    refine lv_istore_n (lv' := [(3, .int (b2 ((isF n x) && (isF nc y)))), (0, .ref (ad 9)), (1, .int x), (2, .int y)]) hx hb dX3_payOut_21 rfl hl (by decide) rfl (fun ls hl => ?_)
    refine lv_aload_n hx hb dX3_payOut_22 rfl (lv_at hl 1 rfl) ?_
    refine lv_iload_n hx hb dX3_payOut_23 rfl (lv_at hl 0 rfl) ?_
    have hj_72_1 : ∀ (H : Heap) (locs : List Loc) (ls : Array Slot), kW D cy base ad n nc g H → va_S (kA base) s.heap H locs → lv_has ls 5 [(3, .int (b2 ((isF n x) && (isF nc y)))), (0, .ref (ad 9)), (1, .int x), (2, .int y)] → W p l e (kR 4 0 0) s m args below meth c H locs 0 0 Q (F0 m 72 ls [.int (kd2 (isF n x && isF nc y) (decide (g 65 x.toNatClampNeg = 4) && ((!decide (365 < g 9 1 - g 71 x.toNatClampNeg)) && mServe g nc x.toNatClampNeg y.toNatClampNeg))), .ref (ad 9)]) := by
      intro H locs ls hw hS hl
      refine kx_do0 (st1 := [.int (b2 (decide ((kd2 (isF n x && isF nc y) (decide (g 65 x.toNatClampNeg = 4) && ((!decide (365 < g 9 1 - g 71 x.toNatClampNeg)) && mServe g nc x.toNatClampNeg y.toNatClampNeg))) = 0)))]) (kx_cv (As := [.int (kd2 (isF n x && isF nc y) (decide (g 65 x.toNatClampNeg = 4) && ((!decide (365 < g 9 1 - g 71 x.toNatClampNeg)) && mServe g nc x.toNatClampNeg y.toNatClampNeg)))]) (rest := []) hF hG hw hS hl.1 kC_9 rfl (c_X3_holds l hfl D cy base ad n nc g (kd2 (isF n x && isF nc y) (decide (g 65 x.toNatClampNeg = 4) && ((!decide (365 < g 9 1 - g 71 x.toNatClampNeg)) && mServe g nc x.toNatClampNeg y.toNatClampNeg))) ) gX3_payOut_X3_holds rfl rfl rfl hd_X3_holds ⟨Nat.le_of_ble_eq_true rfl, Nat.le_of_ble_eq_true rfl⟩ rfl rfl (Nat.le_of_ble_eq_true rfl) dX3_payOut_72 ⟨Nat.le_of_ble_eq_true rfl, Nat.le_of_ble_eq_true rfl⟩) hS rfl (fun H locs hw hS => ?_)
      refine kb_ne (tgt := 80) hx hb dX3_payOut_75 (by decide) (fun c_75 => ?_) (fun c_75 => ?_)
      · have h0 : kd2 (isF n x && isF nc y) (decide (g 65 x.toNatClampNeg = 4) && ((!decide (365 < g 9 1 - g 71 x.toNatClampNeg)) && mServe g nc x.toNatClampNeg y.toNatClampNeg)) = 0 := of_decide_eq_true c_75
        rw [h0] at hw
        have hk := kd2_0.mp h0
        obtain ⟨i_x, hi_x, rfl⟩ := isF_ex (and_l (hk.1)) hn30
        have hcl_x : (nI i_x).toNatClampNeg = i_x := cl_nI (by omega)
        obtain ⟨i_y, hi_y, rfl⟩ := isF_ex (and_r (hk.1)) (Nat.le_trans hc20 (by decide))
        have hcl_y : (nI i_y).toNatClampNeg = i_y := cl_nI (by omega)
        have hj20 : i_y < 20 := by omega
        refine lv_aload_n hx hb dX3_payOut_80 rfl (lv_at hl 1 rfl) ?_
        refine kx_getM (v := .ref (ad 70)) hx hb hts hown hG hw i3 20 (by decide) f_63 rfl dX3_payOut_81 ?_
        refine lv_iload_n hx hb dX3_payOut_84 rfl (lv_at hl 2 rfl) ?_
        refine kx_iald (v := (g 70 i_x)) hx hb hG hw (kC_I rfl) i_x (nI_clamp (by omega)) (vp_in_nI (by omega) (by decide)) (sU_k _ _ _ _ (by omega)) dX3_payOut_85 ?_
        refine lv_iconst (v := 5) hx hb dX3_payOut_86 (by decide) ?_
        have hj_100_2 : ∀ (H : Heap) (locs : List Loc) (ls : Array Slot), kW D cy base ad n nc (sU g 9 0 (0 : Int32)) H → va_S (kA base) s.heap H locs → lv_has ls 5 [(3, .int (b2 ((isF n (nI i_x)) && (isF nc (nI i_y))))), (0, .ref (ad 9)), (1, .int (nI i_x)), (2, .int (nI i_y))] → W p l e (kR 4 0 0) s m args below meth c H locs 0 0 Q (F0 m 100 ls [.int (if (5 : Int32) ≤ (g 70 i_x) then (5 : Int32) else (g 70 i_x))]) := by
          intro H locs ls hw hS hl
          refine lv_istore (lv' := [(4, .int (if (5 : Int32) ≤ (g 70 i_x) then (5 : Int32) else (g 70 i_x))), (3, .int (b2 ((isF n (nI i_x)) && (isF nc (nI i_y))))), (0, .ref (ad 9)), (1, .int (nI i_x)), (2, .int (nI i_y))]) hx hb dX3_payOut_100 hl (by decide) rfl (fun ls hl => ?_)
          refine lv_aload_n hx hb dX3_payOut_102 rfl (lv_at hl 2 rfl) ?_
          refine lv_dup hx hb dX3_payOut_103 rfl ?_
          refine kx_getM (v := .int (g 9 35)) hx hb hts hown hG hw i3 35 (by decide) f_185 (congrArg Value.int (sU_j _ _ _ _ (by decide))) dX3_payOut_104 ?_
          refine lv_iload hx hb dX3_payOut_107 (lv_at hl 0 rfl) ?_
          refine lv_iadd hx hb dX3_payOut_109 ?_
          refine kx_putM (v := ((g 9 35) + (if (5 : Int32) ≤ (g 70 i_x) then (5 : Int32) else (g 70 i_x)))) hx hb hts hown hG hw hS i3 35 (by decide) f_185 (by decide) rfl rfl rfl dX3_payOut_110 (fun H locs hw hS => ?_)
          refine lv_aload_n hx hb dX3_payOut_113 rfl (lv_at hl 2 rfl) ?_
          refine lv_dup hx hb dX3_payOut_114 rfl ?_
          refine kx_getM (v := .int (g 9 37)) hx hb hts hown hG hw i3 37 (by decide) f_194 (congrArg Value.int ((sU_j _ _ _ _ (by decide)).trans (sU_j _ _ _ _ (by decide)))) dX3_payOut_115 ?_
          refine lv_aload_n hx hb dX3_payOut_118 rfl (lv_at hl 2 rfl) ?_
          refine kx_getM (v := .ref (ad 70)) hx hb hts hown hG hw i3 20 (by decide) f_63 rfl dX3_payOut_119 ?_
          refine lv_iload_n hx hb dX3_payOut_122 rfl (lv_at hl 3 rfl) ?_
          refine kx_iald (v := (g 70 i_x)) hx hb hG hw (kC_I rfl) i_x (nI_clamp (by omega)) (vp_in_nI (by omega) (by decide)) ((sU_k _ _ _ _ (by omega)).trans (sU_k _ _ _ _ (by omega))) dX3_payOut_123 ?_
          refine lv_isub hx hb dX3_payOut_124 ?_
          refine kx_putM (v := ((g 9 37) - (g 70 i_x))) hx hb hts hown hG hw hS i3 37 (by decide) f_194 (by decide) rfl rfl rfl dX3_payOut_125 (fun H locs hw hS => ?_)
          refine lv_aload_n hx hb dX3_payOut_128 rfl (lv_at hl 2 rfl) ?_
          refine kx_getM (v := .ref (ad 65)) hx hb hts hown hG hw i3 15 (by decide) f_47 rfl dX3_payOut_129 ?_
          refine lv_iload_n hx hb dX3_payOut_132 rfl (lv_at hl 3 rfl) ?_
          refine lv_bipush (v := 6) hx hb dX3_payOut_133 (by decide) ?_
          refine kx_iast hx hb hG hw hS (fun _ => (kC_I rfl)) i_x (nI_clamp (by omega)) (vp_in_nI (by omega) (by decide)) dX3_payOut_135 (fun H locs hw hS => ?_)
          refine lv_aload_n hx hb dX3_payOut_136 rfl (lv_at hl 2 rfl) ?_
          refine lv_iload_n hx hb dX3_payOut_137 rfl (lv_at hl 4 rfl) ?_
          refine lv_iconst (v := 1) hx hb dX3_payOut_138 (by decide) ?_
          refine lv_iload_n hx hb dX3_payOut_139 rfl (lv_at hl 3 rfl) ?_
          refine kx_do0 (st1 := []) (kx_cv (As := [.int (nI i_y), .int (1 : Int32), .int (nI i_x)]) (rest := []) hF hG hw hS hl.1 kC_9 rfl (c_X3_ends l hfl D cy base ad n nc (sU (sU (sU (sU g 9 0 (0 : Int32)) 9 35 ((g 9 35) + (if (5 : Int32) ≤ (g 70 i_x) then (5 : Int32) else (g 70 i_x)))) 9 37 ((g 9 37) - (g 70 i_x))) 65 i_x (6 : Int32)) i_y (1 : Int32) (nI i_x) (by first | assumption | omega | exact mR_9 (by assumption) _ _ | simp [sU, hfn, hcn, hR])) gX3_payOut_X3_ends rfl rfl rfl hd_X3_ends ⟨Nat.le_of_ble_eq_true rfl, Nat.le_of_ble_eq_true rfl⟩ rfl rfl (Nat.le_of_ble_eq_true rfl) dX3_payOut_140 ⟨Nat.le_of_ble_eq_true rfl, Nat.le_of_ble_eq_true rfl⟩) hS rfl (fun H locs hw hS => ?_)
          refine lv_aload_n hx hb dX3_payOut_143 rfl (lv_at hl 2 rfl) ?_
          refine kx_getM (v := .ref (ad 70)) hx hb hts hown hG hw i3 20 (by decide) f_63 rfl dX3_payOut_144 ?_
          refine lv_iload_n hx hb dX3_payOut_147 rfl (lv_at hl 3 rfl) ?_
          refine kx_iald (v := (g 70 i_x)) hx hb hG hw (kC_I rfl) i_x (nI_clamp (by omega)) (vp_in_nI (by omega) (by decide)) ((sU_k _ _ _ _ (by omega)).trans ((sU_k _ _ _ _ (by omega)).trans ((sU_k _ _ _ _ (by omega)).trans ((sU_k _ _ _ _ (by omega)).trans ((sU_k _ _ _ _ (by omega)).trans ((sU_k _ _ _ _ (by omega)).trans (sU_k _ _ _ _ (by omega)))))))) dX3_payOut_148 ?_
          refine lv_iload hx hb dX3_payOut_149 (lv_at hl 0 rfl) ?_
          refine lv_isub hx hb dX3_payOut_151 ?_
          exact kx_retI hQ hx hb hr hlk hw hS (Nat.le_of_ble_eq_true rfl) (Nat.le_of_ble_eq_true rfl) dX3_payOut_152 (kd_i (trivial) ((rv_0 h0).trans (by simp only [hcl_x]; rfl)) ((mk_0 h0).trans (by simp only [hcl_x, hcl_y]; rfl)))
        refine lv_icmp_ge (tgt := 99) hx hb dX3_payOut_87 (by decide) (fun c_87 => ?_) (fun c_87 => ?_)
        · refine lv_iconst (v := 5) hx hb dX3_payOut_99 (by decide) ?_
          exact kx_top (v := (if (5 : Int32) ≤ (g 70 i_x) then (5 : Int32) else (g 70 i_x))) (by first | (simp only [bq, decide_eq_true c_87, if_pos c_87]; done) | (simp only [bq, decide_eq_true c_87, if_pos c_87]; rfl) | (simp [bq, decide_eq_true c_87, if_pos c_87]; done)) (hj_100_2 _ _ _ hw hS hl)
        · refine lv_aload_n hx hb dX3_payOut_90 rfl (lv_at hl 1 rfl) ?_
          refine kx_getM (v := .ref (ad 70)) hx hb hts hown hG hw i3 20 (by decide) f_63 rfl dX3_payOut_91 ?_
          refine lv_iload_n hx hb dX3_payOut_94 rfl (lv_at hl 2 rfl) ?_
          refine kx_iald (v := (g 70 i_x)) hx hb hG hw (kC_I rfl) i_x (nI_clamp (by omega)) (vp_in_nI (by omega) (by decide)) (sU_k _ _ _ _ (by omega)) dX3_payOut_95 ?_
          refine lv_goto (tgt := 100) hx hb dX3_payOut_96 (by decide) ?_
          exact kx_top (v := (if (5 : Int32) ≤ (g 70 i_x) then (5 : Int32) else (g 70 i_x))) (by first | (simp only [bq, decide_eq_false c_87, if_neg c_87]; done) | (simp only [bq, decide_eq_false c_87, if_neg c_87]; rfl) | (simp [bq, decide_eq_false c_87, if_neg c_87]; done)) (hj_100_2 _ _ _ hw hS hl)
      · have h0 : ¬ kd2 (isF n x && isF nc y) (decide (g 65 x.toNatClampNeg = 4) && ((!decide (365 < g 9 1 - g 71 x.toNatClampNeg)) && mServe g nc x.toNatClampNeg y.toNatClampNeg)) = 0 := of_decide_eq_false c_75
        refine lv_iconst (v := 0) hx hb dX3_payOut_78 (by decide) ?_
        exact kx_retI hQ hx hb hr hlk hw hS (Nat.le_of_ble_eq_true rfl) (Nat.le_of_ble_eq_true rfl) dX3_payOut_79 (kd_i (trivial) (rv_n h0) (mk_n h0))
    refine kb_ne (tgt := 31) hx hb dX3_payOut_24 (by decide) (fun c_24 => ?_) (fun c_24 => ?_)
    · have v_x : vp_in x 30 := isF_vp (and_l (c_24)) hn30 (by decide)
      have w_x : x.toNatClampNeg < n := isF_lt (and_l (c_24)) hn30
      have v_y : vp_in y 20 := isF_vp (and_r (c_24)) hc20 (by decide)
      have w_y : y.toNatClampNeg < nc := isF_lt (and_r (c_24)) (Nat.le_trans hc20 (by decide))
      refine lv_aload_n hx hb dX3_payOut_31 rfl (lv_at hl 1 rfl) ?_
      refine kx_getM (v := .ref (ad 65)) hx hb hts hown hG hw i3 15 (by decide) f_47 rfl dX3_payOut_32 ?_
      refine lv_iload_n hx hb dX3_payOut_35 rfl (lv_at hl 2 rfl) ?_
      refine kx_iald (v := (g 65 x.toNatClampNeg)) hx hb hG hw (kC_I rfl) x.toNatClampNeg rfl (by first | assumption | exact ix_of (by assumption) (by assumption) rfl (by decide)) rfl dX3_payOut_36 ?_
      refine lv_iconst (v := 4) hx hb dX3_payOut_37 (by decide) ?_
      refine lv_icmp_ne (tgt := 67) hx hb dX3_payOut_38 (by decide) (fun c_38 => ?_) (fun c_38 => ?_)
      · refine lv_iconst (v := 2) hx hb dX3_payOut_67 (by decide) ?_
        refine lv_goto (tgt := 72) hx hb dX3_payOut_68 (by decide) ?_
        exact kx_top (v := (kd2 (isF n x && isF nc y) (decide (g 65 x.toNatClampNeg = 4) && ((!decide (365 < g 9 1 - g 71 x.toNatClampNeg)) && mServe g nc x.toNatClampNeg y.toNatClampNeg)))) (by first | (simp only [bq, c_24, decide_eq_false c_38, if_neg c_38]; done) | (simp only [bq, c_24, decide_eq_false c_38, if_neg c_38]; rfl) | (simp [bq, c_24, decide_eq_false c_38, if_neg c_38]; done)) (hj_72_1 _ _ _ hw hS hl)
      · refine lv_aload_n hx hb dX3_payOut_41 rfl (lv_at hl 1 rfl) ?_
        refine kx_getM (v := .int (g 9 1)) hx hb hts hown hG hw i3 1 (by decide) f_136 rfl dX3_payOut_42 ?_
        refine lv_aload_n hx hb dX3_payOut_45 rfl (lv_at hl 1 rfl) ?_
        refine kx_getM (v := .ref (ad 71)) hx hb hts hown hG hw i3 21 (by decide) f_66 rfl dX3_payOut_46 ?_
        refine lv_iload_n hx hb dX3_payOut_49 rfl (lv_at hl 2 rfl) ?_
        refine kx_iald (v := (g 71 x.toNatClampNeg)) hx hb hG hw (kC_I rfl) x.toNatClampNeg rfl (by first | assumption | exact ix_of (by assumption) (by assumption) rfl (by decide)) rfl dX3_payOut_50 ?_
        refine lv_isub hx hb dX3_payOut_51 ?_
        refine lv_sipush (v := 365) hx hb dX3_payOut_52 (by decide) ?_
        refine lv_icmp_gt (tgt := 67) hx hb dX3_payOut_55 (by decide) (fun c_55 => ?_) (fun c_55 => ?_)
        · refine lv_iconst (v := 2) hx hb dX3_payOut_67 (by decide) ?_
          refine lv_goto (tgt := 72) hx hb dX3_payOut_68 (by decide) ?_
          exact kx_top (v := (kd2 (isF n x && isF nc y) (decide (g 65 x.toNatClampNeg = 4) && ((!decide (365 < g 9 1 - g 71 x.toNatClampNeg)) && mServe g nc x.toNatClampNeg y.toNatClampNeg)))) (by first | (simp only [bq, c_24, decide_eq_true c_38, if_pos c_38, decide_eq_true c_55, if_pos c_55]; done) | (simp only [bq, c_24, decide_eq_true c_38, if_pos c_38, decide_eq_true c_55, if_pos c_55]; rfl) | (simp [bq, c_24, decide_eq_true c_38, if_pos c_38, decide_eq_true c_55, if_pos c_55]; done)) (hj_72_1 _ _ _ hw hS hl)
        · refine lv_aload_n hx hb dX3_payOut_58 rfl (lv_at hl 1 rfl) ?_
          refine lv_iload_n hx hb dX3_payOut_59 rfl (lv_at hl 2 rfl) ?_
          refine lv_iload_n hx hb dX3_payOut_60 rfl (lv_at hl 3 rfl) ?_
          refine W.eq (g2 := F0 m 61 ls [.int (nI (y.toNatClampNeg)), .int (nI (x.toNatClampNeg)), .ref (ad 9), .ref (ad 9)]) (by rw [nI_cl (x := x) (by assumption), nI_cl (x := y) (by assumption)]) ?_
          refine kx_do0 (st1 := [.int (b2 (mServe g nc (x.toNatClampNeg) (y.toNatClampNeg))), .ref (ad 9)]) (kx_cv (As := [.int (nI (x.toNatClampNeg)), .int (nI (y.toNatClampNeg))]) (rest := [.ref (ad 9)]) hF hG hw hS hl.1 kC_9 rfl (c_X3_canServe l hfl D cy base ad n nc g (x.toNatClampNeg) (y.toNatClampNeg) (by first | assumption | omega | exact mR_9 (by assumption) _ _ | simp [sU, hfn, hcn, hR]) (by first | assumption | omega | exact mR_9 (by assumption) _ _ | simp [sU, hfn, hcn, hR]) (by first | assumption | omega | exact mR_9 (by assumption) _ _ | simp [sU, hfn, hcn, hR]) (by first | assumption | omega | exact mR_9 (by assumption) _ _ | simp [sU, hfn, hcn, hR])) gX3_payOut_X3_canServe rfl rfl rfl hd_X3_canServe ⟨Nat.le_of_ble_eq_true rfl, Nat.le_of_ble_eq_true rfl⟩ rfl rfl (Nat.le_of_ble_eq_true rfl) dX3_payOut_61 ⟨Nat.le_of_ble_eq_true rfl, Nat.le_of_ble_eq_true rfl⟩) hS rfl (fun H locs hw hS => ?_)
          refine kb_ne (tgt := 71) hx hb dX3_payOut_64 (by decide) (fun c_64 => ?_) (fun c_64 => ?_)
          · refine lv_iconst (v := 0) hx hb dX3_payOut_71 (by decide) ?_
            exact kx_top (v := (kd2 (isF n x && isF nc y) (decide (g 65 x.toNatClampNeg = 4) && ((!decide (365 < g 9 1 - g 71 x.toNatClampNeg)) && mServe g nc x.toNatClampNeg y.toNatClampNeg)))) (by first | (simp only [bq, c_24, decide_eq_true c_38, if_pos c_38, decide_eq_false c_55, if_neg c_55, c_64]; done) | (simp only [bq, c_24, decide_eq_true c_38, if_pos c_38, decide_eq_false c_55, if_neg c_55, c_64]; rfl) | (simp [bq, c_24, decide_eq_true c_38, if_pos c_38, decide_eq_false c_55, if_neg c_55, c_64]; done)) (hj_72_1 _ _ _ hw hS hl)
          · refine lv_iconst (v := 2) hx hb dX3_payOut_67 (by decide) ?_
            refine lv_goto (tgt := 72) hx hb dX3_payOut_68 (by decide) ?_
            exact kx_top (v := (kd2 (isF n x && isF nc y) (decide (g 65 x.toNatClampNeg = 4) && ((!decide (365 < g 9 1 - g 71 x.toNatClampNeg)) && mServe g nc x.toNatClampNeg y.toNatClampNeg)))) (by first | (simp only [bq, c_24, decide_eq_true c_38, if_pos c_38, decide_eq_false c_55, if_neg c_55, c_64]; done) | (simp only [bq, c_24, decide_eq_true c_38, if_pos c_38, decide_eq_false c_55, if_neg c_55, c_64]; rfl) | (simp [bq, c_24, decide_eq_true c_38, if_pos c_38, decide_eq_false c_55, if_neg c_55, c_64]; done)) (hj_72_1 _ _ _ hw hS hl)
    · refine lv_iconst (v := 1) hx hb dX3_payOut_27 (by decide) ?_
      refine lv_goto (tgt := 72) hx hb dX3_payOut_28 (by decide) ?_
      exact kx_top (v := (kd2 (isF n x && isF nc y) (decide (g 65 x.toNatClampNeg = 4) && ((!decide (365 < g 9 1 - g 71 x.toNatClampNeg)) && mServe g nc x.toNatClampNeg y.toNatClampNeg)))) (by first | (simp only [bq, c_24]; done) | (simp only [bq, c_24]; rfl) | (simp [bq, c_24]; done)) (hj_72_1 _ _ _ hw hS hl)
  refine kb_eq (tgt := 20) hx hb dX3_payOut_5 (by decide) (fun c_5 => ?_) (fun c_5 => ?_)
  · refine lv_iconst (v := 0) hx hb dX3_payOut_20 (by decide) ?_
    exact kx_top (v := (b2 ((isF n x) && (isF nc y)))) (by first | (simp only [bq, c_5]; done) | (simp only [bq, c_5]; rfl) | (simp [bq, c_5]; done)) (hj_21_0 _ _ _ hw hS hl)
  · have v_x : vp_in x 30 := isF_vp (c_5) hn30 (by decide)
    have w_x : x.toNatClampNeg < n := isF_lt (c_5) hn30
    refine lv_aload_n hx hb dX3_payOut_8 rfl (lv_at hl 0 rfl) ?_
    refine lv_iload_n hx hb dX3_payOut_9 rfl (lv_at hl 2 rfl) ?_
    refine kx_do0 (st1 := [.int (b2 (isF nc y))]) (kx_cv (As := [.int y]) (rest := []) hF hG hw hS hl.1 kC_9 rfl (c_X3_isClaim l hfl D cy base ad n nc g y (by first | assumption | omega | exact mR_9 (by assumption) _ _ | simp [sU, hfn, hcn, hR])) gX3_payOut_X3_isClaim rfl rfl rfl hd_X3_isClaim ⟨Nat.le_of_ble_eq_true rfl, Nat.le_of_ble_eq_true rfl⟩ rfl rfl (Nat.le_of_ble_eq_true rfl) dX3_payOut_10 ⟨Nat.le_of_ble_eq_true rfl, Nat.le_of_ble_eq_true rfl⟩) hS rfl (fun H locs hw hS => ?_)
    refine kb_eq (tgt := 20) hx hb dX3_payOut_13 (by decide) (fun c_13 => ?_) (fun c_13 => ?_)
    · refine lv_iconst (v := 0) hx hb dX3_payOut_20 (by decide) ?_
      exact kx_top (v := (b2 ((isF n x) && (isF nc y)))) (by first | (simp only [bq, c_5, c_13]; done) | (simp only [bq, c_5, c_13]; rfl) | (simp [bq, c_5, c_13]; done)) (hj_21_0 _ _ _ hw hS hl)
    · have v_y : vp_in y 20 := isF_vp (c_13) hc20 (by decide)
      have w_y : y.toNatClampNeg < nc := isF_lt (c_13) (Nat.le_trans hc20 (by decide))
      refine lv_iconst (v := 1) hx hb dX3_payOut_16 (by decide) ?_
      refine lv_goto (tgt := 21) hx hb dX3_payOut_17 (by decide) ?_
      exact kx_top (v := (b2 ((isF n x) && (isF nc y)))) (by first | (simp only [bq, c_5, c_13]; done) | (simp only [bq, c_5, c_13]; rfl) | (simp [bq, c_5, c_13]; done)) (hj_21_0 _ _ _ hw hS hl)
theorem hd_X3_begins : yX3_begins.cls = RX3 ∧ yX3_begins.cls ≠ "java/lang/invoke/MethodHandle" ∧ yX3_begins.cls ≠ "java/lang/invoke/VarHandle" ∧ (parseMethodDescriptor yX3_begins.desc).map (fun d => d.parameters.length) = some 0 := by decide +kernel
set_option maxHeartbeats 4000000 in
set_option maxRecDepth 100000 in
theorem c_X3_begins (l : Launch) (hfl : l.stackTraces = false) (D : va_G) (cy : Nat → ClassId) (base : Nat) (ad : Nat → Nat) (n nc : Nat) (g : sg) (hfn : g 9 8 = nI n) (hcn : g 9 25 = nI nc) (hh : ∀ i, i < n → ∃ h : Nat, h ≤ 12 ∧ g 72 i = nI h) : kM l yX3_begins wsX3_begins (kR 2 0 0) D cy base ad n nc g [.ref (ad 9)] (kD True none ad n nc (mDay g n nc)) kNo 0 0 := by
  refine kx_meth (cc := cX3_begins) (maxL := 3) (ret := none) (by decide) rfl (Nat.le_of_ble_eq_true rfl) ?_
  intro p e s m args below meth c ls hx hb hr hml hown hts hlk hT hG hw0 hS0 hl Q H locs hQ hw hS hH0 hlocs0
  have hl : lv_has ls 3 [(0, .ref (ad 9))] := hl
  have hown : s.vm.findClass RX3 = some m.cls := hown
  have hF : CallFix p m c cX3_begins 3 s args wsX3_begins RX3 := ⟨hx, hb, hml, hown, hts⟩
  have hn30 : n ≤ 30 := hw.2.2.1
  have hc20 : nc ≤ 20 := hw.2.2.2
  clear hw0 hS0 hH0 hlocs0
  have i3 : ∀ w ∈ wsX30, w ∈ wsX3_begins := by decide +kernel
  have f_47 := hts (.fieldLink RX3 47 "LostroomModel" "states" "[I") (by decide +kernel)
  have f_53 := hts (.fieldLink RX3 53 "LostroomModel" "goesTo" "[I") (by decide +kernel)
  have f_90 := hts (.fieldLink RX3 90 "LostroomModel" "said" "[I") (by decide +kernel)
  have f_93 := hts (.fieldLink RX3 93 "LostroomModel" "tolds" "[I") (by decide +kernel)
  have f_96 := hts (.fieldLink RX3 96 "LostroomModel" "claimState" "[I") (by decide +kernel)
  have f_99 := hts (.fieldLink RX3 99 "LostroomModel" "endedOn" "[I") (by decide +kernel)
  have f_113 := hts (.fieldLink RX3 113 "LostroomModel" "finds" "I") (by decide +kernel)
  have f_116 := hts (.fieldLink RX3 116 "LostroomModel" "claims" "I") (by decide +kernel)
  have f_136 := hts (.fieldLink RX3 136 "LostroomModel" "today" "I") (by decide +kernel)
  refine lv_aload_n hx hb dX3_begins_0 rfl (lv_at hl 0 rfl) ?_
  refine lv_dup hx hb dX3_begins_1 rfl ?_
  refine kx_getM (v := .int (g 9 1)) hx hb hts hown hG hw i3 1 (by decide) f_136 rfl dX3_begins_2 ?_
  refine lv_iconst (v := 1) hx hb dX3_begins_5 (by decide) ?_
  refine lv_iadd hx hb dX3_begins_6 ?_
  refine kx_putM (v := ((g 9 1) + (1 : Int32))) hx hb hts hown hG hw hS i3 1 (by decide) f_136 (by decide) rfl rfl rfl dX3_begins_7 (fun H locs hw hS => ?_)
  refine lv_iconst (v := 0) hx hb dX3_begins_10 (by decide) ?_
  refine lv_istore_n (lv' := [(1, .int (0 : Int32)), (0, .ref (ad 9))]) hx hb dX3_begins_11 rfl hl (by decide) rfl (fun ls hl => ?_)
  have lp_12 : ∀ (nn k : Nat), k ≤ n → n < k + nn → ∀ (H : Heap) (locs : List Loc) (ls : Array Slot), kW D cy base ad n nc (mBag (sU g 9 1 (g 9 1 + (1 : Int32))) k) H → va_S (kA base) s.heap H locs → lv_has ls 3 [(1, .int (nI k)), (0, .ref (ad 9))] → W p l e (kR 2 0 0) s m args below meth c H locs 0 0 Q (F0 m 12 ls []) := by
    intro nn
    induction nn with
    | zero => intro k h1 h2; exact absurd h2 (by omega)
    | succ nn ih_12 =>
      intro k hk_k hkn_k H locs ls hw hS hl
      refine lv_iload_n hx hb dX3_begins_12 rfl (lv_at hl 0 rfl) ?_
      refine lv_aload_n hx hb dX3_begins_13 rfl (lv_at hl 1 rfl) ?_
      refine kx_getM (v := .int (nI n)) hx hb hts hown hG hw i3 8 (by decide) f_113 (congrArg Value.int ((by rw [mBag_row _ _ (by decide)]; simp [sU, hfn]))) dX3_begins_14 ?_
      refine lv_icmp_ge (tgt := 47) hx hb dX3_begins_17 (by decide) (fun c_17 => ?_) (fun c_17 => ?_)
      · have e_k : k = n := Nat.le_antisymm hk_k (le_nI (a := n) (b := k) c_17 (by omega) (by omega))
        refine lv_iconst (v := 0) hx hb dX3_begins_47 (by decide) ?_
        refine lv_istore_n (lv' := [(1, .int (0 : Int32)), (0, .ref (ad 9))]) hx hb dX3_begins_48 rfl hl (by decide) rfl (fun ls hl => ?_)
        have lp_49 : ∀ (nn k : Nat), k ≤ nc → nc < k + nn → ∀ (H : Heap) (locs : List Loc) (ls : Array Slot), kW D cy base ad n nc (mEr (mBag (sU g 9 1 (g 9 1 + (1 : Int32))) n) k) H → va_S (kA base) s.heap H locs → lv_has ls 3 [(1, .int (nI k)), (0, .ref (ad 9))] → W p l e (kR 2 0 0) s m args below meth c H locs 0 0 Q (F0 m 49 ls []) := by
          intro nn
          induction nn with
          | zero => intro k h1 h2; exact absurd h2 (by omega)
          | succ nn ih_49 =>
            intro k hk_k hkn_k H locs ls hw hS hl
            refine lv_iload_n hx hb dX3_begins_49 rfl (lv_at hl 0 rfl) ?_
            refine lv_aload_n hx hb dX3_begins_50 rfl (lv_at hl 1 rfl) ?_
            refine kx_getM (v := .int (nI nc)) hx hb hts hown hG hw i3 25 (by decide) f_116 (congrArg Value.int ((by rw [mEr_row _ _ (by decide), mBag_row _ _ (by decide)]; simp [sU, hcn]))) dX3_begins_51 ?_
            refine lv_icmp_ge (tgt := 165) hx hb dX3_begins_54 (by decide) (fun c_54 => ?_) (fun c_54 => ?_)
            · have e_k : k = nc := Nat.le_antisymm hk_k (le_nI (a := nc) (b := k) c_54 (by omega) (by omega))
              exact kx_retV hQ hx hb hr hlk hw hS (Nat.le_of_ble_eq_true rfl) (Nat.le_of_ble_eq_true rfl) dX3_begins_165 (kd_v (trivial) (by rw [e_k]; rfl))
            · have hlt_k : k < nc := lt_nI (a := nc) (b := k) c_54 (by omega) (by omega)
              refine lv_aload_n hx hb dX3_begins_57 rfl (lv_at hl 1 rfl) ?_
              refine kx_getM (v := .ref (ad 82)) hx hb hts hown hG hw i3 32 (by decide) f_96 rfl dX3_begins_58 ?_
              refine lv_iload_n hx hb dX3_begins_61 rfl (lv_at hl 0 rfl) ?_
              refine kx_iald (v := ((mEr (mBag (sU g 9 1 (g 9 1 + (1 : Int32))) n) k) 82 k)) hx hb hG hw (kC_I rfl) k (nI_clamp (by omega)) (vp_in_nI (by omega) (by decide)) rfl dX3_begins_62 ?_
              refine lv_iconst (v := 1) hx hb dX3_begins_63 (by decide) ?_
              have hj_98_0 : ∀ (H : Heap) (locs : List Loc) (ls : Array Slot), kW D cy base ad n nc (mEr (mBag (sU g 9 1 (g 9 1 + (1 : Int32))) n) k) H → va_S (kA base) s.heap H locs → lv_has ls 3 [(1, .int (nI k)), (0, .ref (ad 9))] → W p l e (kR 2 0 0) s m args below meth c H locs 0 0 Q (F0 m 98 ls [.int (b2 (bif (decide (((mEr (mBag (sU g 9 1 (g 9 1 + (1 : Int32))) n) k) 82 k) = (1 : Int32))) then !(decide ((((mEr (mBag (sU g 9 1 (g 9 1 + (1 : Int32))) n) k) 9 1) - ((mEr (mBag (sU g 9 1 (g 9 1 + (1 : Int32))) n) k) 83 k)) < (90 : Int32))) else (decide (((mEr (mBag (sU g 9 1 (g 9 1 + (1 : Int32))) n) k) 82 k) = (2 : Int32))) && (!(decide ((((mEr (mBag (sU g 9 1 (g 9 1 + (1 : Int32))) n) k) 9 1) - ((mEr (mBag (sU g 9 1 (g 9 1 + (1 : Int32))) n) k) 83 k)) < (90 : Int32))))))]) := by
                intro H locs ls hw hS hl
                refine lv_istore_n (lv' := [(2, .int (b2 (bif (decide (((mEr (mBag (sU g 9 1 (g 9 1 + (1 : Int32))) n) k) 82 k) = (1 : Int32))) then !(decide ((((mEr (mBag (sU g 9 1 (g 9 1 + (1 : Int32))) n) k) 9 1) - ((mEr (mBag (sU g 9 1 (g 9 1 + (1 : Int32))) n) k) 83 k)) < (90 : Int32))) else (decide (((mEr (mBag (sU g 9 1 (g 9 1 + (1 : Int32))) n) k) 82 k) = (2 : Int32))) && (!(decide ((((mEr (mBag (sU g 9 1 (g 9 1 + (1 : Int32))) n) k) 9 1) - ((mEr (mBag (sU g 9 1 (g 9 1 + (1 : Int32))) n) k) 83 k)) < (90 : Int32))))))), (1, .int (nI k)), (0, .ref (ad 9))]) hx hb dX3_begins_98 rfl hl (by decide) rfl (fun ls hl => ?_)
                refine lv_aload_n hx hb dX3_begins_99 rfl (lv_at hl 2 rfl) ?_
                refine kx_getM (v := .ref (ad 82)) hx hb hts hown hG hw i3 32 (by decide) f_96 rfl dX3_begins_100 ?_
                refine lv_iload_n hx hb dX3_begins_103 rfl (lv_at hl 1 rfl) ?_
                refine lv_iload_n hx hb dX3_begins_104 rfl (lv_at hl 0 rfl) ?_
                have hj_118_1 : ∀ (H : Heap) (locs : List Loc) (ls : Array Slot), kW D cy base ad n nc (mEr (mBag (sU g 9 1 (g 9 1 + (1 : Int32))) n) k) H → va_S (kA base) s.heap H locs → lv_has ls 3 [(2, .int (b2 (bif (decide (((mEr (mBag (sU g 9 1 (g 9 1 + (1 : Int32))) n) k) 82 k) = (1 : Int32))) then !(decide ((((mEr (mBag (sU g 9 1 (g 9 1 + (1 : Int32))) n) k) 9 1) - ((mEr (mBag (sU g 9 1 (g 9 1 + (1 : Int32))) n) k) 83 k)) < (90 : Int32))) else (decide (((mEr (mBag (sU g 9 1 (g 9 1 + (1 : Int32))) n) k) 82 k) = (2 : Int32))) && (!(decide ((((mEr (mBag (sU g 9 1 (g 9 1 + (1 : Int32))) n) k) 9 1) - ((mEr (mBag (sU g 9 1 (g 9 1 + (1 : Int32))) n) k) 83 k)) < (90 : Int32))))))), (1, .int (nI k)), (0, .ref (ad 9))] → W p l e (kR 2 0 0) s m args below meth c H locs 0 0 Q (F0 m 118 ls [.int (if (bif (decide (((mEr (mBag (sU g 9 1 (g 9 1 + (1 : Int32))) n) k) 82 k) = (1 : Int32))) then !(decide ((((mEr (mBag (sU g 9 1 (g 9 1 + (1 : Int32))) n) k) 9 1) - ((mEr (mBag (sU g 9 1 (g 9 1 + (1 : Int32))) n) k) 83 k)) < (90 : Int32))) else (decide (((mEr (mBag (sU g 9 1 (g 9 1 + (1 : Int32))) n) k) 82 k) = (2 : Int32))) && (!(decide ((((mEr (mBag (sU g 9 1 (g 9 1 + (1 : Int32))) n) k) 9 1) - ((mEr (mBag (sU g 9 1 (g 9 1 + (1 : Int32))) n) k) 83 k)) < (90 : Int32))))) = true then (3 : Int32) else ((mEr (mBag (sU g 9 1 (g 9 1 + (1 : Int32))) n) k) 82 k)), .int (nI k), .ref (ad 82)]) := by
                  intro H locs ls hw hS hl
                  refine kx_iast hx hb hG hw hS (fun _ => (kC_I rfl)) k (nI_clamp (by omega)) (vp_in_nI (by omega) (by decide)) dX3_begins_118 (fun H locs hw hS => ?_)
                  refine lv_aload_n hx hb dX3_begins_119 rfl (lv_at hl 2 rfl) ?_
                  refine kx_getM (v := .ref (ad 80)) hx hb hts hown hG hw i3 30 (by decide) f_90 rfl dX3_begins_120 ?_
                  refine lv_iload_n hx hb dX3_begins_123 rfl (lv_at hl 1 rfl) ?_
                  refine lv_iload_n hx hb dX3_begins_124 rfl (lv_at hl 0 rfl) ?_
                  have hj_138_2 : ∀ (H : Heap) (locs : List Loc) (ls : Array Slot), kW D cy base ad n nc (sU (mEr (mBag (sU g 9 1 (g 9 1 + (1 : Int32))) n) k) 82 k (if (bif (decide (((mEr (mBag (sU g 9 1 (g 9 1 + (1 : Int32))) n) k) 82 k) = (1 : Int32))) then !(decide ((((mEr (mBag (sU g 9 1 (g 9 1 + (1 : Int32))) n) k) 9 1) - ((mEr (mBag (sU g 9 1 (g 9 1 + (1 : Int32))) n) k) 83 k)) < (90 : Int32))) else (decide (((mEr (mBag (sU g 9 1 (g 9 1 + (1 : Int32))) n) k) 82 k) = (2 : Int32))) && (!(decide ((((mEr (mBag (sU g 9 1 (g 9 1 + (1 : Int32))) n) k) 9 1) - ((mEr (mBag (sU g 9 1 (g 9 1 + (1 : Int32))) n) k) 83 k)) < (90 : Int32))))) = true then (3 : Int32) else ((mEr (mBag (sU g 9 1 (g 9 1 + (1 : Int32))) n) k) 82 k))) H → va_S (kA base) s.heap H locs → lv_has ls 3 [(2, .int (b2 (bif (decide (((mEr (mBag (sU g 9 1 (g 9 1 + (1 : Int32))) n) k) 82 k) = (1 : Int32))) then !(decide ((((mEr (mBag (sU g 9 1 (g 9 1 + (1 : Int32))) n) k) 9 1) - ((mEr (mBag (sU g 9 1 (g 9 1 + (1 : Int32))) n) k) 83 k)) < (90 : Int32))) else (decide (((mEr (mBag (sU g 9 1 (g 9 1 + (1 : Int32))) n) k) 82 k) = (2 : Int32))) && (!(decide ((((mEr (mBag (sU g 9 1 (g 9 1 + (1 : Int32))) n) k) 9 1) - ((mEr (mBag (sU g 9 1 (g 9 1 + (1 : Int32))) n) k) 83 k)) < (90 : Int32))))))), (1, .int (nI k)), (0, .ref (ad 9))] → W p l e (kR 2 0 0) s m args below meth c H locs 0 0 Q (F0 m 138 ls [.int (if (bif (decide (((mEr (mBag (sU g 9 1 (g 9 1 + (1 : Int32))) n) k) 82 k) = (1 : Int32))) then !(decide ((((mEr (mBag (sU g 9 1 (g 9 1 + (1 : Int32))) n) k) 9 1) - ((mEr (mBag (sU g 9 1 (g 9 1 + (1 : Int32))) n) k) 83 k)) < (90 : Int32))) else (decide (((mEr (mBag (sU g 9 1 (g 9 1 + (1 : Int32))) n) k) 82 k) = (2 : Int32))) && (!(decide ((((mEr (mBag (sU g 9 1 (g 9 1 + (1 : Int32))) n) k) 9 1) - ((mEr (mBag (sU g 9 1 (g 9 1 + (1 : Int32))) n) k) 83 k)) < (90 : Int32))))) = true then (0 : Int32) else ((mEr (mBag (sU g 9 1 (g 9 1 + (1 : Int32))) n) k) 80 k)), .int (nI k), .ref (ad 80)]) := by
                    intro H locs ls hw hS hl
                    refine kx_iast hx hb hG hw hS (fun _ => (kC_I rfl)) k (nI_clamp (by omega)) (vp_in_nI (by omega) (by decide)) dX3_begins_138 (fun H locs hw hS => ?_)
                    refine lv_aload_n hx hb dX3_begins_139 rfl (lv_at hl 2 rfl) ?_
                    refine kx_getM (v := .ref (ad 81)) hx hb hts hown hG hw i3 31 (by decide) f_93 rfl dX3_begins_140 ?_
                    refine lv_iload_n hx hb dX3_begins_143 rfl (lv_at hl 1 rfl) ?_
                    refine lv_iload_n hx hb dX3_begins_144 rfl (lv_at hl 0 rfl) ?_
                    have hj_158_3 : ∀ (H : Heap) (locs : List Loc) (ls : Array Slot), kW D cy base ad n nc (sU (sU (mEr (mBag (sU g 9 1 (g 9 1 + (1 : Int32))) n) k) 82 k (if (bif (decide (((mEr (mBag (sU g 9 1 (g 9 1 + (1 : Int32))) n) k) 82 k) = (1 : Int32))) then !(decide ((((mEr (mBag (sU g 9 1 (g 9 1 + (1 : Int32))) n) k) 9 1) - ((mEr (mBag (sU g 9 1 (g 9 1 + (1 : Int32))) n) k) 83 k)) < (90 : Int32))) else (decide (((mEr (mBag (sU g 9 1 (g 9 1 + (1 : Int32))) n) k) 82 k) = (2 : Int32))) && (!(decide ((((mEr (mBag (sU g 9 1 (g 9 1 + (1 : Int32))) n) k) 9 1) - ((mEr (mBag (sU g 9 1 (g 9 1 + (1 : Int32))) n) k) 83 k)) < (90 : Int32))))) = true then (3 : Int32) else ((mEr (mBag (sU g 9 1 (g 9 1 + (1 : Int32))) n) k) 82 k))) 80 k (if (bif (decide (((mEr (mBag (sU g 9 1 (g 9 1 + (1 : Int32))) n) k) 82 k) = (1 : Int32))) then !(decide ((((mEr (mBag (sU g 9 1 (g 9 1 + (1 : Int32))) n) k) 9 1) - ((mEr (mBag (sU g 9 1 (g 9 1 + (1 : Int32))) n) k) 83 k)) < (90 : Int32))) else (decide (((mEr (mBag (sU g 9 1 (g 9 1 + (1 : Int32))) n) k) 82 k) = (2 : Int32))) && (!(decide ((((mEr (mBag (sU g 9 1 (g 9 1 + (1 : Int32))) n) k) 9 1) - ((mEr (mBag (sU g 9 1 (g 9 1 + (1 : Int32))) n) k) 83 k)) < (90 : Int32))))) = true then (0 : Int32) else ((mEr (mBag (sU g 9 1 (g 9 1 + (1 : Int32))) n) k) 80 k))) H → va_S (kA base) s.heap H locs → lv_has ls 3 [(2, .int (b2 (bif (decide (((mEr (mBag (sU g 9 1 (g 9 1 + (1 : Int32))) n) k) 82 k) = (1 : Int32))) then !(decide ((((mEr (mBag (sU g 9 1 (g 9 1 + (1 : Int32))) n) k) 9 1) - ((mEr (mBag (sU g 9 1 (g 9 1 + (1 : Int32))) n) k) 83 k)) < (90 : Int32))) else (decide (((mEr (mBag (sU g 9 1 (g 9 1 + (1 : Int32))) n) k) 82 k) = (2 : Int32))) && (!(decide ((((mEr (mBag (sU g 9 1 (g 9 1 + (1 : Int32))) n) k) 9 1) - ((mEr (mBag (sU g 9 1 (g 9 1 + (1 : Int32))) n) k) 83 k)) < (90 : Int32))))))), (1, .int (nI k)), (0, .ref (ad 9))] → W p l e (kR 2 0 0) s m args below meth c H locs 0 0 Q (F0 m 158 ls [.int (if (bif (decide (((mEr (mBag (sU g 9 1 (g 9 1 + (1 : Int32))) n) k) 82 k) = (1 : Int32))) then !(decide ((((mEr (mBag (sU g 9 1 (g 9 1 + (1 : Int32))) n) k) 9 1) - ((mEr (mBag (sU g 9 1 (g 9 1 + (1 : Int32))) n) k) 83 k)) < (90 : Int32))) else (decide (((mEr (mBag (sU g 9 1 (g 9 1 + (1 : Int32))) n) k) 82 k) = (2 : Int32))) && (!(decide ((((mEr (mBag (sU g 9 1 (g 9 1 + (1 : Int32))) n) k) 9 1) - ((mEr (mBag (sU g 9 1 (g 9 1 + (1 : Int32))) n) k) 83 k)) < (90 : Int32))))) = true then (0 : Int32) else ((mEr (mBag (sU g 9 1 (g 9 1 + (1 : Int32))) n) k) 81 k)), .int (nI k), .ref (ad 81)]) := by
                      intro H locs ls hw hS hl
                      refine kx_iast hx hb hG hw hS (fun _ => (kC_I rfl)) k (nI_clamp (by omega)) (vp_in_nI (by omega) (by decide)) dX3_begins_158 (fun H locs hw hS => ?_)
                      refine lv_iinc (v := (nI k + (1 : Int32))) (lv' := [(1, .int (nI k + (1 : Int32))), (2, .int (b2 (bif (decide (((mEr (mBag (sU g 9 1 (g 9 1 + (1 : Int32))) n) k) 82 k) = (1 : Int32))) then !(decide ((((mEr (mBag (sU g 9 1 (g 9 1 + (1 : Int32))) n) k) 9 1) - ((mEr (mBag (sU g 9 1 (g 9 1 + (1 : Int32))) n) k) 83 k)) < (90 : Int32))) else (decide (((mEr (mBag (sU g 9 1 (g 9 1 + (1 : Int32))) n) k) 82 k) = (2 : Int32))) && (!(decide ((((mEr (mBag (sU g 9 1 (g 9 1 + (1 : Int32))) n) k) 9 1) - ((mEr (mBag (sU g 9 1 (g 9 1 + (1 : Int32))) n) k) 83 k)) < (90 : Int32))))))), (0, .ref (ad 9))]) hx hb dX3_begins_159 hl (k := 1) rfl rfl (by decide) rfl (fun ls hl => ?_)
                      refine lv_goto (tgt := 49) hx hb dX3_begins_162 (by decide) ?_
                      exact ih_49 (k + 1) (by omega) (by omega) _ _ _ (show kW D cy base ad n nc (mEr (mBag (sU g 9 1 (g 9 1 + (1 : Int32))) n) (k + 1)) H from (show (sU (sU (sU (mEr (mBag (sU g 9 1 (g 9 1 + (1 : Int32))) n) k) 82 k (if (bif (decide (((mEr (mBag (sU g 9 1 (g 9 1 + (1 : Int32))) n) k) 82 k) = (1 : Int32))) then !(decide ((((mEr (mBag (sU g 9 1 (g 9 1 + (1 : Int32))) n) k) 9 1) - ((mEr (mBag (sU g 9 1 (g 9 1 + (1 : Int32))) n) k) 83 k)) < (90 : Int32))) else (decide (((mEr (mBag (sU g 9 1 (g 9 1 + (1 : Int32))) n) k) 82 k) = (2 : Int32))) && (!(decide ((((mEr (mBag (sU g 9 1 (g 9 1 + (1 : Int32))) n) k) 9 1) - ((mEr (mBag (sU g 9 1 (g 9 1 + (1 : Int32))) n) k) 83 k)) < (90 : Int32))))) = true then (3 : Int32) else ((mEr (mBag (sU g 9 1 (g 9 1 + (1 : Int32))) n) k) 82 k))) 80 k (if (bif (decide (((mEr (mBag (sU g 9 1 (g 9 1 + (1 : Int32))) n) k) 82 k) = (1 : Int32))) then !(decide ((((mEr (mBag (sU g 9 1 (g 9 1 + (1 : Int32))) n) k) 9 1) - ((mEr (mBag (sU g 9 1 (g 9 1 + (1 : Int32))) n) k) 83 k)) < (90 : Int32))) else (decide (((mEr (mBag (sU g 9 1 (g 9 1 + (1 : Int32))) n) k) 82 k) = (2 : Int32))) && (!(decide ((((mEr (mBag (sU g 9 1 (g 9 1 + (1 : Int32))) n) k) 9 1) - ((mEr (mBag (sU g 9 1 (g 9 1 + (1 : Int32))) n) k) 83 k)) < (90 : Int32))))) = true then (0 : Int32) else ((mEr (mBag (sU g 9 1 (g 9 1 + (1 : Int32))) n) k) 80 k))) 81 k (if (bif (decide (((mEr (mBag (sU g 9 1 (g 9 1 + (1 : Int32))) n) k) 82 k) = (1 : Int32))) then !(decide ((((mEr (mBag (sU g 9 1 (g 9 1 + (1 : Int32))) n) k) 9 1) - ((mEr (mBag (sU g 9 1 (g 9 1 + (1 : Int32))) n) k) 83 k)) < (90 : Int32))) else (decide (((mEr (mBag (sU g 9 1 (g 9 1 + (1 : Int32))) n) k) 82 k) = (2 : Int32))) && (!(decide ((((mEr (mBag (sU g 9 1 (g 9 1 + (1 : Int32))) n) k) 9 1) - ((mEr (mBag (sU g 9 1 (g 9 1 + (1 : Int32))) n) k) 83 k)) < (90 : Int32))))) = true then (0 : Int32) else ((mEr (mBag (sU g 9 1 (g 9 1 + (1 : Int32))) n) k) 81 k))) = (mEr (mBag (sU g 9 1 (g 9 1 + (1 : Int32))) n) (k + 1)) from rfl) ▸ hw) hS (kx_lv (l := [(1, .int (nI k + (1 : Int32))), (0, .ref (ad 9))]) (l' := [(1, .int (nI (k + 1))), (0, .ref (ad 9))]) (lv_sub hl [0, 2] rfl) (by rw [nI_1])) 
                    refine kb_eq (tgt := 152) hx hb dX3_begins_145 (by decide) (fun c_145 => ?_) (fun c_145 => ?_)
                    · refine lv_aload_n hx hb dX3_begins_152 rfl (lv_at hl 2 rfl) ?_
                      refine kx_getM (v := .ref (ad 81)) hx hb hts hown hG hw i3 31 (by decide) f_93 rfl dX3_begins_153 ?_
                      refine lv_iload_n hx hb dX3_begins_156 rfl (lv_at hl 1 rfl) ?_
                      refine kx_iald (v := ((mEr (mBag (sU g 9 1 (g 9 1 + (1 : Int32))) n) k) 81 k)) hx hb hG hw (kC_I rfl) k (nI_clamp (by omega)) (vp_in_nI (by omega) (by decide)) ((sU_k _ _ _ _ (by omega)).trans (sU_k _ _ _ _ (by omega))) dX3_begins_157 ?_
                      exact kx_top (v := (if (bif (decide (((mEr (mBag (sU g 9 1 (g 9 1 + (1 : Int32))) n) k) 82 k) = (1 : Int32))) then !(decide ((((mEr (mBag (sU g 9 1 (g 9 1 + (1 : Int32))) n) k) 9 1) - ((mEr (mBag (sU g 9 1 (g 9 1 + (1 : Int32))) n) k) 83 k)) < (90 : Int32))) else (decide (((mEr (mBag (sU g 9 1 (g 9 1 + (1 : Int32))) n) k) 82 k) = (2 : Int32))) && (!(decide ((((mEr (mBag (sU g 9 1 (g 9 1 + (1 : Int32))) n) k) 9 1) - ((mEr (mBag (sU g 9 1 (g 9 1 + (1 : Int32))) n) k) 83 k)) < (90 : Int32))))) = true then (0 : Int32) else ((mEr (mBag (sU g 9 1 (g 9 1 + (1 : Int32))) n) k) 81 k))) (by first | (simp only [bq, c_145]; done) | (simp only [bq, c_145]; rfl) | (simp [bq, c_145]; done)) (hj_158_3 _ _ _ hw hS hl)
                    · refine lv_iconst (v := 0) hx hb dX3_begins_148 (by decide) ?_
                      refine lv_goto (tgt := 158) hx hb dX3_begins_149 (by decide) ?_
                      exact kx_top (v := (if (bif (decide (((mEr (mBag (sU g 9 1 (g 9 1 + (1 : Int32))) n) k) 82 k) = (1 : Int32))) then !(decide ((((mEr (mBag (sU g 9 1 (g 9 1 + (1 : Int32))) n) k) 9 1) - ((mEr (mBag (sU g 9 1 (g 9 1 + (1 : Int32))) n) k) 83 k)) < (90 : Int32))) else (decide (((mEr (mBag (sU g 9 1 (g 9 1 + (1 : Int32))) n) k) 82 k) = (2 : Int32))) && (!(decide ((((mEr (mBag (sU g 9 1 (g 9 1 + (1 : Int32))) n) k) 9 1) - ((mEr (mBag (sU g 9 1 (g 9 1 + (1 : Int32))) n) k) 83 k)) < (90 : Int32))))) = true then (0 : Int32) else ((mEr (mBag (sU g 9 1 (g 9 1 + (1 : Int32))) n) k) 81 k))) (by first | (simp only [bq, c_145]; done) | (simp only [bq, c_145]; rfl) | (simp [bq, c_145]; done)) (hj_158_3 _ _ _ hw hS hl)
                  refine kb_eq (tgt := 132) hx hb dX3_begins_125 (by decide) (fun c_125 => ?_) (fun c_125 => ?_)
                  · refine lv_aload_n hx hb dX3_begins_132 rfl (lv_at hl 2 rfl) ?_
                    refine kx_getM (v := .ref (ad 80)) hx hb hts hown hG hw i3 30 (by decide) f_90 rfl dX3_begins_133 ?_
                    refine lv_iload_n hx hb dX3_begins_136 rfl (lv_at hl 1 rfl) ?_
                    refine kx_iald (v := ((mEr (mBag (sU g 9 1 (g 9 1 + (1 : Int32))) n) k) 80 k)) hx hb hG hw (kC_I rfl) k (nI_clamp (by omega)) (vp_in_nI (by omega) (by decide)) (sU_k _ _ _ _ (by omega)) dX3_begins_137 ?_
                    exact kx_top (v := (if (bif (decide (((mEr (mBag (sU g 9 1 (g 9 1 + (1 : Int32))) n) k) 82 k) = (1 : Int32))) then !(decide ((((mEr (mBag (sU g 9 1 (g 9 1 + (1 : Int32))) n) k) 9 1) - ((mEr (mBag (sU g 9 1 (g 9 1 + (1 : Int32))) n) k) 83 k)) < (90 : Int32))) else (decide (((mEr (mBag (sU g 9 1 (g 9 1 + (1 : Int32))) n) k) 82 k) = (2 : Int32))) && (!(decide ((((mEr (mBag (sU g 9 1 (g 9 1 + (1 : Int32))) n) k) 9 1) - ((mEr (mBag (sU g 9 1 (g 9 1 + (1 : Int32))) n) k) 83 k)) < (90 : Int32))))) = true then (0 : Int32) else ((mEr (mBag (sU g 9 1 (g 9 1 + (1 : Int32))) n) k) 80 k))) (by first | (simp only [bq, c_125]; done) | (simp only [bq, c_125]; rfl) | (simp [bq, c_125]; done)) (hj_138_2 _ _ _ hw hS hl)
                  · refine lv_iconst (v := 0) hx hb dX3_begins_128 (by decide) ?_
                    refine lv_goto (tgt := 138) hx hb dX3_begins_129 (by decide) ?_
                    exact kx_top (v := (if (bif (decide (((mEr (mBag (sU g 9 1 (g 9 1 + (1 : Int32))) n) k) 82 k) = (1 : Int32))) then !(decide ((((mEr (mBag (sU g 9 1 (g 9 1 + (1 : Int32))) n) k) 9 1) - ((mEr (mBag (sU g 9 1 (g 9 1 + (1 : Int32))) n) k) 83 k)) < (90 : Int32))) else (decide (((mEr (mBag (sU g 9 1 (g 9 1 + (1 : Int32))) n) k) 82 k) = (2 : Int32))) && (!(decide ((((mEr (mBag (sU g 9 1 (g 9 1 + (1 : Int32))) n) k) 9 1) - ((mEr (mBag (sU g 9 1 (g 9 1 + (1 : Int32))) n) k) 83 k)) < (90 : Int32))))) = true then (0 : Int32) else ((mEr (mBag (sU g 9 1 (g 9 1 + (1 : Int32))) n) k) 80 k))) (by first | (simp only [bq, c_125]; done) | (simp only [bq, c_125]; rfl) | (simp [bq, c_125]; done)) (hj_138_2 _ _ _ hw hS hl)
                refine kb_eq (tgt := 112) hx hb dX3_begins_105 (by decide) (fun c_105 => ?_) (fun c_105 => ?_)
                · refine lv_aload_n hx hb dX3_begins_112 rfl (lv_at hl 2 rfl) ?_
                  refine kx_getM (v := .ref (ad 82)) hx hb hts hown hG hw i3 32 (by decide) f_96 rfl dX3_begins_113 ?_
                  refine lv_iload_n hx hb dX3_begins_116 rfl (lv_at hl 1 rfl) ?_
                  refine kx_iald (v := ((mEr (mBag (sU g 9 1 (g 9 1 + (1 : Int32))) n) k) 82 k)) hx hb hG hw (kC_I rfl) k (nI_clamp (by omega)) (vp_in_nI (by omega) (by decide)) rfl dX3_begins_117 ?_
                  exact kx_top (v := (if (bif (decide (((mEr (mBag (sU g 9 1 (g 9 1 + (1 : Int32))) n) k) 82 k) = (1 : Int32))) then !(decide ((((mEr (mBag (sU g 9 1 (g 9 1 + (1 : Int32))) n) k) 9 1) - ((mEr (mBag (sU g 9 1 (g 9 1 + (1 : Int32))) n) k) 83 k)) < (90 : Int32))) else (decide (((mEr (mBag (sU g 9 1 (g 9 1 + (1 : Int32))) n) k) 82 k) = (2 : Int32))) && (!(decide ((((mEr (mBag (sU g 9 1 (g 9 1 + (1 : Int32))) n) k) 9 1) - ((mEr (mBag (sU g 9 1 (g 9 1 + (1 : Int32))) n) k) 83 k)) < (90 : Int32))))) = true then (3 : Int32) else ((mEr (mBag (sU g 9 1 (g 9 1 + (1 : Int32))) n) k) 82 k))) (by first | (simp only [bq, c_105]; done) | (simp only [bq, c_105]; rfl) | (simp [bq, c_105]; done)) (hj_118_1 _ _ _ hw hS hl)
                · refine lv_iconst (v := 3) hx hb dX3_begins_108 (by decide) ?_
                  refine lv_goto (tgt := 118) hx hb dX3_begins_109 (by decide) ?_
                  exact kx_top (v := (if (bif (decide (((mEr (mBag (sU g 9 1 (g 9 1 + (1 : Int32))) n) k) 82 k) = (1 : Int32))) then !(decide ((((mEr (mBag (sU g 9 1 (g 9 1 + (1 : Int32))) n) k) 9 1) - ((mEr (mBag (sU g 9 1 (g 9 1 + (1 : Int32))) n) k) 83 k)) < (90 : Int32))) else (decide (((mEr (mBag (sU g 9 1 (g 9 1 + (1 : Int32))) n) k) 82 k) = (2 : Int32))) && (!(decide ((((mEr (mBag (sU g 9 1 (g 9 1 + (1 : Int32))) n) k) 9 1) - ((mEr (mBag (sU g 9 1 (g 9 1 + (1 : Int32))) n) k) 83 k)) < (90 : Int32))))) = true then (3 : Int32) else ((mEr (mBag (sU g 9 1 (g 9 1 + (1 : Int32))) n) k) 82 k))) (by first | (simp only [bq, c_105]; done) | (simp only [bq, c_105]; rfl) | (simp [bq, c_105]; done)) (hj_118_1 _ _ _ hw hS hl)
              refine lv_icmp_eq (tgt := 77) hx hb dX3_begins_64 (by decide) (fun c_64 => ?_) (fun c_64 => ?_)
              · refine lv_aload_n hx hb dX3_begins_77 rfl (lv_at hl 1 rfl) ?_
                refine kx_getM (v := .int ((mEr (mBag (sU g 9 1 (g 9 1 + (1 : Int32))) n) k) 9 1)) hx hb hts hown hG hw i3 1 (by decide) f_136 rfl dX3_begins_78 ?_
                refine lv_aload_n hx hb dX3_begins_81 rfl (lv_at hl 1 rfl) ?_
                refine kx_getM (v := .ref (ad 83)) hx hb hts hown hG hw i3 33 (by decide) f_99 rfl dX3_begins_82 ?_
                refine lv_iload_n hx hb dX3_begins_85 rfl (lv_at hl 0 rfl) ?_
                refine kx_iald (v := ((mEr (mBag (sU g 9 1 (g 9 1 + (1 : Int32))) n) k) 83 k)) hx hb hG hw (kC_I rfl) k (nI_clamp (by omega)) (vp_in_nI (by omega) (by decide)) rfl dX3_begins_86 ?_
                refine lv_isub hx hb dX3_begins_87 ?_
                refine lv_bipush (v := 90) hx hb dX3_begins_88 (by decide) ?_
                refine lv_icmp_lt (tgt := 97) hx hb dX3_begins_90 (by decide) (fun c_90 => ?_) (fun c_90 => ?_)
                · refine lv_iconst (v := 0) hx hb dX3_begins_97 (by decide) ?_
                  exact kx_top (v := (b2 (bif (decide (((mEr (mBag (sU g 9 1 (g 9 1 + (1 : Int32))) n) k) 82 k) = (1 : Int32))) then !(decide ((((mEr (mBag (sU g 9 1 (g 9 1 + (1 : Int32))) n) k) 9 1) - ((mEr (mBag (sU g 9 1 (g 9 1 + (1 : Int32))) n) k) 83 k)) < (90 : Int32))) else (decide (((mEr (mBag (sU g 9 1 (g 9 1 + (1 : Int32))) n) k) 82 k) = (2 : Int32))) && (!(decide ((((mEr (mBag (sU g 9 1 (g 9 1 + (1 : Int32))) n) k) 9 1) - ((mEr (mBag (sU g 9 1 (g 9 1 + (1 : Int32))) n) k) 83 k)) < (90 : Int32))))))) (by first | (simp only [bq, decide_eq_true c_64, if_pos c_64, decide_eq_true c_90, if_pos c_90]; done) | (simp only [bq, decide_eq_true c_64, if_pos c_64, decide_eq_true c_90, if_pos c_90]; rfl) | (simp [bq, decide_eq_true c_64, if_pos c_64, decide_eq_true c_90, if_pos c_90]; done)) (hj_98_0 _ _ _ hw hS hl)
                · refine lv_iconst (v := 1) hx hb dX3_begins_93 (by decide) ?_
                  refine lv_goto (tgt := 98) hx hb dX3_begins_94 (by decide) ?_
                  exact kx_top (v := (b2 (bif (decide (((mEr (mBag (sU g 9 1 (g 9 1 + (1 : Int32))) n) k) 82 k) = (1 : Int32))) then !(decide ((((mEr (mBag (sU g 9 1 (g 9 1 + (1 : Int32))) n) k) 9 1) - ((mEr (mBag (sU g 9 1 (g 9 1 + (1 : Int32))) n) k) 83 k)) < (90 : Int32))) else (decide (((mEr (mBag (sU g 9 1 (g 9 1 + (1 : Int32))) n) k) 82 k) = (2 : Int32))) && (!(decide ((((mEr (mBag (sU g 9 1 (g 9 1 + (1 : Int32))) n) k) 9 1) - ((mEr (mBag (sU g 9 1 (g 9 1 + (1 : Int32))) n) k) 83 k)) < (90 : Int32))))))) (by first | (simp only [bq, decide_eq_true c_64, if_pos c_64, decide_eq_false c_90, if_neg c_90]; done) | (simp only [bq, decide_eq_true c_64, if_pos c_64, decide_eq_false c_90, if_neg c_90]; rfl) | (simp [bq, decide_eq_true c_64, if_pos c_64, decide_eq_false c_90, if_neg c_90]; done)) (hj_98_0 _ _ _ hw hS hl)
              · refine lv_aload_n hx hb dX3_begins_67 rfl (lv_at hl 1 rfl) ?_
                refine kx_getM (v := .ref (ad 82)) hx hb hts hown hG hw i3 32 (by decide) f_96 rfl dX3_begins_68 ?_
                refine lv_iload_n hx hb dX3_begins_71 rfl (lv_at hl 0 rfl) ?_
                refine kx_iald (v := ((mEr (mBag (sU g 9 1 (g 9 1 + (1 : Int32))) n) k) 82 k)) hx hb hG hw (kC_I rfl) k (nI_clamp (by omega)) (vp_in_nI (by omega) (by decide)) rfl dX3_begins_72 ?_
                refine lv_iconst (v := 2) hx hb dX3_begins_73 (by decide) ?_
                refine lv_icmp_ne (tgt := 97) hx hb dX3_begins_74 (by decide) (fun c_74 => ?_) (fun c_74 => ?_)
                · refine lv_iconst (v := 0) hx hb dX3_begins_97 (by decide) ?_
                  exact kx_top (v := (b2 (bif (decide (((mEr (mBag (sU g 9 1 (g 9 1 + (1 : Int32))) n) k) 82 k) = (1 : Int32))) then !(decide ((((mEr (mBag (sU g 9 1 (g 9 1 + (1 : Int32))) n) k) 9 1) - ((mEr (mBag (sU g 9 1 (g 9 1 + (1 : Int32))) n) k) 83 k)) < (90 : Int32))) else (decide (((mEr (mBag (sU g 9 1 (g 9 1 + (1 : Int32))) n) k) 82 k) = (2 : Int32))) && (!(decide ((((mEr (mBag (sU g 9 1 (g 9 1 + (1 : Int32))) n) k) 9 1) - ((mEr (mBag (sU g 9 1 (g 9 1 + (1 : Int32))) n) k) 83 k)) < (90 : Int32))))))) (by first | (simp only [bq, decide_eq_false c_64, if_neg c_64, decide_eq_false c_74, if_neg c_74]; done) | (simp only [bq, decide_eq_false c_64, if_neg c_64, decide_eq_false c_74, if_neg c_74]; rfl) | (simp [bq, decide_eq_false c_64, if_neg c_64, decide_eq_false c_74, if_neg c_74]; done)) (hj_98_0 _ _ _ hw hS hl)
                · refine lv_aload_n hx hb dX3_begins_77 rfl (lv_at hl 1 rfl) ?_
                  refine kx_getM (v := .int ((mEr (mBag (sU g 9 1 (g 9 1 + (1 : Int32))) n) k) 9 1)) hx hb hts hown hG hw i3 1 (by decide) f_136 rfl dX3_begins_78 ?_
                  refine lv_aload_n hx hb dX3_begins_81 rfl (lv_at hl 1 rfl) ?_
                  refine kx_getM (v := .ref (ad 83)) hx hb hts hown hG hw i3 33 (by decide) f_99 rfl dX3_begins_82 ?_
                  refine lv_iload_n hx hb dX3_begins_85 rfl (lv_at hl 0 rfl) ?_
                  refine kx_iald (v := ((mEr (mBag (sU g 9 1 (g 9 1 + (1 : Int32))) n) k) 83 k)) hx hb hG hw (kC_I rfl) k (nI_clamp (by omega)) (vp_in_nI (by omega) (by decide)) rfl dX3_begins_86 ?_
                  refine lv_isub hx hb dX3_begins_87 ?_
                  refine lv_bipush (v := 90) hx hb dX3_begins_88 (by decide) ?_
                  refine lv_icmp_lt (tgt := 97) hx hb dX3_begins_90 (by decide) (fun c_90 => ?_) (fun c_90 => ?_)
                  · refine lv_iconst (v := 0) hx hb dX3_begins_97 (by decide) ?_
                    exact kx_top (v := (b2 (bif (decide (((mEr (mBag (sU g 9 1 (g 9 1 + (1 : Int32))) n) k) 82 k) = (1 : Int32))) then !(decide ((((mEr (mBag (sU g 9 1 (g 9 1 + (1 : Int32))) n) k) 9 1) - ((mEr (mBag (sU g 9 1 (g 9 1 + (1 : Int32))) n) k) 83 k)) < (90 : Int32))) else (decide (((mEr (mBag (sU g 9 1 (g 9 1 + (1 : Int32))) n) k) 82 k) = (2 : Int32))) && (!(decide ((((mEr (mBag (sU g 9 1 (g 9 1 + (1 : Int32))) n) k) 9 1) - ((mEr (mBag (sU g 9 1 (g 9 1 + (1 : Int32))) n) k) 83 k)) < (90 : Int32))))))) (by first | (simp only [bq, decide_eq_false c_64, if_neg c_64, decide_eq_true c_74, if_pos c_74, decide_eq_true c_90, if_pos c_90]; done) | (simp only [bq, decide_eq_false c_64, if_neg c_64, decide_eq_true c_74, if_pos c_74, decide_eq_true c_90, if_pos c_90]; rfl) | (simp [bq, decide_eq_false c_64, if_neg c_64, decide_eq_true c_74, if_pos c_74, decide_eq_true c_90, if_pos c_90]; done)) (hj_98_0 _ _ _ hw hS hl)
                  · refine lv_iconst (v := 1) hx hb dX3_begins_93 (by decide) ?_
                    refine lv_goto (tgt := 98) hx hb dX3_begins_94 (by decide) ?_
                    exact kx_top (v := (b2 (bif (decide (((mEr (mBag (sU g 9 1 (g 9 1 + (1 : Int32))) n) k) 82 k) = (1 : Int32))) then !(decide ((((mEr (mBag (sU g 9 1 (g 9 1 + (1 : Int32))) n) k) 9 1) - ((mEr (mBag (sU g 9 1 (g 9 1 + (1 : Int32))) n) k) 83 k)) < (90 : Int32))) else (decide (((mEr (mBag (sU g 9 1 (g 9 1 + (1 : Int32))) n) k) 82 k) = (2 : Int32))) && (!(decide ((((mEr (mBag (sU g 9 1 (g 9 1 + (1 : Int32))) n) k) 9 1) - ((mEr (mBag (sU g 9 1 (g 9 1 + (1 : Int32))) n) k) 83 k)) < (90 : Int32))))))) (by first | (simp only [bq, decide_eq_false c_64, if_neg c_64, decide_eq_true c_74, if_pos c_74, decide_eq_false c_90, if_neg c_90]; done) | (simp only [bq, decide_eq_false c_64, if_neg c_64, decide_eq_true c_74, if_pos c_74, decide_eq_false c_90, if_neg c_90]; rfl) | (simp [bq, decide_eq_false c_64, if_neg c_64, decide_eq_true c_74, if_pos c_74, decide_eq_false c_90, if_neg c_90]; done)) (hj_98_0 _ _ _ hw hS hl)
        exact lp_49 (nc + 1) 0 (by omega) (by omega) _ _ _ (by rw [e_k] at hw; exact hw) hS (kx_lv (l := [(1, .int (0 : Int32)), (0, .ref (ad 9))]) (l' := [(1, .int (nI 0)), (0, .ref (ad 9))]) (lv_sub hl [0, 1] rfl) (rfl)) 
      · have hlt_k : k < n := lt_nI (a := n) (b := k) c_17 (by omega) (by omega)
        refine lv_aload_n hx hb dX3_begins_20 rfl (lv_at hl 1 rfl) ?_
        refine kx_getM (v := .ref (ad 65)) hx hb hts hown hG hw i3 15 (by decide) f_47 rfl dX3_begins_21 ?_
        refine lv_iload_n hx hb dX3_begins_24 rfl (lv_at hl 0 rfl) ?_
        refine kx_iald (v := ((mBag (sU g 9 1 (g 9 1 + (1 : Int32))) k) 65 k)) hx hb hG hw (kC_I rfl) k (nI_clamp (by omega)) (vp_in_nI (by omega) (by decide)) rfl dX3_begins_25 ?_
        refine lv_iconst (v := 1) hx hb dX3_begins_26 (by decide) ?_
        refine lv_icmp_ne (tgt := 41) hx hb dX3_begins_27 (by decide) (fun c_27 => ?_) (fun c_27 => ?_)
        · refine lv_iinc (v := (nI k + (1 : Int32))) (lv' := [(1, .int (nI k + (1 : Int32))), (0, .ref (ad 9))]) hx hb dX3_begins_41 hl (k := 0) rfl rfl (by decide) rfl (fun ls hl => ?_)
          refine lv_goto (tgt := 12) hx hb dX3_begins_44 (by decide) ?_
          exact ih_12 (k + 1) (by omega) (by omega) _ _ _ (show kW D cy base ad n nc (mBag (sU g 9 1 (g 9 1 + (1 : Int32))) (k + 1)) H from (show (mBag (sU g 9 1 (g 9 1 + (1 : Int32))) k) = (mBag (sU g 9 1 (g 9 1 + (1 : Int32))) (k + 1)) from by simp only [mBag, decide_eq_false c_17, if_neg c_17, decide_eq_false c_27, if_neg c_27]) ▸ hw) hS (kx_lv (l := [(1, .int (nI k + (1 : Int32))), (0, .ref (ad 9))]) (l' := [(1, .int (nI (k + 1))), (0, .ref (ad 9))]) (lv_sub hl [0, 1] rfl) (by rw [nI_1])) 
        · refine lv_aload_n hx hb dX3_begins_30 rfl (lv_at hl 1 rfl) ?_
          refine lv_iload_n hx hb dX3_begins_31 rfl (lv_at hl 0 rfl) ?_
          refine lv_aload_n hx hb dX3_begins_32 rfl (lv_at hl 1 rfl) ?_
          refine kx_getM (v := .ref (ad 67)) hx hb hts hown hG hw i3 17 (by decide) f_53 rfl dX3_begins_33 ?_
          refine lv_iload_n hx hb dX3_begins_36 rfl (lv_at hl 0 rfl) ?_
          refine kx_iald (v := ((mBag (sU g 9 1 (g 9 1 + (1 : Int32))) k) 67 k)) hx hb hG hw (kC_I rfl) k (nI_clamp (by omega)) (vp_in_nI (by omega) (by decide)) rfl dX3_begins_37 ?_
          refine kx_do0 (st1 := []) (kx_cv (As := [.int (nI k), .int ((mBag (sU g 9 1 (g 9 1 + (1 : Int32))) k) 67 k)]) (rest := []) hF hG hw hS hl.1 kC_9 rfl (c_X3_comes l hfl D cy base ad n nc (mBag (sU g 9 1 (g 9 1 + (1 : Int32))) k) k ((mBag (sU g 9 1 (g 9 1 + (1 : Int32))) k) 67 k) (by omega) (mBag_h (by simpa [sU] using hh k (by omega)) k)) gX3_begins_X3_comes rfl rfl rfl hd_X3_comes ⟨Nat.le_of_ble_eq_true rfl, Nat.le_of_ble_eq_true rfl⟩ rfl rfl (Nat.le_of_ble_eq_true rfl) dX3_begins_38 ⟨Nat.le_of_ble_eq_true rfl, Nat.le_of_ble_eq_true rfl⟩) hS rfl (fun H locs hw hS => ?_)
          refine lv_iinc (v := (nI k + (1 : Int32))) (lv' := [(1, .int (nI k + (1 : Int32))), (0, .ref (ad 9))]) hx hb dX3_begins_41 hl (k := 0) rfl rfl (by decide) rfl (fun ls hl => ?_)
          refine lv_goto (tgt := 12) hx hb dX3_begins_44 (by decide) ?_
          exact ih_12 (k + 1) (by omega) (by omega) _ _ _ (show kW D cy base ad n nc (mBag (sU g 9 1 (g 9 1 + (1 : Int32))) (k + 1)) H from (show (mComes (mBag (sU g 9 1 (g 9 1 + (1 : Int32))) k) k ((mBag (sU g 9 1 (g 9 1 + (1 : Int32))) k) 67 k)) = (mBag (sU g 9 1 (g 9 1 + (1 : Int32))) (k + 1)) from by simp only [mBag, decide_eq_false c_17, if_neg c_17, decide_eq_true c_27, if_pos c_27]) ▸ hw) hS (kx_lv (l := [(1, .int (nI k + (1 : Int32))), (0, .ref (ad 9))]) (l' := [(1, .int (nI (k + 1))), (0, .ref (ad 9))]) (lv_sub hl [0, 1] rfl) (by rw [nI_1])) 
  exact lp_12 (n + 1) 0 (by omega) (by omega) _ _ _ (hw) hS (kx_lv (l := [(1, .int (0 : Int32)), (0, .ref (ad 9))]) (l' := [(1, .int (nI 0)), (0, .ref (ad 9))]) (lv_sub hl [0, 1] rfl) (rfl)) 
theorem hd_X3_pass : yX3_pass.cls = RX3 ∧ yX3_pass.cls ≠ "java/lang/invoke/MethodHandle" ∧ yX3_pass.cls ≠ "java/lang/invoke/VarHandle" ∧ (parseMethodDescriptor yX3_pass.desc).map (fun d => d.parameters.length) = some 1 := by decide +kernel
set_option maxHeartbeats 4000000 in
set_option maxRecDepth 100000 in
theorem c_X3_pass (l : Launch) (hfl : l.stackTraces = false) (D : va_G) (cy : Nat → ClassId) (base : Nat) (ad : Nat → Nat) (n nc : Nat) (g : sg) (many : Int32) (hfn : g 9 8 = nI n) (hcn : g 9 25 = nI nc) (hh : ∀ i, i < n → ∃ h : Nat, h ≤ 12 ∧ g 72 i = nI h) : kM l yX3_pass wsX3_pass (kR 3 0 0) D cy base ad n nc g [.ref (ad 9), .int many] (kD True (some (.int (rv (kd2 (inn many 1 400) (decide (g 9 1 + many ≤ 9999))) (mDays (sU g 9 0 0) n nc many.toNatClampNeg 9 1)))) ad n nc (mk (kd2 (inn many 1 400) (decide (g 9 1 + many ≤ 9999))) (mDays (sU g 9 0 0) n nc many.toNatClampNeg) g)) kNo 0 0 := by
  refine kx_meth (cc := cX3_pass) (maxL := 3) (ret := (some .int)) (by decide) rfl (Nat.le_of_ble_eq_true rfl) ?_
  intro p e s m args below meth c ls hx hb hr hml hown hts hlk hT hG hw0 hS0 hl Q H locs hQ hw hS hH0 hlocs0
  have hl : lv_has ls 3 [(0, .ref (ad 9)), (1, .int many)] := hl
  have hown : s.vm.findClass RX3 = some m.cls := hown
  have hF : CallFix p m c cX3_pass 3 s args wsX3_pass RX3 := ⟨hx, hb, hml, hown, hts⟩
  have hn30 : n ≤ 30 := hw.2.2.1
  have hc20 : nc ≤ 20 := hw.2.2.2
  clear hw0 hS0 hH0 hlocs0
  have i3 : ∀ w ∈ wsX30, w ∈ wsX3_pass := by decide +kernel
  have f_136 := hts (.fieldLink RX3 136 "LostroomModel" "today" "I") (by decide +kernel)
  refine lv_aload_n hx hb dX3_pass_0 rfl (lv_at hl 0 rfl) ?_
  refine lv_iload_n hx hb dX3_pass_1 rfl (lv_at hl 1 rfl) ?_
  refine lv_iconst (v := 1) hx hb dX3_pass_2 (by decide) ?_
  refine lv_sipush (v := 400) hx hb dX3_pass_3 (by decide) ?_
  refine kx_do0 (st1 := [.int (b2 (inn many (1 : Int32) (400 : Int32))), .ref (ad 9)]) (kx_cs (As := [.int many, .int (1 : Int32), .int (400 : Int32)]) (rest := [.ref (ad 9)]) hF hG hw hS hl.1 (c_X3_in l hfl D cy base ad n nc g many (1 : Int32) (400 : Int32) ) gX3_pass_X3_in rfl rfl rfl hd_X3_in ⟨Nat.le_of_ble_eq_true rfl, Nat.le_of_ble_eq_true rfl⟩ rfl rfl (Nat.le_of_ble_eq_true rfl) dX3_pass_6 ⟨Nat.le_of_ble_eq_true rfl, Nat.le_of_ble_eq_true rfl⟩) hS rfl (fun H locs hw hS => ?_)
  have hj_33_0 : ∀ (H : Heap) (locs : List Loc) (ls : Array Slot), kW D cy base ad n nc g H → va_S (kA base) s.heap H locs → lv_has ls 3 [(0, .ref (ad 9)), (1, .int many)] → W p l e (kR 3 0 0) s m args below meth c H locs 0 0 Q (F0 m 33 ls [.int (kd2 (inn many 1 400) (decide (g 9 1 + many ≤ 9999))), .ref (ad 9)]) := by
    intro H locs ls hw hS hl
    refine kx_do0 (st1 := [.int (b2 (decide ((kd2 (inn many 1 400) (decide (g 9 1 + many ≤ 9999))) = 0)))]) (kx_cv (As := [.int (kd2 (inn many 1 400) (decide (g 9 1 + many ≤ 9999)))]) (rest := []) hF hG hw hS hl.1 kC_9 rfl (c_X3_holds l hfl D cy base ad n nc g (kd2 (inn many 1 400) (decide (g 9 1 + many ≤ 9999))) ) gX3_pass_X3_holds rfl rfl rfl hd_X3_holds ⟨Nat.le_of_ble_eq_true rfl, Nat.le_of_ble_eq_true rfl⟩ rfl rfl (Nat.le_of_ble_eq_true rfl) dX3_pass_33 ⟨Nat.le_of_ble_eq_true rfl, Nat.le_of_ble_eq_true rfl⟩) hS rfl (fun H locs hw hS => ?_)
    refine kb_ne (tgt := 41) hx hb dX3_pass_36 (by decide) (fun c_36 => ?_) (fun c_36 => ?_)
    · have h0 : kd2 (inn many 1 400) (decide (g 9 1 + many ≤ 9999)) = 0 := of_decide_eq_true c_36
      rw [h0] at hw
      have hk := kd2_0.mp h0
      obtain ⟨mm, hmm, rfl⟩ := inn_ex hk.1 (N := 400) rfl (by decide)
      have hcl_many : (nI mm).toNatClampNeg = mm := cl_nI (by omega)
      refine lv_iconst (v := 0) hx hb dX3_pass_41 (by decide) ?_
      refine lv_istore_n (lv' := [(2, .int (0 : Int32)), (0, .ref (ad 9)), (1, .int (nI mm))]) hx hb dX3_pass_42 rfl hl (by decide) rfl (fun ls hl => ?_)
      have lp_43 : ∀ (nn k : Nat), k ≤ mm → mm < k + nn → ∀ (H : Heap) (locs : List Loc) (ls : Array Slot), kW D cy base ad n nc (mDays (sU g 9 0 (0 : Int32)) n nc k) H → va_S (kA base) s.heap H locs → lv_has ls 3 [(2, .int (nI k)), (0, .ref (ad 9)), (1, .int (nI mm))] → ((mDays (sU g 9 0 (0 : Int32)) n nc k) 9 8 = nI n) → ((mDays (sU g 9 0 (0 : Int32)) n nc k) 9 25 = nI nc) → (∀ i, i < n → ∃ h : Nat, h ≤ 12 ∧ (mDays (sU g 9 0 (0 : Int32)) n nc k) 72 i = nI h) → W p l e (kR 3 0 0) s m args below meth c H locs 0 0 Q (F0 m 43 ls []) := by
        intro nn
        induction nn with
        | zero => intro k h1 h2; exact absurd h2 (by omega)
        | succ nn ih_43 =>
          intro k hk_k hkn_k H locs ls hw hS hl hA hB hCC
          refine lv_iload_n hx hb dX3_pass_43 rfl (lv_at hl 0 rfl) ?_
          refine lv_iload_n hx hb dX3_pass_44 rfl (lv_at hl 2 rfl) ?_
          refine lv_icmp_ge (tgt := 58) hx hb dX3_pass_45 (by decide) (fun c_45 => ?_) (fun c_45 => ?_)
          · have e_k : k = mm := Nat.le_antisymm hk_k (le_nI (a := mm) (b := k) c_45 (by omega) (by omega))
            refine lv_aload_n hx hb dX3_pass_58 rfl (lv_at hl 1 rfl) ?_
            refine kx_getM (v := .int ((mDays (sU g 9 0 (0 : Int32)) n nc k) 9 1)) hx hb hts hown hG hw i3 1 (by decide) f_136 rfl dX3_pass_59 ?_
            exact kx_retI hQ hx hb hr hlk hw hS (Nat.le_of_ble_eq_true rfl) (Nat.le_of_ble_eq_true rfl) dX3_pass_62 (kd_i (trivial) ((rv_0 h0).trans (by rw [e_k, hcl_many])) ((mk_0 h0).trans (by rw [e_k, hcl_many])))
          · have hlt_k : k < mm := lt_nI (a := mm) (b := k) c_45 (by omega) (by omega)
            refine lv_aload_n hx hb dX3_pass_48 rfl (lv_at hl 1 rfl) ?_
            refine kx_do0 (st1 := []) (kx_cv (As := []) (rest := []) hF hG hw hS hl.1 kC_9 rfl (c_X3_begins l hfl D cy base ad n nc (mDays (sU g 9 0 (0 : Int32)) n nc k)  (by first | assumption | omega | exact mR_9 (by assumption) _ _ | simp [sU, hfn, hcn, hh]) (by first | assumption | omega | exact mR_9 (by assumption) _ _ | simp [sU, hfn, hcn, hh]) (by first | assumption | omega | exact mR_9 (by assumption) _ _ | simp [sU, hfn, hcn, hh])) gX3_pass_X3_begins rfl rfl rfl hd_X3_begins ⟨Nat.le_of_ble_eq_true rfl, Nat.le_of_ble_eq_true rfl⟩ rfl rfl (Nat.le_of_ble_eq_true rfl) dX3_pass_49 ⟨Nat.le_of_ble_eq_true rfl, Nat.le_of_ble_eq_true rfl⟩) hS rfl (fun H locs hw hS => ?_)
            refine lv_iinc (v := (nI k + (1 : Int32))) (lv' := [(2, .int (nI k + (1 : Int32))), (0, .ref (ad 9)), (1, .int (nI mm))]) hx hb dX3_pass_52 hl (k := 0) rfl rfl (by decide) rfl (fun ls hl => ?_)
            refine lv_goto (tgt := 43) hx hb dX3_pass_55 (by decide) ?_
            exact ih_43 (k + 1) (by omega) (by omega) _ _ _ (show kW D cy base ad n nc (mDays (sU g 9 0 (0 : Int32)) n nc (k + 1)) H from (show (mDay (mDays (sU g 9 0 (0 : Int32)) n nc k) n nc) = (mDays (sU g 9 0 (0 : Int32)) n nc (k + 1)) from rfl) ▸ hw) hS (kx_lv (l := [(2, .int (nI k + (1 : Int32))), (0, .ref (ad 9)), (1, .int (nI mm))]) (l' := [(2, .int (nI (k + 1))), (0, .ref (ad 9)), (1, .int (nI mm))]) (lv_sub hl [0, 1, 2] rfl) (by rw [nI_1])) (by rw [show mDays _ n nc (k + 1) = mDay (mDays (sU g 9 0 (0 : Int32)) n nc k) n nc from rfl, mDay_9 _ _ _ (by decide)]; exact hA) (by rw [show mDays _ n nc (k + 1) = mDay (mDays (sU g 9 0 (0 : Int32)) n nc k) n nc from rfl, mDay_9 _ _ _ (by decide)]; exact hB) (fun i hi => mDay_h (hCC i hi))
      exact lp_43 (mm + 1) 0 (by omega) (by omega) _ _ _ (hw) hS (kx_lv (l := [(2, .int (0 : Int32)), (0, .ref (ad 9)), (1, .int (nI mm))]) (l' := [(2, .int (nI 0)), (0, .ref (ad 9)), (1, .int (nI mm))]) (lv_sub hl [0, 1, 2] rfl) (rfl)) (by simp [mDays, sU, hfn]) (by simp [mDays, sU, hcn]) (fun i hi => by simpa [mDays, sU] using hh i hi)
    · have h0 : ¬ kd2 (inn many 1 400) (decide (g 9 1 + many ≤ 9999)) = 0 := of_decide_eq_false c_36
      refine lv_iconst (v := 0) hx hb dX3_pass_39 (by decide) ?_
      exact kx_retI hQ hx hb hr hlk hw hS (Nat.le_of_ble_eq_true rfl) (Nat.le_of_ble_eq_true rfl) dX3_pass_40 (kd_i (trivial) (rv_n h0) (mk_n h0))
  refine kb_ne (tgt := 16) hx hb dX3_pass_9 (by decide) (fun c_9 => ?_) (fun c_9 => ?_)
  · refine lv_aload_n hx hb dX3_pass_16 rfl (lv_at hl 0 rfl) ?_
    refine kx_getM (v := .int (g 9 1)) hx hb hts hown hG hw i3 1 (by decide) f_136 rfl dX3_pass_17 ?_
    refine lv_iload_n hx hb dX3_pass_20 rfl (lv_at hl 1 rfl) ?_
    refine lv_iadd hx hb dX3_pass_21 ?_
    refine lv_sipush (v := 9999) hx hb dX3_pass_22 (by decide) ?_
    refine lv_icmp_le (tgt := 32) hx hb dX3_pass_25 (by decide) (fun c_25 => ?_) (fun c_25 => ?_)
    · refine lv_iconst (v := 0) hx hb dX3_pass_32 (by decide) ?_
      exact kx_top (v := (kd2 (inn many 1 400) (decide (g 9 1 + many ≤ 9999)))) (by first | (simp only [bq, c_9, decide_eq_true c_25, if_pos c_25]; done) | (simp only [bq, c_9, decide_eq_true c_25, if_pos c_25]; rfl) | (simp [bq, c_9, decide_eq_true c_25, if_pos c_25]; done)) (hj_33_0 _ _ _ hw hS hl)
    · refine lv_iconst (v := 2) hx hb dX3_pass_28 (by decide) ?_
      refine lv_goto (tgt := 33) hx hb dX3_pass_29 (by decide) ?_
      exact kx_top (v := (kd2 (inn many 1 400) (decide (g 9 1 + many ≤ 9999)))) (by first | (simp only [bq, c_9, decide_eq_false c_25, if_neg c_25]; done) | (simp only [bq, c_9, decide_eq_false c_25, if_neg c_25]; rfl) | (simp [bq, c_9, decide_eq_false c_25, if_neg c_25]; done)) (hj_33_0 _ _ _ hw hS hl)
  · refine lv_iconst (v := 1) hx hb dX3_pass_12 (by decide) ?_
    refine lv_goto (tgt := 33) hx hb dX3_pass_13 (by decide) ?_
    exact kx_top (v := (kd2 (inn many 1 400) (decide (g 9 1 + many ≤ 9999)))) (by first | (simp only [bq, c_9]; done) | (simp only [bq, c_9]; rfl) | (simp [bq, c_9]; done)) (hj_33_0 _ _ _ hw hS hl)
theorem hd_X3_fit : yX3_fit.cls = RX3 ∧ yX3_fit.cls ≠ "java/lang/invoke/MethodHandle" ∧ yX3_fit.cls ≠ "java/lang/invoke/VarHandle" ∧ (parseMethodDescriptor yX3_fit.desc).map (fun d => d.parameters.length) = some 2 := by decide +kernel
set_option maxHeartbeats 4000000 in
set_option maxRecDepth 100000 in
theorem c_X3_fit (l : Launch) (hfl : l.stackTraces = false) (D : va_G) (cy : Nat → ClassId) (base : Nat) (ad : Nat → Nat) (n nc : Nat) (g : sg) (x : Int32) (y : Int32) (hfn : g 9 8 = nI n) (hcn : g 9 25 = nI nc) (hR : mR n nc g) : kM l yX3_fit wsX3_fit (kR 2 0 0) D cy base ad n nc g [.ref (ad 9), .int x, .int y] (kD True (some (.int (rv (kd1 (isF n x && isF nc y)) (mSc g x.toNatClampNeg y.toNatClampNeg)))) ad n nc (mk (kd1 (isF n x && isF nc y)) ((sU g 9 0 0)) g)) kNo 0 0 := by
  refine kx_meth (cc := cX3_fit) (maxL := 3) (ret := (some .int)) (by decide) rfl (Nat.le_of_ble_eq_true rfl) ?_
  intro p e s m args below meth c ls hx hb hr hml hown hts hlk hT hG hw0 hS0 hl Q H locs hQ hw hS hH0 hlocs0
  have hl : lv_has ls 3 [(0, .ref (ad 9)), (1, .int x), (2, .int y)] := hl
  have hown : s.vm.findClass RX3 = some m.cls := hown
  have hF : CallFix p m c cX3_fit 3 s args wsX3_fit RX3 := ⟨hx, hb, hml, hown, hts⟩
  have hn30 : n ≤ 30 := hw.2.2.1
  have hc20 : nc ≤ 20 := hw.2.2.2
  clear hw0 hS0 hH0 hlocs0
  refine lv_aload_n hx hb dX3_fit_0 rfl (lv_at hl 0 rfl) ?_
  refine lv_aload_n hx hb dX3_fit_1 rfl (lv_at hl 0 rfl) ?_
  refine lv_iload_n hx hb dX3_fit_2 rfl (lv_at hl 1 rfl) ?_
  refine kx_do0 (st1 := [.int (b2 (isF n x)), .ref (ad 9)]) (kx_cv (As := [.int x]) (rest := [.ref (ad 9)]) hF hG hw hS hl.1 kC_9 rfl (c_X3_isFind l hfl D cy base ad n nc g x (by first | assumption | omega | exact mR_9 (by assumption) _ _ | simp [sU, hfn, hcn, hR])) gX3_fit_X3_isFind rfl rfl rfl hd_X3_isFind ⟨Nat.le_of_ble_eq_true rfl, Nat.le_of_ble_eq_true rfl⟩ rfl rfl (Nat.le_of_ble_eq_true rfl) dX3_fit_3 ⟨Nat.le_of_ble_eq_true rfl, Nat.le_of_ble_eq_true rfl⟩) hS rfl (fun H locs hw hS => ?_)
  have hj_22_0 : ∀ (H : Heap) (locs : List Loc) (ls : Array Slot), kW D cy base ad n nc g H → va_S (kA base) s.heap H locs → lv_has ls 3 [(0, .ref (ad 9)), (1, .int x), (2, .int y)] → W p l e (kR 2 0 0) s m args below meth c H locs 0 0 Q (F0 m 22 ls [.int (kd1 (isF n x && isF nc y)), .ref (ad 9)]) := by
    intro H locs ls hw hS hl
    refine kx_do0 (st1 := [.int (b2 (decide ((kd1 (isF n x && isF nc y)) = 0)))]) (kx_cv (As := [.int (kd1 (isF n x && isF nc y))]) (rest := []) hF hG hw hS hl.1 kC_9 rfl (c_X3_holds l hfl D cy base ad n nc g (kd1 (isF n x && isF nc y)) ) gX3_fit_X3_holds rfl rfl rfl hd_X3_holds ⟨Nat.le_of_ble_eq_true rfl, Nat.le_of_ble_eq_true rfl⟩ rfl rfl (Nat.le_of_ble_eq_true rfl) dX3_fit_22 ⟨Nat.le_of_ble_eq_true rfl, Nat.le_of_ble_eq_true rfl⟩) hS rfl (fun H locs hw hS => ?_)
    have hj_38_1 : ∀ (H : Heap) (locs : List Loc) (ls : Array Slot), kW D cy base ad n nc (sU g 9 0 (kd1 (isF n x && isF nc y))) H → va_S (kA base) s.heap H locs → lv_has ls 3 [(0, .ref (ad 9)), (1, .int x), (2, .int y)] → W p l e (kR 2 0 0) s m args below meth c H locs 0 0 Q (F0 m 38 ls [.int (if (decide ((kd1 (isF n x && isF nc y)) = 0)) = true then (mSc (sU g 9 0 (kd1 (isF n x && isF nc y))) (x.toNatClampNeg) (y.toNatClampNeg)) else (0 : Int32))]) := by
      intro H locs ls hw hS hl
      exact kx_retI hQ hx hb hr hlk hw hS (Nat.le_of_ble_eq_true rfl) (Nat.le_of_ble_eq_true rfl) dX3_fit_38 (kd_i (trivial) (by rw [mSc_90]; unfold rv; by_cases h9 : kd1 (isF n x && isF nc y) = 0 <;> simp [h9]) (mk_self _ _))
    refine kb_eq (tgt := 37) hx hb dX3_fit_25 (by decide) (fun c_25 => ?_) (fun c_25 => ?_)
    · have h0 : ¬ kd1 (isF n x && isF nc y) = 0 := of_decide_eq_false c_25
      refine lv_iconst (v := 0) hx hb dX3_fit_37 (by decide) ?_
      exact kx_top (v := (if (decide ((kd1 (isF n x && isF nc y)) = 0)) = true then (mSc (sU g 9 0 (kd1 (isF n x && isF nc y))) (x.toNatClampNeg) (y.toNatClampNeg)) else (0 : Int32))) (by first | (simp only [bq, decide_eq_false h0, if_neg h0]; done) | (simp only [bq, decide_eq_false h0, if_neg h0]; rfl) | (simp [bq, decide_eq_false h0, if_neg h0]; done)) (hj_38_1 _ _ _ hw hS hl)
    · have h0 : kd1 (isF n x && isF nc y) = 0 := of_decide_eq_true c_25
      have hk := kd1_0.mp h0
      have v_x : vp_in x 30 := isF_vp (and_l (hk)) hn30 (by decide)
      have w_x : x.toNatClampNeg < n := isF_lt (and_l (hk)) hn30
      have v_y : vp_in y 20 := isF_vp (and_r (hk)) hc20 (by decide)
      have w_y : y.toNatClampNeg < nc := isF_lt (and_r (hk)) (Nat.le_trans hc20 (by decide))
      refine lv_aload_n hx hb dX3_fit_28 rfl (lv_at hl 0 rfl) ?_
      refine lv_iload_n hx hb dX3_fit_29 rfl (lv_at hl 1 rfl) ?_
      refine lv_iload_n hx hb dX3_fit_30 rfl (lv_at hl 2 rfl) ?_
      refine W.eq (g2 := F0 m 31 ls [.int (nI (y.toNatClampNeg)), .int (nI (x.toNatClampNeg)), .ref (ad 9)]) (by rw [nI_cl (x := x) (by assumption), nI_cl (x := y) (by assumption)]) ?_
      refine kx_do0 (st1 := [.int (mSc (sU g 9 0 (kd1 (isF n x && isF nc y))) (x.toNatClampNeg) (y.toNatClampNeg))]) (kx_cv (As := [.int (nI (x.toNatClampNeg)), .int (nI (y.toNatClampNeg))]) (rest := []) hF hG hw hS hl.1 kC_9 rfl (c_X3_scoreOf l hfl D cy base ad n nc (sU g 9 0 (kd1 (isF n x && isF nc y))) (x.toNatClampNeg) (y.toNatClampNeg) (by first | assumption | omega | exact mR_9 (by assumption) _ _ | simp [sU, hfn, hcn, hR]) (by first | assumption | omega | exact mR_9 (by assumption) _ _ | simp [sU, hfn, hcn, hR]) (by first | assumption | omega | exact mR_9 (by assumption) _ _ | simp [sU, hfn, hcn, hR])) gX3_fit_X3_scoreOf rfl rfl rfl hd_X3_scoreOf ⟨Nat.le_of_ble_eq_true rfl, Nat.le_of_ble_eq_true rfl⟩ rfl rfl (Nat.le_of_ble_eq_true rfl) dX3_fit_31 ⟨Nat.le_of_ble_eq_true rfl, Nat.le_of_ble_eq_true rfl⟩) hS rfl (fun H locs hw hS => ?_)
      refine lv_goto (tgt := 38) hx hb dX3_fit_34 (by decide) ?_
      exact kx_top (v := (if (decide ((kd1 (isF n x && isF nc y)) = 0)) = true then (mSc (sU g 9 0 (kd1 (isF n x && isF nc y))) (x.toNatClampNeg) (y.toNatClampNeg)) else (0 : Int32))) (by first | (simp only [bq, decide_eq_true h0, if_pos h0]; done) | (simp only [bq, decide_eq_true h0, if_pos h0]; rfl) | (simp [bq, decide_eq_true h0, if_pos h0]; done)) (hj_38_1 _ _ _ hw hS hl)
  refine kb_eq (tgt := 21) hx hb dX3_fit_6 (by decide) (fun c_6 => ?_) (fun c_6 => ?_)
  · refine lv_iconst (v := 1) hx hb dX3_fit_21 (by decide) ?_
    exact kx_top (v := (kd1 (isF n x && isF nc y))) (by first | (simp only [bq, c_6]; done) | (simp only [bq, c_6]; rfl) | (simp [bq, c_6]; done)) (hj_22_0 _ _ _ hw hS hl)
  · have v_x : vp_in x 30 := isF_vp (c_6) hn30 (by decide)
    have w_x : x.toNatClampNeg < n := isF_lt (c_6) hn30
    refine lv_aload_n hx hb dX3_fit_9 rfl (lv_at hl 0 rfl) ?_
    refine lv_iload_n hx hb dX3_fit_10 rfl (lv_at hl 2 rfl) ?_
    refine kx_do0 (st1 := [.int (b2 (isF nc y)), .ref (ad 9)]) (kx_cv (As := [.int y]) (rest := [.ref (ad 9)]) hF hG hw hS hl.1 kC_9 rfl (c_X3_isClaim l hfl D cy base ad n nc g y (by first | assumption | omega | exact mR_9 (by assumption) _ _ | simp [sU, hfn, hcn, hR])) gX3_fit_X3_isClaim rfl rfl rfl hd_X3_isClaim ⟨Nat.le_of_ble_eq_true rfl, Nat.le_of_ble_eq_true rfl⟩ rfl rfl (Nat.le_of_ble_eq_true rfl) dX3_fit_11 ⟨Nat.le_of_ble_eq_true rfl, Nat.le_of_ble_eq_true rfl⟩) hS rfl (fun H locs hw hS => ?_)
    refine kb_eq (tgt := 21) hx hb dX3_fit_14 (by decide) (fun c_14 => ?_) (fun c_14 => ?_)
    · refine lv_iconst (v := 1) hx hb dX3_fit_21 (by decide) ?_
      exact kx_top (v := (kd1 (isF n x && isF nc y))) (by first | (simp only [bq, c_6, c_14]; done) | (simp only [bq, c_6, c_14]; rfl) | (simp [bq, c_6, c_14]; done)) (hj_22_0 _ _ _ hw hS hl)
    · have v_y : vp_in y 20 := isF_vp (c_14) hc20 (by decide)
      have w_y : y.toNatClampNeg < nc := isF_lt (c_14) (Nat.le_trans hc20 (by decide))
      refine lv_iconst (v := 0) hx hb dX3_fit_17 (by decide) ?_
      refine lv_goto (tgt := 22) hx hb dX3_fit_18 (by decide) ?_
      exact kx_top (v := (kd1 (isF n x && isF nc y))) (by first | (simp only [bq, c_6, c_14]; done) | (simp only [bq, c_6, c_14]; rfl) | (simp [bq, c_6, c_14]; done)) (hj_22_0 _ _ _ hw hS hl)
theorem hd_X3_isProven : yX3_isProven.cls = RX3 ∧ yX3_isProven.cls ≠ "java/lang/invoke/MethodHandle" ∧ yX3_isProven.cls ≠ "java/lang/invoke/VarHandle" ∧ (parseMethodDescriptor yX3_isProven.desc).map (fun d => d.parameters.length) = some 2 := by decide +kernel
set_option maxHeartbeats 4000000 in
set_option maxRecDepth 100000 in
theorem c_X3_isProven (l : Launch) (hfl : l.stackTraces = false) (D : va_G) (cy : Nat → ClassId) (base : Nat) (ad : Nat → Nat) (n nc : Nat) (g : sg) (x : Int32) (y : Int32) (hfn : g 9 8 = nI n) (hcn : g 9 25 = nI nc) : kM l yX3_isProven wsX3_isProven (kR 2 0 0) D cy base ad n nc g [.ref (ad 9), .int x, .int y] (kD True (some (.int (b2 (decide (kd1 (isF n x && isF nc y) = 0) && (mPrv g x.toNatClampNeg y.toNatClampNeg))))) ad n nc (mk (kd1 (isF n x && isF nc y)) ((sU g 9 0 0)) g)) kNo 0 0 := by
  refine kx_meth (cc := cX3_isProven) (maxL := 3) (ret := (some .boolean)) (by decide) rfl (Nat.le_of_ble_eq_true rfl) ?_
  intro p e s m args below meth c ls hx hb hr hml hown hts hlk hT hG hw0 hS0 hl Q H locs hQ hw hS hH0 hlocs0
  have hl : lv_has ls 3 [(0, .ref (ad 9)), (1, .int x), (2, .int y)] := hl
  have hown : s.vm.findClass RX3 = some m.cls := hown
  have hF : CallFix p m c cX3_isProven 3 s args wsX3_isProven RX3 := ⟨hx, hb, hml, hown, hts⟩
  have hn30 : n ≤ 30 := hw.2.2.1
  have hc20 : nc ≤ 20 := hw.2.2.2
  clear hw0 hS0 hH0 hlocs0
  refine lv_aload_n hx hb dX3_isProven_0 rfl (lv_at hl 0 rfl) ?_
  refine lv_aload_n hx hb dX3_isProven_1 rfl (lv_at hl 0 rfl) ?_
  refine lv_iload_n hx hb dX3_isProven_2 rfl (lv_at hl 1 rfl) ?_
  refine kx_do0 (st1 := [.int (b2 (isF n x)), .ref (ad 9)]) (kx_cv (As := [.int x]) (rest := [.ref (ad 9)]) hF hG hw hS hl.1 kC_9 rfl (c_X3_isFind l hfl D cy base ad n nc g x (by first | assumption | omega | exact mR_9 (by assumption) _ _ | simp [sU, hfn, hcn])) gX3_isProven_X3_isFind rfl rfl rfl hd_X3_isFind ⟨Nat.le_of_ble_eq_true rfl, Nat.le_of_ble_eq_true rfl⟩ rfl rfl (Nat.le_of_ble_eq_true rfl) dX3_isProven_3 ⟨Nat.le_of_ble_eq_true rfl, Nat.le_of_ble_eq_true rfl⟩) hS rfl (fun H locs hw hS => ?_)
  have hj_22_0 : ∀ (H : Heap) (locs : List Loc) (ls : Array Slot), kW D cy base ad n nc g H → va_S (kA base) s.heap H locs → lv_has ls 3 [(0, .ref (ad 9)), (1, .int x), (2, .int y)] → W p l e (kR 2 0 0) s m args below meth c H locs 0 0 Q (F0 m 22 ls [.int (kd1 (isF n x && isF nc y)), .ref (ad 9)]) := by
    intro H locs ls hw hS hl
    refine kx_do0 (st1 := [.int (b2 (decide ((kd1 (isF n x && isF nc y)) = 0)))]) (kx_cv (As := [.int (kd1 (isF n x && isF nc y))]) (rest := []) hF hG hw hS hl.1 kC_9 rfl (c_X3_holds l hfl D cy base ad n nc g (kd1 (isF n x && isF nc y)) ) gX3_isProven_X3_holds rfl rfl rfl hd_X3_holds ⟨Nat.le_of_ble_eq_true rfl, Nat.le_of_ble_eq_true rfl⟩ rfl rfl (Nat.le_of_ble_eq_true rfl) dX3_isProven_22 ⟨Nat.le_of_ble_eq_true rfl, Nat.le_of_ble_eq_true rfl⟩) hS rfl (fun H locs hw hS => ?_)
    have hj_42_1 : ∀ (H : Heap) (locs : List Loc) (ls : Array Slot), kW D cy base ad n nc (sU g 9 0 (kd1 (isF n x && isF nc y))) H → va_S (kA base) s.heap H locs → lv_has ls 3 [(0, .ref (ad 9)), (1, .int x), (2, .int y)] → W p l e (kR 2 0 0) s m args below meth c H locs 0 0 Q (F0 m 42 ls [.int (b2 ((decide ((kd1 (isF n x && isF nc y)) = 0)) && (mPrv (sU g 9 0 (kd1 (isF n x && isF nc y))) (x.toNatClampNeg) (y.toNatClampNeg))))]) := by
      intro H locs ls hw hS hl
      exact kx_retZ hQ hx hb hr hlk hw hS (Nat.le_of_ble_eq_true rfl) (Nat.le_of_ble_eq_true rfl) dX3_isProven_42 (nar_b2 _) (kd_i (trivial) (by rw [mPrv_90]) (mk_self _ _))
    refine kb_eq (tgt := 41) hx hb dX3_isProven_25 (by decide) (fun c_25 => ?_) (fun c_25 => ?_)
    · have h0 : ¬ kd1 (isF n x && isF nc y) = 0 := of_decide_eq_false c_25
      refine lv_iconst (v := 0) hx hb dX3_isProven_41 (by decide) ?_
      exact kx_top (v := (b2 ((decide ((kd1 (isF n x && isF nc y)) = 0)) && (mPrv (sU g 9 0 (kd1 (isF n x && isF nc y))) (x.toNatClampNeg) (y.toNatClampNeg))))) (by first | (simp only [bq, decide_eq_false h0, if_neg h0]; done) | (simp only [bq, decide_eq_false h0, if_neg h0]; rfl) | (simp [bq, decide_eq_false h0, if_neg h0]; done)) (hj_42_1 _ _ _ hw hS hl)
    · have h0 : kd1 (isF n x && isF nc y) = 0 := of_decide_eq_true c_25
      have hk := kd1_0.mp h0
      have v_x : vp_in x 30 := isF_vp (and_l (hk)) hn30 (by decide)
      have w_x : x.toNatClampNeg < n := isF_lt (and_l (hk)) hn30
      have v_y : vp_in y 20 := isF_vp (and_r (hk)) hc20 (by decide)
      have w_y : y.toNatClampNeg < nc := isF_lt (and_r (hk)) (Nat.le_trans hc20 (by decide))
      refine lv_aload_n hx hb dX3_isProven_28 rfl (lv_at hl 0 rfl) ?_
      refine lv_iload_n hx hb dX3_isProven_29 rfl (lv_at hl 1 rfl) ?_
      refine lv_iload_n hx hb dX3_isProven_30 rfl (lv_at hl 2 rfl) ?_
      refine W.eq (g2 := F0 m 31 ls [.int (nI (y.toNatClampNeg)), .int (nI (x.toNatClampNeg)), .ref (ad 9)]) (by rw [nI_cl (x := x) (by assumption), nI_cl (x := y) (by assumption)]) ?_
      refine kx_do0 (st1 := [.int (b2 (mPrv (sU g 9 0 (kd1 (isF n x && isF nc y))) (x.toNatClampNeg) (y.toNatClampNeg)))]) (kx_cv (As := [.int (nI (x.toNatClampNeg)), .int (nI (y.toNatClampNeg))]) (rest := []) hF hG hw hS hl.1 kC_9 rfl (c_X3_proves l hfl D cy base ad n nc (sU g 9 0 (kd1 (isF n x && isF nc y))) (x.toNatClampNeg) (y.toNatClampNeg) (by first | assumption | omega | exact mR_9 (by assumption) _ _ | simp [sU, hfn, hcn]) (by first | assumption | omega | exact mR_9 (by assumption) _ _ | simp [sU, hfn, hcn])) gX3_isProven_X3_proves rfl rfl rfl hd_X3_proves ⟨Nat.le_of_ble_eq_true rfl, Nat.le_of_ble_eq_true rfl⟩ rfl rfl (Nat.le_of_ble_eq_true rfl) dX3_isProven_31 ⟨Nat.le_of_ble_eq_true rfl, Nat.le_of_ble_eq_true rfl⟩) hS rfl (fun H locs hw hS => ?_)
      refine kb_eq (tgt := 41) hx hb dX3_isProven_34 (by decide) (fun c_34 => ?_) (fun c_34 => ?_)
      · refine lv_iconst (v := 0) hx hb dX3_isProven_41 (by decide) ?_
        exact kx_top (v := (b2 ((decide ((kd1 (isF n x && isF nc y)) = 0)) && (mPrv (sU g 9 0 (kd1 (isF n x && isF nc y))) (x.toNatClampNeg) (y.toNatClampNeg))))) (by first | (simp only [bq, decide_eq_true h0, if_pos h0, c_34]; done) | (simp only [bq, decide_eq_true h0, if_pos h0, c_34]; rfl) | (simp [bq, decide_eq_true h0, if_pos h0, c_34]; done)) (hj_42_1 _ _ _ hw hS hl)
      · refine lv_iconst (v := 1) hx hb dX3_isProven_37 (by decide) ?_
        refine lv_goto (tgt := 42) hx hb dX3_isProven_38 (by decide) ?_
        exact kx_top (v := (b2 ((decide ((kd1 (isF n x && isF nc y)) = 0)) && (mPrv (sU g 9 0 (kd1 (isF n x && isF nc y))) (x.toNatClampNeg) (y.toNatClampNeg))))) (by first | (simp only [bq, decide_eq_true h0, if_pos h0, c_34]; done) | (simp only [bq, decide_eq_true h0, if_pos h0, c_34]; rfl) | (simp [bq, decide_eq_true h0, if_pos h0, c_34]; done)) (hj_42_1 _ _ _ hw hS hl)
  refine kb_eq (tgt := 21) hx hb dX3_isProven_6 (by decide) (fun c_6 => ?_) (fun c_6 => ?_)
  · refine lv_iconst (v := 1) hx hb dX3_isProven_21 (by decide) ?_
    exact kx_top (v := (kd1 (isF n x && isF nc y))) (by first | (simp only [bq, c_6]; done) | (simp only [bq, c_6]; rfl) | (simp [bq, c_6]; done)) (hj_22_0 _ _ _ hw hS hl)
  · have v_x : vp_in x 30 := isF_vp (c_6) hn30 (by decide)
    have w_x : x.toNatClampNeg < n := isF_lt (c_6) hn30
    refine lv_aload_n hx hb dX3_isProven_9 rfl (lv_at hl 0 rfl) ?_
    refine lv_iload_n hx hb dX3_isProven_10 rfl (lv_at hl 2 rfl) ?_
    refine kx_do0 (st1 := [.int (b2 (isF nc y)), .ref (ad 9)]) (kx_cv (As := [.int y]) (rest := [.ref (ad 9)]) hF hG hw hS hl.1 kC_9 rfl (c_X3_isClaim l hfl D cy base ad n nc g y (by first | assumption | omega | exact mR_9 (by assumption) _ _ | simp [sU, hfn, hcn])) gX3_isProven_X3_isClaim rfl rfl rfl hd_X3_isClaim ⟨Nat.le_of_ble_eq_true rfl, Nat.le_of_ble_eq_true rfl⟩ rfl rfl (Nat.le_of_ble_eq_true rfl) dX3_isProven_11 ⟨Nat.le_of_ble_eq_true rfl, Nat.le_of_ble_eq_true rfl⟩) hS rfl (fun H locs hw hS => ?_)
    refine kb_eq (tgt := 21) hx hb dX3_isProven_14 (by decide) (fun c_14 => ?_) (fun c_14 => ?_)
    · refine lv_iconst (v := 1) hx hb dX3_isProven_21 (by decide) ?_
      exact kx_top (v := (kd1 (isF n x && isF nc y))) (by first | (simp only [bq, c_6, c_14]; done) | (simp only [bq, c_6, c_14]; rfl) | (simp [bq, c_6, c_14]; done)) (hj_22_0 _ _ _ hw hS hl)
    · have v_y : vp_in y 20 := isF_vp (c_14) hc20 (by decide)
      have w_y : y.toNatClampNeg < nc := isF_lt (c_14) (Nat.le_trans hc20 (by decide))
      refine lv_iconst (v := 0) hx hb dX3_isProven_17 (by decide) ?_
      refine lv_goto (tgt := 22) hx hb dX3_isProven_18 (by decide) ?_
      exact kx_top (v := (kd1 (isF n x && isF nc y))) (by first | (simp only [bq, c_6, c_14]; done) | (simp only [bq, c_6, c_14]; rfl) | (simp [bq, c_6, c_14]; done)) (hj_22_0 _ _ _ hw hS hl)
theorem hd_X3_isDue : yX3_isDue.cls = RX3 ∧ yX3_isDue.cls ≠ "java/lang/invoke/MethodHandle" ∧ yX3_isDue.cls ≠ "java/lang/invoke/VarHandle" ∧ (parseMethodDescriptor yX3_isDue.desc).map (fun d => d.parameters.length) = some 1 := by decide +kernel
set_option maxHeartbeats 4000000 in
set_option maxRecDepth 100000 in
theorem c_X3_isDue (l : Launch) (hfl : l.stackTraces = false) (D : va_G) (cy : Nat → ClassId) (base : Nat) (ad : Nat → Nat) (n nc : Nat) (g : sg) (x : Int32) (hfn : g 9 8 = nI n) (hcn : g 9 25 = nI nc) (hR : mR n nc g) : kM l yX3_isDue wsX3_isDue (kR 4 0 0) D cy base ad n nc g [.ref (ad 9), .int x] (kD True (some (.int (b2 (decide (kd1 (isF n x) = 0) && (mOver g nc x.toNatClampNeg))))) ad n nc (mk (kd1 (isF n x)) ((sU g 9 0 0)) g)) kNo 0 0 := by
  refine kx_meth (cc := cX3_isDue) (maxL := 2) (ret := (some .boolean)) (by decide) rfl (Nat.le_of_ble_eq_true rfl) ?_
  intro p e s m args below meth c ls hx hb hr hml hown hts hlk hT hG hw0 hS0 hl Q H locs hQ hw hS hH0 hlocs0
  have hl : lv_has ls 2 [(0, .ref (ad 9)), (1, .int x)] := hl
  have hown : s.vm.findClass RX3 = some m.cls := hown
  have hF : CallFix p m c cX3_isDue 2 s args wsX3_isDue RX3 := ⟨hx, hb, hml, hown, hts⟩
  have hn30 : n ≤ 30 := hw.2.2.1
  have hc20 : nc ≤ 20 := hw.2.2.2
  clear hw0 hS0 hH0 hlocs0
  refine lv_aload_n hx hb dX3_isDue_0 rfl (lv_at hl 0 rfl) ?_
  refine lv_aload_n hx hb dX3_isDue_1 rfl (lv_at hl 0 rfl) ?_
  refine lv_iload_n hx hb dX3_isDue_2 rfl (lv_at hl 1 rfl) ?_
  refine kx_do0 (st1 := [.int (b2 (isF n x)), .ref (ad 9)]) (kx_cv (As := [.int x]) (rest := [.ref (ad 9)]) hF hG hw hS hl.1 kC_9 rfl (c_X3_isFind l hfl D cy base ad n nc g x (by first | assumption | omega | exact mR_9 (by assumption) _ _ | simp [sU, hfn, hcn, hR])) gX3_isDue_X3_isFind rfl rfl rfl hd_X3_isFind ⟨Nat.le_of_ble_eq_true rfl, Nat.le_of_ble_eq_true rfl⟩ rfl rfl (Nat.le_of_ble_eq_true rfl) dX3_isDue_3 ⟨Nat.le_of_ble_eq_true rfl, Nat.le_of_ble_eq_true rfl⟩) hS rfl (fun H locs hw hS => ?_)
  have hj_14_0 : ∀ (H : Heap) (locs : List Loc) (ls : Array Slot), kW D cy base ad n nc g H → va_S (kA base) s.heap H locs → lv_has ls 2 [(0, .ref (ad 9)), (1, .int x)] → W p l e (kR 4 0 0) s m args below meth c H locs 0 0 Q (F0 m 14 ls [.int (kd1 (isF n x)), .ref (ad 9)]) := by
    intro H locs ls hw hS hl
    refine kx_do0 (st1 := [.int (b2 (decide ((kd1 (isF n x)) = 0)))]) (kx_cv (As := [.int (kd1 (isF n x))]) (rest := []) hF hG hw hS hl.1 kC_9 rfl (c_X3_holds l hfl D cy base ad n nc g (kd1 (isF n x)) ) gX3_isDue_X3_holds rfl rfl rfl hd_X3_holds ⟨Nat.le_of_ble_eq_true rfl, Nat.le_of_ble_eq_true rfl⟩ rfl rfl (Nat.le_of_ble_eq_true rfl) dX3_isDue_14 ⟨Nat.le_of_ble_eq_true rfl, Nat.le_of_ble_eq_true rfl⟩) hS rfl (fun H locs hw hS => ?_)
    have hj_33_1 : ∀ (H : Heap) (locs : List Loc) (ls : Array Slot), kW D cy base ad n nc (sU g 9 0 (kd1 (isF n x))) H → va_S (kA base) s.heap H locs → lv_has ls 2 [(0, .ref (ad 9)), (1, .int x)] → W p l e (kR 4 0 0) s m args below meth c H locs 0 0 Q (F0 m 33 ls [.int (b2 ((decide ((kd1 (isF n x)) = 0)) && (mOver (sU g 9 0 (kd1 (isF n x))) nc (x.toNatClampNeg))))]) := by
      intro H locs ls hw hS hl
      exact kx_retZ hQ hx hb hr hlk hw hS (Nat.le_of_ble_eq_true rfl) (Nat.le_of_ble_eq_true rfl) dX3_isDue_33 (nar_b2 _) (kd_i (trivial) (by rw [mOver_90]) (mk_self _ _))
    refine kb_eq (tgt := 32) hx hb dX3_isDue_17 (by decide) (fun c_17 => ?_) (fun c_17 => ?_)
    · have h0 : ¬ kd1 (isF n x) = 0 := of_decide_eq_false c_17
      refine lv_iconst (v := 0) hx hb dX3_isDue_32 (by decide) ?_
      exact kx_top (v := (b2 ((decide ((kd1 (isF n x)) = 0)) && (mOver (sU g 9 0 (kd1 (isF n x))) nc (x.toNatClampNeg))))) (by first | (simp only [bq, decide_eq_false h0, if_neg h0]; done) | (simp only [bq, decide_eq_false h0, if_neg h0]; rfl) | (simp [bq, decide_eq_false h0, if_neg h0]; done)) (hj_33_1 _ _ _ hw hS hl)
    · have h0 : kd1 (isF n x) = 0 := of_decide_eq_true c_17
      have hk := kd1_0.mp h0
      have v_x : vp_in x 30 := isF_vp (hk) hn30 (by decide)
      have w_x : x.toNatClampNeg < n := isF_lt (hk) hn30
      refine lv_aload_n hx hb dX3_isDue_20 rfl (lv_at hl 0 rfl) ?_
      refine lv_iload_n hx hb dX3_isDue_21 rfl (lv_at hl 1 rfl) ?_
      refine W.eq (g2 := F0 m 22 ls [.int (nI (x.toNatClampNeg)), .ref (ad 9)]) (by rw [nI_cl (x := x) (by assumption)]) ?_
      refine kx_do0 (st1 := [.int (b2 (mOver (sU g 9 0 (kd1 (isF n x))) nc (x.toNatClampNeg)))]) (kx_cv (As := [.int (nI (x.toNatClampNeg))]) (rest := []) hF hG hw hS hl.1 kC_9 rfl (c_X3_isOver l hfl D cy base ad n nc (sU g 9 0 (kd1 (isF n x))) (x.toNatClampNeg) (by first | assumption | omega | exact mR_9 (by assumption) _ _ | simp [sU, hfn, hcn, hR]) (by first | assumption | omega | exact mR_9 (by assumption) _ _ | simp [sU, hfn, hcn, hR]) (by first | assumption | omega | exact mR_9 (by assumption) _ _ | simp [sU, hfn, hcn, hR])) gX3_isDue_X3_isOver rfl rfl rfl hd_X3_isOver ⟨Nat.le_of_ble_eq_true rfl, Nat.le_of_ble_eq_true rfl⟩ rfl rfl (Nat.le_of_ble_eq_true rfl) dX3_isDue_22 ⟨Nat.le_of_ble_eq_true rfl, Nat.le_of_ble_eq_true rfl⟩) hS rfl (fun H locs hw hS => ?_)
      refine kb_eq (tgt := 32) hx hb dX3_isDue_25 (by decide) (fun c_25 => ?_) (fun c_25 => ?_)
      · refine lv_iconst (v := 0) hx hb dX3_isDue_32 (by decide) ?_
        exact kx_top (v := (b2 ((decide ((kd1 (isF n x)) = 0)) && (mOver (sU g 9 0 (kd1 (isF n x))) nc (x.toNatClampNeg))))) (by first | (simp only [bq, decide_eq_true h0, if_pos h0, c_25]; done) | (simp only [bq, decide_eq_true h0, if_pos h0, c_25]; rfl) | (simp [bq, decide_eq_true h0, if_pos h0, c_25]; done)) (hj_33_1 _ _ _ hw hS hl)
      · refine lv_iconst (v := 1) hx hb dX3_isDue_28 (by decide) ?_
        refine lv_goto (tgt := 33) hx hb dX3_isDue_29 (by decide) ?_
        exact kx_top (v := (b2 ((decide ((kd1 (isF n x)) = 0)) && (mOver (sU g 9 0 (kd1 (isF n x))) nc (x.toNatClampNeg))))) (by first | (simp only [bq, decide_eq_true h0, if_pos h0, c_25]; done) | (simp only [bq, decide_eq_true h0, if_pos h0, c_25]; rfl) | (simp [bq, decide_eq_true h0, if_pos h0, c_25]; done)) (hj_33_1 _ _ _ hw hS hl)
  refine kb_eq (tgt := 13) hx hb dX3_isDue_6 (by decide) (fun c_6 => ?_) (fun c_6 => ?_)
  · refine lv_iconst (v := 1) hx hb dX3_isDue_13 (by decide) ?_
    exact kx_top (v := (kd1 (isF n x))) (by first | (simp only [bq, c_6]; done) | (simp only [bq, c_6]; rfl) | (simp [bq, c_6]; done)) (hj_14_0 _ _ _ hw hS hl)
  · have v_x : vp_in x 30 := isF_vp (c_6) hn30 (by decide)
    have w_x : x.toNatClampNeg < n := isF_lt (c_6) hn30
    refine lv_iconst (v := 0) hx hb dX3_isDue_9 (by decide) ?_
    refine lv_goto (tgt := 14) hx hb dX3_isDue_10 (by decide) ?_
    exact kx_top (v := (kd1 (isF n x))) (by first | (simp only [bq, c_6]; done) | (simp only [bq, c_6]; rfl) | (simp [bq, c_6]; done)) (hj_14_0 _ _ _ hw hS hl)
theorem hd_X3_isAsked : yX3_isAsked.cls = RX3 ∧ yX3_isAsked.cls ≠ "java/lang/invoke/MethodHandle" ∧ yX3_isAsked.cls ≠ "java/lang/invoke/VarHandle" ∧ (parseMethodDescriptor yX3_isAsked.desc).map (fun d => d.parameters.length) = some 2 := by decide +kernel
set_option maxHeartbeats 4000000 in
set_option maxRecDepth 100000 in
theorem c_X3_isAsked (l : Launch) (hfl : l.stackTraces = false) (D : va_G) (cy : Nat → ClassId) (base : Nat) (ad : Nat → Nat) (n nc : Nat) (g : sg) (i : Nat) (j : Nat) (hi : i < n) (hj : j < nc) (hR : mR n nc g) : kM l yX3_isAsked wsX3_isAsked (kR 3 0 0) D cy base ad n nc g [.ref (ad 9), .int (nI i), .int (nI j)] (kD True (some (.int (b2 (mAsk g j i)))) ad n nc g) kNo 0 0 := by
  refine kx_meth (cc := cX3_isAsked) (maxL := 3) (ret := (some .boolean)) (by decide) rfl (Nat.le_of_ble_eq_true rfl) ?_
  intro p e s m args below meth c ls hx hb hr hml hown hts hlk hT hG hw0 hS0 hl Q H locs hQ hw hS hH0 hlocs0
  have hl : lv_has ls 3 [(0, .ref (ad 9)), (1, .int (nI i)), (2, .int (nI j))] := hl
  have hown : s.vm.findClass RX3 = some m.cls := hown
  have hF : CallFix p m c cX3_isAsked 3 s args wsX3_isAsked RX3 := ⟨hx, hb, hml, hown, hts⟩
  have hn30 : n ≤ 30 := hw.2.2.1
  have hc20 : nc ≤ 20 := hw.2.2.2
  clear hw0 hS0 hH0 hlocs0
  refine lv_aload_n hx hb dX3_isAsked_0 rfl (lv_at hl 0 rfl) ?_
  refine lv_iload_n hx hb dX3_isAsked_1 rfl (lv_at hl 1 rfl) ?_
  refine kx_do0 (st1 := [.int (b2 (mHere g i))]) (kx_cv (As := [.int (nI i)]) (rest := []) hF hG hw hS hl.1 kC_9 rfl (c_X3_isHere l hfl D cy base ad n nc g i (by first | assumption | omega | exact mR_9 (by assumption) _ _ | simp [sU, hi, hj, hR])) gX3_isAsked_X3_isHere rfl rfl rfl hd_X3_isHere ⟨Nat.le_of_ble_eq_true rfl, Nat.le_of_ble_eq_true rfl⟩ rfl rfl (Nat.le_of_ble_eq_true rfl) dX3_isAsked_2 ⟨Nat.le_of_ble_eq_true rfl, Nat.le_of_ble_eq_true rfl⟩) hS rfl (fun H locs hw hS => ?_)
  have hj_22_0 : ∀ (H : Heap) (locs : List Loc) (ls : Array Slot), kW D cy base ad n nc g H → va_S (kA base) s.heap H locs → lv_has ls 3 [(0, .ref (ad 9)), (1, .int (nI i)), (2, .int (nI j))] → W p l e (kR 3 0 0) s m args below meth c H locs 0 0 Q (F0 m 22 ls [.int (b2 ((mHere g i) && (mCnd g i j)))]) := by
    intro H locs ls hw hS hl
    exact kx_retZ hQ hx hb hr hlk hw hS (Nat.le_of_ble_eq_true rfl) (Nat.le_of_ble_eq_true rfl) dX3_isAsked_22 (nar_b2 _) (kd_i (trivial) (rfl) (rfl))
  refine kb_eq (tgt := 21) hx hb dX3_isAsked_5 (by decide) (fun c_5 => ?_) (fun c_5 => ?_)
  · refine lv_iconst (v := 0) hx hb dX3_isAsked_21 (by decide) ?_
    exact kx_top (v := (b2 ((mHere g i) && (mCnd g i j)))) (by first | (simp only [bq, c_5]; done) | (simp only [bq, c_5]; rfl) | (simp [bq, c_5]; done)) (hj_22_0 _ _ _ hw hS hl)
  · refine lv_aload_n hx hb dX3_isAsked_8 rfl (lv_at hl 0 rfl) ?_
    refine lv_iload_n hx hb dX3_isAsked_9 rfl (lv_at hl 1 rfl) ?_
    refine lv_iload_n hx hb dX3_isAsked_10 rfl (lv_at hl 2 rfl) ?_
    refine kx_do0 (st1 := [.int (b2 (mCnd g i j))]) (kx_cv (As := [.int (nI i), .int (nI j)]) (rest := []) hF hG hw hS hl.1 kC_9 rfl (c_X3_isCandidate l hfl D cy base ad n nc g i j (by first | assumption | omega | exact mR_9 (by assumption) _ _ | simp [sU, hi, hj, hR]) (by first | assumption | omega | exact mR_9 (by assumption) _ _ | simp [sU, hi, hj, hR]) (by first | assumption | omega | exact mR_9 (by assumption) _ _ | simp [sU, hi, hj, hR])) gX3_isAsked_X3_isCandidate rfl rfl rfl hd_X3_isCandidate ⟨Nat.le_of_ble_eq_true rfl, Nat.le_of_ble_eq_true rfl⟩ rfl rfl (Nat.le_of_ble_eq_true rfl) dX3_isAsked_11 ⟨Nat.le_of_ble_eq_true rfl, Nat.le_of_ble_eq_true rfl⟩) hS rfl (fun H locs hw hS => ?_)
    refine kb_eq (tgt := 21) hx hb dX3_isAsked_14 (by decide) (fun c_14 => ?_) (fun c_14 => ?_)
    · refine lv_iconst (v := 0) hx hb dX3_isAsked_21 (by decide) ?_
      exact kx_top (v := (b2 ((mHere g i) && (mCnd g i j)))) (by first | (simp only [bq, c_5, c_14]; done) | (simp only [bq, c_5, c_14]; rfl) | (simp [bq, c_5, c_14]; done)) (hj_22_0 _ _ _ hw hS hl)
    · refine lv_iconst (v := 1) hx hb dX3_isAsked_17 (by decide) ?_
      refine lv_goto (tgt := 22) hx hb dX3_isAsked_18 (by decide) ?_
      exact kx_top (v := (b2 ((mHere g i) && (mCnd g i j)))) (by first | (simp only [bq, c_5, c_14]; done) | (simp only [bq, c_5, c_14]; rfl) | (simp [bq, c_5, c_14]; done)) (hj_22_0 _ _ _ hw hS hl)
theorem hd_X3_aheadOf : yX3_aheadOf.cls = RX3 ∧ yX3_aheadOf.cls ≠ "java/lang/invoke/MethodHandle" ∧ yX3_aheadOf.cls ≠ "java/lang/invoke/VarHandle" ∧ (parseMethodDescriptor yX3_aheadOf.desc).map (fun d => d.parameters.length) = some 2 := by decide +kernel
set_option maxHeartbeats 4000000 in
set_option maxRecDepth 100000 in
theorem c_X3_aheadOf (l : Launch) (hfl : l.stackTraces = false) (D : va_G) (cy : Nat → ClassId) (base : Nat) (ad : Nat → Nat) (n nc : Nat) (g : sg) (i : Nat) (j : Nat) (hfn : g 9 8 = nI n) (hi : i < n) (hj : j < nc) (hR : mR n nc g) : kM l yX3_aheadOf wsX3_aheadOf (kR 4 0 0) D cy base ad n nc g [.ref (ad 9), .int (nI i), .int (nI j)] (kD True (some (.int (mAh g j i n))) ad n nc g) kNo 0 0 := by
  refine kx_meth (cc := cX3_aheadOf) (maxL := 7) (ret := (some .int)) (by decide) rfl (Nat.le_of_ble_eq_true rfl) ?_
  intro p e s m args below meth c ls hx hb hr hml hown hts hlk hT hG hw0 hS0 hl Q H locs hQ hw hS hH0 hlocs0
  have hl : lv_has ls 7 [(0, .ref (ad 9)), (1, .int (nI i)), (2, .int (nI j))] := hl
  have hown : s.vm.findClass RX3 = some m.cls := hown
  have hF : CallFix p m c cX3_aheadOf 7 s args wsX3_aheadOf RX3 := ⟨hx, hb, hml, hown, hts⟩
  have hn30 : n ≤ 30 := hw.2.2.1
  have hc20 : nc ≤ 20 := hw.2.2.2
  clear hw0 hS0 hH0 hlocs0
  have i3 : ∀ w ∈ wsX30, w ∈ wsX3_aheadOf := by decide +kernel
  have f_113 := hts (.fieldLink RX3 113 "LostroomModel" "finds" "I") (by decide +kernel)
  refine lv_aload_n hx hb dX3_aheadOf_0 rfl (lv_at hl 0 rfl) ?_
  refine lv_iload_n hx hb dX3_aheadOf_1 rfl (lv_at hl 1 rfl) ?_
  refine lv_iload_n hx hb dX3_aheadOf_2 rfl (lv_at hl 2 rfl) ?_
  refine kx_do0 (st1 := [.int (mSc g i j)]) (kx_cv (As := [.int (nI i), .int (nI j)]) (rest := []) hF hG hw hS hl.1 kC_9 rfl (c_X3_scoreOf l hfl D cy base ad n nc g i j (by first | assumption | omega | exact mR_9 (by assumption) _ _ | simp [sU, hfn, hi, hj, hR]) (by first | assumption | omega | exact mR_9 (by assumption) _ _ | simp [sU, hfn, hi, hj, hR]) (by first | assumption | omega | exact mR_9 (by assumption) _ _ | simp [sU, hfn, hi, hj, hR])) gX3_aheadOf_X3_scoreOf rfl rfl rfl hd_X3_scoreOf ⟨Nat.le_of_ble_eq_true rfl, Nat.le_of_ble_eq_true rfl⟩ rfl rfl (Nat.le_of_ble_eq_true rfl) dX3_aheadOf_3 ⟨Nat.le_of_ble_eq_true rfl, Nat.le_of_ble_eq_true rfl⟩) hS rfl (fun H locs hw hS => ?_)
  refine lv_istore_n (lv' := [(3, .int (mSc g i j)), (0, .ref (ad 9)), (1, .int (nI i)), (2, .int (nI j))]) hx hb dX3_aheadOf_6 rfl hl (by decide) rfl (fun ls hl => ?_)
  refine lv_iconst (v := 0) hx hb dX3_aheadOf_7 (by decide) ?_
  refine lv_istore (lv' := [(4, .int (0 : Int32)), (3, .int (mSc g i j)), (0, .ref (ad 9)), (1, .int (nI i)), (2, .int (nI j))]) hx hb dX3_aheadOf_8 hl (by decide) rfl (fun ls hl => ?_)
  refine lv_iconst (v := 0) hx hb dX3_aheadOf_10 (by decide) ?_
  refine lv_istore (lv' := [(5, .int (0 : Int32)), (4, .int (0 : Int32)), (3, .int (mSc g i j)), (0, .ref (ad 9)), (1, .int (nI i)), (2, .int (nI j))]) hx hb dX3_aheadOf_11 hl (by decide) rfl (fun ls hl => ?_)
  have lp_13 : ∀ (nn k : Nat), k ≤ n → n < k + nn → ∀ (H : Heap) (locs : List Loc) (ls : Array Slot), kW D cy base ad n nc g H → va_S (kA base) s.heap H locs → lv_has ls 7 [(5, .int (nI k)), (4, .int (mAh g j i k)), (3, .int (mSc g i j)), (0, .ref (ad 9)), (1, .int (nI i)), (2, .int (nI j))] → W p l e (kR 4 0 0) s m args below meth c H locs 0 0 Q (F0 m 13 ls []) := by
    intro nn
    induction nn with
    | zero => intro k h1 h2; exact absurd h2 (by omega)
    | succ nn ih_13 =>
      intro k hk_k hkn_k H locs ls hw hS hl
      refine lv_iload hx hb dX3_aheadOf_13 (lv_at hl 0 rfl) ?_
      refine lv_aload_n hx hb dX3_aheadOf_15 rfl (lv_at hl 3 rfl) ?_
      refine kx_getM (v := .int (nI n)) hx hb hts hown hG hw i3 8 (by decide) f_113 (congrArg Value.int (hfn)) dX3_aheadOf_16 ?_
      refine lv_icmp_ge (tgt := 79) hx hb dX3_aheadOf_19 (by decide) (fun c_19 => ?_) (fun c_19 => ?_)
      · have e_k : k = n := Nat.le_antisymm hk_k (le_nI (a := n) (b := k) c_19 (by omega) (by omega))
        refine lv_iload hx hb dX3_aheadOf_79 (lv_at hl 1 rfl) ?_
        exact kx_retI hQ hx hb hr hlk hw hS (Nat.le_of_ble_eq_true rfl) (Nat.le_of_ble_eq_true rfl) dX3_aheadOf_81 (kd_i (trivial) (by rw [e_k]) (rfl))
      · have hlt_k : k < n := lt_nI (a := n) (b := k) c_19 (by omega) (by omega)
        refine lv_aload_n hx hb dX3_aheadOf_22 rfl (lv_at hl 3 rfl) ?_
        refine lv_iload hx hb dX3_aheadOf_23 (lv_at hl 0 rfl) ?_
        refine lv_iload_n hx hb dX3_aheadOf_25 rfl (lv_at hl 5 rfl) ?_
        refine kx_do0 (st1 := [.int (b2 (mAsk g j k))]) (kx_cv (As := [.int (nI k), .int (nI j)]) (rest := []) hF hG hw hS hl.1 kC_9 rfl (c_X3_isAsked l hfl D cy base ad n nc g k j (by first | assumption | omega | exact mR_9 (by assumption) _ _ | simp [sU, hfn, hi, hj, hR]) (by first | assumption | omega | exact mR_9 (by assumption) _ _ | simp [sU, hfn, hi, hj, hR]) (by first | assumption | omega | exact mR_9 (by assumption) _ _ | simp [sU, hfn, hi, hj, hR])) gX3_aheadOf_X3_isAsked rfl rfl rfl hd_X3_isAsked ⟨Nat.le_of_ble_eq_true rfl, Nat.le_of_ble_eq_true rfl⟩ rfl rfl (Nat.le_of_ble_eq_true rfl) dX3_aheadOf_26 ⟨Nat.le_of_ble_eq_true rfl, Nat.le_of_ble_eq_true rfl⟩) hS rfl (fun H locs hw hS => ?_)
        have hj_45_0 : ∀ (H : Heap) (locs : List Loc) (ls : Array Slot), kW D cy base ad n nc g H → va_S (kA base) s.heap H locs → lv_has ls 7 [(5, .int (nI k)), (4, .int (mAh g j i k)), (3, .int (mSc g i j)), (0, .ref (ad 9)), (1, .int (nI i)), (2, .int (nI j))] → W p l e (kR 4 0 0) s m args below meth c H locs 0 0 Q (F0 m 45 ls [.int (if (mAsk g j k) = true then ((mSc g k j) - (mSc g i j)) else (-1 : Int32))]) := by
          intro H locs ls hw hS hl
          refine lv_istore (lv' := [(6, .int (if (mAsk g j k) = true then ((mSc g k j) - (mSc g i j)) else (-1 : Int32))), (5, .int (nI k)), (4, .int (mAh g j i k)), (3, .int (mSc g i j)), (0, .ref (ad 9)), (1, .int (nI i)), (2, .int (nI j))]) hx hb dX3_aheadOf_45 hl (by decide) rfl (fun ls hl => ?_)
          refine lv_iload hx hb dX3_aheadOf_47 (lv_at hl 2 rfl) ?_
          refine lv_iload hx hb dX3_aheadOf_49 (lv_at hl 0 rfl) ?_
          have hj_70_1 : ∀ (H : Heap) (locs : List Loc) (ls : Array Slot), kW D cy base ad n nc g H → va_S (kA base) s.heap H locs → lv_has ls 7 [(6, .int (if (mAsk g j k) = true then ((mSc g k j) - (mSc g i j)) else (-1 : Int32))), (5, .int (nI k)), (4, .int (mAh g j i k)), (3, .int (mSc g i j)), (0, .ref (ad 9)), (1, .int (nI i)), (2, .int (nI j))] → W p l e (kR 4 0 0) s m args below meth c H locs 0 0 Q (F0 m 70 ls [.int (b2 ((decide ((0 : Int32) < (if (mAsk g j k) = true then ((mSc g k j) - (mSc g i j)) else (-1 : Int32)))) || ((decide ((if (mAsk g j k) = true then ((mSc g k j) - (mSc g i j)) else (-1 : Int32)) = (0 : Int32))) && (!(decide (nI i ≤ nI k)))))), .int (mAh g j i k)]) := by
            intro H locs ls hw hS hl
            refine lv_iadd hx hb dX3_aheadOf_70 ?_
            refine lv_istore (lv' := [(4, .int (mAh g j i k + (b2 ((decide ((0 : Int32) < (if (mAsk g j k) = true then ((mSc g k j) - (mSc g i j)) else (-1 : Int32)))) || ((decide ((if (mAsk g j k) = true then ((mSc g k j) - (mSc g i j)) else (-1 : Int32)) = (0 : Int32))) && (!(decide (nI i ≤ nI k)))))))), (6, .int (if (mAsk g j k) = true then ((mSc g k j) - (mSc g i j)) else (-1 : Int32))), (5, .int (nI k)), (3, .int (mSc g i j)), (0, .ref (ad 9)), (1, .int (nI i)), (2, .int (nI j))]) hx hb dX3_aheadOf_71 hl (by decide) rfl (fun ls hl => ?_)
            refine lv_iinc (v := (nI k + (1 : Int32))) (lv' := [(5, .int (nI k + (1 : Int32))), (4, .int (mAh g j i k + (b2 ((decide ((0 : Int32) < (if (mAsk g j k) = true then ((mSc g k j) - (mSc g i j)) else (-1 : Int32)))) || ((decide ((if (mAsk g j k) = true then ((mSc g k j) - (mSc g i j)) else (-1 : Int32)) = (0 : Int32))) && (!(decide (nI i ≤ nI k)))))))), (6, .int (if (mAsk g j k) = true then ((mSc g k j) - (mSc g i j)) else (-1 : Int32))), (3, .int (mSc g i j)), (0, .ref (ad 9)), (1, .int (nI i)), (2, .int (nI j))]) hx hb dX3_aheadOf_73 hl (k := 2) rfl rfl (by decide) rfl (fun ls hl => ?_)
            refine lv_goto (tgt := 13) hx hb dX3_aheadOf_76 (by decide) ?_
            exact ih_13 (k + 1) (by omega) (by omega) _ _ _ hw hS (kx_lv (l := [(5, .int (nI k + (1 : Int32))), (4, .int (mAh g j i k + (b2 ((decide ((0 : Int32) < (if (mAsk g j k) = true then ((mSc g k j) - (mSc g i j)) else (-1 : Int32)))) || ((decide ((if (mAsk g j k) = true then ((mSc g k j) - (mSc g i j)) else (-1 : Int32)) = (0 : Int32))) && (!(decide (nI i ≤ nI k)))))))), (3, .int (mSc g i j)), (0, .ref (ad 9)), (1, .int (nI i)), (2, .int (nI j))]) (l' := [(5, .int (nI (k + 1))), (4, .int (mAh g j i (k + 1))), (3, .int (mSc g i j)), (0, .ref (ad 9)), (1, .int (nI i)), (2, .int (nI j))]) (lv_sub hl [0, 1, 3, 4, 5, 6] rfl) (by rw [nI_1]; rfl)) 
          refine lv_if_gt (tgt := 65) hx hb dX3_aheadOf_51 (by decide) (fun c_51 => ?_) (fun c_51 => ?_)
          · refine lv_iconst (v := 1) hx hb dX3_aheadOf_65 (by decide) ?_
            refine lv_goto (tgt := 70) hx hb dX3_aheadOf_66 (by decide) ?_
            exact kx_top (v := (b2 ((decide ((0 : Int32) < (if (mAsk g j k) = true then ((mSc g k j) - (mSc g i j)) else (-1 : Int32)))) || ((decide ((if (mAsk g j k) = true then ((mSc g k j) - (mSc g i j)) else (-1 : Int32)) = (0 : Int32))) && (!(decide (nI i ≤ nI k))))))) (by first | (simp only [bq, decide_eq_true c_51, if_pos c_51]; done) | (simp only [bq, decide_eq_true c_51, if_pos c_51]; rfl) | (simp [bq, decide_eq_true c_51, if_pos c_51]; done)) (hj_70_1 _ _ _ hw hS hl)
          · refine lv_iload hx hb dX3_aheadOf_54 (lv_at hl 0 rfl) ?_
            refine lv_if_ne (tgt := 69) hx hb dX3_aheadOf_56 (by decide) (fun c_56 => ?_) (fun c_56 => ?_)
            · refine lv_iconst (v := 0) hx hb dX3_aheadOf_69 (by decide) ?_
              exact kx_top (v := (b2 ((decide ((0 : Int32) < (if (mAsk g j k) = true then ((mSc g k j) - (mSc g i j)) else (-1 : Int32)))) || ((decide ((if (mAsk g j k) = true then ((mSc g k j) - (mSc g i j)) else (-1 : Int32)) = (0 : Int32))) && (!(decide (nI i ≤ nI k))))))) (by first | (simp only [bq, decide_eq_false c_51, if_neg c_51, decide_eq_false c_56, if_neg c_56]; done) | (simp only [bq, decide_eq_false c_51, if_neg c_51, decide_eq_false c_56, if_neg c_56]; rfl) | (simp [bq, decide_eq_false c_51, if_neg c_51, decide_eq_false c_56, if_neg c_56]; done)) (hj_70_1 _ _ _ hw hS hl)
            · refine lv_iload hx hb dX3_aheadOf_59 (lv_at hl 1 rfl) ?_
              refine lv_iload_n hx hb dX3_aheadOf_61 rfl (lv_at hl 5 rfl) ?_
              refine lv_icmp_ge (tgt := 69) hx hb dX3_aheadOf_62 (by decide) (fun c_62 => ?_) (fun c_62 => ?_)
              · refine lv_iconst (v := 0) hx hb dX3_aheadOf_69 (by decide) ?_
                exact kx_top (v := (b2 ((decide ((0 : Int32) < (if (mAsk g j k) = true then ((mSc g k j) - (mSc g i j)) else (-1 : Int32)))) || ((decide ((if (mAsk g j k) = true then ((mSc g k j) - (mSc g i j)) else (-1 : Int32)) = (0 : Int32))) && (!(decide (nI i ≤ nI k))))))) (by first | (simp only [bq, decide_eq_false c_51, if_neg c_51, decide_eq_true c_56, if_pos c_56, decide_eq_true c_62, if_pos c_62]; done) | (simp only [bq, decide_eq_false c_51, if_neg c_51, decide_eq_true c_56, if_pos c_56, decide_eq_true c_62, if_pos c_62]; rfl) | (simp [bq, decide_eq_false c_51, if_neg c_51, decide_eq_true c_56, if_pos c_56, decide_eq_true c_62, if_pos c_62]; done)) (hj_70_1 _ _ _ hw hS hl)
              · refine lv_iconst (v := 1) hx hb dX3_aheadOf_65 (by decide) ?_
                refine lv_goto (tgt := 70) hx hb dX3_aheadOf_66 (by decide) ?_
                exact kx_top (v := (b2 ((decide ((0 : Int32) < (if (mAsk g j k) = true then ((mSc g k j) - (mSc g i j)) else (-1 : Int32)))) || ((decide ((if (mAsk g j k) = true then ((mSc g k j) - (mSc g i j)) else (-1 : Int32)) = (0 : Int32))) && (!(decide (nI i ≤ nI k))))))) (by first | (simp only [bq, decide_eq_false c_51, if_neg c_51, decide_eq_true c_56, if_pos c_56, decide_eq_false c_62, if_neg c_62]; done) | (simp only [bq, decide_eq_false c_51, if_neg c_51, decide_eq_true c_56, if_pos c_56, decide_eq_false c_62, if_neg c_62]; rfl) | (simp [bq, decide_eq_false c_51, if_neg c_51, decide_eq_true c_56, if_pos c_56, decide_eq_false c_62, if_neg c_62]; done)) (hj_70_1 _ _ _ hw hS hl)
        refine kb_eq (tgt := 44) hx hb dX3_aheadOf_29 (by decide) (fun c_29 => ?_) (fun c_29 => ?_)
        · refine lv_iconst (v := -1) hx hb dX3_aheadOf_44 (by decide) ?_
          exact kx_top (v := (if (mAsk g j k) = true then ((mSc g k j) - (mSc g i j)) else (-1 : Int32))) (by first | (simp only [bq, c_29]; done) | (simp only [bq, c_29]; rfl) | (simp [bq, c_29]; done)) (hj_45_0 _ _ _ hw hS hl)
        · refine lv_aload_n hx hb dX3_aheadOf_32 rfl (lv_at hl 3 rfl) ?_
          refine lv_iload hx hb dX3_aheadOf_33 (lv_at hl 0 rfl) ?_
          refine lv_iload_n hx hb dX3_aheadOf_35 rfl (lv_at hl 5 rfl) ?_
          refine kx_do0 (st1 := [.int (mSc g k j)]) (kx_cv (As := [.int (nI k), .int (nI j)]) (rest := []) hF hG hw hS hl.1 kC_9 rfl (c_X3_scoreOf l hfl D cy base ad n nc g k j (by first | assumption | omega | exact mR_9 (by assumption) _ _ | simp [sU, hfn, hi, hj, hR]) (by first | assumption | omega | exact mR_9 (by assumption) _ _ | simp [sU, hfn, hi, hj, hR]) (by first | assumption | omega | exact mR_9 (by assumption) _ _ | simp [sU, hfn, hi, hj, hR])) gX3_aheadOf_X3_scoreOf rfl rfl rfl hd_X3_scoreOf ⟨Nat.le_of_ble_eq_true rfl, Nat.le_of_ble_eq_true rfl⟩ rfl rfl (Nat.le_of_ble_eq_true rfl) dX3_aheadOf_36 ⟨Nat.le_of_ble_eq_true rfl, Nat.le_of_ble_eq_true rfl⟩) hS rfl (fun H locs hw hS => ?_)
          refine lv_iload_n hx hb dX3_aheadOf_39 rfl (lv_at hl 2 rfl) ?_
          refine lv_isub hx hb dX3_aheadOf_40 ?_
          refine lv_goto (tgt := 45) hx hb dX3_aheadOf_41 (by decide) ?_
          exact kx_top (v := (if (mAsk g j k) = true then ((mSc g k j) - (mSc g i j)) else (-1 : Int32))) (by first | (simp only [bq, c_29]; done) | (simp only [bq, c_29]; rfl) | (simp [bq, c_29]; done)) (hj_45_0 _ _ _ hw hS hl)
  exact lp_13 (n + 1) 0 (by omega) (by omega) _ _ _ hw hS (kx_lv (l := [(5, .int (0 : Int32)), (4, .int (0 : Int32)), (3, .int (mSc g i j)), (0, .ref (ad 9)), (1, .int (nI i)), (2, .int (nI j))]) (l' := [(5, .int (nI 0)), (4, .int (mAh g j i 0)), (3, .int (mSc g i j)), (0, .ref (ad 9)), (1, .int (nI i)), (2, .int (nI j))]) (lv_sub hl [0, 1, 2, 3, 4, 5] rfl) (rfl)) 
theorem hd_X3_candidate : yX3_candidate.cls = RX3 ∧ yX3_candidate.cls ≠ "java/lang/invoke/MethodHandle" ∧ yX3_candidate.cls ≠ "java/lang/invoke/VarHandle" ∧ (parseMethodDescriptor yX3_candidate.desc).map (fun d => d.parameters.length) = some 2 := by decide +kernel
set_option maxHeartbeats 4000000 in
set_option maxRecDepth 100000 in
theorem c_X3_candidate (l : Launch) (hfl : l.stackTraces = false) (D : va_G) (cy : Nat → ClassId) (base : Nat) (ad : Nat → Nat) (n nc : Nat) (g : sg) (x : Int32) (place : Int32) (hfn : g 9 8 = nI n) (hcn : g 9 25 = nI nc) (hR : mR n nc g) : kM l yX3_candidate wsX3_candidate (kR 5 0 0) D cy base ad n nc g [.ref (ad 9), .int x, .int place] (kD True (some (.int (rv (kd1 (isF nc x && !decide (place < 0))) (mCan (sU g 9 0 0) n x.toNatClampNeg place n)))) ad n nc (mk (kd1 (isF nc x && !decide (place < 0))) ((sU g 9 0 0)) g)) kNo 0 0 := by
  refine kx_meth (cc := cX3_candidate) (maxL := 5) (ret := (some .int)) (by decide) rfl (Nat.le_of_ble_eq_true rfl) ?_
  intro p e s m args below meth c ls hx hb hr hml hown hts hlk hT hG hw0 hS0 hl Q H locs hQ hw hS hH0 hlocs0
  have hl : lv_has ls 5 [(0, .ref (ad 9)), (1, .int x), (2, .int place)] := hl
  have hown : s.vm.findClass RX3 = some m.cls := hown
  have hF : CallFix p m c cX3_candidate 5 s args wsX3_candidate RX3 := ⟨hx, hb, hml, hown, hts⟩
  have hn30 : n ≤ 30 := hw.2.2.1
  have hc20 : nc ≤ 20 := hw.2.2.2
  clear hw0 hS0 hH0 hlocs0
  have i3 : ∀ w ∈ wsX30, w ∈ wsX3_candidate := by decide +kernel
  have f_113 := hts (.fieldLink RX3 113 "LostroomModel" "finds" "I") (by decide +kernel)
  refine lv_aload_n hx hb dX3_candidate_0 rfl (lv_at hl 0 rfl) ?_
  refine lv_aload_n hx hb dX3_candidate_1 rfl (lv_at hl 0 rfl) ?_
  refine lv_iload_n hx hb dX3_candidate_2 rfl (lv_at hl 1 rfl) ?_
  refine kx_do0 (st1 := [.int (b2 (isF nc x)), .ref (ad 9)]) (kx_cv (As := [.int x]) (rest := [.ref (ad 9)]) hF hG hw hS hl.1 kC_9 rfl (c_X3_isClaim l hfl D cy base ad n nc g x (by first | assumption | omega | exact mR_9 (by assumption) _ _ | simp [sU, hfn, hcn, hR])) gX3_candidate_X3_isClaim rfl rfl rfl hd_X3_isClaim ⟨Nat.le_of_ble_eq_true rfl, Nat.le_of_ble_eq_true rfl⟩ rfl rfl (Nat.le_of_ble_eq_true rfl) dX3_candidate_3 ⟨Nat.le_of_ble_eq_true rfl, Nat.le_of_ble_eq_true rfl⟩) hS rfl (fun H locs hw hS => ?_)
  have hj_18_0 : ∀ (H : Heap) (locs : List Loc) (ls : Array Slot), kW D cy base ad n nc g H → va_S (kA base) s.heap H locs → lv_has ls 5 [(0, .ref (ad 9)), (1, .int x), (2, .int place)] → W p l e (kR 5 0 0) s m args below meth c H locs 0 0 Q (F0 m 18 ls [.int (kd1 (isF nc x && !decide (place < 0))), .ref (ad 9)]) := by
    intro H locs ls hw hS hl
    refine kx_do0 (st1 := [.int (b2 (decide ((kd1 (isF nc x && !decide (place < 0))) = 0)))]) (kx_cv (As := [.int (kd1 (isF nc x && !decide (place < 0)))]) (rest := []) hF hG hw hS hl.1 kC_9 rfl (c_X3_holds l hfl D cy base ad n nc g (kd1 (isF nc x && !decide (place < 0))) ) gX3_candidate_X3_holds rfl rfl rfl hd_X3_holds ⟨Nat.le_of_ble_eq_true rfl, Nat.le_of_ble_eq_true rfl⟩ rfl rfl (Nat.le_of_ble_eq_true rfl) dX3_candidate_18 ⟨Nat.le_of_ble_eq_true rfl, Nat.le_of_ble_eq_true rfl⟩) hS rfl (fun H locs hw hS => ?_)
    refine kb_ne (tgt := 26) hx hb dX3_candidate_21 (by decide) (fun c_21 => ?_) (fun c_21 => ?_)
    · have h0 : kd1 (isF nc x && !decide (place < 0)) = 0 := of_decide_eq_true c_21
      rw [h0] at hw
      have hk := kd1_0.mp h0
      obtain ⟨i_x, hi_x, rfl⟩ := isF_ex (and_l (hk)) (Nat.le_trans hc20 (by decide))
      have hcl_x : (nI i_x).toNatClampNeg = i_x := cl_nI (by omega)
      refine lv_iconst (v := -1) hx hb dX3_candidate_26 (by decide) ?_
      refine lv_istore_n (lv' := [(3, .int (-1 : Int32)), (0, .ref (ad 9)), (1, .int (nI i_x)), (2, .int place)]) hx hb dX3_candidate_27 rfl hl (by decide) rfl (fun ls hl => ?_)
      refine lv_iconst (v := 0) hx hb dX3_candidate_28 (by decide) ?_
      refine lv_istore (lv' := [(4, .int (0 : Int32)), (3, .int (-1 : Int32)), (0, .ref (ad 9)), (1, .int (nI i_x)), (2, .int place)]) hx hb dX3_candidate_29 hl (by decide) rfl (fun ls hl => ?_)
      have lp_31 : ∀ (nn k : Nat), k ≤ n → n < k + nn → ∀ (H : Heap) (locs : List Loc) (ls : Array Slot), kW D cy base ad n nc (sU g 9 0 (0 : Int32)) H → va_S (kA base) s.heap H locs → lv_has ls 5 [(4, .int (nI k)), (3, .int (mCan (sU g 9 0 (0 : Int32)) n i_x place k)), (0, .ref (ad 9)), (1, .int (nI i_x)), (2, .int place)] → W p l e (kR 5 0 0) s m args below meth c H locs 0 0 Q (F0 m 31 ls []) := by
        intro nn
        induction nn with
        | zero => intro k h1 h2; exact absurd h2 (by omega)
        | succ nn ih_31 =>
          intro k hk_k hkn_k H locs ls hw hS hl
          refine lv_iload hx hb dX3_candidate_31 (lv_at hl 0 rfl) ?_
          refine lv_aload_n hx hb dX3_candidate_33 rfl (lv_at hl 2 rfl) ?_
          refine kx_getM (v := .int (nI n)) hx hb hts hown hG hw i3 8 (by decide) f_113 (congrArg Value.int ((sU_j _ _ _ _ (by decide)).trans (hfn))) dX3_candidate_34 ?_
          refine lv_icmp_ge (tgt := 74) hx hb dX3_candidate_37 (by decide) (fun c_37 => ?_) (fun c_37 => ?_)
          · have e_k : k = n := Nat.le_antisymm hk_k (le_nI (a := n) (b := k) c_37 (by omega) (by omega))
            refine lv_iload_n hx hb dX3_candidate_74 rfl (lv_at hl 1 rfl) ?_
            exact kx_retI hQ hx hb hr hlk hw hS (Nat.le_of_ble_eq_true rfl) (Nat.le_of_ble_eq_true rfl) dX3_candidate_75 (kd_i (trivial) ((rv_0 h0).trans (by rw [e_k, hcl_x])) ((mk_0 h0).trans (by simp only [hcl_x])))
          · have hlt_k : k < n := lt_nI (a := n) (b := k) c_37 (by omega) (by omega)
            refine lv_aload_n hx hb dX3_candidate_40 rfl (lv_at hl 2 rfl) ?_
            refine lv_iload hx hb dX3_candidate_41 (lv_at hl 0 rfl) ?_
            refine lv_iload_n hx hb dX3_candidate_43 rfl (lv_at hl 3 rfl) ?_
            refine kx_do0 (st1 := [.int (b2 (mAsk (sU g 9 0 (0 : Int32)) i_x k))]) (kx_cv (As := [.int (nI k), .int (nI i_x)]) (rest := []) hF hG hw hS hl.1 kC_9 rfl (c_X3_isAsked l hfl D cy base ad n nc (sU g 9 0 (0 : Int32)) k i_x (by first | assumption | omega | exact mR_9 (by assumption) _ _ | simp [sU, hfn, hcn, hR]) (by first | assumption | omega | exact mR_9 (by assumption) _ _ | simp [sU, hfn, hcn, hR]) (by first | assumption | omega | exact mR_9 (by assumption) _ _ | simp [sU, hfn, hcn, hR])) gX3_candidate_X3_isAsked rfl rfl rfl hd_X3_isAsked ⟨Nat.le_of_ble_eq_true rfl, Nat.le_of_ble_eq_true rfl⟩ rfl rfl (Nat.le_of_ble_eq_true rfl) dX3_candidate_44 ⟨Nat.le_of_ble_eq_true rfl, Nat.le_of_ble_eq_true rfl⟩) hS rfl (fun H locs hw hS => ?_)
            have hj_67_1 : ∀ (H : Heap) (locs : List Loc) (ls : Array Slot), kW D cy base ad n nc (sU g 9 0 (0 : Int32)) H → va_S (kA base) s.heap H locs → lv_has ls 5 [(4, .int (nI k)), (3, .int (mCan (sU g 9 0 (0 : Int32)) n i_x place k)), (0, .ref (ad 9)), (1, .int (nI i_x)), (2, .int place)] → W p l e (kR 5 0 0) s m args below meth c H locs 0 0 Q (F0 m 67 ls [.int (if (mAsk (sU g 9 0 (0 : Int32)) i_x k) = true then (if (mAh (sU g 9 0 (0 : Int32)) i_x k n) = place then nI k else mCan (sU g 9 0 (0 : Int32)) n i_x place k) else mCan (sU g 9 0 (0 : Int32)) n i_x place k)]) := by
              intro H locs ls hw hS hl
              refine lv_istore_n (lv' := [(3, .int (if (mAsk (sU g 9 0 (0 : Int32)) i_x k) = true then (if (mAh (sU g 9 0 (0 : Int32)) i_x k n) = place then nI k else mCan (sU g 9 0 (0 : Int32)) n i_x place k) else mCan (sU g 9 0 (0 : Int32)) n i_x place k)), (4, .int (nI k)), (0, .ref (ad 9)), (1, .int (nI i_x)), (2, .int place)]) hx hb dX3_candidate_67 rfl hl (by decide) rfl (fun ls hl => ?_)
              refine lv_iinc (v := (nI k + (1 : Int32))) (lv' := [(4, .int (nI k + (1 : Int32))), (3, .int (if (mAsk (sU g 9 0 (0 : Int32)) i_x k) = true then (if (mAh (sU g 9 0 (0 : Int32)) i_x k n) = place then nI k else mCan (sU g 9 0 (0 : Int32)) n i_x place k) else mCan (sU g 9 0 (0 : Int32)) n i_x place k)), (0, .ref (ad 9)), (1, .int (nI i_x)), (2, .int place)]) hx hb dX3_candidate_68 hl (k := 1) rfl rfl (by decide) rfl (fun ls hl => ?_)
              refine lv_goto (tgt := 31) hx hb dX3_candidate_71 (by decide) ?_
              exact ih_31 (k + 1) (by omega) (by omega) _ _ _ hw hS (kx_lv (l := [(4, .int (nI k + (1 : Int32))), (3, .int (if (mAsk (sU g 9 0 (0 : Int32)) i_x k) = true then (if (mAh (sU g 9 0 (0 : Int32)) i_x k n) = place then nI k else mCan (sU g 9 0 (0 : Int32)) n i_x place k) else mCan (sU g 9 0 (0 : Int32)) n i_x place k)), (0, .ref (ad 9)), (1, .int (nI i_x)), (2, .int place)]) (l' := [(4, .int (nI (k + 1))), (3, .int (mCan (sU g 9 0 (0 : Int32)) n i_x place (k + 1))), (0, .ref (ad 9)), (1, .int (nI i_x)), (2, .int place)]) (lv_sub hl [0, 1, 2, 3, 4] rfl) (by rw [nI_1]; rfl)) 
            refine kb_eq (tgt := 66) hx hb dX3_candidate_47 (by decide) (fun c_47 => ?_) (fun c_47 => ?_)
            · refine lv_iload_n hx hb dX3_candidate_66 rfl (lv_at hl 1 rfl) ?_
              exact kx_top (v := (if (mAsk (sU g 9 0 (0 : Int32)) i_x k) = true then (if (mAh (sU g 9 0 (0 : Int32)) i_x k n) = place then nI k else mCan (sU g 9 0 (0 : Int32)) n i_x place k) else mCan (sU g 9 0 (0 : Int32)) n i_x place k)) (by first | (simp only [bq, c_47]; done) | (simp only [bq, c_47]; rfl) | (simp [bq, c_47]; done)) (hj_67_1 _ _ _ hw hS hl)
            · refine lv_aload_n hx hb dX3_candidate_50 rfl (lv_at hl 2 rfl) ?_
              refine lv_iload hx hb dX3_candidate_51 (lv_at hl 0 rfl) ?_
              refine lv_iload_n hx hb dX3_candidate_53 rfl (lv_at hl 3 rfl) ?_
              refine kx_do0 (st1 := [.int (mAh (sU g 9 0 (0 : Int32)) i_x k n)]) (kx_cv (As := [.int (nI k), .int (nI i_x)]) (rest := []) hF hG hw hS hl.1 kC_9 rfl (c_X3_aheadOf l hfl D cy base ad n nc (sU g 9 0 (0 : Int32)) k i_x (by first | assumption | omega | exact mR_9 (by assumption) _ _ | simp [sU, hfn, hcn, hR]) (by first | assumption | omega | exact mR_9 (by assumption) _ _ | simp [sU, hfn, hcn, hR]) (by first | assumption | omega | exact mR_9 (by assumption) _ _ | simp [sU, hfn, hcn, hR]) (by first | assumption | omega | exact mR_9 (by assumption) _ _ | simp [sU, hfn, hcn, hR])) gX3_candidate_X3_aheadOf rfl rfl rfl hd_X3_aheadOf ⟨Nat.le_of_ble_eq_true rfl, Nat.le_of_ble_eq_true rfl⟩ rfl rfl (Nat.le_of_ble_eq_true rfl) dX3_candidate_54 ⟨Nat.le_of_ble_eq_true rfl, Nat.le_of_ble_eq_true rfl⟩) hS rfl (fun H locs hw hS => ?_)
              refine lv_iload_n hx hb dX3_candidate_57 rfl (lv_at hl 4 rfl) ?_
              refine lv_icmp_ne (tgt := 66) hx hb dX3_candidate_58 (by decide) (fun c_58 => ?_) (fun c_58 => ?_)
              · refine lv_iload_n hx hb dX3_candidate_66 rfl (lv_at hl 1 rfl) ?_
                exact kx_top (v := (if (mAsk (sU g 9 0 (0 : Int32)) i_x k) = true then (if (mAh (sU g 9 0 (0 : Int32)) i_x k n) = place then nI k else mCan (sU g 9 0 (0 : Int32)) n i_x place k) else mCan (sU g 9 0 (0 : Int32)) n i_x place k)) (by first | (simp only [bq, c_47, decide_eq_false c_58, if_neg c_58]; done) | (simp only [bq, c_47, decide_eq_false c_58, if_neg c_58]; rfl) | (simp [bq, c_47, decide_eq_false c_58, if_neg c_58]; done)) (hj_67_1 _ _ _ hw hS hl)
              · refine lv_iload hx hb dX3_candidate_61 (lv_at hl 0 rfl) ?_
                refine lv_goto (tgt := 67) hx hb dX3_candidate_63 (by decide) ?_
                exact kx_top (v := (if (mAsk (sU g 9 0 (0 : Int32)) i_x k) = true then (if (mAh (sU g 9 0 (0 : Int32)) i_x k n) = place then nI k else mCan (sU g 9 0 (0 : Int32)) n i_x place k) else mCan (sU g 9 0 (0 : Int32)) n i_x place k)) (by first | (simp only [bq, c_47, decide_eq_true c_58, if_pos c_58]; done) | (simp only [bq, c_47, decide_eq_true c_58, if_pos c_58]; rfl) | (simp [bq, c_47, decide_eq_true c_58, if_pos c_58]; done)) (hj_67_1 _ _ _ hw hS hl)
      exact lp_31 (n + 1) 0 (by omega) (by omega) _ _ _ hw hS (kx_lv (l := [(4, .int (0 : Int32)), (3, .int (-1 : Int32)), (0, .ref (ad 9)), (1, .int (nI i_x)), (2, .int place)]) (l' := [(4, .int (nI 0)), (3, .int (mCan (sU g 9 0 (0 : Int32)) n i_x place 0)), (0, .ref (ad 9)), (1, .int (nI i_x)), (2, .int place)]) (lv_sub hl [0, 1, 2, 3, 4] rfl) (rfl)) 
    · have h0 : ¬ kd1 (isF nc x && !decide (place < 0)) = 0 := of_decide_eq_false c_21
      refine lv_iconst (v := 0) hx hb dX3_candidate_24 (by decide) ?_
      exact kx_retI hQ hx hb hr hlk hw hS (Nat.le_of_ble_eq_true rfl) (Nat.le_of_ble_eq_true rfl) dX3_candidate_25 (kd_i (trivial) (rv_n h0) (mk_n h0))
  refine kb_eq (tgt := 17) hx hb dX3_candidate_6 (by decide) (fun c_6 => ?_) (fun c_6 => ?_)
  · refine lv_iconst (v := 1) hx hb dX3_candidate_17 (by decide) ?_
    exact kx_top (v := (kd1 (isF nc x && !decide (place < 0)))) (by first | (simp only [bq, c_6]; done) | (simp only [bq, c_6]; rfl) | (simp [bq, c_6]; done)) (hj_18_0 _ _ _ hw hS hl)
  · have v_x : vp_in x 20 := isF_vp (c_6) hc20 (by decide)
    have w_x : x.toNatClampNeg < nc := isF_lt (c_6) (Nat.le_trans hc20 (by decide))
    refine lv_iload_n hx hb dX3_candidate_9 rfl (lv_at hl 2 rfl) ?_
    refine lv_if_lt (tgt := 17) hx hb dX3_candidate_10 (by decide) (fun c_10 => ?_) (fun c_10 => ?_)
    · refine lv_iconst (v := 1) hx hb dX3_candidate_17 (by decide) ?_
      exact kx_top (v := (kd1 (isF nc x && !decide (place < 0)))) (by first | (simp only [bq, c_6, decide_eq_true c_10, if_pos c_10]; done) | (simp only [bq, c_6, decide_eq_true c_10, if_pos c_10]; rfl) | (simp [bq, c_6, decide_eq_true c_10, if_pos c_10]; done)) (hj_18_0 _ _ _ hw hS hl)
    · refine lv_iconst (v := 0) hx hb dX3_candidate_13 (by decide) ?_
      refine lv_goto (tgt := 18) hx hb dX3_candidate_14 (by decide) ?_
      exact kx_top (v := (kd1 (isF nc x && !decide (place < 0)))) (by first | (simp only [bq, c_6, decide_eq_false c_10, if_neg c_10]; done) | (simp only [bq, c_6, decide_eq_false c_10, if_neg c_10]; rfl) | (simp [bq, c_6, decide_eq_false c_10, if_neg c_10]; done)) (hj_18_0 _ _ _ hw hS hl)
theorem hd_X3_question : yX3_question.cls = RX3 ∧ yX3_question.cls ≠ "java/lang/invoke/MethodHandle" ∧ yX3_question.cls ≠ "java/lang/invoke/VarHandle" ∧ (parseMethodDescriptor yX3_question.desc).map (fun d => d.parameters.length) = some 1 := by decide +kernel
set_option maxHeartbeats 4000000 in
set_option maxRecDepth 100000 in
theorem c_X3_question (l : Launch) (hfl : l.stackTraces = false) (D : va_G) (cy : Nat → ClassId) (base : Nat) (ad : Nat → Nat) (n nc : Nat) (g : sg) (x : Int32) (hfn : g 9 8 = nI n) (hcn : g 9 25 = nI nc) (hR : mR n nc g) : kM l yX3_question wsX3_question (kR 5 0 0) D cy base ad n nc g [.ref (ad 9), .int x] (kD True (some (.int (rv (kd1 (isF nc x)) ((mQ (sU g 9 0 0) n x.toNatClampNeg 24).1)))) ad n nc (mk (kd1 (isF nc x)) ((sU g 9 0 0)) g)) kNo 0 0 := by
  refine kx_meth (cc := cX3_question) (maxL := 9) (ret := (some .int)) (by decide) rfl (Nat.le_of_ble_eq_true rfl) ?_
  intro p e s m args below meth c ls hx hb hr hml hown hts hlk hT hG hw0 hS0 hl Q H locs hQ hw hS hH0 hlocs0
  have hl : lv_has ls 9 [(0, .ref (ad 9)), (1, .int x)] := hl
  have hown : s.vm.findClass RX3 = some m.cls := hown
  have hF : CallFix p m c cX3_question 9 s args wsX3_question RX3 := ⟨hx, hb, hml, hown, hts⟩
  have hn30 : n ≤ 30 := hw.2.2.1
  have hc20 : nc ≤ 20 := hw.2.2.2
  clear hw0 hS0 hH0 hlocs0
  have i3 : ∀ w ∈ wsX30, w ∈ wsX3_question := by decide +kernel
  have f_38 := hts (.fieldLink RX3 38 "LostroomModel" "words" "[I") (by decide +kernel)
  have f_41 := hts (.fieldLink RX3 41 "LostroomModel" "secrets" "[I") (by decide +kernel)
  have f_90 := hts (.fieldLink RX3 90 "LostroomModel" "said" "[I") (by decide +kernel)
  have f_113 := hts (.fieldLink RX3 113 "LostroomModel" "finds" "I") (by decide +kernel)
  refine lv_aload_n hx hb dX3_question_0 rfl (lv_at hl 0 rfl) ?_
  refine lv_aload_n hx hb dX3_question_1 rfl (lv_at hl 0 rfl) ?_
  refine lv_iload_n hx hb dX3_question_2 rfl (lv_at hl 1 rfl) ?_
  refine kx_do0 (st1 := [.int (b2 (isF nc x)), .ref (ad 9)]) (kx_cv (As := [.int x]) (rest := [.ref (ad 9)]) hF hG hw hS hl.1 kC_9 rfl (c_X3_isClaim l hfl D cy base ad n nc g x (by first | assumption | omega | exact mR_9 (by assumption) _ _ | simp [sU, hfn, hcn, hR])) gX3_question_X3_isClaim rfl rfl rfl hd_X3_isClaim ⟨Nat.le_of_ble_eq_true rfl, Nat.le_of_ble_eq_true rfl⟩ rfl rfl (Nat.le_of_ble_eq_true rfl) dX3_question_3 ⟨Nat.le_of_ble_eq_true rfl, Nat.le_of_ble_eq_true rfl⟩) hS rfl (fun H locs hw hS => ?_)
  have hj_14_0 : ∀ (H : Heap) (locs : List Loc) (ls : Array Slot), kW D cy base ad n nc g H → va_S (kA base) s.heap H locs → lv_has ls 9 [(0, .ref (ad 9)), (1, .int x)] → W p l e (kR 5 0 0) s m args below meth c H locs 0 0 Q (F0 m 14 ls [.int (kd1 (isF nc x)), .ref (ad 9)]) := by
    intro H locs ls hw hS hl
    refine kx_do0 (st1 := [.int (b2 (decide ((kd1 (isF nc x)) = 0)))]) (kx_cv (As := [.int (kd1 (isF nc x))]) (rest := []) hF hG hw hS hl.1 kC_9 rfl (c_X3_holds l hfl D cy base ad n nc g (kd1 (isF nc x)) ) gX3_question_X3_holds rfl rfl rfl hd_X3_holds ⟨Nat.le_of_ble_eq_true rfl, Nat.le_of_ble_eq_true rfl⟩ rfl rfl (Nat.le_of_ble_eq_true rfl) dX3_question_14 ⟨Nat.le_of_ble_eq_true rfl, Nat.le_of_ble_eq_true rfl⟩) hS rfl (fun H locs hw hS => ?_)
    refine kb_ne (tgt := 22) hx hb dX3_question_17 (by decide) (fun c_17 => ?_) (fun c_17 => ?_)
    · have h0 : kd1 (isF nc x) = 0 := of_decide_eq_true c_17
      rw [h0] at hw
      have hk := kd1_0.mp h0
      obtain ⟨i_x, hi_x, rfl⟩ := isF_ex (hk) (Nat.le_trans hc20 (by decide))
      have hcl_x : (nI i_x).toNatClampNeg = i_x := cl_nI (by omega)
      refine lv_iconst (v := -1) hx hb dX3_question_22 (by decide) ?_
      refine lv_istore_n (lv' := [(2, .int (-1 : Int32)), (0, .ref (ad 9)), (1, .int (nI i_x))]) hx hb dX3_question_23 rfl hl (by decide) rfl (fun ls hl => ?_)
      refine lv_iconst (v := 0) hx hb dX3_question_24 (by decide) ?_
      refine lv_istore_n (lv' := [(3, .int (0 : Int32)), (2, .int (-1 : Int32)), (0, .ref (ad 9)), (1, .int (nI i_x))]) hx hb dX3_question_25 rfl hl (by decide) rfl (fun ls hl => ?_)
      refine lv_bipush (v := 23) hx hb dX3_question_26 (by decide) ?_
      refine lv_istore (lv' := [(4, .int (23 : Int32)), (3, .int (0 : Int32)), (2, .int (-1 : Int32)), (0, .ref (ad 9)), (1, .int (nI i_x))]) hx hb dX3_question_28 hl (by decide) rfl (fun ls hl => ?_)
      have lp_30 : ∀ (nn w : Nat), w ≤ 24 → 24 < w + nn → ∀ (H : Heap) (locs : List Loc) (ls : Array Slot), kW D cy base ad n nc (sU g 9 0 (0 : Int32)) H → va_S (kA base) s.heap H locs → lv_has ls 9 [(4, .int ((23 : Int32) - nI w)), (3, .int ((mQ (sU g 9 0 (0 : Int32)) n i_x w).2)), (2, .int ((mQ (sU g 9 0 (0 : Int32)) n i_x w).1)), (0, .ref (ad 9)), (1, .int (nI i_x))] → W p l e (kR 5 0 0) s m args below meth c H locs 0 0 Q (F0 m 30 ls []) := by
        intro nn
        induction nn with
        | zero => intro w h1 h2; exact absurd h2 (by omega)
        | succ nn ih_30 =>
          intro w hk_w hkn_w H locs ls hw hS hl
          refine lv_iload hx hb dX3_question_30 (lv_at hl 0 rfl) ?_
          refine lv_if_lt (tgt := 210) hx hb dX3_question_32 (by decide) (fun c_32 => ?_) (fun c_32 => ?_)
          · have e_w : w = 24 := Nat.le_antisymm hk_w (sub_neg hk_w c_32)
            refine lv_iload_n hx hb dX3_question_210 rfl (lv_at hl 2 rfl) ?_
            exact kx_retI hQ hx hb hr hlk hw hS (Nat.le_of_ble_eq_true rfl) (Nat.le_of_ble_eq_true rfl) dX3_question_211 (kd_i (trivial) ((rv_0 h0).trans (by rw [e_w, hcl_x])) ((mk_0 h0).trans (by simp only [hcl_x])))
          · have hlt_w : w < 24 := sub_nneg hk_w c_32
            refine lv_iconst (v := 0) hx hb dX3_question_35 (by decide) ?_
            refine lv_istore (lv' := [(5, .int (0 : Int32)), (4, .int ((23 : Int32) - nI w)), (3, .int ((mQ (sU g 9 0 (0 : Int32)) n i_x w).2)), (2, .int ((mQ (sU g 9 0 (0 : Int32)) n i_x w).1)), (0, .ref (ad 9)), (1, .int (nI i_x))]) hx hb dX3_question_36 hl (by decide) rfl (fun ls hl => ?_)
            refine lv_iconst (v := 0) hx hb dX3_question_38 (by decide) ?_
            refine lv_istore (lv' := [(6, .int (0 : Int32)), (5, .int (0 : Int32)), (4, .int ((23 : Int32) - nI w)), (3, .int ((mQ (sU g 9 0 (0 : Int32)) n i_x w).2)), (2, .int ((mQ (sU g 9 0 (0 : Int32)) n i_x w).1)), (0, .ref (ad 9)), (1, .int (nI i_x))]) hx hb dX3_question_39 hl (by decide) rfl (fun ls hl => ?_)
            refine lv_iconst (v := 0) hx hb dX3_question_41 (by decide) ?_
            refine lv_istore (lv' := [(7, .int (0 : Int32)), (6, .int (0 : Int32)), (5, .int (0 : Int32)), (4, .int ((23 : Int32) - nI w)), (3, .int ((mQ (sU g 9 0 (0 : Int32)) n i_x w).2)), (2, .int ((mQ (sU g 9 0 (0 : Int32)) n i_x w).1)), (0, .ref (ad 9)), (1, .int (nI i_x))]) hx hb dX3_question_42 hl (by decide) rfl (fun ls hl => ?_)
            have lp_44 : ∀ (nn k : Nat), k ≤ n → n < k + nn → ∀ (H : Heap) (locs : List Loc) (ls : Array Slot), kW D cy base ad n nc (sU g 9 0 (0 : Int32)) H → va_S (kA base) s.heap H locs → lv_has ls 9 [(7, .int (nI k)), (6, .int (mQb (sU g 9 0 (0 : Int32)) i_x ((23 : Int32) - nI w) k)), (5, .int (mQm (sU g 9 0 (0 : Int32)) i_x k)), (4, .int ((23 : Int32) - nI w)), (3, .int ((mQ (sU g 9 0 (0 : Int32)) n i_x w).2)), (2, .int ((mQ (sU g 9 0 (0 : Int32)) n i_x w).1)), (0, .ref (ad 9)), (1, .int (nI i_x))] → W p l e (kR 5 0 0) s m args below meth c H locs 0 0 Q (F0 m 44 ls []) := by
              intro nn
              induction nn with
              | zero => intro k h1 h2; exact absurd h2 (by omega)
              | succ nn ih_44 =>
                intro k hk_k hkn_k H locs ls hw hS hl
                refine lv_iload hx hb dX3_question_44 (lv_at hl 0 rfl) ?_
                refine lv_aload_n hx hb dX3_question_46 rfl (lv_at hl 6 rfl) ?_
                refine kx_getM (v := .int (nI n)) hx hb hts hown hG hw i3 8 (by decide) f_113 (congrArg Value.int ((sU_j _ _ _ _ (by decide)).trans (hfn))) dX3_question_47 ?_
                refine lv_icmp_ge (tgt := 126) hx hb dX3_question_50 (by decide) (fun c_50 => ?_) (fun c_50 => ?_)
                · have e_k : k = n := Nat.le_antisymm hk_k (le_nI (a := n) (b := k) c_50 (by omega) (by omega))
                  rw [e_k] at hl
                  refine lv_iload hx hb dX3_question_126 (lv_at hl 1 rfl) ?_
                  have hj_139_1 : ∀ (H : Heap) (locs : List Loc) (ls : Array Slot), kW D cy base ad n nc (sU g 9 0 (0 : Int32)) H → va_S (kA base) s.heap H locs → lv_has ls 9 [(7, .int (nI n)), (6, .int (mQb (sU g 9 0 (0 : Int32)) i_x ((23 : Int32) - nI w) n)), (5, .int (mQm (sU g 9 0 (0 : Int32)) i_x n)), (4, .int ((23 : Int32) - nI w)), (3, .int ((mQ (sU g 9 0 (0 : Int32)) n i_x w).2)), (2, .int ((mQ (sU g 9 0 (0 : Int32)) n i_x w).1)), (0, .ref (ad 9)), (1, .int (nI i_x))] → W p l e (kR 5 0 0) s m args below meth c H locs 0 0 Q (F0 m 139 ls [.int (if (0 : Int32) ≤ mQb (sU g 9 0 (0 : Int32)) i_x ((23 : Int32) - nI w) n then mQb (sU g 9 0 (0 : Int32)) i_x ((23 : Int32) - nI w) n else (-mQb (sU g 9 0 (0 : Int32)) i_x ((23 : Int32) - nI w) n))]) := by
                    intro H locs ls hw hS hl
                    refine lv_istore (lv' := [(7, .int (if (0 : Int32) ≤ mQb (sU g 9 0 (0 : Int32)) i_x ((23 : Int32) - nI w) n then mQb (sU g 9 0 (0 : Int32)) i_x ((23 : Int32) - nI w) n else (-mQb (sU g 9 0 (0 : Int32)) i_x ((23 : Int32) - nI w) n))), (6, .int (mQb (sU g 9 0 (0 : Int32)) i_x ((23 : Int32) - nI w) n)), (5, .int (mQm (sU g 9 0 (0 : Int32)) i_x n)), (4, .int ((23 : Int32) - nI w)), (3, .int ((mQ (sU g 9 0 (0 : Int32)) n i_x w).2)), (2, .int ((mQ (sU g 9 0 (0 : Int32)) n i_x w).1)), (0, .ref (ad 9)), (1, .int (nI i_x))]) hx hb dX3_question_139 hl (by decide) rfl (fun ls hl => ?_)
                    refine lv_aload_n hx hb dX3_question_141 rfl (lv_at hl 6 rfl) ?_
                    refine kx_getM (v := .ref (ad 80)) hx hb hts hown hG hw i3 30 (by decide) f_90 rfl dX3_question_142 ?_
                    refine lv_iload_n hx hb dX3_question_145 rfl (lv_at hl 7 rfl) ?_
                    refine kx_iald (v := (g 80 i_x)) hx hb hG hw (kC_I rfl) i_x (nI_clamp (by omega)) (vp_in_nI (by omega) (by decide)) (sU_k _ _ _ _ (by omega)) dX3_question_146 ?_
                    refine lv_iload hx hb dX3_question_147 (lv_at hl 3 rfl) ?_
                    refine lv_ishr hx hb dX3_question_149 ?_
                    refine lv_iconst (v := 1) hx hb dX3_question_150 (by decide) ?_
                    refine lv_iand hx hb dX3_question_151 ?_
                    have hj_178_2 : ∀ (H : Heap) (locs : List Loc) (ls : Array Slot), kW D cy base ad n nc (sU g 9 0 (0 : Int32)) H → va_S (kA base) s.heap H locs → lv_has ls 9 [(7, .int (if (0 : Int32) ≤ mQb (sU g 9 0 (0 : Int32)) i_x ((23 : Int32) - nI w) n then mQb (sU g 9 0 (0 : Int32)) i_x ((23 : Int32) - nI w) n else (-mQb (sU g 9 0 (0 : Int32)) i_x ((23 : Int32) - nI w) n))), (6, .int (mQb (sU g 9 0 (0 : Int32)) i_x ((23 : Int32) - nI w) n)), (5, .int (mQm (sU g 9 0 (0 : Int32)) i_x n)), (4, .int ((23 : Int32) - nI w)), (3, .int ((mQ (sU g 9 0 (0 : Int32)) n i_x w).2)), (2, .int ((mQ (sU g 9 0 (0 : Int32)) n i_x w).1)), (0, .ref (ad 9)), (1, .int (nI i_x))] → W p l e (kR 5 0 0) s m args below meth c H locs 0 0 Q (F0 m 178 ls [.int (b2 ((decide ((((g 80 i_x) >>> ((23 : Int32) - nI w &&& 31)) &&& (1 : Int32)) = (0 : Int32))) && ((!(decide (mQm (sU g 9 0 (0 : Int32)) i_x n ≤ (if (0 : Int32) ≤ mQb (sU g 9 0 (0 : Int32)) i_x ((23 : Int32) - nI w) n then mQb (sU g 9 0 (0 : Int32)) i_x ((23 : Int32) - nI w) n else (-mQb (sU g 9 0 (0 : Int32)) i_x ((23 : Int32) - nI w) n))))) && ((decide ((mQ (sU g 9 0 (0 : Int32)) n i_x w).1 = (-1 : Int32))) || (!(decide ((mQ (sU g 9 0 (0 : Int32)) n i_x w).2 < (if (0 : Int32) ≤ mQb (sU g 9 0 (0 : Int32)) i_x ((23 : Int32) - nI w) n then mQb (sU g 9 0 (0 : Int32)) i_x ((23 : Int32) - nI w) n else (-mQb (sU g 9 0 (0 : Int32)) i_x ((23 : Int32) - nI w) n)))))))))]) := by
                      intro H locs ls hw hS hl
                      refine lv_istore (lv' := [(8, .int (b2 ((decide ((((g 80 i_x) >>> ((23 : Int32) - nI w &&& 31)) &&& (1 : Int32)) = (0 : Int32))) && ((!(decide (mQm (sU g 9 0 (0 : Int32)) i_x n ≤ (if (0 : Int32) ≤ mQb (sU g 9 0 (0 : Int32)) i_x ((23 : Int32) - nI w) n then mQb (sU g 9 0 (0 : Int32)) i_x ((23 : Int32) - nI w) n else (-mQb (sU g 9 0 (0 : Int32)) i_x ((23 : Int32) - nI w) n))))) && ((decide ((mQ (sU g 9 0 (0 : Int32)) n i_x w).1 = (-1 : Int32))) || (!(decide ((mQ (sU g 9 0 (0 : Int32)) n i_x w).2 < (if (0 : Int32) ≤ mQb (sU g 9 0 (0 : Int32)) i_x ((23 : Int32) - nI w) n then mQb (sU g 9 0 (0 : Int32)) i_x ((23 : Int32) - nI w) n else (-mQb (sU g 9 0 (0 : Int32)) i_x ((23 : Int32) - nI w) n)))))))))), (7, .int (if (0 : Int32) ≤ mQb (sU g 9 0 (0 : Int32)) i_x ((23 : Int32) - nI w) n then mQb (sU g 9 0 (0 : Int32)) i_x ((23 : Int32) - nI w) n else (-mQb (sU g 9 0 (0 : Int32)) i_x ((23 : Int32) - nI w) n))), (6, .int (mQb (sU g 9 0 (0 : Int32)) i_x ((23 : Int32) - nI w) n)), (5, .int (mQm (sU g 9 0 (0 : Int32)) i_x n)), (4, .int ((23 : Int32) - nI w)), (3, .int ((mQ (sU g 9 0 (0 : Int32)) n i_x w).2)), (2, .int ((mQ (sU g 9 0 (0 : Int32)) n i_x w).1)), (0, .ref (ad 9)), (1, .int (nI i_x))]) hx hb dX3_question_178 hl (by decide) rfl (fun ls hl => ?_)
                      refine lv_iload hx hb dX3_question_180 (lv_at hl 0 rfl) ?_
                      have hj_191_3 : ∀ (H : Heap) (locs : List Loc) (ls : Array Slot), kW D cy base ad n nc (sU g 9 0 (0 : Int32)) H → va_S (kA base) s.heap H locs → lv_has ls 9 [(8, .int (b2 ((decide ((((g 80 i_x) >>> ((23 : Int32) - nI w &&& 31)) &&& (1 : Int32)) = (0 : Int32))) && ((!(decide (mQm (sU g 9 0 (0 : Int32)) i_x n ≤ (if (0 : Int32) ≤ mQb (sU g 9 0 (0 : Int32)) i_x ((23 : Int32) - nI w) n then mQb (sU g 9 0 (0 : Int32)) i_x ((23 : Int32) - nI w) n else (-mQb (sU g 9 0 (0 : Int32)) i_x ((23 : Int32) - nI w) n))))) && ((decide ((mQ (sU g 9 0 (0 : Int32)) n i_x w).1 = (-1 : Int32))) || (!(decide ((mQ (sU g 9 0 (0 : Int32)) n i_x w).2 < (if (0 : Int32) ≤ mQb (sU g 9 0 (0 : Int32)) i_x ((23 : Int32) - nI w) n then mQb (sU g 9 0 (0 : Int32)) i_x ((23 : Int32) - nI w) n else (-mQb (sU g 9 0 (0 : Int32)) i_x ((23 : Int32) - nI w) n)))))))))), (7, .int (if (0 : Int32) ≤ mQb (sU g 9 0 (0 : Int32)) i_x ((23 : Int32) - nI w) n then mQb (sU g 9 0 (0 : Int32)) i_x ((23 : Int32) - nI w) n else (-mQb (sU g 9 0 (0 : Int32)) i_x ((23 : Int32) - nI w) n))), (6, .int (mQb (sU g 9 0 (0 : Int32)) i_x ((23 : Int32) - nI w) n)), (5, .int (mQm (sU g 9 0 (0 : Int32)) i_x n)), (4, .int ((23 : Int32) - nI w)), (3, .int ((mQ (sU g 9 0 (0 : Int32)) n i_x w).2)), (2, .int ((mQ (sU g 9 0 (0 : Int32)) n i_x w).1)), (0, .ref (ad 9)), (1, .int (nI i_x))] → W p l e (kR 5 0 0) s m args below meth c H locs 0 0 Q (F0 m 191 ls [.int (if ((decide ((((g 80 i_x) >>> ((23 : Int32) - nI w &&& 31)) &&& (1 : Int32)) = (0 : Int32))) && ((!(decide (mQm (sU g 9 0 (0 : Int32)) i_x n ≤ (if (0 : Int32) ≤ mQb (sU g 9 0 (0 : Int32)) i_x ((23 : Int32) - nI w) n then mQb (sU g 9 0 (0 : Int32)) i_x ((23 : Int32) - nI w) n else (-mQb (sU g 9 0 (0 : Int32)) i_x ((23 : Int32) - nI w) n))))) && ((decide ((mQ (sU g 9 0 (0 : Int32)) n i_x w).1 = (-1 : Int32))) || (!(decide ((mQ (sU g 9 0 (0 : Int32)) n i_x w).2 < (if (0 : Int32) ≤ mQb (sU g 9 0 (0 : Int32)) i_x ((23 : Int32) - nI w) n then mQb (sU g 9 0 (0 : Int32)) i_x ((23 : Int32) - nI w) n else (-mQb (sU g 9 0 (0 : Int32)) i_x ((23 : Int32) - nI w) n)))))))) = true then (23 : Int32) - nI w else (mQ (sU g 9 0 (0 : Int32)) n i_x w).1)]) := by
                        intro H locs ls hw hS hl
                        refine lv_istore_n (lv' := [(2, .int (if ((decide ((((g 80 i_x) >>> ((23 : Int32) - nI w &&& 31)) &&& (1 : Int32)) = (0 : Int32))) && ((!(decide (mQm (sU g 9 0 (0 : Int32)) i_x n ≤ (if (0 : Int32) ≤ mQb (sU g 9 0 (0 : Int32)) i_x ((23 : Int32) - nI w) n then mQb (sU g 9 0 (0 : Int32)) i_x ((23 : Int32) - nI w) n else (-mQb (sU g 9 0 (0 : Int32)) i_x ((23 : Int32) - nI w) n))))) && ((decide ((mQ (sU g 9 0 (0 : Int32)) n i_x w).1 = (-1 : Int32))) || (!(decide ((mQ (sU g 9 0 (0 : Int32)) n i_x w).2 < (if (0 : Int32) ≤ mQb (sU g 9 0 (0 : Int32)) i_x ((23 : Int32) - nI w) n then mQb (sU g 9 0 (0 : Int32)) i_x ((23 : Int32) - nI w) n else (-mQb (sU g 9 0 (0 : Int32)) i_x ((23 : Int32) - nI w) n)))))))) = true then (23 : Int32) - nI w else (mQ (sU g 9 0 (0 : Int32)) n i_x w).1)), (8, .int (b2 ((decide ((((g 80 i_x) >>> ((23 : Int32) - nI w &&& 31)) &&& (1 : Int32)) = (0 : Int32))) && ((!(decide (mQm (sU g 9 0 (0 : Int32)) i_x n ≤ (if (0 : Int32) ≤ mQb (sU g 9 0 (0 : Int32)) i_x ((23 : Int32) - nI w) n then mQb (sU g 9 0 (0 : Int32)) i_x ((23 : Int32) - nI w) n else (-mQb (sU g 9 0 (0 : Int32)) i_x ((23 : Int32) - nI w) n))))) && ((decide ((mQ (sU g 9 0 (0 : Int32)) n i_x w).1 = (-1 : Int32))) || (!(decide ((mQ (sU g 9 0 (0 : Int32)) n i_x w).2 < (if (0 : Int32) ≤ mQb (sU g 9 0 (0 : Int32)) i_x ((23 : Int32) - nI w) n then mQb (sU g 9 0 (0 : Int32)) i_x ((23 : Int32) - nI w) n else (-mQb (sU g 9 0 (0 : Int32)) i_x ((23 : Int32) - nI w) n)))))))))), (7, .int (if (0 : Int32) ≤ mQb (sU g 9 0 (0 : Int32)) i_x ((23 : Int32) - nI w) n then mQb (sU g 9 0 (0 : Int32)) i_x ((23 : Int32) - nI w) n else (-mQb (sU g 9 0 (0 : Int32)) i_x ((23 : Int32) - nI w) n))), (6, .int (mQb (sU g 9 0 (0 : Int32)) i_x ((23 : Int32) - nI w) n)), (5, .int (mQm (sU g 9 0 (0 : Int32)) i_x n)), (4, .int ((23 : Int32) - nI w)), (3, .int ((mQ (sU g 9 0 (0 : Int32)) n i_x w).2)), (0, .ref (ad 9)), (1, .int (nI i_x))]) hx hb dX3_question_191 rfl hl (by decide) rfl (fun ls hl => ?_)
                        refine lv_iload hx hb dX3_question_192 (lv_at hl 1 rfl) ?_
                        have hj_203_4 : ∀ (H : Heap) (locs : List Loc) (ls : Array Slot), kW D cy base ad n nc (sU g 9 0 (0 : Int32)) H → va_S (kA base) s.heap H locs → lv_has ls 9 [(2, .int (if ((decide ((((g 80 i_x) >>> ((23 : Int32) - nI w &&& 31)) &&& (1 : Int32)) = (0 : Int32))) && ((!(decide (mQm (sU g 9 0 (0 : Int32)) i_x n ≤ (if (0 : Int32) ≤ mQb (sU g 9 0 (0 : Int32)) i_x ((23 : Int32) - nI w) n then mQb (sU g 9 0 (0 : Int32)) i_x ((23 : Int32) - nI w) n else (-mQb (sU g 9 0 (0 : Int32)) i_x ((23 : Int32) - nI w) n))))) && ((decide ((mQ (sU g 9 0 (0 : Int32)) n i_x w).1 = (-1 : Int32))) || (!(decide ((mQ (sU g 9 0 (0 : Int32)) n i_x w).2 < (if (0 : Int32) ≤ mQb (sU g 9 0 (0 : Int32)) i_x ((23 : Int32) - nI w) n then mQb (sU g 9 0 (0 : Int32)) i_x ((23 : Int32) - nI w) n else (-mQb (sU g 9 0 (0 : Int32)) i_x ((23 : Int32) - nI w) n)))))))) = true then (23 : Int32) - nI w else (mQ (sU g 9 0 (0 : Int32)) n i_x w).1)), (8, .int (b2 ((decide ((((g 80 i_x) >>> ((23 : Int32) - nI w &&& 31)) &&& (1 : Int32)) = (0 : Int32))) && ((!(decide (mQm (sU g 9 0 (0 : Int32)) i_x n ≤ (if (0 : Int32) ≤ mQb (sU g 9 0 (0 : Int32)) i_x ((23 : Int32) - nI w) n then mQb (sU g 9 0 (0 : Int32)) i_x ((23 : Int32) - nI w) n else (-mQb (sU g 9 0 (0 : Int32)) i_x ((23 : Int32) - nI w) n))))) && ((decide ((mQ (sU g 9 0 (0 : Int32)) n i_x w).1 = (-1 : Int32))) || (!(decide ((mQ (sU g 9 0 (0 : Int32)) n i_x w).2 < (if (0 : Int32) ≤ mQb (sU g 9 0 (0 : Int32)) i_x ((23 : Int32) - nI w) n then mQb (sU g 9 0 (0 : Int32)) i_x ((23 : Int32) - nI w) n else (-mQb (sU g 9 0 (0 : Int32)) i_x ((23 : Int32) - nI w) n)))))))))), (7, .int (if (0 : Int32) ≤ mQb (sU g 9 0 (0 : Int32)) i_x ((23 : Int32) - nI w) n then mQb (sU g 9 0 (0 : Int32)) i_x ((23 : Int32) - nI w) n else (-mQb (sU g 9 0 (0 : Int32)) i_x ((23 : Int32) - nI w) n))), (6, .int (mQb (sU g 9 0 (0 : Int32)) i_x ((23 : Int32) - nI w) n)), (5, .int (mQm (sU g 9 0 (0 : Int32)) i_x n)), (4, .int ((23 : Int32) - nI w)), (3, .int ((mQ (sU g 9 0 (0 : Int32)) n i_x w).2)), (0, .ref (ad 9)), (1, .int (nI i_x))] → W p l e (kR 5 0 0) s m args below meth c H locs 0 0 Q (F0 m 203 ls [.int (if ((decide ((((g 80 i_x) >>> ((23 : Int32) - nI w &&& 31)) &&& (1 : Int32)) = (0 : Int32))) && ((!(decide (mQm (sU g 9 0 (0 : Int32)) i_x n ≤ (if (0 : Int32) ≤ mQb (sU g 9 0 (0 : Int32)) i_x ((23 : Int32) - nI w) n then mQb (sU g 9 0 (0 : Int32)) i_x ((23 : Int32) - nI w) n else (-mQb (sU g 9 0 (0 : Int32)) i_x ((23 : Int32) - nI w) n))))) && ((decide ((mQ (sU g 9 0 (0 : Int32)) n i_x w).1 = (-1 : Int32))) || (!(decide ((mQ (sU g 9 0 (0 : Int32)) n i_x w).2 < (if (0 : Int32) ≤ mQb (sU g 9 0 (0 : Int32)) i_x ((23 : Int32) - nI w) n then mQb (sU g 9 0 (0 : Int32)) i_x ((23 : Int32) - nI w) n else (-mQb (sU g 9 0 (0 : Int32)) i_x ((23 : Int32) - nI w) n)))))))) = true then (if (0 : Int32) ≤ mQb (sU g 9 0 (0 : Int32)) i_x ((23 : Int32) - nI w) n then mQb (sU g 9 0 (0 : Int32)) i_x ((23 : Int32) - nI w) n else (-mQb (sU g 9 0 (0 : Int32)) i_x ((23 : Int32) - nI w) n)) else (mQ (sU g 9 0 (0 : Int32)) n i_x w).2)]) := by
                          intro H locs ls hw hS hl
                          refine lv_istore_n (lv' := [(3, .int (if ((decide ((((g 80 i_x) >>> ((23 : Int32) - nI w &&& 31)) &&& (1 : Int32)) = (0 : Int32))) && ((!(decide (mQm (sU g 9 0 (0 : Int32)) i_x n ≤ (if (0 : Int32) ≤ mQb (sU g 9 0 (0 : Int32)) i_x ((23 : Int32) - nI w) n then mQb (sU g 9 0 (0 : Int32)) i_x ((23 : Int32) - nI w) n else (-mQb (sU g 9 0 (0 : Int32)) i_x ((23 : Int32) - nI w) n))))) && ((decide ((mQ (sU g 9 0 (0 : Int32)) n i_x w).1 = (-1 : Int32))) || (!(decide ((mQ (sU g 9 0 (0 : Int32)) n i_x w).2 < (if (0 : Int32) ≤ mQb (sU g 9 0 (0 : Int32)) i_x ((23 : Int32) - nI w) n then mQb (sU g 9 0 (0 : Int32)) i_x ((23 : Int32) - nI w) n else (-mQb (sU g 9 0 (0 : Int32)) i_x ((23 : Int32) - nI w) n)))))))) = true then (if (0 : Int32) ≤ mQb (sU g 9 0 (0 : Int32)) i_x ((23 : Int32) - nI w) n then mQb (sU g 9 0 (0 : Int32)) i_x ((23 : Int32) - nI w) n else (-mQb (sU g 9 0 (0 : Int32)) i_x ((23 : Int32) - nI w) n)) else (mQ (sU g 9 0 (0 : Int32)) n i_x w).2)), (2, .int (if ((decide ((((g 80 i_x) >>> ((23 : Int32) - nI w &&& 31)) &&& (1 : Int32)) = (0 : Int32))) && ((!(decide (mQm (sU g 9 0 (0 : Int32)) i_x n ≤ (if (0 : Int32) ≤ mQb (sU g 9 0 (0 : Int32)) i_x ((23 : Int32) - nI w) n then mQb (sU g 9 0 (0 : Int32)) i_x ((23 : Int32) - nI w) n else (-mQb (sU g 9 0 (0 : Int32)) i_x ((23 : Int32) - nI w) n))))) && ((decide ((mQ (sU g 9 0 (0 : Int32)) n i_x w).1 = (-1 : Int32))) || (!(decide ((mQ (sU g 9 0 (0 : Int32)) n i_x w).2 < (if (0 : Int32) ≤ mQb (sU g 9 0 (0 : Int32)) i_x ((23 : Int32) - nI w) n then mQb (sU g 9 0 (0 : Int32)) i_x ((23 : Int32) - nI w) n else (-mQb (sU g 9 0 (0 : Int32)) i_x ((23 : Int32) - nI w) n)))))))) = true then (23 : Int32) - nI w else (mQ (sU g 9 0 (0 : Int32)) n i_x w).1)), (8, .int (b2 ((decide ((((g 80 i_x) >>> ((23 : Int32) - nI w &&& 31)) &&& (1 : Int32)) = (0 : Int32))) && ((!(decide (mQm (sU g 9 0 (0 : Int32)) i_x n ≤ (if (0 : Int32) ≤ mQb (sU g 9 0 (0 : Int32)) i_x ((23 : Int32) - nI w) n then mQb (sU g 9 0 (0 : Int32)) i_x ((23 : Int32) - nI w) n else (-mQb (sU g 9 0 (0 : Int32)) i_x ((23 : Int32) - nI w) n))))) && ((decide ((mQ (sU g 9 0 (0 : Int32)) n i_x w).1 = (-1 : Int32))) || (!(decide ((mQ (sU g 9 0 (0 : Int32)) n i_x w).2 < (if (0 : Int32) ≤ mQb (sU g 9 0 (0 : Int32)) i_x ((23 : Int32) - nI w) n then mQb (sU g 9 0 (0 : Int32)) i_x ((23 : Int32) - nI w) n else (-mQb (sU g 9 0 (0 : Int32)) i_x ((23 : Int32) - nI w) n)))))))))), (7, .int (if (0 : Int32) ≤ mQb (sU g 9 0 (0 : Int32)) i_x ((23 : Int32) - nI w) n then mQb (sU g 9 0 (0 : Int32)) i_x ((23 : Int32) - nI w) n else (-mQb (sU g 9 0 (0 : Int32)) i_x ((23 : Int32) - nI w) n))), (6, .int (mQb (sU g 9 0 (0 : Int32)) i_x ((23 : Int32) - nI w) n)), (5, .int (mQm (sU g 9 0 (0 : Int32)) i_x n)), (4, .int ((23 : Int32) - nI w)), (0, .ref (ad 9)), (1, .int (nI i_x))]) hx hb dX3_question_203 rfl hl (by decide) rfl (fun ls hl => ?_)
                          refine lv_iinc (v := ((23 : Int32) - nI w + (-1 : Int32))) (lv' := [(4, .int ((23 : Int32) - nI w + (-1 : Int32))), (3, .int (if ((decide ((((g 80 i_x) >>> ((23 : Int32) - nI w &&& 31)) &&& (1 : Int32)) = (0 : Int32))) && ((!(decide (mQm (sU g 9 0 (0 : Int32)) i_x n ≤ (if (0 : Int32) ≤ mQb (sU g 9 0 (0 : Int32)) i_x ((23 : Int32) - nI w) n then mQb (sU g 9 0 (0 : Int32)) i_x ((23 : Int32) - nI w) n else (-mQb (sU g 9 0 (0 : Int32)) i_x ((23 : Int32) - nI w) n))))) && ((decide ((mQ (sU g 9 0 (0 : Int32)) n i_x w).1 = (-1 : Int32))) || (!(decide ((mQ (sU g 9 0 (0 : Int32)) n i_x w).2 < (if (0 : Int32) ≤ mQb (sU g 9 0 (0 : Int32)) i_x ((23 : Int32) - nI w) n then mQb (sU g 9 0 (0 : Int32)) i_x ((23 : Int32) - nI w) n else (-mQb (sU g 9 0 (0 : Int32)) i_x ((23 : Int32) - nI w) n)))))))) = true then (if (0 : Int32) ≤ mQb (sU g 9 0 (0 : Int32)) i_x ((23 : Int32) - nI w) n then mQb (sU g 9 0 (0 : Int32)) i_x ((23 : Int32) - nI w) n else (-mQb (sU g 9 0 (0 : Int32)) i_x ((23 : Int32) - nI w) n)) else (mQ (sU g 9 0 (0 : Int32)) n i_x w).2)), (2, .int (if ((decide ((((g 80 i_x) >>> ((23 : Int32) - nI w &&& 31)) &&& (1 : Int32)) = (0 : Int32))) && ((!(decide (mQm (sU g 9 0 (0 : Int32)) i_x n ≤ (if (0 : Int32) ≤ mQb (sU g 9 0 (0 : Int32)) i_x ((23 : Int32) - nI w) n then mQb (sU g 9 0 (0 : Int32)) i_x ((23 : Int32) - nI w) n else (-mQb (sU g 9 0 (0 : Int32)) i_x ((23 : Int32) - nI w) n))))) && ((decide ((mQ (sU g 9 0 (0 : Int32)) n i_x w).1 = (-1 : Int32))) || (!(decide ((mQ (sU g 9 0 (0 : Int32)) n i_x w).2 < (if (0 : Int32) ≤ mQb (sU g 9 0 (0 : Int32)) i_x ((23 : Int32) - nI w) n then mQb (sU g 9 0 (0 : Int32)) i_x ((23 : Int32) - nI w) n else (-mQb (sU g 9 0 (0 : Int32)) i_x ((23 : Int32) - nI w) n)))))))) = true then (23 : Int32) - nI w else (mQ (sU g 9 0 (0 : Int32)) n i_x w).1)), (8, .int (b2 ((decide ((((g 80 i_x) >>> ((23 : Int32) - nI w &&& 31)) &&& (1 : Int32)) = (0 : Int32))) && ((!(decide (mQm (sU g 9 0 (0 : Int32)) i_x n ≤ (if (0 : Int32) ≤ mQb (sU g 9 0 (0 : Int32)) i_x ((23 : Int32) - nI w) n then mQb (sU g 9 0 (0 : Int32)) i_x ((23 : Int32) - nI w) n else (-mQb (sU g 9 0 (0 : Int32)) i_x ((23 : Int32) - nI w) n))))) && ((decide ((mQ (sU g 9 0 (0 : Int32)) n i_x w).1 = (-1 : Int32))) || (!(decide ((mQ (sU g 9 0 (0 : Int32)) n i_x w).2 < (if (0 : Int32) ≤ mQb (sU g 9 0 (0 : Int32)) i_x ((23 : Int32) - nI w) n then mQb (sU g 9 0 (0 : Int32)) i_x ((23 : Int32) - nI w) n else (-mQb (sU g 9 0 (0 : Int32)) i_x ((23 : Int32) - nI w) n)))))))))), (7, .int (if (0 : Int32) ≤ mQb (sU g 9 0 (0 : Int32)) i_x ((23 : Int32) - nI w) n then mQb (sU g 9 0 (0 : Int32)) i_x ((23 : Int32) - nI w) n else (-mQb (sU g 9 0 (0 : Int32)) i_x ((23 : Int32) - nI w) n))), (6, .int (mQb (sU g 9 0 (0 : Int32)) i_x ((23 : Int32) - nI w) n)), (5, .int (mQm (sU g 9 0 (0 : Int32)) i_x n)), (0, .ref (ad 9)), (1, .int (nI i_x))]) hx hb dX3_question_204 hl (k := 6) rfl rfl (by decide) rfl (fun ls hl => ?_)
                          refine lv_goto (tgt := 30) hx hb dX3_question_207 (by decide) ?_
                          exact ih_30 (w + 1) (by omega) (by omega) _ _ _ hw hS (kx_lv (l := [(4, .int ((23 : Int32) - nI w + (-1 : Int32))), (3, .int (if ((decide ((((g 80 i_x) >>> ((23 : Int32) - nI w &&& 31)) &&& (1 : Int32)) = (0 : Int32))) && ((!(decide (mQm (sU g 9 0 (0 : Int32)) i_x n ≤ (if (0 : Int32) ≤ mQb (sU g 9 0 (0 : Int32)) i_x ((23 : Int32) - nI w) n then mQb (sU g 9 0 (0 : Int32)) i_x ((23 : Int32) - nI w) n else (-mQb (sU g 9 0 (0 : Int32)) i_x ((23 : Int32) - nI w) n))))) && ((decide ((mQ (sU g 9 0 (0 : Int32)) n i_x w).1 = (-1 : Int32))) || (!(decide ((mQ (sU g 9 0 (0 : Int32)) n i_x w).2 < (if (0 : Int32) ≤ mQb (sU g 9 0 (0 : Int32)) i_x ((23 : Int32) - nI w) n then mQb (sU g 9 0 (0 : Int32)) i_x ((23 : Int32) - nI w) n else (-mQb (sU g 9 0 (0 : Int32)) i_x ((23 : Int32) - nI w) n)))))))) = true then (if (0 : Int32) ≤ mQb (sU g 9 0 (0 : Int32)) i_x ((23 : Int32) - nI w) n then mQb (sU g 9 0 (0 : Int32)) i_x ((23 : Int32) - nI w) n else (-mQb (sU g 9 0 (0 : Int32)) i_x ((23 : Int32) - nI w) n)) else (mQ (sU g 9 0 (0 : Int32)) n i_x w).2)), (2, .int (if ((decide ((((g 80 i_x) >>> ((23 : Int32) - nI w &&& 31)) &&& (1 : Int32)) = (0 : Int32))) && ((!(decide (mQm (sU g 9 0 (0 : Int32)) i_x n ≤ (if (0 : Int32) ≤ mQb (sU g 9 0 (0 : Int32)) i_x ((23 : Int32) - nI w) n then mQb (sU g 9 0 (0 : Int32)) i_x ((23 : Int32) - nI w) n else (-mQb (sU g 9 0 (0 : Int32)) i_x ((23 : Int32) - nI w) n))))) && ((decide ((mQ (sU g 9 0 (0 : Int32)) n i_x w).1 = (-1 : Int32))) || (!(decide ((mQ (sU g 9 0 (0 : Int32)) n i_x w).2 < (if (0 : Int32) ≤ mQb (sU g 9 0 (0 : Int32)) i_x ((23 : Int32) - nI w) n then mQb (sU g 9 0 (0 : Int32)) i_x ((23 : Int32) - nI w) n else (-mQb (sU g 9 0 (0 : Int32)) i_x ((23 : Int32) - nI w) n)))))))) = true then (23 : Int32) - nI w else (mQ (sU g 9 0 (0 : Int32)) n i_x w).1)), (0, .ref (ad 9)), (1, .int (nI i_x))]) (l' := [(4, .int ((23 : Int32) - nI (w + 1))), (3, .int ((mQ (sU g 9 0 (0 : Int32)) n i_x (w + 1)).2)), (2, .int ((mQ (sU g 9 0 (0 : Int32)) n i_x (w + 1)).1)), (0, .ref (ad 9)), (1, .int (nI i_x))]) (lv_sub hl [0, 1, 2, 7, 8] rfl) (by rw [sub_1]; rfl)) 
                        refine kb_eq (tgt := 202) hx hb dX3_question_194 (by decide) (fun c_194 => ?_) (fun c_194 => ?_)
                        · refine lv_iload_n hx hb dX3_question_202 rfl (lv_at hl 6 rfl) ?_
                          exact kx_top (v := (if ((decide ((((g 80 i_x) >>> ((23 : Int32) - nI w &&& 31)) &&& (1 : Int32)) = (0 : Int32))) && ((!(decide (mQm (sU g 9 0 (0 : Int32)) i_x n ≤ (if (0 : Int32) ≤ mQb (sU g 9 0 (0 : Int32)) i_x ((23 : Int32) - nI w) n then mQb (sU g 9 0 (0 : Int32)) i_x ((23 : Int32) - nI w) n else (-mQb (sU g 9 0 (0 : Int32)) i_x ((23 : Int32) - nI w) n))))) && ((decide ((mQ (sU g 9 0 (0 : Int32)) n i_x w).1 = (-1 : Int32))) || (!(decide ((mQ (sU g 9 0 (0 : Int32)) n i_x w).2 < (if (0 : Int32) ≤ mQb (sU g 9 0 (0 : Int32)) i_x ((23 : Int32) - nI w) n then mQb (sU g 9 0 (0 : Int32)) i_x ((23 : Int32) - nI w) n else (-mQb (sU g 9 0 (0 : Int32)) i_x ((23 : Int32) - nI w) n)))))))) = true then (if (0 : Int32) ≤ mQb (sU g 9 0 (0 : Int32)) i_x ((23 : Int32) - nI w) n then mQb (sU g 9 0 (0 : Int32)) i_x ((23 : Int32) - nI w) n else (-mQb (sU g 9 0 (0 : Int32)) i_x ((23 : Int32) - nI w) n)) else (mQ (sU g 9 0 (0 : Int32)) n i_x w).2)) (by first | (simp only [bq, c_194]; done) | (simp only [bq, c_194]; rfl) | (simp [bq, c_194]; done)) (hj_203_4 _ _ _ hw hS hl)
                        · refine lv_iload hx hb dX3_question_197 (lv_at hl 2 rfl) ?_
                          refine lv_goto (tgt := 203) hx hb dX3_question_199 (by decide) ?_
                          exact kx_top (v := (if ((decide ((((g 80 i_x) >>> ((23 : Int32) - nI w &&& 31)) &&& (1 : Int32)) = (0 : Int32))) && ((!(decide (mQm (sU g 9 0 (0 : Int32)) i_x n ≤ (if (0 : Int32) ≤ mQb (sU g 9 0 (0 : Int32)) i_x ((23 : Int32) - nI w) n then mQb (sU g 9 0 (0 : Int32)) i_x ((23 : Int32) - nI w) n else (-mQb (sU g 9 0 (0 : Int32)) i_x ((23 : Int32) - nI w) n))))) && ((decide ((mQ (sU g 9 0 (0 : Int32)) n i_x w).1 = (-1 : Int32))) || (!(decide ((mQ (sU g 9 0 (0 : Int32)) n i_x w).2 < (if (0 : Int32) ≤ mQb (sU g 9 0 (0 : Int32)) i_x ((23 : Int32) - nI w) n then mQb (sU g 9 0 (0 : Int32)) i_x ((23 : Int32) - nI w) n else (-mQb (sU g 9 0 (0 : Int32)) i_x ((23 : Int32) - nI w) n)))))))) = true then (if (0 : Int32) ≤ mQb (sU g 9 0 (0 : Int32)) i_x ((23 : Int32) - nI w) n then mQb (sU g 9 0 (0 : Int32)) i_x ((23 : Int32) - nI w) n else (-mQb (sU g 9 0 (0 : Int32)) i_x ((23 : Int32) - nI w) n)) else (mQ (sU g 9 0 (0 : Int32)) n i_x w).2)) (by first | (simp only [bq, c_194]; done) | (simp only [bq, c_194]; rfl) | (simp [bq, c_194]; done)) (hj_203_4 _ _ _ hw hS hl)
                      refine kb_eq (tgt := 190) hx hb dX3_question_182 (by decide) (fun c_182 => ?_) (fun c_182 => ?_)
                      · refine lv_iload_n hx hb dX3_question_190 rfl (lv_at hl 6 rfl) ?_
                        exact kx_top (v := (if ((decide ((((g 80 i_x) >>> ((23 : Int32) - nI w &&& 31)) &&& (1 : Int32)) = (0 : Int32))) && ((!(decide (mQm (sU g 9 0 (0 : Int32)) i_x n ≤ (if (0 : Int32) ≤ mQb (sU g 9 0 (0 : Int32)) i_x ((23 : Int32) - nI w) n then mQb (sU g 9 0 (0 : Int32)) i_x ((23 : Int32) - nI w) n else (-mQb (sU g 9 0 (0 : Int32)) i_x ((23 : Int32) - nI w) n))))) && ((decide ((mQ (sU g 9 0 (0 : Int32)) n i_x w).1 = (-1 : Int32))) || (!(decide ((mQ (sU g 9 0 (0 : Int32)) n i_x w).2 < (if (0 : Int32) ≤ mQb (sU g 9 0 (0 : Int32)) i_x ((23 : Int32) - nI w) n then mQb (sU g 9 0 (0 : Int32)) i_x ((23 : Int32) - nI w) n else (-mQb (sU g 9 0 (0 : Int32)) i_x ((23 : Int32) - nI w) n)))))))) = true then (23 : Int32) - nI w else (mQ (sU g 9 0 (0 : Int32)) n i_x w).1)) (by first | (simp only [bq, c_182]; done) | (simp only [bq, c_182]; rfl) | (simp [bq, c_182]; done)) (hj_191_3 _ _ _ hw hS hl)
                      · refine lv_iload hx hb dX3_question_185 (lv_at hl 4 rfl) ?_
                        refine lv_goto (tgt := 191) hx hb dX3_question_187 (by decide) ?_
                        exact kx_top (v := (if ((decide ((((g 80 i_x) >>> ((23 : Int32) - nI w &&& 31)) &&& (1 : Int32)) = (0 : Int32))) && ((!(decide (mQm (sU g 9 0 (0 : Int32)) i_x n ≤ (if (0 : Int32) ≤ mQb (sU g 9 0 (0 : Int32)) i_x ((23 : Int32) - nI w) n then mQb (sU g 9 0 (0 : Int32)) i_x ((23 : Int32) - nI w) n else (-mQb (sU g 9 0 (0 : Int32)) i_x ((23 : Int32) - nI w) n))))) && ((decide ((mQ (sU g 9 0 (0 : Int32)) n i_x w).1 = (-1 : Int32))) || (!(decide ((mQ (sU g 9 0 (0 : Int32)) n i_x w).2 < (if (0 : Int32) ≤ mQb (sU g 9 0 (0 : Int32)) i_x ((23 : Int32) - nI w) n then mQb (sU g 9 0 (0 : Int32)) i_x ((23 : Int32) - nI w) n else (-mQb (sU g 9 0 (0 : Int32)) i_x ((23 : Int32) - nI w) n)))))))) = true then (23 : Int32) - nI w else (mQ (sU g 9 0 (0 : Int32)) n i_x w).1)) (by first | (simp only [bq, c_182]; done) | (simp only [bq, c_182]; rfl) | (simp [bq, c_182]; done)) (hj_191_3 _ _ _ hw hS hl)
                    refine lv_if_ne (tgt := 177) hx hb dX3_question_152 (by decide) (fun c_152 => ?_) (fun c_152 => ?_)
                    · refine lv_iconst (v := 0) hx hb dX3_question_177 (by decide) ?_
                      exact kx_top (v := (b2 ((decide ((((g 80 i_x) >>> ((23 : Int32) - nI w &&& 31)) &&& (1 : Int32)) = (0 : Int32))) && ((!(decide (mQm (sU g 9 0 (0 : Int32)) i_x n ≤ (if (0 : Int32) ≤ mQb (sU g 9 0 (0 : Int32)) i_x ((23 : Int32) - nI w) n then mQb (sU g 9 0 (0 : Int32)) i_x ((23 : Int32) - nI w) n else (-mQb (sU g 9 0 (0 : Int32)) i_x ((23 : Int32) - nI w) n))))) && ((decide ((mQ (sU g 9 0 (0 : Int32)) n i_x w).1 = (-1 : Int32))) || (!(decide ((mQ (sU g 9 0 (0 : Int32)) n i_x w).2 < (if (0 : Int32) ≤ mQb (sU g 9 0 (0 : Int32)) i_x ((23 : Int32) - nI w) n then mQb (sU g 9 0 (0 : Int32)) i_x ((23 : Int32) - nI w) n else (-mQb (sU g 9 0 (0 : Int32)) i_x ((23 : Int32) - nI w) n)))))))))) (by first | (simp only [bq, decide_eq_false c_152, if_neg c_152]; done) | (simp only [bq, decide_eq_false c_152, if_neg c_152]; rfl) | (simp [bq, decide_eq_false c_152, if_neg c_152]; done)) (hj_178_2 _ _ _ hw hS hl)
                    · refine lv_iload hx hb dX3_question_155 (lv_at hl 0 rfl) ?_
                      refine lv_iload hx hb dX3_question_157 (lv_at hl 2 rfl) ?_
                      refine lv_icmp_ge (tgt := 177) hx hb dX3_question_159 (by decide) (fun c_159 => ?_) (fun c_159 => ?_)
                      · refine lv_iconst (v := 0) hx hb dX3_question_177 (by decide) ?_
                        exact kx_top (v := (b2 ((decide ((((g 80 i_x) >>> ((23 : Int32) - nI w &&& 31)) &&& (1 : Int32)) = (0 : Int32))) && ((!(decide (mQm (sU g 9 0 (0 : Int32)) i_x n ≤ (if (0 : Int32) ≤ mQb (sU g 9 0 (0 : Int32)) i_x ((23 : Int32) - nI w) n then mQb (sU g 9 0 (0 : Int32)) i_x ((23 : Int32) - nI w) n else (-mQb (sU g 9 0 (0 : Int32)) i_x ((23 : Int32) - nI w) n))))) && ((decide ((mQ (sU g 9 0 (0 : Int32)) n i_x w).1 = (-1 : Int32))) || (!(decide ((mQ (sU g 9 0 (0 : Int32)) n i_x w).2 < (if (0 : Int32) ≤ mQb (sU g 9 0 (0 : Int32)) i_x ((23 : Int32) - nI w) n then mQb (sU g 9 0 (0 : Int32)) i_x ((23 : Int32) - nI w) n else (-mQb (sU g 9 0 (0 : Int32)) i_x ((23 : Int32) - nI w) n)))))))))) (by first | (simp only [bq, decide_eq_true c_152, if_pos c_152, decide_eq_true c_159, if_pos c_159]; done) | (simp only [bq, decide_eq_true c_152, if_pos c_152, decide_eq_true c_159, if_pos c_159]; rfl) | (simp [bq, decide_eq_true c_152, if_pos c_152, decide_eq_true c_159, if_pos c_159]; done)) (hj_178_2 _ _ _ hw hS hl)
                      · refine lv_iload_n hx hb dX3_question_162 rfl (lv_at hl 5 rfl) ?_
                        refine lv_iconst (v := -1) hx hb dX3_question_163 (by decide) ?_
                        refine lv_icmp_eq (tgt := 173) hx hb dX3_question_164 (by decide) (fun c_164 => ?_) (fun c_164 => ?_)
                        · refine lv_iconst (v := 1) hx hb dX3_question_173 (by decide) ?_
                          refine lv_goto (tgt := 178) hx hb dX3_question_174 (by decide) ?_
                          exact kx_top (v := (b2 ((decide ((((g 80 i_x) >>> ((23 : Int32) - nI w &&& 31)) &&& (1 : Int32)) = (0 : Int32))) && ((!(decide (mQm (sU g 9 0 (0 : Int32)) i_x n ≤ (if (0 : Int32) ≤ mQb (sU g 9 0 (0 : Int32)) i_x ((23 : Int32) - nI w) n then mQb (sU g 9 0 (0 : Int32)) i_x ((23 : Int32) - nI w) n else (-mQb (sU g 9 0 (0 : Int32)) i_x ((23 : Int32) - nI w) n))))) && ((decide ((mQ (sU g 9 0 (0 : Int32)) n i_x w).1 = (-1 : Int32))) || (!(decide ((mQ (sU g 9 0 (0 : Int32)) n i_x w).2 < (if (0 : Int32) ≤ mQb (sU g 9 0 (0 : Int32)) i_x ((23 : Int32) - nI w) n then mQb (sU g 9 0 (0 : Int32)) i_x ((23 : Int32) - nI w) n else (-mQb (sU g 9 0 (0 : Int32)) i_x ((23 : Int32) - nI w) n)))))))))) (by first | (simp only [bq, decide_eq_true c_152, if_pos c_152, decide_eq_false c_159, if_neg c_159, decide_eq_true c_164, if_pos c_164]; done) | (simp only [bq, decide_eq_true c_152, if_pos c_152, decide_eq_false c_159, if_neg c_159, decide_eq_true c_164, if_pos c_164]; rfl) | (simp [bq, decide_eq_true c_152, if_pos c_152, decide_eq_false c_159, if_neg c_159, decide_eq_true c_164, if_pos c_164]; done)) (hj_178_2 _ _ _ hw hS hl)
                        · refine lv_iload hx hb dX3_question_167 (lv_at hl 0 rfl) ?_
                          refine lv_iload_n hx hb dX3_question_169 rfl (lv_at hl 4 rfl) ?_
                          refine lv_icmp_gt (tgt := 177) hx hb dX3_question_170 (by decide) (fun c_170 => ?_) (fun c_170 => ?_)
                          · refine lv_iconst (v := 0) hx hb dX3_question_177 (by decide) ?_
                            exact kx_top (v := (b2 ((decide ((((g 80 i_x) >>> ((23 : Int32) - nI w &&& 31)) &&& (1 : Int32)) = (0 : Int32))) && ((!(decide (mQm (sU g 9 0 (0 : Int32)) i_x n ≤ (if (0 : Int32) ≤ mQb (sU g 9 0 (0 : Int32)) i_x ((23 : Int32) - nI w) n then mQb (sU g 9 0 (0 : Int32)) i_x ((23 : Int32) - nI w) n else (-mQb (sU g 9 0 (0 : Int32)) i_x ((23 : Int32) - nI w) n))))) && ((decide ((mQ (sU g 9 0 (0 : Int32)) n i_x w).1 = (-1 : Int32))) || (!(decide ((mQ (sU g 9 0 (0 : Int32)) n i_x w).2 < (if (0 : Int32) ≤ mQb (sU g 9 0 (0 : Int32)) i_x ((23 : Int32) - nI w) n then mQb (sU g 9 0 (0 : Int32)) i_x ((23 : Int32) - nI w) n else (-mQb (sU g 9 0 (0 : Int32)) i_x ((23 : Int32) - nI w) n)))))))))) (by first | (simp only [bq, decide_eq_true c_152, if_pos c_152, decide_eq_false c_159, if_neg c_159, decide_eq_false c_164, if_neg c_164, decide_eq_true c_170, if_pos c_170]; done) | (simp only [bq, decide_eq_true c_152, if_pos c_152, decide_eq_false c_159, if_neg c_159, decide_eq_false c_164, if_neg c_164, decide_eq_true c_170, if_pos c_170]; rfl) | (simp [bq, decide_eq_true c_152, if_pos c_152, decide_eq_false c_159, if_neg c_159, decide_eq_false c_164, if_neg c_164, decide_eq_true c_170, if_pos c_170]; done)) (hj_178_2 _ _ _ hw hS hl)
                          · refine lv_iconst (v := 1) hx hb dX3_question_173 (by decide) ?_
                            refine lv_goto (tgt := 178) hx hb dX3_question_174 (by decide) ?_
                            exact kx_top (v := (b2 ((decide ((((g 80 i_x) >>> ((23 : Int32) - nI w &&& 31)) &&& (1 : Int32)) = (0 : Int32))) && ((!(decide (mQm (sU g 9 0 (0 : Int32)) i_x n ≤ (if (0 : Int32) ≤ mQb (sU g 9 0 (0 : Int32)) i_x ((23 : Int32) - nI w) n then mQb (sU g 9 0 (0 : Int32)) i_x ((23 : Int32) - nI w) n else (-mQb (sU g 9 0 (0 : Int32)) i_x ((23 : Int32) - nI w) n))))) && ((decide ((mQ (sU g 9 0 (0 : Int32)) n i_x w).1 = (-1 : Int32))) || (!(decide ((mQ (sU g 9 0 (0 : Int32)) n i_x w).2 < (if (0 : Int32) ≤ mQb (sU g 9 0 (0 : Int32)) i_x ((23 : Int32) - nI w) n then mQb (sU g 9 0 (0 : Int32)) i_x ((23 : Int32) - nI w) n else (-mQb (sU g 9 0 (0 : Int32)) i_x ((23 : Int32) - nI w) n)))))))))) (by first | (simp only [bq, decide_eq_true c_152, if_pos c_152, decide_eq_false c_159, if_neg c_159, decide_eq_false c_164, if_neg c_164, decide_eq_false c_170, if_neg c_170]; done) | (simp only [bq, decide_eq_true c_152, if_pos c_152, decide_eq_false c_159, if_neg c_159, decide_eq_false c_164, if_neg c_164, decide_eq_false c_170, if_neg c_170]; rfl) | (simp [bq, decide_eq_true c_152, if_pos c_152, decide_eq_false c_159, if_neg c_159, decide_eq_false c_164, if_neg c_164, decide_eq_false c_170, if_neg c_170]; done)) (hj_178_2 _ _ _ hw hS hl)
                  refine lv_if_ge (tgt := 137) hx hb dX3_question_128 (by decide) (fun c_128 => ?_) (fun c_128 => ?_)
                  · refine lv_iload hx hb dX3_question_137 (lv_at hl 1 rfl) ?_
                    exact kx_top (v := (if (0 : Int32) ≤ mQb (sU g 9 0 (0 : Int32)) i_x ((23 : Int32) - nI w) n then mQb (sU g 9 0 (0 : Int32)) i_x ((23 : Int32) - nI w) n else (-mQb (sU g 9 0 (0 : Int32)) i_x ((23 : Int32) - nI w) n))) (by first | (simp only [bq, decide_eq_true c_128, if_pos c_128]; done) | (simp only [bq, decide_eq_true c_128, if_pos c_128]; rfl) | (simp [bq, decide_eq_true c_128, if_pos c_128]; done)) (hj_139_1 _ _ _ hw hS hl)
                  · refine lv_iload hx hb dX3_question_131 (lv_at hl 1 rfl) ?_
                    refine lv_ineg hx hb dX3_question_133 ?_
                    refine lv_goto (tgt := 139) hx hb dX3_question_134 (by decide) ?_
                    exact kx_top (v := (if (0 : Int32) ≤ mQb (sU g 9 0 (0 : Int32)) i_x ((23 : Int32) - nI w) n then mQb (sU g 9 0 (0 : Int32)) i_x ((23 : Int32) - nI w) n else (-mQb (sU g 9 0 (0 : Int32)) i_x ((23 : Int32) - nI w) n))) (by first | (simp only [bq, decide_eq_false c_128, if_neg c_128]; done) | (simp only [bq, decide_eq_false c_128, if_neg c_128]; rfl) | (simp [bq, decide_eq_false c_128, if_neg c_128]; done)) (hj_139_1 _ _ _ hw hS hl)
                · have hlt_k : k < n := lt_nI (a := n) (b := k) c_50 (by omega) (by omega)
                  refine lv_aload_n hx hb dX3_question_53 rfl (lv_at hl 6 rfl) ?_
                  refine lv_iload hx hb dX3_question_54 (lv_at hl 0 rfl) ?_
                  refine lv_iload_n hx hb dX3_question_56 rfl (lv_at hl 7 rfl) ?_
                  refine kx_do0 (st1 := [.int (b2 (mAsk (sU g 9 0 (0 : Int32)) i_x k))]) (kx_cv (As := [.int (nI k), .int (nI i_x)]) (rest := []) hF hG hw hS hl.1 kC_9 rfl (c_X3_isAsked l hfl D cy base ad n nc (sU g 9 0 (0 : Int32)) k i_x (by first | assumption | omega | exact mR_9 (by assumption) _ _ | simp [sU, hfn, hcn, hR]) (by first | assumption | omega | exact mR_9 (by assumption) _ _ | simp [sU, hfn, hcn, hR]) (by first | assumption | omega | exact mR_9 (by assumption) _ _ | simp [sU, hfn, hcn, hR])) gX3_question_X3_isAsked rfl rfl rfl hd_X3_isAsked ⟨Nat.le_of_ble_eq_true rfl, Nat.le_of_ble_eq_true rfl⟩ rfl rfl (Nat.le_of_ble_eq_true rfl) dX3_question_57 ⟨Nat.le_of_ble_eq_true rfl, Nat.le_of_ble_eq_true rfl⟩) hS rfl (fun H locs hw hS => ?_)
                  refine lv_istore (lv' := [(8, .int (b2 (mAsk (sU g 9 0 (0 : Int32)) i_x k))), (7, .int (nI k)), (6, .int (mQb (sU g 9 0 (0 : Int32)) i_x ((23 : Int32) - nI w) k)), (5, .int (mQm (sU g 9 0 (0 : Int32)) i_x k)), (4, .int ((23 : Int32) - nI w)), (3, .int ((mQ (sU g 9 0 (0 : Int32)) n i_x w).2)), (2, .int ((mQ (sU g 9 0 (0 : Int32)) n i_x w).1)), (0, .ref (ad 9)), (1, .int (nI i_x))]) hx hb dX3_question_60 hl (by decide) rfl (fun ls hl => ?_)
                  refine lv_iload hx hb dX3_question_62 (lv_at hl 3 rfl) ?_
                  refine lv_iload hx hb dX3_question_64 (lv_at hl 0 rfl) ?_
                  have hj_74_5 : ∀ (H : Heap) (locs : List Loc) (ls : Array Slot), kW D cy base ad n nc (sU g 9 0 (0 : Int32)) H → va_S (kA base) s.heap H locs → lv_has ls 9 [(8, .int (b2 (mAsk (sU g 9 0 (0 : Int32)) i_x k))), (7, .int (nI k)), (6, .int (mQb (sU g 9 0 (0 : Int32)) i_x ((23 : Int32) - nI w) k)), (5, .int (mQm (sU g 9 0 (0 : Int32)) i_x k)), (4, .int ((23 : Int32) - nI w)), (3, .int ((mQ (sU g 9 0 (0 : Int32)) n i_x w).2)), (2, .int ((mQ (sU g 9 0 (0 : Int32)) n i_x w).1)), (0, .ref (ad 9)), (1, .int (nI i_x))] → W p l e (kR 5 0 0) s m args below meth c H locs 0 0 Q (F0 m 74 ls [.int (b2 (mAsk (sU g 9 0 (0 : Int32)) i_x k)), .int (mQm (sU g 9 0 (0 : Int32)) i_x k)]) := by
                    intro H locs ls hw hS hl
                    refine lv_iadd hx hb dX3_question_74 ?_
                    refine lv_istore (lv' := [(5, .int (mQm (sU g 9 0 (0 : Int32)) i_x k + (b2 (mAsk (sU g 9 0 (0 : Int32)) i_x k)))), (8, .int (b2 (mAsk (sU g 9 0 (0 : Int32)) i_x k))), (7, .int (nI k)), (6, .int (mQb (sU g 9 0 (0 : Int32)) i_x ((23 : Int32) - nI w) k)), (4, .int ((23 : Int32) - nI w)), (3, .int ((mQ (sU g 9 0 (0 : Int32)) n i_x w).2)), (2, .int ((mQ (sU g 9 0 (0 : Int32)) n i_x w).1)), (0, .ref (ad 9)), (1, .int (nI i_x))]) hx hb dX3_question_75 hl (by decide) rfl (fun ls hl => ?_)
                    refine lv_iload hx hb dX3_question_77 (lv_at hl 3 rfl) ?_
                    refine lv_iload hx hb dX3_question_79 (lv_at hl 1 rfl) ?_
                    have hj_117_6 : ∀ (H : Heap) (locs : List Loc) (ls : Array Slot), kW D cy base ad n nc (sU g 9 0 (0 : Int32)) H → va_S (kA base) s.heap H locs → lv_has ls 9 [(5, .int (mQm (sU g 9 0 (0 : Int32)) i_x k + (b2 (mAsk (sU g 9 0 (0 : Int32)) i_x k)))), (8, .int (b2 (mAsk (sU g 9 0 (0 : Int32)) i_x k))), (7, .int (nI k)), (6, .int (mQb (sU g 9 0 (0 : Int32)) i_x ((23 : Int32) - nI w) k)), (4, .int ((23 : Int32) - nI w)), (3, .int ((mQ (sU g 9 0 (0 : Int32)) n i_x w).2)), (2, .int ((mQ (sU g 9 0 (0 : Int32)) n i_x w).1)), (0, .ref (ad 9)), (1, .int (nI i_x))] → W p l e (kR 5 0 0) s m args below meth c H locs 0 0 Q (F0 m 117 ls [.int (if (mAsk (sU g 9 0 (0 : Int32)) i_x k) = true then (if ((((g 62 k) ||| (g 63 k)) >>> ((23 : Int32) - nI w &&& 31)) &&& (1 : Int32)) = (1 : Int32) then (1 : Int32) else (-1 : Int32)) else (0 : Int32)), .int (mQb (sU g 9 0 (0 : Int32)) i_x ((23 : Int32) - nI w) k)]) := by
                      intro H locs ls hw hS hl
                      refine lv_iadd hx hb dX3_question_117 ?_
                      refine lv_istore (lv' := [(6, .int (mQb (sU g 9 0 (0 : Int32)) i_x ((23 : Int32) - nI w) k + (if (mAsk (sU g 9 0 (0 : Int32)) i_x k) = true then (if ((((g 62 k) ||| (g 63 k)) >>> ((23 : Int32) - nI w &&& 31)) &&& (1 : Int32)) = (1 : Int32) then (1 : Int32) else (-1 : Int32)) else (0 : Int32)))), (5, .int (mQm (sU g 9 0 (0 : Int32)) i_x k + (b2 (mAsk (sU g 9 0 (0 : Int32)) i_x k)))), (8, .int (b2 (mAsk (sU g 9 0 (0 : Int32)) i_x k))), (7, .int (nI k)), (4, .int ((23 : Int32) - nI w)), (3, .int ((mQ (sU g 9 0 (0 : Int32)) n i_x w).2)), (2, .int ((mQ (sU g 9 0 (0 : Int32)) n i_x w).1)), (0, .ref (ad 9)), (1, .int (nI i_x))]) hx hb dX3_question_118 hl (by decide) rfl (fun ls hl => ?_)
                      refine lv_iinc (v := (nI k + (1 : Int32))) (lv' := [(7, .int (nI k + (1 : Int32))), (6, .int (mQb (sU g 9 0 (0 : Int32)) i_x ((23 : Int32) - nI w) k + (if (mAsk (sU g 9 0 (0 : Int32)) i_x k) = true then (if ((((g 62 k) ||| (g 63 k)) >>> ((23 : Int32) - nI w &&& 31)) &&& (1 : Int32)) = (1 : Int32) then (1 : Int32) else (-1 : Int32)) else (0 : Int32)))), (5, .int (mQm (sU g 9 0 (0 : Int32)) i_x k + (b2 (mAsk (sU g 9 0 (0 : Int32)) i_x k)))), (8, .int (b2 (mAsk (sU g 9 0 (0 : Int32)) i_x k))), (4, .int ((23 : Int32) - nI w)), (3, .int ((mQ (sU g 9 0 (0 : Int32)) n i_x w).2)), (2, .int ((mQ (sU g 9 0 (0 : Int32)) n i_x w).1)), (0, .ref (ad 9)), (1, .int (nI i_x))]) hx hb dX3_question_120 hl (k := 3) rfl rfl (by decide) rfl (fun ls hl => ?_)
                      refine lv_goto (tgt := 44) hx hb dX3_question_123 (by decide) ?_
                      exact ih_44 (k + 1) (by omega) (by omega) _ _ _ hw hS (kx_lv (l := [(7, .int (nI k + (1 : Int32))), (6, .int (mQb (sU g 9 0 (0 : Int32)) i_x ((23 : Int32) - nI w) k + (if (mAsk (sU g 9 0 (0 : Int32)) i_x k) = true then (if ((((g 62 k) ||| (g 63 k)) >>> ((23 : Int32) - nI w &&& 31)) &&& (1 : Int32)) = (1 : Int32) then (1 : Int32) else (-1 : Int32)) else (0 : Int32)))), (5, .int (mQm (sU g 9 0 (0 : Int32)) i_x k + (b2 (mAsk (sU g 9 0 (0 : Int32)) i_x k)))), (4, .int ((23 : Int32) - nI w)), (3, .int ((mQ (sU g 9 0 (0 : Int32)) n i_x w).2)), (2, .int ((mQ (sU g 9 0 (0 : Int32)) n i_x w).1)), (0, .ref (ad 9)), (1, .int (nI i_x))]) (l' := [(7, .int (nI (k + 1))), (6, .int (mQb (sU g 9 0 (0 : Int32)) i_x ((23 : Int32) - nI w) (k + 1))), (5, .int (mQm (sU g 9 0 (0 : Int32)) i_x (k + 1))), (4, .int ((23 : Int32) - nI w)), (3, .int ((mQ (sU g 9 0 (0 : Int32)) n i_x w).2)), (2, .int ((mQ (sU g 9 0 (0 : Int32)) n i_x w).1)), (0, .ref (ad 9)), (1, .int (nI i_x))]) (lv_sub hl [0, 1, 2, 4, 5, 6, 7, 8] rfl) (by rw [nI_1]; rfl)) 
                    refine kb_ne (tgt := 88) hx hb dX3_question_81 (by decide) (fun c_81 => ?_) (fun c_81 => ?_)
                    · refine lv_aload_n hx hb dX3_question_88 rfl (lv_at hl 7 rfl) ?_
                      refine kx_getM (v := .ref (ad 62)) hx hb hts hown hG hw i3 12 (by decide) f_38 rfl dX3_question_89 ?_
                      refine lv_iload hx hb dX3_question_92 (lv_at hl 2 rfl) ?_
                      refine kx_iald (v := (g 62 k)) hx hb hG hw (kC_I rfl) k (nI_clamp (by omega)) (vp_in_nI (by omega) (by decide)) (sU_k _ _ _ _ (by omega)) dX3_question_94 ?_
                      refine lv_aload_n hx hb dX3_question_95 rfl (lv_at hl 7 rfl) ?_
                      refine kx_getM (v := .ref (ad 63)) hx hb hts hown hG hw i3 13 (by decide) f_41 rfl dX3_question_96 ?_
                      refine lv_iload hx hb dX3_question_99 (lv_at hl 2 rfl) ?_
                      refine kx_iald (v := (g 63 k)) hx hb hG hw (kC_I rfl) k (nI_clamp (by omega)) (vp_in_nI (by omega) (by decide)) (sU_k _ _ _ _ (by omega)) dX3_question_101 ?_
                      refine lv_ior hx hb dX3_question_102 ?_
                      refine lv_iload hx hb dX3_question_103 (lv_at hl 4 rfl) ?_
                      refine lv_ishr hx hb dX3_question_105 ?_
                      refine lv_iconst (v := 1) hx hb dX3_question_106 (by decide) ?_
                      refine lv_iand hx hb dX3_question_107 ?_
                      refine lv_iconst (v := 1) hx hb dX3_question_108 (by decide) ?_
                      refine lv_icmp_ne (tgt := 116) hx hb dX3_question_109 (by decide) (fun c_109 => ?_) (fun c_109 => ?_)
                      · refine lv_iconst (v := -1) hx hb dX3_question_116 (by decide) ?_
                        exact kx_top (v := (if (mAsk (sU g 9 0 (0 : Int32)) i_x k) = true then (if ((((g 62 k) ||| (g 63 k)) >>> ((23 : Int32) - nI w &&& 31)) &&& (1 : Int32)) = (1 : Int32) then (1 : Int32) else (-1 : Int32)) else (0 : Int32))) (by first | (simp only [bq, c_81, decide_eq_false c_109, if_neg c_109]; done) | (simp only [bq, c_81, decide_eq_false c_109, if_neg c_109]; rfl) | (simp [bq, c_81, decide_eq_false c_109, if_neg c_109]; done)) (hj_117_6 _ _ _ hw hS hl)
                      · refine lv_iconst (v := 1) hx hb dX3_question_112 (by decide) ?_
                        refine lv_goto (tgt := 117) hx hb dX3_question_113 (by decide) ?_
                        exact kx_top (v := (if (mAsk (sU g 9 0 (0 : Int32)) i_x k) = true then (if ((((g 62 k) ||| (g 63 k)) >>> ((23 : Int32) - nI w &&& 31)) &&& (1 : Int32)) = (1 : Int32) then (1 : Int32) else (-1 : Int32)) else (0 : Int32))) (by first | (simp only [bq, c_81, decide_eq_true c_109, if_pos c_109]; done) | (simp only [bq, c_81, decide_eq_true c_109, if_pos c_109]; rfl) | (simp [bq, c_81, decide_eq_true c_109, if_pos c_109]; done)) (hj_117_6 _ _ _ hw hS hl)
                    · refine lv_iconst (v := 0) hx hb dX3_question_84 (by decide) ?_
                      refine lv_goto (tgt := 117) hx hb dX3_question_85 (by decide) ?_
                      exact kx_top (v := (if (mAsk (sU g 9 0 (0 : Int32)) i_x k) = true then (if ((((g 62 k) ||| (g 63 k)) >>> ((23 : Int32) - nI w &&& 31)) &&& (1 : Int32)) = (1 : Int32) then (1 : Int32) else (-1 : Int32)) else (0 : Int32))) (by first | (simp only [bq, c_81]; done) | (simp only [bq, c_81]; rfl) | (simp [bq, c_81]; done)) (hj_117_6 _ _ _ hw hS hl)
                  refine kb_eq (tgt := 73) hx hb dX3_question_66 (by decide) (fun c_66 => ?_) (fun c_66 => ?_)
                  · refine lv_iconst (v := 0) hx hb dX3_question_73 (by decide) ?_
                    exact kx_top (v := (b2 (mAsk (sU g 9 0 (0 : Int32)) i_x k))) (by first | (simp only [bq, c_66]; done) | (simp only [bq, c_66]; rfl) | (simp [bq, c_66]; done)) (hj_74_5 _ _ _ hw hS hl)
                  · refine lv_iconst (v := 1) hx hb dX3_question_69 (by decide) ?_
                    refine lv_goto (tgt := 74) hx hb dX3_question_70 (by decide) ?_
                    exact kx_top (v := (b2 (mAsk (sU g 9 0 (0 : Int32)) i_x k))) (by first | (simp only [bq, c_66]; done) | (simp only [bq, c_66]; rfl) | (simp [bq, c_66]; done)) (hj_74_5 _ _ _ hw hS hl)
            exact lp_44 (n + 1) 0 (by omega) (by omega) _ _ _ hw hS (kx_lv (l := [(7, .int (0 : Int32)), (6, .int (0 : Int32)), (5, .int (0 : Int32)), (4, .int ((23 : Int32) - nI w)), (3, .int ((mQ (sU g 9 0 (0 : Int32)) n i_x w).2)), (2, .int ((mQ (sU g 9 0 (0 : Int32)) n i_x w).1)), (0, .ref (ad 9)), (1, .int (nI i_x))]) (l' := [(7, .int (nI 0)), (6, .int (mQb (sU g 9 0 (0 : Int32)) i_x ((23 : Int32) - nI w) 0)), (5, .int (mQm (sU g 9 0 (0 : Int32)) i_x 0)), (4, .int ((23 : Int32) - nI w)), (3, .int ((mQ (sU g 9 0 (0 : Int32)) n i_x w).2)), (2, .int ((mQ (sU g 9 0 (0 : Int32)) n i_x w).1)), (0, .ref (ad 9)), (1, .int (nI i_x))]) (lv_sub hl [0, 1, 2, 3, 4, 5, 6, 7] rfl) (rfl)) 
      exact lp_30 (24 + 1) 0 (by omega) (by omega) _ _ _ hw hS (kx_lv (l := [(4, .int (23 : Int32)), (3, .int (0 : Int32)), (2, .int (-1 : Int32)), (0, .ref (ad 9)), (1, .int (nI i_x))]) (l' := [(4, .int ((23 : Int32) - nI 0)), (3, .int ((mQ (sU g 9 0 (0 : Int32)) n i_x 0).2)), (2, .int ((mQ (sU g 9 0 (0 : Int32)) n i_x 0).1)), (0, .ref (ad 9)), (1, .int (nI i_x))]) (lv_sub hl [0, 1, 2, 3, 4] rfl) (rfl)) 
    · have h0 : ¬ kd1 (isF nc x) = 0 := of_decide_eq_false c_17
      refine lv_iconst (v := 0) hx hb dX3_question_20 (by decide) ?_
      exact kx_retI hQ hx hb hr hlk hw hS (Nat.le_of_ble_eq_true rfl) (Nat.le_of_ble_eq_true rfl) dX3_question_21 (kd_i (trivial) (rv_n h0) (mk_n h0))
  refine kb_eq (tgt := 13) hx hb dX3_question_6 (by decide) (fun c_6 => ?_) (fun c_6 => ?_)
  · refine lv_iconst (v := 1) hx hb dX3_question_13 (by decide) ?_
    exact kx_top (v := (kd1 (isF nc x))) (by first | (simp only [bq, c_6]; done) | (simp only [bq, c_6]; rfl) | (simp [bq, c_6]; done)) (hj_14_0 _ _ _ hw hS hl)
  · have v_x : vp_in x 20 := isF_vp (c_6) hc20 (by decide)
    have w_x : x.toNatClampNeg < nc := isF_lt (c_6) (Nat.le_trans hc20 (by decide))
    refine lv_iconst (v := 0) hx hb dX3_question_9 (by decide) ?_
    refine lv_goto (tgt := 14) hx hb dX3_question_10 (by decide) ?_
    exact kx_top (v := (kd1 (isF nc x))) (by first | (simp only [bq, c_6]; done) | (simp only [bq, c_6]; rfl) | (simp [bq, c_6]; done)) (hj_14_0 _ _ _ hw hS hl)
theorem hd_X3_ofFind : yX3_ofFind.cls = RX3 ∧ yX3_ofFind.cls ≠ "java/lang/invoke/MethodHandle" ∧ yX3_ofFind.cls ≠ "java/lang/invoke/VarHandle" ∧ (parseMethodDescriptor yX3_ofFind.desc).map (fun d => d.parameters.length) = some 2 := by decide +kernel
set_option maxHeartbeats 4000000 in
set_option maxRecDepth 100000 in
theorem c_X3_ofFind (l : Launch) (hfl : l.stackTraces = false) (D : va_G) (cy : Nat → ClassId) (base : Nat) (ad : Nat → Nat) (n nc : Nat) (g : sg) (x : Int32) (what : Int32) (hfn : g 9 8 = nI n) : kM l yX3_ofFind wsX3_ofFind (kR 2 0 0) D cy base ad n nc g [.ref (ad 9), .int x, .int what] (kD True (some (.int (rv (kd2 (isF n x) (inn what 0 4)) (mOf g x.toNatClampNeg what)))) ad n nc (mk (kd2 (isF n x) (inn what 0 4)) ((sU g 9 0 0)) g)) kNo 0 0 := by
  refine kx_meth (cc := cX3_ofFind) (maxL := 3) (ret := (some .int)) (by decide) rfl (Nat.le_of_ble_eq_true rfl) ?_
  intro p e s m args below meth c ls hx hb hr hml hown hts hlk hT hG hw0 hS0 hl Q H locs hQ hw hS hH0 hlocs0
  have hl : lv_has ls 3 [(0, .ref (ad 9)), (1, .int x), (2, .int what)] := hl
  have hown : s.vm.findClass RX3 = some m.cls := hown
  have hF : CallFix p m c cX3_ofFind 3 s args wsX3_ofFind RX3 := ⟨hx, hb, hml, hown, hts⟩
  have hn30 : n ≤ 30 := hw.2.2.1
  have hc20 : nc ≤ 20 := hw.2.2.2
  clear hw0 hS0 hH0 hlocs0
  have i3 : ∀ w ∈ wsX30, w ∈ wsX3_ofFind := by decide +kernel
  have f_38 := hts (.fieldLink RX3 38 "LostroomModel" "words" "[I") (by decide +kernel)
  have f_47 := hts (.fieldLink RX3 47 "LostroomModel" "states" "[I") (by decide +kernel)
  have f_50 := hts (.fieldLink RX3 50 "LostroomModel" "rooms" "[I") (by decide +kernel)
  have f_53 := hts (.fieldLink RX3 53 "LostroomModel" "goesTo" "[I") (by decide +kernel)
  have f_56 := hts (.fieldLink RX3 56 "LostroomModel" "lasts" "[I") (by decide +kernel)
  have f_69 := hts (.fieldLink RX3 69 "LostroomModel" "handMany" "[I") (by decide +kernel)
  refine lv_aload_n hx hb dX3_ofFind_0 rfl (lv_at hl 0 rfl) ?_
  refine lv_aload_n hx hb dX3_ofFind_1 rfl (lv_at hl 0 rfl) ?_
  refine lv_iload_n hx hb dX3_ofFind_2 rfl (lv_at hl 1 rfl) ?_
  refine kx_do0 (st1 := [.int (b2 (isF n x)), .ref (ad 9)]) (kx_cv (As := [.int x]) (rest := [.ref (ad 9)]) hF hG hw hS hl.1 kC_9 rfl (c_X3_isFind l hfl D cy base ad n nc g x (by first | assumption | omega | exact mR_9 (by assumption) _ _ | simp [sU, hfn])) gX3_ofFind_X3_isFind rfl rfl rfl hd_X3_isFind ⟨Nat.le_of_ble_eq_true rfl, Nat.le_of_ble_eq_true rfl⟩ rfl rfl (Nat.le_of_ble_eq_true rfl) dX3_ofFind_3 ⟨Nat.le_of_ble_eq_true rfl, Nat.le_of_ble_eq_true rfl⟩) hS rfl (fun H locs hw hS => ?_)
  have hj_27_0 : ∀ (H : Heap) (locs : List Loc) (ls : Array Slot), kW D cy base ad n nc g H → va_S (kA base) s.heap H locs → lv_has ls 3 [(0, .ref (ad 9)), (1, .int x), (2, .int what)] → W p l e (kR 2 0 0) s m args below meth c H locs 0 0 Q (F0 m 27 ls [.int (kd2 (isF n x) (inn what 0 4)), .ref (ad 9)]) := by
    intro H locs ls hw hS hl
    refine kx_do0 (st1 := [.int (b2 (decide ((kd2 (isF n x) (inn what 0 4)) = 0)))]) (kx_cv (As := [.int (kd2 (isF n x) (inn what 0 4))]) (rest := []) hF hG hw hS hl.1 kC_9 rfl (c_X3_holds l hfl D cy base ad n nc g (kd2 (isF n x) (inn what 0 4)) ) gX3_ofFind_X3_holds rfl rfl rfl hd_X3_holds ⟨Nat.le_of_ble_eq_true rfl, Nat.le_of_ble_eq_true rfl⟩ rfl rfl (Nat.le_of_ble_eq_true rfl) dX3_ofFind_27 ⟨Nat.le_of_ble_eq_true rfl, Nat.le_of_ble_eq_true rfl⟩) hS rfl (fun H locs hw hS => ?_)
    refine kb_ne (tgt := 35) hx hb dX3_ofFind_30 (by decide) (fun c_30 => ?_) (fun c_30 => ?_)
    · have h0 : kd2 (isF n x) (inn what 0 4) = 0 := of_decide_eq_true c_30
      rw [h0] at hw
      have hk := kd2_0.mp h0
      obtain ⟨i_x, hi_x, rfl⟩ := isF_ex (hk.1) hn30
      have hcl_x : (nI i_x).toNatClampNeg = i_x := cl_nI (by omega)
      have v_what : vp_in what 5 := inn_vp (hk.2) (by decide)
      refine lv_iload_n hx hb dX3_ofFind_35 rfl (lv_at hl 2 rfl) ?_
      refine kx_sw (N := 3) (tgt := 125) hx hb dX3_ofFind_36 rfl (by decide) (by decide) (fun c_36 => ?_) (fun j9 hj9 c_36 => ?_)
      · refine lv_aload_n hx hb dX3_ofFind_125 rfl (lv_at hl 0 rfl) ?_
        refine kx_getM (v := .ref (ad 72)) hx hb hts hown hG hw i3 22 (by decide) f_69 rfl dX3_ofFind_126 ?_
        refine lv_iload_n hx hb dX3_ofFind_129 rfl (lv_at hl 1 rfl) ?_
        refine kx_iald (v := (g 72 i_x)) hx hb hG hw (kC_I rfl) i_x (nI_clamp (by omega)) (vp_in_nI (by omega) (by decide)) (sU_k _ _ _ _ (by omega)) dX3_ofFind_130 ?_
        exact kx_retI hQ hx hb hr hlk hw hS (Nat.le_of_ble_eq_true rfl) (Nat.le_of_ble_eq_true rfl) dX3_ofFind_131 (kd_i (trivial) ((rv_0 h0).trans (by simp only [mOf, decide_eq_true h0, if_pos h0, hcl_x, c_36]; first | done | rfl | simp [mOf, c_36])) ((mk_0 h0).trans (by simp only [hcl_x])))
      · match j9, hj9 with
        | 0, _ =>
          refine ⟨32, 68, rfl, by decide, ?_⟩
          refine lv_aload_n hx hb dX3_ofFind_68 rfl (lv_at hl 0 rfl) ?_
          refine kx_getM (v := .ref (ad 65)) hx hb hts hown hG hw i3 15 (by decide) f_47 rfl dX3_ofFind_69 ?_
          refine lv_iload_n hx hb dX3_ofFind_72 rfl (lv_at hl 1 rfl) ?_
          refine kx_iald (v := (g 65 i_x)) hx hb hG hw (kC_I rfl) i_x (nI_clamp (by omega)) (vp_in_nI (by omega) (by decide)) (sU_k _ _ _ _ (by omega)) dX3_ofFind_73 ?_
          exact kx_retI hQ hx hb hr hlk hw hS (Nat.le_of_ble_eq_true rfl) (Nat.le_of_ble_eq_true rfl) dX3_ofFind_74 (kd_i (trivial) ((rv_0 h0).trans (by simp only [mOf, decide_eq_true h0, if_pos h0, hcl_x, c_36]; first | done | rfl | simp [mOf, c_36])) ((mk_0 h0).trans (by simp only [hcl_x])))
        | 1, _ =>
          refine ⟨39, 75, rfl, by decide, ?_⟩
          refine lv_aload_n hx hb dX3_ofFind_75 rfl (lv_at hl 0 rfl) ?_
          refine kx_getM (v := .ref (ad 65)) hx hb hts hown hG hw i3 15 (by decide) f_47 rfl dX3_ofFind_76 ?_
          refine lv_iload_n hx hb dX3_ofFind_79 rfl (lv_at hl 1 rfl) ?_
          refine kx_iald (v := (g 65 i_x)) hx hb hG hw (kC_I rfl) i_x (nI_clamp (by omega)) (vp_in_nI (by omega) (by decide)) (sU_k _ _ _ _ (by omega)) dX3_ofFind_80 ?_
          refine lv_iconst (v := 1) hx hb dX3_ofFind_81 (by decide) ?_
          have hj_110_1 : ∀ (H : Heap) (locs : List Loc) (ls : Array Slot), kW D cy base ad n nc (sU g 9 0 (0 : Int32)) H → va_S (kA base) s.heap H locs → lv_has ls 3 [(0, .ref (ad 9)), (1, .int (nI i_x)), (2, .int what)] → W p l e (kR 2 0 0) s m args below meth c H locs 0 0 Q (F0 m 110 ls [.int (if (g 65 i_x) = (1 : Int32) then (g 67 i_x) else (if (g 65 i_x) = (2 : Int32) then (g 67 i_x) else (g 66 i_x)))]) := by
            intro H locs ls hw hS hl
            exact kx_retI hQ hx hb hr hlk hw hS (Nat.le_of_ble_eq_true rfl) (Nat.le_of_ble_eq_true rfl) dX3_ofFind_110 (kd_i (trivial) ((rv_0 h0).trans (by simp only [mOf, decide_eq_true h0, if_pos h0, hcl_x, c_36]; first | done | rfl | simp [mOf, c_36])) ((mk_0 h0).trans (by simp only [hcl_x])))
          refine lv_icmp_eq (tgt := 95) hx hb dX3_ofFind_82 (by decide) (fun c_82 => ?_) (fun c_82 => ?_)
          · refine lv_aload_n hx hb dX3_ofFind_95 rfl (lv_at hl 0 rfl) ?_
            refine kx_getM (v := .ref (ad 67)) hx hb hts hown hG hw i3 17 (by decide) f_53 rfl dX3_ofFind_96 ?_
            refine lv_iload_n hx hb dX3_ofFind_99 rfl (lv_at hl 1 rfl) ?_
            refine kx_iald (v := (g 67 i_x)) hx hb hG hw (kC_I rfl) i_x (nI_clamp (by omega)) (vp_in_nI (by omega) (by decide)) (sU_k _ _ _ _ (by omega)) dX3_ofFind_100 ?_
            refine lv_goto (tgt := 110) hx hb dX3_ofFind_101 (by decide) ?_
            exact kx_top (v := (if (g 65 i_x) = (1 : Int32) then (g 67 i_x) else (if (g 65 i_x) = (2 : Int32) then (g 67 i_x) else (g 66 i_x)))) (by first | (simp only [bq, decide_eq_true c_82, if_pos c_82]; done) | (simp only [bq, decide_eq_true c_82, if_pos c_82]; rfl) | (simp [bq, decide_eq_true c_82, if_pos c_82]; done)) (hj_110_1 _ _ _ hw hS hl)
          · refine lv_aload_n hx hb dX3_ofFind_85 rfl (lv_at hl 0 rfl) ?_
            refine kx_getM (v := .ref (ad 65)) hx hb hts hown hG hw i3 15 (by decide) f_47 rfl dX3_ofFind_86 ?_
            refine lv_iload_n hx hb dX3_ofFind_89 rfl (lv_at hl 1 rfl) ?_
            refine kx_iald (v := (g 65 i_x)) hx hb hG hw (kC_I rfl) i_x (nI_clamp (by omega)) (vp_in_nI (by omega) (by decide)) (sU_k _ _ _ _ (by omega)) dX3_ofFind_90 ?_
            refine lv_iconst (v := 2) hx hb dX3_ofFind_91 (by decide) ?_
            refine lv_icmp_ne (tgt := 104) hx hb dX3_ofFind_92 (by decide) (fun c_92 => ?_) (fun c_92 => ?_)
            · refine lv_aload_n hx hb dX3_ofFind_104 rfl (lv_at hl 0 rfl) ?_
              refine kx_getM (v := .ref (ad 66)) hx hb hts hown hG hw i3 16 (by decide) f_50 rfl dX3_ofFind_105 ?_
              refine lv_iload_n hx hb dX3_ofFind_108 rfl (lv_at hl 1 rfl) ?_
              refine kx_iald (v := (g 66 i_x)) hx hb hG hw (kC_I rfl) i_x (nI_clamp (by omega)) (vp_in_nI (by omega) (by decide)) (sU_k _ _ _ _ (by omega)) dX3_ofFind_109 ?_
              exact kx_top (v := (if (g 65 i_x) = (1 : Int32) then (g 67 i_x) else (if (g 65 i_x) = (2 : Int32) then (g 67 i_x) else (g 66 i_x)))) (by first | (simp only [bq, decide_eq_false c_82, if_neg c_82, decide_eq_false c_92, if_neg c_92]; done) | (simp only [bq, decide_eq_false c_82, if_neg c_82, decide_eq_false c_92, if_neg c_92]; rfl) | (simp [bq, decide_eq_false c_82, if_neg c_82, decide_eq_false c_92, if_neg c_92]; done)) (hj_110_1 _ _ _ hw hS hl)
            · refine lv_aload_n hx hb dX3_ofFind_95 rfl (lv_at hl 0 rfl) ?_
              refine kx_getM (v := .ref (ad 67)) hx hb hts hown hG hw i3 17 (by decide) f_53 rfl dX3_ofFind_96 ?_
              refine lv_iload_n hx hb dX3_ofFind_99 rfl (lv_at hl 1 rfl) ?_
              refine kx_iald (v := (g 67 i_x)) hx hb hG hw (kC_I rfl) i_x (nI_clamp (by omega)) (vp_in_nI (by omega) (by decide)) (sU_k _ _ _ _ (by omega)) dX3_ofFind_100 ?_
              refine lv_goto (tgt := 110) hx hb dX3_ofFind_101 (by decide) ?_
              exact kx_top (v := (if (g 65 i_x) = (1 : Int32) then (g 67 i_x) else (if (g 65 i_x) = (2 : Int32) then (g 67 i_x) else (g 66 i_x)))) (by first | (simp only [bq, decide_eq_false c_82, if_neg c_82, decide_eq_true c_92, if_pos c_92]; done) | (simp only [bq, decide_eq_false c_82, if_neg c_82, decide_eq_true c_92, if_pos c_92]; rfl) | (simp [bq, decide_eq_false c_82, if_neg c_82, decide_eq_true c_92, if_pos c_92]; done)) (hj_110_1 _ _ _ hw hS hl)
        | 2, _ =>
          refine ⟨75, 111, rfl, by decide, ?_⟩
          refine lv_aload_n hx hb dX3_ofFind_111 rfl (lv_at hl 0 rfl) ?_
          refine kx_getM (v := .ref (ad 68)) hx hb hts hown hG hw i3 18 (by decide) f_56 rfl dX3_ofFind_112 ?_
          refine lv_iload_n hx hb dX3_ofFind_115 rfl (lv_at hl 1 rfl) ?_
          refine kx_iald (v := (g 68 i_x)) hx hb hG hw (kC_I rfl) i_x (nI_clamp (by omega)) (vp_in_nI (by omega) (by decide)) (sU_k _ _ _ _ (by omega)) dX3_ofFind_116 ?_
          exact kx_retI hQ hx hb hr hlk hw hS (Nat.le_of_ble_eq_true rfl) (Nat.le_of_ble_eq_true rfl) dX3_ofFind_117 (kd_i (trivial) ((rv_0 h0).trans (by simp only [mOf, decide_eq_true h0, if_pos h0, hcl_x, c_36]; first | done | rfl | simp [mOf, c_36])) ((mk_0 h0).trans (by simp only [hcl_x])))
        | 3, _ =>
          refine ⟨82, 118, rfl, by decide, ?_⟩
          refine lv_aload_n hx hb dX3_ofFind_118 rfl (lv_at hl 0 rfl) ?_
          refine kx_getM (v := .ref (ad 62)) hx hb hts hown hG hw i3 12 (by decide) f_38 rfl dX3_ofFind_119 ?_
          refine lv_iload_n hx hb dX3_ofFind_122 rfl (lv_at hl 1 rfl) ?_
          refine kx_iald (v := (g 62 i_x)) hx hb hG hw (kC_I rfl) i_x (nI_clamp (by omega)) (vp_in_nI (by omega) (by decide)) (sU_k _ _ _ _ (by omega)) dX3_ofFind_123 ?_
          exact kx_retI hQ hx hb hr hlk hw hS (Nat.le_of_ble_eq_true rfl) (Nat.le_of_ble_eq_true rfl) dX3_ofFind_124 (kd_i (trivial) ((rv_0 h0).trans (by simp only [mOf, decide_eq_true h0, if_pos h0, hcl_x, c_36]; first | done | rfl | simp [mOf, c_36])) ((mk_0 h0).trans (by simp only [hcl_x])))
        | j9 + 4, hj9 => omega
    · have h0 : ¬ kd2 (isF n x) (inn what 0 4) = 0 := of_decide_eq_false c_30
      refine lv_iconst (v := 0) hx hb dX3_ofFind_33 (by decide) ?_
      exact kx_retI hQ hx hb hr hlk hw hS (Nat.le_of_ble_eq_true rfl) (Nat.le_of_ble_eq_true rfl) dX3_ofFind_34 (kd_i (trivial) (rv_n h0) (mk_n h0))
  refine kb_ne (tgt := 13) hx hb dX3_ofFind_6 (by decide) (fun c_6 => ?_) (fun c_6 => ?_)
  · have v_x : vp_in x 30 := isF_vp (c_6) hn30 (by decide)
    have w_x : x.toNatClampNeg < n := isF_lt (c_6) hn30
    refine lv_iload_n hx hb dX3_ofFind_13 rfl (lv_at hl 2 rfl) ?_
    refine lv_iconst (v := 0) hx hb dX3_ofFind_14 (by decide) ?_
    refine lv_iconst (v := 4) hx hb dX3_ofFind_15 (by decide) ?_
    refine kx_do0 (st1 := [.int (b2 (inn what (0 : Int32) (4 : Int32))), .ref (ad 9)]) (kx_cs (As := [.int what, .int (0 : Int32), .int (4 : Int32)]) (rest := [.ref (ad 9)]) hF hG hw hS hl.1 (c_X3_in l hfl D cy base ad n nc g what (0 : Int32) (4 : Int32) ) gX3_ofFind_X3_in rfl rfl rfl hd_X3_in ⟨Nat.le_of_ble_eq_true rfl, Nat.le_of_ble_eq_true rfl⟩ rfl rfl (Nat.le_of_ble_eq_true rfl) dX3_ofFind_16 ⟨Nat.le_of_ble_eq_true rfl, Nat.le_of_ble_eq_true rfl⟩) hS rfl (fun H locs hw hS => ?_)
    refine kb_eq (tgt := 26) hx hb dX3_ofFind_19 (by decide) (fun c_19 => ?_) (fun c_19 => ?_)
    · refine lv_iconst (v := 2) hx hb dX3_ofFind_26 (by decide) ?_
      exact kx_top (v := (kd2 (isF n x) (inn what 0 4))) (by first | (simp only [bq, c_6, c_19]; done) | (simp only [bq, c_6, c_19]; rfl) | (simp [bq, c_6, c_19]; done)) (hj_27_0 _ _ _ hw hS hl)
    · have v_what : vp_in what 5 := inn_vp (c_19) (by decide)
      refine lv_iconst (v := 0) hx hb dX3_ofFind_22 (by decide) ?_
      refine lv_goto (tgt := 27) hx hb dX3_ofFind_23 (by decide) ?_
      exact kx_top (v := (kd2 (isF n x) (inn what 0 4))) (by first | (simp only [bq, c_6, c_19]; done) | (simp only [bq, c_6, c_19]; rfl) | (simp [bq, c_6, c_19]; done)) (hj_27_0 _ _ _ hw hS hl)
  · refine lv_iconst (v := 1) hx hb dX3_ofFind_9 (by decide) ?_
    refine lv_goto (tgt := 27) hx hb dX3_ofFind_10 (by decide) ?_
    exact kx_top (v := (kd2 (isF n x) (inn what 0 4))) (by first | (simp only [bq, c_6]; done) | (simp only [bq, c_6]; rfl) | (simp [bq, c_6]; done)) (hj_27_0 _ _ _ hw hS hl)
theorem hd_X3_hand : yX3_hand.cls = RX3 ∧ yX3_hand.cls ≠ "java/lang/invoke/MethodHandle" ∧ yX3_hand.cls ≠ "java/lang/invoke/VarHandle" ∧ (parseMethodDescriptor yX3_hand.desc).map (fun d => d.parameters.length) = some 3 := by decide +kernel
set_option maxHeartbeats 4000000 in
set_option maxRecDepth 100000 in
theorem c_X3_hand (l : Launch) (hfl : l.stackTraces = false) (D : va_G) (cy : Nat → ClassId) (base : Nat) (ad : Nat → Nat) (n nc : Nat) (g : sg) (x : Int32) (place : Int32) (isDay : Bool) (hfn : g 9 8 = nI n) (hh : ∀ i, i < n → ∃ h : Nat, h ≤ 12 ∧ g 72 i = nI h) : kM l yX3_hand wsX3_hand (kR 2 0 0) D cy base ad n nc g [.ref (ad 9), .int x, .int place, .int (b2 isDay)] (kD True (some (.int (rv (kd1 (isF n x && inn place 0 (g 72 x.toNatClampNeg - 1))) ((if isDay = true then g 74 (12 * x.toNatClampNeg + place.toNatClampNeg) else g 73 (12 * x.toNatClampNeg + place.toNatClampNeg)))))) ad n nc (mk (kd1 (isF n x && inn place 0 (g 72 x.toNatClampNeg - 1))) ((sU g 9 0 0)) g)) kNo 0 0 := by
  refine kx_meth (cc := cX3_hand) (maxL := 5) (ret := (some .int)) (by decide) rfl (Nat.le_of_ble_eq_true rfl) ?_
  intro p e s m args below meth c ls hx hb hr hml hown hts hlk hT hG hw0 hS0 hl Q H locs hQ hw hS hH0 hlocs0
  have hl : lv_has ls 5 [(0, .ref (ad 9)), (1, .int x), (2, .int place), (3, .int (b2 isDay))] := hl
  have hown : s.vm.findClass RX3 = some m.cls := hown
  have hF : CallFix p m c cX3_hand 5 s args wsX3_hand RX3 := ⟨hx, hb, hml, hown, hts⟩
  have hn30 : n ≤ 30 := hw.2.2.1
  have hc20 : nc ≤ 20 := hw.2.2.2
  clear hw0 hS0 hH0 hlocs0
  have i3 : ∀ w ∈ wsX30, w ∈ wsX3_hand := by decide +kernel
  have f_69 := hts (.fieldLink RX3 69 "LostroomModel" "handMany" "[I") (by decide +kernel)
  have f_72 := hts (.fieldLink RX3 72 "LostroomModel" "handRoom" "[I") (by decide +kernel)
  have f_75 := hts (.fieldLink RX3 75 "LostroomModel" "handDay" "[I") (by decide +kernel)
  refine lv_aload_n hx hb dX3_hand_0 rfl (lv_at hl 0 rfl) ?_
  refine lv_iload_n hx hb dX3_hand_1 rfl (lv_at hl 1 rfl) ?_
  refine kx_do0 (st1 := [.int (b2 (isF n x))]) (kx_cv (As := [.int x]) (rest := []) hF hG hw hS hl.1 kC_9 rfl (c_X3_isFind l hfl D cy base ad n nc g x (by first | assumption | omega | exact mR_9 (by assumption) _ _ | simp [sU, hfn, hh])) gX3_hand_X3_isFind rfl rfl rfl hd_X3_isFind ⟨Nat.le_of_ble_eq_true rfl, Nat.le_of_ble_eq_true rfl⟩ rfl rfl (Nat.le_of_ble_eq_true rfl) dX3_hand_2 ⟨Nat.le_of_ble_eq_true rfl, Nat.le_of_ble_eq_true rfl⟩) hS rfl (fun H locs hw hS => ?_)
  have hj_29_0 : ∀ (H : Heap) (locs : List Loc) (ls : Array Slot), kW D cy base ad n nc g H → va_S (kA base) s.heap H locs → lv_has ls 5 [(0, .ref (ad 9)), (1, .int x), (2, .int place), (3, .int (b2 isDay))] → W p l e (kR 2 0 0) s m args below meth c H locs 0 0 Q (F0 m 29 ls [.int (b2 ((isF n x) && (inn place (0 : Int32) ((g 72 x.toNatClampNeg) - (1 : Int32)))))]) := by
    intro H locs ls hw hS hl
    refine lv_istore (lv' := [(4, .int (b2 ((isF n x) && (inn place (0 : Int32) ((g 72 x.toNatClampNeg) - (1 : Int32)))))), (0, .ref (ad 9)), (1, .int x), (2, .int place), (3, .int (b2 isDay))]) hx hb dX3_hand_29 hl (by decide) rfl (fun ls hl => ?_)
    refine lv_aload_n hx hb dX3_hand_31 rfl (lv_at hl 1 rfl) ?_
    refine lv_iload hx hb dX3_hand_32 (lv_at hl 0 rfl) ?_
    have hj_42_1 : ∀ (H : Heap) (locs : List Loc) (ls : Array Slot), kW D cy base ad n nc g H → va_S (kA base) s.heap H locs → lv_has ls 5 [(4, .int (b2 ((isF n x) && (inn place (0 : Int32) ((g 72 x.toNatClampNeg) - (1 : Int32)))))), (0, .ref (ad 9)), (1, .int x), (2, .int place), (3, .int (b2 isDay))] → W p l e (kR 2 0 0) s m args below meth c H locs 0 0 Q (F0 m 42 ls [.int (kd1 (isF n x && inn place 0 (g 72 x.toNatClampNeg - 1))), .ref (ad 9)]) := by
      intro H locs ls hw hS hl
      refine kx_do0 (st1 := [.int (b2 (decide ((kd1 (isF n x && inn place 0 (g 72 x.toNatClampNeg - 1))) = 0)))]) (kx_cv (As := [.int (kd1 (isF n x && inn place 0 (g 72 x.toNatClampNeg - 1)))]) (rest := []) hF hG hw hS hl.1 kC_9 rfl (c_X3_holds l hfl D cy base ad n nc g (kd1 (isF n x && inn place 0 (g 72 x.toNatClampNeg - 1))) ) gX3_hand_X3_holds rfl rfl rfl hd_X3_holds ⟨Nat.le_of_ble_eq_true rfl, Nat.le_of_ble_eq_true rfl⟩ rfl rfl (Nat.le_of_ble_eq_true rfl) dX3_hand_42 ⟨Nat.le_of_ble_eq_true rfl, Nat.le_of_ble_eq_true rfl⟩) hS rfl (fun H locs hw hS => ?_)
      refine kb_ne (tgt := 50) hx hb dX3_hand_45 (by decide) (fun c_45 => ?_) (fun c_45 => ?_)
      · have h0 : kd1 (isF n x && inn place 0 (g 72 x.toNatClampNeg - 1)) = 0 := of_decide_eq_true c_45
        rw [h0] at hw
        have hk := kd1_0.mp h0
        obtain ⟨i_x, hi_x, rfl⟩ := isF_ex (and_l (hk)) hn30
        have hcl_x : (nI i_x).toNatClampNeg = i_x := cl_nI (by omega)
        obtain ⟨h, hh1, hh2⟩ := hh i_x hi_x
        have hpl := hand_ix (and_r hk) (by rw [hcl_x]; exact hh2) hh1
        obtain ⟨pp, hpp, rfl, hcp⟩ := hpl
        refine lv_iload_n hx hb dX3_hand_50 rfl (lv_at hl 4 rfl) ?_
        have hj_79_2 : ∀ (H : Heap) (locs : List Loc) (ls : Array Slot), kW D cy base ad n nc (sU g 9 0 (0 : Int32)) H → va_S (kA base) s.heap H locs → lv_has ls 5 [(4, .int (b2 ((isF n (nI i_x)) && (inn (nI pp) (0 : Int32) ((g 72 (nI i_x).toNatClampNeg) - (1 : Int32)))))), (0, .ref (ad 9)), (1, .int (nI i_x)), (2, .int (nI pp)), (3, .int (b2 isDay))] → W p l e (kR 2 0 0) s m args below meth c H locs 0 0 Q (F0 m 79 ls [.int (if isDay = true then (g 74 (12 * i_x + pp)) else (g 73 (12 * i_x + pp)))]) := by
          intro H locs ls hw hS hl
          exact kx_retI hQ hx hb hr hlk hw hS (Nat.le_of_ble_eq_true rfl) (Nat.le_of_ble_eq_true rfl) dX3_hand_79 (kd_i (trivial) ((rv_0 h0).trans (by first | (simp only [hcl_x, hcp, decide_eq_true h0, if_pos h0, hcl_x, hcp]; done) | (simp only [hcl_x, hcp, decide_eq_true h0, if_pos h0, hcl_x, hcp]; rfl))) ((mk_0 h0).trans (by simp only [hcl_x])))
        refine kb_eq (tgt := 68) hx hb dX3_hand_51 (by decide) (fun c_51 => ?_) (fun c_51 => ?_)
        · refine lv_aload_n hx hb dX3_hand_68 rfl (lv_at hl 1 rfl) ?_
          refine kx_getM (v := .ref (ad 73)) hx hb hts hown hG hw i3 23 (by decide) f_72 rfl dX3_hand_69 ?_
          refine lv_bipush (v := 12) hx hb dX3_hand_72 (by decide) ?_
          refine lv_iload_n hx hb dX3_hand_74 rfl (lv_at hl 2 rfl) ?_
          refine lv_imul hx hb dX3_hand_75 ?_
          refine lv_iload_n hx hb dX3_hand_76 rfl (lv_at hl 3 rfl) ?_
          refine lv_iadd hx hb dX3_hand_77 ?_
          refine kx_iald (v := (g 73 (12 * i_x + pp))) hx hb hG hw (kC_I rfl) (12 * i_x + pp) (by rw [pk_mul12, nI_add]; exact cl_nI (by omega)) (by rw [pk_mul12, nI_add]; exact vp_in_nI (by omega) (by decide)) (sU_k _ _ _ _ (by omega)) dX3_hand_78 ?_
          exact kx_top (v := (if isDay = true then (g 74 (12 * i_x + pp)) else (g 73 (12 * i_x + pp)))) (by first | (simp only [bq, c_51]; done) | (simp only [bq, c_51]; rfl) | (simp [bq, c_51]; done)) (hj_79_2 _ _ _ hw hS hl)
        · refine lv_aload_n hx hb dX3_hand_54 rfl (lv_at hl 1 rfl) ?_
          refine kx_getM (v := .ref (ad 74)) hx hb hts hown hG hw i3 24 (by decide) f_75 rfl dX3_hand_55 ?_
          refine lv_bipush (v := 12) hx hb dX3_hand_58 (by decide) ?_
          refine lv_iload_n hx hb dX3_hand_60 rfl (lv_at hl 2 rfl) ?_
          refine lv_imul hx hb dX3_hand_61 ?_
          refine lv_iload_n hx hb dX3_hand_62 rfl (lv_at hl 3 rfl) ?_
          refine lv_iadd hx hb dX3_hand_63 ?_
          refine kx_iald (v := (g 74 (12 * i_x + pp))) hx hb hG hw (kC_I rfl) (12 * i_x + pp) (by rw [pk_mul12, nI_add]; exact cl_nI (by omega)) (by rw [pk_mul12, nI_add]; exact vp_in_nI (by omega) (by decide)) (sU_k _ _ _ _ (by omega)) dX3_hand_64 ?_
          refine lv_goto (tgt := 79) hx hb dX3_hand_65 (by decide) ?_
          exact kx_top (v := (if isDay = true then (g 74 (12 * i_x + pp)) else (g 73 (12 * i_x + pp)))) (by first | (simp only [bq, c_51]; done) | (simp only [bq, c_51]; rfl) | (simp [bq, c_51]; done)) (hj_79_2 _ _ _ hw hS hl)
      · have h0 : ¬ kd1 (isF n x && inn place 0 (g 72 x.toNatClampNeg - 1)) = 0 := of_decide_eq_false c_45
        refine lv_iconst (v := 0) hx hb dX3_hand_48 (by decide) ?_
        exact kx_retI hQ hx hb hr hlk hw hS (Nat.le_of_ble_eq_true rfl) (Nat.le_of_ble_eq_true rfl) dX3_hand_49 (kd_i (trivial) (rv_n h0) (mk_n h0))
    refine kb_eq (tgt := 41) hx hb dX3_hand_34 (by decide) (fun c_34 => ?_) (fun c_34 => ?_)
    · refine lv_iconst (v := 1) hx hb dX3_hand_41 (by decide) ?_
      exact kx_top (v := (kd1 (isF n x && inn place 0 (g 72 x.toNatClampNeg - 1)))) (by first | (simp only [bq, c_34]; done) | (simp only [bq, c_34]; rfl) | (simp [bq, c_34]; done)) (hj_42_1 _ _ _ hw hS hl)
    · have v_x : vp_in x 30 := isF_vp (and_l (c_34)) hn30 (by decide)
      have w_x : x.toNatClampNeg < n := isF_lt (and_l (c_34)) hn30
      refine lv_iconst (v := 0) hx hb dX3_hand_37 (by decide) ?_
      refine lv_goto (tgt := 42) hx hb dX3_hand_38 (by decide) ?_
      exact kx_top (v := (kd1 (isF n x && inn place 0 (g 72 x.toNatClampNeg - 1)))) (by first | (simp only [bq, c_34]; done) | (simp only [bq, c_34]; rfl) | (simp [bq, c_34]; done)) (hj_42_1 _ _ _ hw hS hl)
  refine kb_eq (tgt := 28) hx hb dX3_hand_5 (by decide) (fun c_5 => ?_) (fun c_5 => ?_)
  · refine lv_iconst (v := 0) hx hb dX3_hand_28 (by decide) ?_
    exact kx_top (v := (b2 ((isF n x) && (inn place (0 : Int32) ((g 72 x.toNatClampNeg) - (1 : Int32)))))) (by first | (simp only [bq, c_5]; done) | (simp only [bq, c_5]; rfl) | (simp [bq, c_5]; done)) (hj_29_0 _ _ _ hw hS hl)
  · have v_x : vp_in x 30 := isF_vp (c_5) hn30 (by decide)
    have w_x : x.toNatClampNeg < n := isF_lt (c_5) hn30
    refine lv_iload_n hx hb dX3_hand_8 rfl (lv_at hl 2 rfl) ?_
    refine lv_iconst (v := 0) hx hb dX3_hand_9 (by decide) ?_
    refine lv_aload_n hx hb dX3_hand_10 rfl (lv_at hl 0 rfl) ?_
    refine kx_getM (v := .ref (ad 72)) hx hb hts hown hG hw i3 22 (by decide) f_69 rfl dX3_hand_11 ?_
    refine lv_iload_n hx hb dX3_hand_14 rfl (lv_at hl 1 rfl) ?_
    refine kx_iald (v := (g 72 x.toNatClampNeg)) hx hb hG hw (kC_I rfl) x.toNatClampNeg rfl (by first | assumption | exact ix_of (by assumption) (by assumption) rfl (by decide)) rfl dX3_hand_15 ?_
    refine lv_iconst (v := 1) hx hb dX3_hand_16 (by decide) ?_
    refine lv_isub hx hb dX3_hand_17 ?_
    refine kx_do0 (st1 := [.int (b2 (inn place (0 : Int32) ((g 72 x.toNatClampNeg) - (1 : Int32))))]) (kx_cs (As := [.int place, .int (0 : Int32), .int ((g 72 x.toNatClampNeg) - (1 : Int32))]) (rest := []) hF hG hw hS hl.1 (c_X3_in l hfl D cy base ad n nc g place (0 : Int32) ((g 72 x.toNatClampNeg) - (1 : Int32)) ) gX3_hand_X3_in rfl rfl rfl hd_X3_in ⟨Nat.le_of_ble_eq_true rfl, Nat.le_of_ble_eq_true rfl⟩ rfl rfl (Nat.le_of_ble_eq_true rfl) dX3_hand_18 ⟨Nat.le_of_ble_eq_true rfl, Nat.le_of_ble_eq_true rfl⟩) hS rfl (fun H locs hw hS => ?_)
    refine kb_eq (tgt := 28) hx hb dX3_hand_21 (by decide) (fun c_21 => ?_) (fun c_21 => ?_)
    · refine lv_iconst (v := 0) hx hb dX3_hand_28 (by decide) ?_
      exact kx_top (v := (b2 ((isF n x) && (inn place (0 : Int32) ((g 72 x.toNatClampNeg) - (1 : Int32)))))) (by first | (simp only [bq, c_5, c_21]; done) | (simp only [bq, c_5, c_21]; rfl) | (simp [bq, c_5, c_21]; done)) (hj_29_0 _ _ _ hw hS hl)
    · refine lv_iconst (v := 1) hx hb dX3_hand_24 (by decide) ?_
      refine lv_goto (tgt := 29) hx hb dX3_hand_25 (by decide) ?_
      exact kx_top (v := (b2 ((isF n x) && (inn place (0 : Int32) ((g 72 x.toNatClampNeg) - (1 : Int32)))))) (by first | (simp only [bq, c_5, c_21]; done) | (simp only [bq, c_5, c_21]; rfl) | (simp [bq, c_5, c_21]; done)) (hj_29_0 _ _ _ hw hS hl)
theorem hd_X3_ofClaim : yX3_ofClaim.cls = RX3 ∧ yX3_ofClaim.cls ≠ "java/lang/invoke/MethodHandle" ∧ yX3_ofClaim.cls ≠ "java/lang/invoke/VarHandle" ∧ (parseMethodDescriptor yX3_ofClaim.desc).map (fun d => d.parameters.length) = some 2 := by decide +kernel
set_option maxHeartbeats 4000000 in
set_option maxRecDepth 100000 in
theorem c_X3_ofClaim (l : Launch) (hfl : l.stackTraces = false) (D : va_G) (cy : Nat → ClassId) (base : Nat) (ad : Nat → Nat) (n nc : Nat) (g : sg) (x : Int32) (what : Int32) (hcn : g 9 25 = nI nc) : kM l yX3_ofClaim wsX3_ofClaim (kR 2 0 0) D cy base ad n nc g [.ref (ad 9), .int x, .int what] (kD True (some (.int (rv (kd2 (isF nc x) (inn what 0 3)) (mOc g x.toNatClampNeg what)))) ad n nc (mk (kd2 (isF nc x) (inn what 0 3)) ((sU g 9 0 0)) g)) kNo 0 0 := by
  refine kx_meth (cc := cX3_ofClaim) (maxL := 3) (ret := (some .int)) (by decide) rfl (Nat.le_of_ble_eq_true rfl) ?_
  intro p e s m args below meth c ls hx hb hr hml hown hts hlk hT hG hw0 hS0 hl Q H locs hQ hw hS hH0 hlocs0
  have hl : lv_has ls 3 [(0, .ref (ad 9)), (1, .int x), (2, .int what)] := hl
  have hown : s.vm.findClass RX3 = some m.cls := hown
  have hF : CallFix p m c cX3_ofClaim 3 s args wsX3_ofClaim RX3 := ⟨hx, hb, hml, hown, hts⟩
  have hn30 : n ≤ 30 := hw.2.2.1
  have hc20 : nc ≤ 20 := hw.2.2.2
  clear hw0 hS0 hH0 hlocs0
  have i3 : ∀ w ∈ wsX30, w ∈ wsX3_ofClaim := by decide +kernel
  have f_90 := hts (.fieldLink RX3 90 "LostroomModel" "said" "[I") (by decide +kernel)
  have f_93 := hts (.fieldLink RX3 93 "LostroomModel" "tolds" "[I") (by decide +kernel)
  have f_96 := hts (.fieldLink RX3 96 "LostroomModel" "claimState" "[I") (by decide +kernel)
  have f_102 := hts (.fieldLink RX3 102 "LostroomModel" "servedBy" "[I") (by decide +kernel)
  refine lv_aload_n hx hb dX3_ofClaim_0 rfl (lv_at hl 0 rfl) ?_
  refine lv_aload_n hx hb dX3_ofClaim_1 rfl (lv_at hl 0 rfl) ?_
  refine lv_iload_n hx hb dX3_ofClaim_2 rfl (lv_at hl 1 rfl) ?_
  refine kx_do0 (st1 := [.int (b2 (isF nc x)), .ref (ad 9)]) (kx_cv (As := [.int x]) (rest := [.ref (ad 9)]) hF hG hw hS hl.1 kC_9 rfl (c_X3_isClaim l hfl D cy base ad n nc g x (by first | assumption | omega | exact mR_9 (by assumption) _ _ | simp [sU, hcn])) gX3_ofClaim_X3_isClaim rfl rfl rfl hd_X3_isClaim ⟨Nat.le_of_ble_eq_true rfl, Nat.le_of_ble_eq_true rfl⟩ rfl rfl (Nat.le_of_ble_eq_true rfl) dX3_ofClaim_3 ⟨Nat.le_of_ble_eq_true rfl, Nat.le_of_ble_eq_true rfl⟩) hS rfl (fun H locs hw hS => ?_)
  have hj_27_0 : ∀ (H : Heap) (locs : List Loc) (ls : Array Slot), kW D cy base ad n nc g H → va_S (kA base) s.heap H locs → lv_has ls 3 [(0, .ref (ad 9)), (1, .int x), (2, .int what)] → W p l e (kR 2 0 0) s m args below meth c H locs 0 0 Q (F0 m 27 ls [.int (kd2 (isF nc x) (inn what 0 3)), .ref (ad 9)]) := by
    intro H locs ls hw hS hl
    refine kx_do0 (st1 := [.int (b2 (decide ((kd2 (isF nc x) (inn what 0 3)) = 0)))]) (kx_cv (As := [.int (kd2 (isF nc x) (inn what 0 3))]) (rest := []) hF hG hw hS hl.1 kC_9 rfl (c_X3_holds l hfl D cy base ad n nc g (kd2 (isF nc x) (inn what 0 3)) ) gX3_ofClaim_X3_holds rfl rfl rfl hd_X3_holds ⟨Nat.le_of_ble_eq_true rfl, Nat.le_of_ble_eq_true rfl⟩ rfl rfl (Nat.le_of_ble_eq_true rfl) dX3_ofClaim_27 ⟨Nat.le_of_ble_eq_true rfl, Nat.le_of_ble_eq_true rfl⟩) hS rfl (fun H locs hw hS => ?_)
    refine kb_ne (tgt := 35) hx hb dX3_ofClaim_30 (by decide) (fun c_30 => ?_) (fun c_30 => ?_)
    · have h0 : kd2 (isF nc x) (inn what 0 3) = 0 := of_decide_eq_true c_30
      rw [h0] at hw
      have hk := kd2_0.mp h0
      obtain ⟨i_x, hi_x, rfl⟩ := isF_ex (hk.1) (Nat.le_trans hc20 (by decide))
      have hcl_x : (nI i_x).toNatClampNeg = i_x := cl_nI (by omega)
      have v_what : vp_in what 4 := inn_vp (hk.2) (by decide)
      refine lv_iload_n hx hb dX3_ofClaim_35 rfl (lv_at hl 2 rfl) ?_
      have hj_82_1 : ∀ (H : Heap) (locs : List Loc) (ls : Array Slot), kW D cy base ad n nc (sU g 9 0 (0 : Int32)) H → va_S (kA base) s.heap H locs → lv_has ls 3 [(0, .ref (ad 9)), (1, .int (nI i_x)), (2, .int what)] → W p l e (kR 2 0 0) s m args below meth c H locs 0 0 Q (F0 m 82 ls [.int (if what = (0 : Int32) then (g 82 i_x) else (if what = (1 : Int32) then (g 80 i_x) else (if what = (2 : Int32) then (g 81 i_x) else (g 84 i_x))))]) := by
        intro H locs ls hw hS hl
        exact kx_retI hQ hx hb hr hlk hw hS (Nat.le_of_ble_eq_true rfl) (Nat.le_of_ble_eq_true rfl) dX3_ofClaim_82 (kd_i (trivial) ((rv_0 h0).trans (by rw [hcl_x]; rfl)) ((mk_0 h0).trans (by simp only [hcl_x])))
      refine lv_if_ne (tgt := 48) hx hb dX3_ofClaim_36 (by decide) (fun c_36 => ?_) (fun c_36 => ?_)
      · refine lv_iload_n hx hb dX3_ofClaim_48 rfl (lv_at hl 2 rfl) ?_
        refine lv_iconst (v := 1) hx hb dX3_ofClaim_49 (by decide) ?_
        refine lv_icmp_ne (tgt := 62) hx hb dX3_ofClaim_50 (by decide) (fun c_50 => ?_) (fun c_50 => ?_)
        · refine lv_iload_n hx hb dX3_ofClaim_62 rfl (lv_at hl 2 rfl) ?_
          refine lv_iconst (v := 2) hx hb dX3_ofClaim_63 (by decide) ?_
          refine lv_icmp_ne (tgt := 76) hx hb dX3_ofClaim_64 (by decide) (fun c_64 => ?_) (fun c_64 => ?_)
          · refine lv_aload_n hx hb dX3_ofClaim_76 rfl (lv_at hl 0 rfl) ?_
            refine kx_getM (v := .ref (ad 84)) hx hb hts hown hG hw i3 34 (by decide) f_102 rfl dX3_ofClaim_77 ?_
            refine lv_iload_n hx hb dX3_ofClaim_80 rfl (lv_at hl 1 rfl) ?_
            refine kx_iald (v := (g 84 i_x)) hx hb hG hw (kC_I rfl) i_x (nI_clamp (by omega)) (vp_in_nI (by omega) (by decide)) (sU_k _ _ _ _ (by omega)) dX3_ofClaim_81 ?_
            exact kx_top (v := (if what = (0 : Int32) then (g 82 i_x) else (if what = (1 : Int32) then (g 80 i_x) else (if what = (2 : Int32) then (g 81 i_x) else (g 84 i_x))))) (by first | (simp only [bq, decide_eq_false c_36, if_neg c_36, decide_eq_false c_50, if_neg c_50, decide_eq_false c_64, if_neg c_64]; done) | (simp only [bq, decide_eq_false c_36, if_neg c_36, decide_eq_false c_50, if_neg c_50, decide_eq_false c_64, if_neg c_64]; rfl) | (simp [bq, decide_eq_false c_36, if_neg c_36, decide_eq_false c_50, if_neg c_50, decide_eq_false c_64, if_neg c_64]; done)) (hj_82_1 _ _ _ hw hS hl)
          · refine lv_aload_n hx hb dX3_ofClaim_67 rfl (lv_at hl 0 rfl) ?_
            refine kx_getM (v := .ref (ad 81)) hx hb hts hown hG hw i3 31 (by decide) f_93 rfl dX3_ofClaim_68 ?_
            refine lv_iload_n hx hb dX3_ofClaim_71 rfl (lv_at hl 1 rfl) ?_
            refine kx_iald (v := (g 81 i_x)) hx hb hG hw (kC_I rfl) i_x (nI_clamp (by omega)) (vp_in_nI (by omega) (by decide)) (sU_k _ _ _ _ (by omega)) dX3_ofClaim_72 ?_
            refine lv_goto (tgt := 82) hx hb dX3_ofClaim_73 (by decide) ?_
            exact kx_top (v := (if what = (0 : Int32) then (g 82 i_x) else (if what = (1 : Int32) then (g 80 i_x) else (if what = (2 : Int32) then (g 81 i_x) else (g 84 i_x))))) (by first | (simp only [bq, decide_eq_false c_36, if_neg c_36, decide_eq_false c_50, if_neg c_50, decide_eq_true c_64, if_pos c_64]; done) | (simp only [bq, decide_eq_false c_36, if_neg c_36, decide_eq_false c_50, if_neg c_50, decide_eq_true c_64, if_pos c_64]; rfl) | (simp [bq, decide_eq_false c_36, if_neg c_36, decide_eq_false c_50, if_neg c_50, decide_eq_true c_64, if_pos c_64]; done)) (hj_82_1 _ _ _ hw hS hl)
        · refine lv_aload_n hx hb dX3_ofClaim_53 rfl (lv_at hl 0 rfl) ?_
          refine kx_getM (v := .ref (ad 80)) hx hb hts hown hG hw i3 30 (by decide) f_90 rfl dX3_ofClaim_54 ?_
          refine lv_iload_n hx hb dX3_ofClaim_57 rfl (lv_at hl 1 rfl) ?_
          refine kx_iald (v := (g 80 i_x)) hx hb hG hw (kC_I rfl) i_x (nI_clamp (by omega)) (vp_in_nI (by omega) (by decide)) (sU_k _ _ _ _ (by omega)) dX3_ofClaim_58 ?_
          refine lv_goto (tgt := 82) hx hb dX3_ofClaim_59 (by decide) ?_
          exact kx_top (v := (if what = (0 : Int32) then (g 82 i_x) else (if what = (1 : Int32) then (g 80 i_x) else (if what = (2 : Int32) then (g 81 i_x) else (g 84 i_x))))) (by first | (simp only [bq, decide_eq_false c_36, if_neg c_36, decide_eq_true c_50, if_pos c_50]; done) | (simp only [bq, decide_eq_false c_36, if_neg c_36, decide_eq_true c_50, if_pos c_50]; rfl) | (simp [bq, decide_eq_false c_36, if_neg c_36, decide_eq_true c_50, if_pos c_50]; done)) (hj_82_1 _ _ _ hw hS hl)
      · refine lv_aload_n hx hb dX3_ofClaim_39 rfl (lv_at hl 0 rfl) ?_
        refine kx_getM (v := .ref (ad 82)) hx hb hts hown hG hw i3 32 (by decide) f_96 rfl dX3_ofClaim_40 ?_
        refine lv_iload_n hx hb dX3_ofClaim_43 rfl (lv_at hl 1 rfl) ?_
        refine kx_iald (v := (g 82 i_x)) hx hb hG hw (kC_I rfl) i_x (nI_clamp (by omega)) (vp_in_nI (by omega) (by decide)) (sU_k _ _ _ _ (by omega)) dX3_ofClaim_44 ?_
        refine lv_goto (tgt := 82) hx hb dX3_ofClaim_45 (by decide) ?_
        exact kx_top (v := (if what = (0 : Int32) then (g 82 i_x) else (if what = (1 : Int32) then (g 80 i_x) else (if what = (2 : Int32) then (g 81 i_x) else (g 84 i_x))))) (by first | (simp only [bq, decide_eq_true c_36, if_pos c_36]; done) | (simp only [bq, decide_eq_true c_36, if_pos c_36]; rfl) | (simp [bq, decide_eq_true c_36, if_pos c_36]; done)) (hj_82_1 _ _ _ hw hS hl)
    · have h0 : ¬ kd2 (isF nc x) (inn what 0 3) = 0 := of_decide_eq_false c_30
      refine lv_iconst (v := 0) hx hb dX3_ofClaim_33 (by decide) ?_
      exact kx_retI hQ hx hb hr hlk hw hS (Nat.le_of_ble_eq_true rfl) (Nat.le_of_ble_eq_true rfl) dX3_ofClaim_34 (kd_i (trivial) (rv_n h0) (mk_n h0))
  refine kb_ne (tgt := 13) hx hb dX3_ofClaim_6 (by decide) (fun c_6 => ?_) (fun c_6 => ?_)
  · have v_x : vp_in x 20 := isF_vp (c_6) hc20 (by decide)
    have w_x : x.toNatClampNeg < nc := isF_lt (c_6) (Nat.le_trans hc20 (by decide))
    refine lv_iload_n hx hb dX3_ofClaim_13 rfl (lv_at hl 2 rfl) ?_
    refine lv_iconst (v := 0) hx hb dX3_ofClaim_14 (by decide) ?_
    refine lv_iconst (v := 3) hx hb dX3_ofClaim_15 (by decide) ?_
    refine kx_do0 (st1 := [.int (b2 (inn what (0 : Int32) (3 : Int32))), .ref (ad 9)]) (kx_cs (As := [.int what, .int (0 : Int32), .int (3 : Int32)]) (rest := [.ref (ad 9)]) hF hG hw hS hl.1 (c_X3_in l hfl D cy base ad n nc g what (0 : Int32) (3 : Int32) ) gX3_ofClaim_X3_in rfl rfl rfl hd_X3_in ⟨Nat.le_of_ble_eq_true rfl, Nat.le_of_ble_eq_true rfl⟩ rfl rfl (Nat.le_of_ble_eq_true rfl) dX3_ofClaim_16 ⟨Nat.le_of_ble_eq_true rfl, Nat.le_of_ble_eq_true rfl⟩) hS rfl (fun H locs hw hS => ?_)
    refine kb_eq (tgt := 26) hx hb dX3_ofClaim_19 (by decide) (fun c_19 => ?_) (fun c_19 => ?_)
    · refine lv_iconst (v := 2) hx hb dX3_ofClaim_26 (by decide) ?_
      exact kx_top (v := (kd2 (isF nc x) (inn what 0 3))) (by first | (simp only [bq, c_6, c_19]; done) | (simp only [bq, c_6, c_19]; rfl) | (simp [bq, c_6, c_19]; done)) (hj_27_0 _ _ _ hw hS hl)
    · have v_what : vp_in what 4 := inn_vp (c_19) (by decide)
      refine lv_iconst (v := 0) hx hb dX3_ofClaim_22 (by decide) ?_
      refine lv_goto (tgt := 27) hx hb dX3_ofClaim_23 (by decide) ?_
      exact kx_top (v := (kd2 (isF nc x) (inn what 0 3))) (by first | (simp only [bq, c_6, c_19]; done) | (simp only [bq, c_6, c_19]; rfl) | (simp [bq, c_6, c_19]; done)) (hj_27_0 _ _ _ hw hS hl)
  · refine lv_iconst (v := 1) hx hb dX3_ofClaim_9 (by decide) ?_
    refine lv_goto (tgt := 27) hx hb dX3_ofClaim_10 (by decide) ?_
    exact kx_top (v := (kd2 (isF nc x) (inn what 0 3))) (by first | (simp only [bq, c_6]; done) | (simp only [bq, c_6]; rfl) | (simp [bq, c_6]; done)) (hj_27_0 _ _ _ hw hS hl)
theorem hd_X3_money : yX3_money.cls = RX3 ∧ yX3_money.cls ≠ "java/lang/invoke/MethodHandle" ∧ yX3_money.cls ≠ "java/lang/invoke/VarHandle" ∧ (parseMethodDescriptor yX3_money.desc).map (fun d => d.parameters.length) = some 1 := by decide +kernel
set_option maxHeartbeats 4000000 in
set_option maxRecDepth 100000 in
theorem c_X3_money (l : Launch) (hfl : l.stackTraces = false) (D : va_G) (cy : Nat → ClassId) (base : Nat) (ad : Nat → Nat) (n nc : Nat) (g : sg) (what : Int32) : kM l yX3_money wsX3_money (kR 2 0 0) D cy base ad n nc g [.ref (ad 9), .int what] (kD True (some (.int (rv (kd1 (inn what 0 2)) (mMo g what)))) ad n nc (mk (kd1 (inn what 0 2)) ((sU g 9 0 0)) g)) kNo 0 0 := by
  refine kx_meth (cc := cX3_money) (maxL := 2) (ret := (some .int)) (by decide) rfl (Nat.le_of_ble_eq_true rfl) ?_
  intro p e s m args below meth c ls hx hb hr hml hown hts hlk hT hG hw0 hS0 hl Q H locs hQ hw hS hH0 hlocs0
  have hl : lv_has ls 2 [(0, .ref (ad 9)), (1, .int what)] := hl
  have hown : s.vm.findClass RX3 = some m.cls := hown
  have hF : CallFix p m c cX3_money 2 s args wsX3_money RX3 := ⟨hx, hb, hml, hown, hts⟩
  have hn30 : n ≤ 30 := hw.2.2.1
  have hc20 : nc ≤ 20 := hw.2.2.2
  clear hw0 hS0 hH0 hlocs0
  have i3 : ∀ w ∈ wsX30, w ∈ wsX3_money := by decide +kernel
  have f_185 := hts (.fieldLink RX3 185 "LostroomModel" "fees" "I") (by decide +kernel)
  have f_188 := hts (.fieldLink RX3 188 "LostroomModel" "rewards" "I") (by decide +kernel)
  have f_194 := hts (.fieldLink RX3 194 "LostroomModel" "proceeds" "I") (by decide +kernel)
  refine lv_aload_n hx hb dX3_money_0 rfl (lv_at hl 0 rfl) ?_
  refine lv_iload_n hx hb dX3_money_1 rfl (lv_at hl 1 rfl) ?_
  refine lv_iconst (v := 0) hx hb dX3_money_2 (by decide) ?_
  refine lv_iconst (v := 2) hx hb dX3_money_3 (by decide) ?_
  refine kx_do0 (st1 := [.int (b2 (inn what (0 : Int32) (2 : Int32))), .ref (ad 9)]) (kx_cs (As := [.int what, .int (0 : Int32), .int (2 : Int32)]) (rest := [.ref (ad 9)]) hF hG hw hS hl.1 (c_X3_in l hfl D cy base ad n nc g what (0 : Int32) (2 : Int32) ) gX3_money_X3_in rfl rfl rfl hd_X3_in ⟨Nat.le_of_ble_eq_true rfl, Nat.le_of_ble_eq_true rfl⟩ rfl rfl (Nat.le_of_ble_eq_true rfl) dX3_money_4 ⟨Nat.le_of_ble_eq_true rfl, Nat.le_of_ble_eq_true rfl⟩) hS rfl (fun H locs hw hS => ?_)
  have hj_15_0 : ∀ (H : Heap) (locs : List Loc) (ls : Array Slot), kW D cy base ad n nc g H → va_S (kA base) s.heap H locs → lv_has ls 2 [(0, .ref (ad 9)), (1, .int what)] → W p l e (kR 2 0 0) s m args below meth c H locs 0 0 Q (F0 m 15 ls [.int (kd1 (inn what 0 2)), .ref (ad 9)]) := by
    intro H locs ls hw hS hl
    refine kx_do0 (st1 := [.int (b2 (decide ((kd1 (inn what 0 2)) = 0)))]) (kx_cv (As := [.int (kd1 (inn what 0 2))]) (rest := []) hF hG hw hS hl.1 kC_9 rfl (c_X3_holds l hfl D cy base ad n nc g (kd1 (inn what 0 2)) ) gX3_money_X3_holds rfl rfl rfl hd_X3_holds ⟨Nat.le_of_ble_eq_true rfl, Nat.le_of_ble_eq_true rfl⟩ rfl rfl (Nat.le_of_ble_eq_true rfl) dX3_money_15 ⟨Nat.le_of_ble_eq_true rfl, Nat.le_of_ble_eq_true rfl⟩) hS rfl (fun H locs hw hS => ?_)
    refine kb_ne (tgt := 23) hx hb dX3_money_18 (by decide) (fun c_18 => ?_) (fun c_18 => ?_)
    · have h0 : kd1 (inn what 0 2) = 0 := of_decide_eq_true c_18
      rw [h0] at hw
      have hk := kd1_0.mp h0
      have v_what : vp_in what 3 := inn_vp (hk) (by decide)
      refine lv_iload_n hx hb dX3_money_23 rfl (lv_at hl 1 rfl) ?_
      have hj_50_1 : ∀ (H : Heap) (locs : List Loc) (ls : Array Slot), kW D cy base ad n nc (sU g 9 0 (0 : Int32)) H → va_S (kA base) s.heap H locs → lv_has ls 2 [(0, .ref (ad 9)), (1, .int what)] → W p l e (kR 2 0 0) s m args below meth c H locs 0 0 Q (F0 m 50 ls [.int (if what = (0 : Int32) then (g 9 35) else (if what = (1 : Int32) then (g 9 36) else (g 9 37)))]) := by
        intro H locs ls hw hS hl
        exact kx_retI hQ hx hb hr hlk hw hS (Nat.le_of_ble_eq_true rfl) (Nat.le_of_ble_eq_true rfl) dX3_money_50 (kd_i (trivial) ((rv_0 h0).trans (by rfl)) ((mk_0 h0).trans (by rfl)))
      refine lv_if_ne (tgt := 34) hx hb dX3_money_24 (by decide) (fun c_24 => ?_) (fun c_24 => ?_)
      · refine lv_iload_n hx hb dX3_money_34 rfl (lv_at hl 1 rfl) ?_
        refine lv_iconst (v := 1) hx hb dX3_money_35 (by decide) ?_
        refine lv_icmp_ne (tgt := 46) hx hb dX3_money_36 (by decide) (fun c_36 => ?_) (fun c_36 => ?_)
        · refine lv_aload_n hx hb dX3_money_46 rfl (lv_at hl 0 rfl) ?_
          refine kx_getM (v := .int (g 9 37)) hx hb hts hown hG hw i3 37 (by decide) f_194 (congrArg Value.int (sU_j _ _ _ _ (by decide))) dX3_money_47 ?_
          exact kx_top (v := (if what = (0 : Int32) then (g 9 35) else (if what = (1 : Int32) then (g 9 36) else (g 9 37)))) (by first | (simp only [bq, decide_eq_false c_24, if_neg c_24, decide_eq_false c_36, if_neg c_36]; done) | (simp only [bq, decide_eq_false c_24, if_neg c_24, decide_eq_false c_36, if_neg c_36]; rfl) | (simp [bq, decide_eq_false c_24, if_neg c_24, decide_eq_false c_36, if_neg c_36]; done)) (hj_50_1 _ _ _ hw hS hl)
        · refine lv_aload_n hx hb dX3_money_39 rfl (lv_at hl 0 rfl) ?_
          refine kx_getM (v := .int (g 9 36)) hx hb hts hown hG hw i3 36 (by decide) f_188 (congrArg Value.int (sU_j _ _ _ _ (by decide))) dX3_money_40 ?_
          refine lv_goto (tgt := 50) hx hb dX3_money_43 (by decide) ?_
          exact kx_top (v := (if what = (0 : Int32) then (g 9 35) else (if what = (1 : Int32) then (g 9 36) else (g 9 37)))) (by first | (simp only [bq, decide_eq_false c_24, if_neg c_24, decide_eq_true c_36, if_pos c_36]; done) | (simp only [bq, decide_eq_false c_24, if_neg c_24, decide_eq_true c_36, if_pos c_36]; rfl) | (simp [bq, decide_eq_false c_24, if_neg c_24, decide_eq_true c_36, if_pos c_36]; done)) (hj_50_1 _ _ _ hw hS hl)
      · refine lv_aload_n hx hb dX3_money_27 rfl (lv_at hl 0 rfl) ?_
        refine kx_getM (v := .int (g 9 35)) hx hb hts hown hG hw i3 35 (by decide) f_185 (congrArg Value.int (sU_j _ _ _ _ (by decide))) dX3_money_28 ?_
        refine lv_goto (tgt := 50) hx hb dX3_money_31 (by decide) ?_
        exact kx_top (v := (if what = (0 : Int32) then (g 9 35) else (if what = (1 : Int32) then (g 9 36) else (g 9 37)))) (by first | (simp only [bq, decide_eq_true c_24, if_pos c_24]; done) | (simp only [bq, decide_eq_true c_24, if_pos c_24]; rfl) | (simp [bq, decide_eq_true c_24, if_pos c_24]; done)) (hj_50_1 _ _ _ hw hS hl)
    · have h0 : ¬ kd1 (inn what 0 2) = 0 := of_decide_eq_false c_18
      refine lv_iconst (v := 0) hx hb dX3_money_21 (by decide) ?_
      exact kx_retI hQ hx hb hr hlk hw hS (Nat.le_of_ble_eq_true rfl) (Nat.le_of_ble_eq_true rfl) dX3_money_22 (kd_i (trivial) (rv_n h0) (mk_n h0))
  refine kb_eq (tgt := 14) hx hb dX3_money_7 (by decide) (fun c_7 => ?_) (fun c_7 => ?_)
  · refine lv_iconst (v := 1) hx hb dX3_money_14 (by decide) ?_
    exact kx_top (v := (kd1 (inn what 0 2))) (by first | (simp only [bq, c_7]; done) | (simp only [bq, c_7]; rfl) | (simp [bq, c_7]; done)) (hj_15_0 _ _ _ hw hS hl)
  · have v_what : vp_in what 3 := inn_vp (c_7) (by decide)
    refine lv_iconst (v := 0) hx hb dX3_money_10 (by decide) ?_
    refine lv_goto (tgt := 15) hx hb dX3_money_11 (by decide) ?_
    exact kx_top (v := (kd1 (inn what 0 2))) (by first | (simp only [bq, c_7]; done) | (simp only [bq, c_7]; rfl) | (simp [bq, c_7]; done)) (hj_15_0 _ _ _ hw hS hl)
theorem hd_X3_audit : yX3_audit.cls = RX3 ∧ yX3_audit.cls ≠ "java/lang/invoke/MethodHandle" ∧ yX3_audit.cls ≠ "java/lang/invoke/VarHandle" ∧ (parseMethodDescriptor yX3_audit.desc).map (fun d => d.parameters.length) = some 1 := by decide +kernel
set_option maxHeartbeats 4000000 in
set_option maxRecDepth 100000 in
theorem c_X3_audit (l : Launch) (hfl : l.stackTraces = false) (D : va_G) (cy : Nat → ClassId) (base : Nat) (ad : Nat → Nat) (n nc : Nat) (g : sg) (room : Int32) (hfn : g 9 8 = nI n) : kM l yX3_audit wsX3_audit (kR 2 0 0) D cy base ad n nc g [.ref (ad 9), .int room] (kD True (some (.int (rv (kd1 (inn room 0 5)) (mAu g room n)))) ad n nc (mk (kd1 (inn room 0 5)) ((sU g 9 0 0)) g)) kNo 0 0 := by
  refine kx_meth (cc := cX3_audit) (maxL := 4) (ret := (some .int)) (by decide) rfl (Nat.le_of_ble_eq_true rfl) ?_
  intro p e s m args below meth c ls hx hb hr hml hown hts hlk hT hG hw0 hS0 hl Q H locs hQ hw hS hH0 hlocs0
  have hl : lv_has ls 4 [(0, .ref (ad 9)), (1, .int room)] := hl
  have hown : s.vm.findClass RX3 = some m.cls := hown
  have hF : CallFix p m c cX3_audit 4 s args wsX3_audit RX3 := ⟨hx, hb, hml, hown, hts⟩
  have hn30 : n ≤ 30 := hw.2.2.1
  have hc20 : nc ≤ 20 := hw.2.2.2
  clear hw0 hS0 hH0 hlocs0
  have i3 : ∀ w ∈ wsX30, w ∈ wsX3_audit := by decide +kernel
  have f_47 := hts (.fieldLink RX3 47 "LostroomModel" "states" "[I") (by decide +kernel)
  have f_50 := hts (.fieldLink RX3 50 "LostroomModel" "rooms" "[I") (by decide +kernel)
  have f_113 := hts (.fieldLink RX3 113 "LostroomModel" "finds" "I") (by decide +kernel)
  refine lv_aload_n hx hb dX3_audit_0 rfl (lv_at hl 0 rfl) ?_
  refine lv_iload_n hx hb dX3_audit_1 rfl (lv_at hl 1 rfl) ?_
  refine kx_do0 (st1 := [.int (b2 (inn room 0 5)), .ref (ad 9)]) (kx_cs (As := [.int room]) (rest := [.ref (ad 9)]) hF hG hw hS hl.1 (c_X3_isRoom l hfl D cy base ad n nc g room ) gX3_audit_X3_isRoom rfl rfl rfl hd_X3_isRoom ⟨Nat.le_of_ble_eq_true rfl, Nat.le_of_ble_eq_true rfl⟩ rfl rfl (Nat.le_of_ble_eq_true rfl) dX3_audit_2 ⟨Nat.le_of_ble_eq_true rfl, Nat.le_of_ble_eq_true rfl⟩) hS rfl (fun H locs hw hS => ?_)
  have hj_13_0 : ∀ (H : Heap) (locs : List Loc) (ls : Array Slot), kW D cy base ad n nc g H → va_S (kA base) s.heap H locs → lv_has ls 4 [(0, .ref (ad 9)), (1, .int room)] → W p l e (kR 2 0 0) s m args below meth c H locs 0 0 Q (F0 m 13 ls [.int (kd1 (inn room 0 5)), .ref (ad 9)]) := by
    intro H locs ls hw hS hl
    refine kx_do0 (st1 := [.int (b2 (decide ((kd1 (inn room 0 5)) = 0)))]) (kx_cv (As := [.int (kd1 (inn room 0 5))]) (rest := []) hF hG hw hS hl.1 kC_9 rfl (c_X3_holds l hfl D cy base ad n nc g (kd1 (inn room 0 5)) ) gX3_audit_X3_holds rfl rfl rfl hd_X3_holds ⟨Nat.le_of_ble_eq_true rfl, Nat.le_of_ble_eq_true rfl⟩ rfl rfl (Nat.le_of_ble_eq_true rfl) dX3_audit_13 ⟨Nat.le_of_ble_eq_true rfl, Nat.le_of_ble_eq_true rfl⟩) hS rfl (fun H locs hw hS => ?_)
    refine kb_ne (tgt := 21) hx hb dX3_audit_16 (by decide) (fun c_16 => ?_) (fun c_16 => ?_)
    · have h0 : kd1 (inn room 0 5) = 0 := of_decide_eq_true c_16
      rw [h0] at hw
      have hk := kd1_0.mp h0
      have v_room : vp_in room 6 := inn_vp (hk) (by decide)
      refine lv_iconst (v := 0) hx hb dX3_audit_21 (by decide) ?_
      refine lv_istore_n (lv' := [(2, .int (0 : Int32)), (0, .ref (ad 9)), (1, .int room)]) hx hb dX3_audit_22 rfl hl (by decide) rfl (fun ls hl => ?_)
      refine lv_iconst (v := 0) hx hb dX3_audit_23 (by decide) ?_
      refine lv_istore_n (lv' := [(3, .int (0 : Int32)), (2, .int (0 : Int32)), (0, .ref (ad 9)), (1, .int room)]) hx hb dX3_audit_24 rfl hl (by decide) rfl (fun ls hl => ?_)
      have lp_25 : ∀ (nn k : Nat), k ≤ n → n < k + nn → ∀ (H : Heap) (locs : List Loc) (ls : Array Slot), kW D cy base ad n nc (sU g 9 0 (0 : Int32)) H → va_S (kA base) s.heap H locs → lv_has ls 4 [(3, .int (nI k)), (2, .int (mAu g room k)), (0, .ref (ad 9)), (1, .int room)] → W p l e (kR 2 0 0) s m args below meth c H locs 0 0 Q (F0 m 25 ls []) := by
        intro nn
        induction nn with
        | zero => intro k h1 h2; exact absurd h2 (by omega)
        | succ nn ih_25 =>
          intro k hk_k hkn_k H locs ls hw hS hl
          refine lv_iload_n hx hb dX3_audit_25 rfl (lv_at hl 0 rfl) ?_
          refine lv_aload_n hx hb dX3_audit_26 rfl (lv_at hl 2 rfl) ?_
          refine kx_getM (v := .int (nI n)) hx hb hts hown hG hw i3 8 (by decide) f_113 (congrArg Value.int ((sU_j _ _ _ _ (by decide)).trans (hfn))) dX3_audit_27 ?_
          refine lv_icmp_ge (tgt := 68) hx hb dX3_audit_30 (by decide) (fun c_30 => ?_) (fun c_30 => ?_)
          · have e_k : k = n := Nat.le_antisymm hk_k (le_nI (a := n) (b := k) c_30 (by omega) (by omega))
            refine lv_iload_n hx hb dX3_audit_68 rfl (lv_at hl 1 rfl) ?_
            exact kx_retI hQ hx hb hr hlk hw hS (Nat.le_of_ble_eq_true rfl) (Nat.le_of_ble_eq_true rfl) dX3_audit_69 (kd_i (trivial) ((rv_0 h0).trans (by rw [e_k])) ((mk_0 h0).trans (by rfl)))
          · have hlt_k : k < n := lt_nI (a := n) (b := k) c_30 (by omega) (by omega)
            refine lv_iload_n hx hb dX3_audit_33 rfl (lv_at hl 1 rfl) ?_
            refine lv_aload_n hx hb dX3_audit_34 rfl (lv_at hl 2 rfl) ?_
            refine kx_getM (v := .ref (ad 65)) hx hb hts hown hG hw i3 15 (by decide) f_47 rfl dX3_audit_35 ?_
            refine lv_iload_n hx hb dX3_audit_38 rfl (lv_at hl 0 rfl) ?_
            refine kx_iald (v := (g 65 k)) hx hb hG hw (kC_I rfl) k (nI_clamp (by omega)) (vp_in_nI (by omega) (by decide)) (sU_k _ _ _ _ (by omega)) dX3_audit_39 ?_
            have hj_60_1 : ∀ (H : Heap) (locs : List Loc) (ls : Array Slot), kW D cy base ad n nc (sU g 9 0 (0 : Int32)) H → va_S (kA base) s.heap H locs → lv_has ls 4 [(3, .int (nI k)), (2, .int (mAu g room k)), (0, .ref (ad 9)), (1, .int room)] → W p l e (kR 2 0 0) s m args below meth c H locs 0 0 Q (F0 m 60 ls [.int (if (g 65 k) = (0 : Int32) then (if (g 66 k) = room then ((1 : Int32) <<< (nI k &&& 31)) else (0 : Int32)) else (0 : Int32)), .int (mAu g room k)]) := by
              intro H locs ls hw hS hl
              refine lv_ior hx hb dX3_audit_60 ?_
              refine lv_istore_n (lv' := [(2, .int (mAu g room k ||| (if (g 65 k) = (0 : Int32) then (if (g 66 k) = room then ((1 : Int32) <<< (nI k &&& 31)) else (0 : Int32)) else (0 : Int32)))), (3, .int (nI k)), (0, .ref (ad 9)), (1, .int room)]) hx hb dX3_audit_61 rfl hl (by decide) rfl (fun ls hl => ?_)
              refine lv_iinc (v := (nI k + (1 : Int32))) (lv' := [(3, .int (nI k + (1 : Int32))), (2, .int (mAu g room k ||| (if (g 65 k) = (0 : Int32) then (if (g 66 k) = room then ((1 : Int32) <<< (nI k &&& 31)) else (0 : Int32)) else (0 : Int32)))), (0, .ref (ad 9)), (1, .int room)]) hx hb dX3_audit_62 hl (k := 1) rfl rfl (by decide) rfl (fun ls hl => ?_)
              refine lv_goto (tgt := 25) hx hb dX3_audit_65 (by decide) ?_
              exact ih_25 (k + 1) (by omega) (by omega) _ _ _ hw hS (kx_lv (l := [(3, .int (nI k + (1 : Int32))), (2, .int (mAu g room k ||| (if (g 65 k) = (0 : Int32) then (if (g 66 k) = room then ((1 : Int32) <<< (nI k &&& 31)) else (0 : Int32)) else (0 : Int32)))), (0, .ref (ad 9)), (1, .int room)]) (l' := [(3, .int (nI (k + 1))), (2, .int (mAu g room (k + 1))), (0, .ref (ad 9)), (1, .int room)]) (lv_sub hl [0, 1, 2, 3] rfl) (by rw [nI_1]; rfl)) 
            refine lv_if_ne (tgt := 59) hx hb dX3_audit_40 (by decide) (fun c_40 => ?_) (fun c_40 => ?_)
            · refine lv_iconst (v := 0) hx hb dX3_audit_59 (by decide) ?_
              exact kx_top (v := (if (g 65 k) = (0 : Int32) then (if (g 66 k) = room then ((1 : Int32) <<< (nI k &&& 31)) else (0 : Int32)) else (0 : Int32))) (by first | (simp only [bq, decide_eq_false c_40, if_neg c_40]; done) | (simp only [bq, decide_eq_false c_40, if_neg c_40]; rfl) | (simp [bq, decide_eq_false c_40, if_neg c_40]; done)) (hj_60_1 _ _ _ hw hS hl)
            · refine lv_aload_n hx hb dX3_audit_43 rfl (lv_at hl 2 rfl) ?_
              refine kx_getM (v := .ref (ad 66)) hx hb hts hown hG hw i3 16 (by decide) f_50 rfl dX3_audit_44 ?_
              refine lv_iload_n hx hb dX3_audit_47 rfl (lv_at hl 0 rfl) ?_
              refine kx_iald (v := (g 66 k)) hx hb hG hw (kC_I rfl) k (nI_clamp (by omega)) (vp_in_nI (by omega) (by decide)) (sU_k _ _ _ _ (by omega)) dX3_audit_48 ?_
              refine lv_iload_n hx hb dX3_audit_49 rfl (lv_at hl 3 rfl) ?_
              refine lv_icmp_ne (tgt := 59) hx hb dX3_audit_50 (by decide) (fun c_50 => ?_) (fun c_50 => ?_)
              · refine lv_iconst (v := 0) hx hb dX3_audit_59 (by decide) ?_
                exact kx_top (v := (if (g 65 k) = (0 : Int32) then (if (g 66 k) = room then ((1 : Int32) <<< (nI k &&& 31)) else (0 : Int32)) else (0 : Int32))) (by first | (simp only [bq, decide_eq_true c_40, if_pos c_40, decide_eq_false c_50, if_neg c_50]; done) | (simp only [bq, decide_eq_true c_40, if_pos c_40, decide_eq_false c_50, if_neg c_50]; rfl) | (simp [bq, decide_eq_true c_40, if_pos c_40, decide_eq_false c_50, if_neg c_50]; done)) (hj_60_1 _ _ _ hw hS hl)
              · refine lv_iconst (v := 1) hx hb dX3_audit_53 (by decide) ?_
                refine lv_iload_n hx hb dX3_audit_54 rfl (lv_at hl 0 rfl) ?_
                refine lv_ishl hx hb dX3_audit_55 ?_
                refine lv_goto (tgt := 60) hx hb dX3_audit_56 (by decide) ?_
                exact kx_top (v := (if (g 65 k) = (0 : Int32) then (if (g 66 k) = room then ((1 : Int32) <<< (nI k &&& 31)) else (0 : Int32)) else (0 : Int32))) (by first | (simp only [bq, decide_eq_true c_40, if_pos c_40, decide_eq_true c_50, if_pos c_50]; done) | (simp only [bq, decide_eq_true c_40, if_pos c_40, decide_eq_true c_50, if_pos c_50]; rfl) | (simp [bq, decide_eq_true c_40, if_pos c_40, decide_eq_true c_50, if_pos c_50]; done)) (hj_60_1 _ _ _ hw hS hl)
      exact lp_25 (n + 1) 0 (by omega) (by omega) _ _ _ hw hS (kx_lv (l := [(3, .int (0 : Int32)), (2, .int (0 : Int32)), (0, .ref (ad 9)), (1, .int room)]) (l' := [(3, .int (nI 0)), (2, .int (mAu g room 0)), (0, .ref (ad 9)), (1, .int room)]) (lv_sub hl [0, 1, 2, 3] rfl) (rfl)) 
    · have h0 : ¬ kd1 (inn room 0 5) = 0 := of_decide_eq_false c_16
      refine lv_iconst (v := 0) hx hb dX3_audit_19 (by decide) ?_
      exact kx_retI hQ hx hb hr hlk hw hS (Nat.le_of_ble_eq_true rfl) (Nat.le_of_ble_eq_true rfl) dX3_audit_20 (kd_i (trivial) (rv_n h0) (mk_n h0))
  refine kb_eq (tgt := 12) hx hb dX3_audit_5 (by decide) (fun c_5 => ?_) (fun c_5 => ?_)
  · refine lv_iconst (v := 1) hx hb dX3_audit_12 (by decide) ?_
    exact kx_top (v := (kd1 (inn room 0 5))) (by first | (simp only [bq, c_5]; done) | (simp only [bq, c_5]; rfl) | (simp [bq, c_5]; done)) (hj_13_0 _ _ _ hw hS hl)
  · have v_room : vp_in room 6 := inn_vp (c_5) (by decide)
    refine lv_iconst (v := 0) hx hb dX3_audit_8 (by decide) ?_
    refine lv_goto (tgt := 13) hx hb dX3_audit_9 (by decide) ?_
    exact kx_top (v := (kd1 (inn room 0 5))) (by first | (simp only [bq, c_5]; done) | (simp only [bq, c_5]; rfl) | (simp [bq, c_5]; done)) (hj_13_0 _ _ _ hw hS hl)
