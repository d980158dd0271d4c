/-! walks laid by wip/whole/kgen.py, kall.py -/
theorem hd_X3_comes : yX3_comes.cls = RX3 ∧ yX3_comes.cls ≠ "java/lang/invoke/MethodHandle" ∧ yX3_comes.cls ≠ "java/lang/invoke/VarHandle" ∧ (parseMethodDescriptor yX3_comes.desc).map (fun d => d.parameters.length) = some 2 := by decide +kernel
set_option maxHeartbeats 4000000 in
set_option maxRecDepth 100000 in
theorem c_X3_comes (l : Launch) (hfl : l.stackTraces = false) (D : va_G) (cy : Nat → ClassId) (base : Nat) (ad : Nat → Nat) (n nc : Nat) (g : sg) (i : Nat) (room : Int32) (hi30 : i < 30) (hh : ∃ h : Nat, h ≤ 12 ∧ g 72 i = nI h) : kM l yX3_comes wsX3_comes (kR 1 0 0) D cy base ad n nc g [.ref (ad 9), .int (nI i), .int room] (kD True none ad n nc (mComes g i room)) kNo 0 0 := by
  refine kx_meth (cc := cX3_comes) (maxL := 5) (ret := none) (by decide) rfl (Nat.le_of_ble_eq_true rfl) ?_
  intro p e s m args below meth c ls hx hb hr hml hown hts hlk hT hG hw0 hS0 hl Q H locs hQ hw hS hH0 hlocs0
  have hl : lv_has ls 5 [(0, .ref (ad 9)), (1, .int (nI i)), (2, .int room)] := hl
  have hown : s.vm.findClass RX3 = some m.cls := hown
  have hF : CallFix p m c cX3_comes 5 s args wsX3_comes RX3 := ⟨hx, hb, hml, hown, hts⟩
  have hn30 : n ≤ 30 := hw.2.2.1
  have hc20 : nc ≤ 20 := hw.2.2.2
  clear hw0 hS0 hH0 hlocs0
  have i3 : ∀ w ∈ wsX30, w ∈ wsX3_comes := by decide +kernel
  have f_47 := hts (.fieldLink RX3 47 "LostroomModel" "states" "[I") (by decide +kernel)
  have f_50 := hts (.fieldLink RX3 50 "LostroomModel" "rooms" "[I") (by decide +kernel)
  have f_69 := hts (.fieldLink RX3 69 "LostroomModel" "handMany" "[I") (by decide +kernel)
  have f_72 := hts (.fieldLink RX3 72 "LostroomModel" "handRoom" "[I") (by decide +kernel)
  have f_75 := hts (.fieldLink RX3 75 "LostroomModel" "handDay" "[I") (by decide +kernel)
  have f_136 := hts (.fieldLink RX3 136 "LostroomModel" "today" "I") (by decide +kernel)
  obtain ⟨h, hh1, hh2⟩ := hh
  refine lv_aload_n hx hb dX3_comes_0 rfl (lv_at hl 0 rfl) ?_
  refine kx_getM (v := .ref (ad 65)) hx hb hts hown hG hw i3 15 (by decide) f_47 rfl dX3_comes_1 ?_
  refine lv_iload_n hx hb dX3_comes_4 rfl (lv_at hl 1 rfl) ?_
  refine lv_iconst (v := 0) hx hb dX3_comes_5 (by decide) ?_
  refine kx_iast hx hb hG hw hS (fun _ => (kC_I rfl)) i (nI_clamp (by omega)) (vp_in_nI (by omega) (by decide)) dX3_comes_6 (fun H locs hw hS => ?_)
  refine lv_aload_n hx hb dX3_comes_7 rfl (lv_at hl 0 rfl) ?_
  refine kx_getM (v := .ref (ad 66)) hx hb hts hown hG hw i3 16 (by decide) f_50 rfl dX3_comes_8 ?_
  refine lv_iload_n hx hb dX3_comes_11 rfl (lv_at hl 1 rfl) ?_
  refine lv_iload_n hx hb dX3_comes_12 rfl (lv_at hl 2 rfl) ?_
  refine kx_iast hx hb hG hw hS (fun _ => (kC_I rfl)) i (nI_clamp (by omega)) (vp_in_nI (by omega) (by decide)) dX3_comes_13 (fun H locs hw hS => ?_)
  refine lv_bipush (v := 12) hx hb dX3_comes_14 (by decide) ?_
  refine lv_iload_n hx hb dX3_comes_16 rfl (lv_at hl 1 rfl) ?_
  refine lv_imul hx hb dX3_comes_17 ?_
  refine kx_top (v := nI (12 * i)) ((pk_mul 12 i).symm) ?_
  refine lv_istore_n (lv' := [(3, .int (nI (12 * i))), (0, .ref (ad 9)), (1, .int (nI i)), (2, .int room)]) hx hb dX3_comes_18 rfl hl (by decide) rfl (fun ls hl => ?_)
  refine lv_aload_n hx hb dX3_comes_19 rfl (lv_at hl 1 rfl) ?_
  refine kx_getM (v := .ref (ad 72)) hx hb hts hown hG hw i3 22 (by decide) f_69 rfl dX3_comes_20 ?_
  refine lv_iload_n hx hb dX3_comes_23 rfl (lv_at hl 2 rfl) ?_
  refine kx_iald (v := (nI h)) hx hb hG hw (kC_I rfl) i (nI_clamp (by omega)) (vp_in_nI (by omega) (by decide)) ((sU_k _ _ _ _ (by omega)).trans ((sU_k _ _ _ _ (by omega)).trans (hh2))) dX3_comes_24 ?_
  refine lv_bipush (v := 12) hx hb dX3_comes_25 (by decide) ?_
  refine lv_icmp_ne (tgt := 94) hx hb dX3_comes_27 (by decide) (fun c_27 => ?_) (fun c_27 => ?_)
  · have hh3 : h < 12 := by have : h ≠ 12 := fun q => c_27 (by rw [q]; rfl); omega
    refine lv_aload_n hx hb dX3_comes_94 rfl (lv_at hl 1 rfl) ?_
    refine kx_getM (v := .ref (ad 73)) hx hb hts hown hG hw i3 23 (by decide) f_72 rfl dX3_comes_95 ?_
    refine lv_iload_n hx hb dX3_comes_98 rfl (lv_at hl 0 rfl) ?_
    refine lv_aload_n hx hb dX3_comes_99 rfl (lv_at hl 1 rfl) ?_
    refine kx_getM (v := .ref (ad 72)) hx hb hts hown hG hw i3 22 (by decide) f_69 rfl dX3_comes_100 ?_
    refine lv_iload_n hx hb dX3_comes_103 rfl (lv_at hl 2 rfl) ?_
    refine kx_iald (v := (nI h)) hx hb hG hw (kC_I rfl) i (nI_clamp (by omega)) (vp_in_nI (by omega) (by decide)) ((sU_k _ _ _ _ (by omega)).trans ((sU_k _ _ _ _ (by omega)).trans (hh2))) dX3_comes_104 ?_
    refine lv_iadd hx hb dX3_comes_105 ?_
    refine lv_iload_n hx hb dX3_comes_106 rfl (lv_at hl 3 rfl) ?_
    refine kx_iast hx hb hG hw hS (fun _ => (kC_I rfl)) (12 * i + h) (by rw [nI_add]; exact cl_nI (by omega)) (by rw [nI_add]; exact vp_in_nI (by omega) (by decide)) dX3_comes_107 (fun H locs hw hS => ?_)
    refine lv_aload_n hx hb dX3_comes_108 rfl (lv_at hl 1 rfl) ?_
    refine kx_getM (v := .ref (ad 74)) hx hb hts hown hG hw i3 24 (by decide) f_75 rfl dX3_comes_109 ?_
    refine lv_iload_n hx hb dX3_comes_112 rfl (lv_at hl 0 rfl) ?_
    refine lv_aload_n hx hb dX3_comes_113 rfl (lv_at hl 1 rfl) ?_
    refine kx_getM (v := .ref (ad 72)) hx hb hts hown hG hw i3 22 (by decide) f_69 rfl dX3_comes_114 ?_
    refine lv_iload_n hx hb dX3_comes_117 rfl (lv_at hl 2 rfl) ?_
    refine kx_iald (v := (nI h)) hx hb hG hw (kC_I rfl) i (nI_clamp (by omega)) (vp_in_nI (by omega) (by decide)) ((sU_k _ _ _ _ (by omega)).trans ((sU_k _ _ _ _ (by omega)).trans ((sU_k _ _ _ _ (by omega)).trans (hh2)))) dX3_comes_118 ?_
    refine lv_iadd hx hb dX3_comes_119 ?_
    refine lv_aload_n hx hb dX3_comes_120 rfl (lv_at hl 1 rfl) ?_
    refine kx_getM (v := .int (g 9 1)) hx hb hts hown hG hw i3 1 (by decide) f_136 (congrArg Value.int ((sU_k _ _ _ _ (by omega)).trans ((sU_k _ _ _ _ (by omega)).trans (sU_k _ _ _ _ (by omega))))) dX3_comes_121 ?_
    refine kx_iast hx hb hG hw hS (fun _ => (kC_I rfl)) (12 * i + h) (by rw [nI_add]; exact cl_nI (by omega)) (by rw [nI_add]; exact vp_in_nI (by omega) (by decide)) dX3_comes_124 (fun H locs hw hS => ?_)
    refine lv_aload_n hx hb dX3_comes_125 rfl (lv_at hl 1 rfl) ?_
    refine kx_getM (v := .ref (ad 72)) hx hb hts hown hG hw i3 22 (by decide) f_69 rfl dX3_comes_126 ?_
    refine lv_iload_n hx hb dX3_comes_129 rfl (lv_at hl 2 rfl) ?_
    refine lv_dup2_11 hx hb dX3_comes_130 rfl rfl ?_
    refine kx_iald (v := (nI h)) hx hb hG hw (kC_I rfl) i (nI_clamp (by omega)) (vp_in_nI (by omega) (by decide)) ((sU_k _ _ _ _ (by omega)).trans ((sU_k _ _ _ _ (by omega)).trans ((sU_k _ _ _ _ (by omega)).trans ((sU_k _ _ _ _ (by omega)).trans (hh2))))) dX3_comes_131 ?_
    refine lv_iconst (v := 1) hx hb dX3_comes_132 (by decide) ?_
    refine lv_iadd hx hb dX3_comes_133 ?_
    refine kx_iast hx hb hG hw hS (fun _ => (kC_I rfl)) i (nI_clamp (by omega)) (vp_in_nI (by omega) (by decide)) dX3_comes_134 (fun H locs hw hS => ?_)
    exact kx_retV hQ hx hb hr hlk hw hS (Nat.le_of_ble_eq_true rfl) (Nat.le_of_ble_eq_true rfl) dX3_comes_135 (kd_v (trivial) (cm_end (by omega) hh2 (by omega)))
  · have hh3 : h = 12 := (nI_eq (a := h) (b := 12) (by omega) (by omega)).mp c_27
    subst hh3
    have hs11 : nI (12 * i) + (nI 12 - 1) = nI (12 * i + 11) := by rw [show nI 12 - 1 = nI 11 from by decide +kernel, nI_add]
    refine lv_iload_n hx hb dX3_comes_30 rfl (lv_at hl 0 rfl) ?_
    refine lv_iconst (v := 1) hx hb dX3_comes_31 (by decide) ?_
    refine lv_iadd hx hb dX3_comes_32 ?_
    refine lv_istore (lv' := [(4, .int (nI (12 * i) + (1 : Int32))), (3, .int (nI (12 * i))), (0, .ref (ad 9)), (1, .int (nI i)), (2, .int room)]) hx hb dX3_comes_33 hl (by decide) rfl (fun ls hl => ?_)
    have lp_35 : ∀ (nn q : Nat), q ≤ 12 * i + 11 → 12 * i + 11 < q + nn → ∀ (H : Heap) (locs : List Loc) (ls : Array Slot), kW D cy base ad n nc (cmL (sU (sU g 65 i (0 : Int32)) 66 i room) i q) H → va_S (kA base) s.heap H locs → lv_has ls 5 [(4, .int (nI q)), (3, .int (nI (12 * i))), (0, .ref (ad 9)), (1, .int (nI i)), (2, .int room)] → (12 * i + 1 ≤ q) → W p l e (kR 1 0 0) s m args below meth c H locs 0 0 Q (F0 m 35 ls []) := by
      intro nn
      induction nn with
      | zero => intro q h1 h2; exact absurd h2 (by omega)
      | succ nn ih_35 =>
        intro q hk_q hkn_q H locs ls hw hS hl hq0
        refine lv_iload hx hb dX3_comes_35 (lv_at hl 0 rfl) ?_
        refine lv_iload_n hx hb dX3_comes_37 rfl (lv_at hl 1 rfl) ?_
        refine lv_bipush (v := 12) hx hb dX3_comes_38 (by decide) ?_
        refine lv_iadd hx hb dX3_comes_40 ?_
        refine lv_iconst (v := 1) hx hb dX3_comes_41 (by decide) ?_
        refine lv_isub hx hb dX3_comes_42 ?_
        refine kx_top (v := nI (12 * i + 11)) (by rw [show nI (12 * i + 11) = nI (12 * i) + 12 - 1 from by rw [show (12 * i + 11) = (12 * i + 12 - 1) from by omega, ← pk_sub (by omega), ← nI_add]; rfl]) ?_
        refine lv_icmp_ge (tgt := 84) hx hb dX3_comes_43 (by decide) (fun c_43 => ?_) (fun c_43 => ?_)
        · have e_q : q = 12 * i + 11 := Nat.le_antisymm hk_q (le_nI (a := (12 * i + 11)) (b := q) c_43 (by omega) (by omega))
          refine lv_aload_n hx hb dX3_comes_84 rfl (lv_at hl 2 rfl) ?_
          refine kx_getM (v := .ref (ad 72)) hx hb hts hown hG hw i3 22 (by decide) f_69 rfl dX3_comes_85 ?_
          refine lv_iload_n hx hb dX3_comes_88 rfl (lv_at hl 3 rfl) ?_
          refine lv_dup2_11 hx hb dX3_comes_89 rfl rfl ?_
          refine kx_iald (v := (nI 12)) hx hb hG hw (kC_I rfl) i (nI_clamp (by omega)) (vp_in_nI (by omega) (by decide)) (by simp only [cmL, sU]; simp; exact hh2) dX3_comes_90 ?_
          refine lv_iconst (v := 1) hx hb dX3_comes_91 (by decide) ?_
          refine lv_isub hx hb dX3_comes_92 ?_
          refine kx_iast hx hb hG hw hS (fun _ => (kC_I rfl)) i (nI_clamp (by omega)) (vp_in_nI (by omega) (by decide)) dX3_comes_93 (fun H locs hw hS => ?_)
          refine lv_aload_n hx hb dX3_comes_94 rfl (lv_at hl 2 rfl) ?_
          refine kx_getM (v := .ref (ad 73)) hx hb hts hown hG hw i3 23 (by decide) f_72 rfl dX3_comes_95 ?_
          refine lv_iload_n hx hb dX3_comes_98 rfl (lv_at hl 1 rfl) ?_
          refine lv_aload_n hx hb dX3_comes_99 rfl (lv_at hl 2 rfl) ?_
          refine kx_getM (v := .ref (ad 72)) hx hb hts hown hG hw i3 22 (by decide) f_69 rfl dX3_comes_100 ?_
          refine lv_iload_n hx hb dX3_comes_103 rfl (lv_at hl 3 rfl) ?_
          refine kx_iald (v := ((nI 12) - (1 : Int32))) hx hb hG hw (kC_I rfl) i (nI_clamp (by omega)) (vp_in_nI (by omega) (by decide)) (sU_s _ _ _ _) dX3_comes_104 ?_
          refine lv_iadd hx hb dX3_comes_105 ?_
          refine lv_iload_n hx hb dX3_comes_106 rfl (lv_at hl 4 rfl) ?_
          refine kx_iast hx hb hG hw hS (fun _ => (kC_I rfl)) (12 * i + 11) (by rw [hs11]; exact cl_nI (by omega)) (by rw [hs11]; exact vp_in_nI (by omega) (by decide)) dX3_comes_107 (fun H locs hw hS => ?_)
          refine lv_aload_n hx hb dX3_comes_108 rfl (lv_at hl 2 rfl) ?_
          refine kx_getM (v := .ref (ad 74)) hx hb hts hown hG hw i3 24 (by decide) f_75 rfl dX3_comes_109 ?_
          refine lv_iload_n hx hb dX3_comes_112 rfl (lv_at hl 1 rfl) ?_
          refine lv_aload_n hx hb dX3_comes_113 rfl (lv_at hl 2 rfl) ?_
          refine kx_getM (v := .ref (ad 72)) hx hb hts hown hG hw i3 22 (by decide) f_69 rfl dX3_comes_114 ?_
          refine lv_iload_n hx hb dX3_comes_117 rfl (lv_at hl 3 rfl) ?_
          refine kx_iald (v := ((nI 12) - (1 : Int32))) hx hb hG hw (kC_I rfl) i (nI_clamp (by omega)) (vp_in_nI (by omega) (by decide)) ((sU_k _ _ _ _ (by omega)).trans (sU_s _ _ _ _)) dX3_comes_118 ?_
          refine lv_iadd hx hb dX3_comes_119 ?_
          refine lv_aload_n hx hb dX3_comes_120 rfl (lv_at hl 2 rfl) ?_
          refine kx_getM (v := .int (g 9 1)) hx hb hts hown hG hw i3 1 (by decide) f_136 (congrArg Value.int ((sU_k _ _ _ _ (by omega)).trans ((sU_k _ _ _ _ (by omega)).trans ((by simp [cmL, sU]))))) dX3_comes_121 ?_
          refine kx_iast hx hb hG hw hS (fun _ => (kC_I rfl)) (12 * i + 11) (by rw [hs11]; exact cl_nI (by omega)) (by rw [hs11]; exact vp_in_nI (by omega) (by decide)) dX3_comes_124 (fun H locs hw hS => ?_)
          refine lv_aload_n hx hb dX3_comes_125 rfl (lv_at hl 2 rfl) ?_
          refine kx_getM (v := .ref (ad 72)) hx hb hts hown hG hw i3 22 (by decide) f_69 rfl dX3_comes_126 ?_
          refine lv_iload_n hx hb dX3_comes_129 rfl (lv_at hl 3 rfl) ?_
          refine lv_dup2_11 hx hb dX3_comes_130 rfl rfl ?_
          refine kx_iald (v := ((nI 12) - (1 : Int32))) hx hb hG hw (kC_I rfl) i (nI_clamp (by omega)) (vp_in_nI (by omega) (by decide)) ((sU_k _ _ _ _ (by omega)).trans ((sU_k _ _ _ _ (by omega)).trans (sU_s _ _ _ _))) dX3_comes_131 ?_
          refine lv_iconst (v := 1) hx hb dX3_comes_132 (by decide) ?_
          refine lv_iadd hx hb dX3_comes_133 ?_
          refine kx_iast hx hb hG hw hS (fun _ => (kC_I rfl)) i (nI_clamp (by omega)) (vp_in_nI (by omega) (by decide)) dX3_comes_134 (fun H locs hw hS => ?_)
          exact kx_retV hQ hx hb hr hlk hw hS (Nat.le_of_ble_eq_true rfl) (Nat.le_of_ble_eq_true rfl) dX3_comes_135 (kd_v (trivial) (cm_end12 (by omega) hh2 e_q))
        · have hlt_q : q < 12 * i + 11 := lt_nI (a := (12 * i + 11)) (b := q) c_43 (by omega) (by omega)
          refine lv_aload_n hx hb dX3_comes_46 rfl (lv_at hl 2 rfl) ?_
          refine kx_getM (v := .ref (ad 73)) hx hb hts hown hG hw i3 23 (by decide) f_72 rfl dX3_comes_47 ?_
          refine lv_iload hx hb dX3_comes_50 (lv_at hl 0 rfl) ?_
          refine lv_aload_n hx hb dX3_comes_52 rfl (lv_at hl 2 rfl) ?_
          refine kx_getM (v := .ref (ad 73)) hx hb hts hown hG hw i3 23 (by decide) f_72 rfl dX3_comes_53 ?_
          refine lv_iload hx hb dX3_comes_56 (lv_at hl 0 rfl) ?_
          refine lv_iconst (v := 1) hx hb dX3_comes_58 (by decide) ?_
          refine lv_iadd hx hb dX3_comes_59 ?_
          refine kx_iald (v := ((cmL (sU (sU g 65 i (0 : Int32)) 66 i room) i q) 73 (q + 1))) hx hb hG hw (kC_I rfl) (q + 1) (by rw [nI_1]; exact cl_nI (by omega)) (by rw [nI_1]; exact vp_in_nI (by omega) (by decide)) rfl dX3_comes_60 ?_
          refine kx_iast hx hb hG hw hS (fun _ => (kC_I rfl)) q (nI_clamp (by omega)) (vp_in_nI (by omega) (by decide)) dX3_comes_61 (fun H locs hw hS => ?_)
          refine lv_aload_n hx hb dX3_comes_62 rfl (lv_at hl 2 rfl) ?_
          refine kx_getM (v := .ref (ad 74)) hx hb hts hown hG hw i3 24 (by decide) f_75 rfl dX3_comes_63 ?_
          refine lv_iload hx hb dX3_comes_66 (lv_at hl 0 rfl) ?_
          refine lv_aload_n hx hb dX3_comes_68 rfl (lv_at hl 2 rfl) ?_
          refine kx_getM (v := .ref (ad 74)) hx hb hts hown hG hw i3 24 (by decide) f_75 rfl dX3_comes_69 ?_
          refine lv_iload hx hb dX3_comes_72 (lv_at hl 0 rfl) ?_
          refine lv_iconst (v := 1) hx hb dX3_comes_74 (by decide) ?_
          refine lv_iadd hx hb dX3_comes_75 ?_
          refine kx_iald (v := ((cmL (sU (sU g 65 i (0 : Int32)) 66 i room) i q) 74 (q + 1))) hx hb hG hw (kC_I rfl) (q + 1) (by rw [nI_1]; exact cl_nI (by omega)) (by rw [nI_1]; exact vp_in_nI (by omega) (by decide)) (sU_k _ _ _ _ (by omega)) dX3_comes_76 ?_
          refine kx_iast hx hb hG hw hS (fun _ => (kC_I rfl)) q (nI_clamp (by omega)) (vp_in_nI (by omega) (by decide)) dX3_comes_77 (fun H locs hw hS => ?_)
          refine lv_iinc (v := (nI q + (1 : Int32))) (lv' := [(4, .int (nI q + (1 : Int32))), (3, .int (nI (12 * i))), (0, .ref (ad 9)), (1, .int (nI i)), (2, .int room)]) hx hb dX3_comes_78 hl (k := 0) rfl rfl (by decide) rfl (fun ls hl => ?_)
          refine lv_goto (tgt := 35) hx hb dX3_comes_81 (by decide) ?_
          exact ih_35 (q + 1) (by omega) (by omega) _ _ _ (show kW D cy base ad n nc (cmL (sU (sU g 65 i (0 : Int32)) 66 i room) i (q + 1)) H from (show (sU (sU (cmL (sU (sU g 65 i (0 : Int32)) 66 i room) i q) 73 q ((cmL (sU (sU g 65 i (0 : Int32)) 66 i room) i q) 73 (q + 1))) 74 q ((cmL (sU (sU g 65 i (0 : Int32)) 66 i room) i q) 74 (q + 1))) = (cmL (sU (sU g 65 i (0 : Int32)) 66 i room) i (q + 1)) from cmL_s (by omega)) ▸ hw) hS (kx_lv (l := [(4, .int (nI q + (1 : Int32))), (3, .int (nI (12 * i))), (0, .ref (ad 9)), (1, .int (nI i)), (2, .int room)]) (l' := [(4, .int (nI (q + 1))), (3, .int (nI (12 * i))), (0, .ref (ad 9)), (1, .int (nI i)), (2, .int room)]) (lv_sub hl [0, 1, 2, 3, 4] rfl) (by simp [nI_1, decide_eq_false c_43, if_neg c_43])) (by omega)
    exact lp_35 ((12 * i + 11) + 1) (12 * i + 1) (by omega) (by omega) _ _ _ (by rw [cmL_0]; exact hw) hS (kx_lv (l := [(4, .int (nI (12 * i) + (1 : Int32))), (3, .int (nI (12 * i))), (0, .ref (ad 9)), (1, .int (nI i)), (2, .int room)]) (l' := [(4, .int (nI (12 * i + 1))), (3, .int (nI (12 * i))), (0, .ref (ad 9)), (1, .int (nI i)), (2, .int room)]) (lv_sub hl [0, 1, 2, 3, 4] rfl) (by rw [nI_1])) (Nat.le_refl _)
theorem hd_X3_isHere : yX3_isHere.cls = RX3 ∧ yX3_isHere.cls ≠ "java/lang/invoke/MethodHandle" ∧ yX3_isHere.cls ≠ "java/lang/invoke/VarHandle" ∧ (parseMethodDescriptor yX3_isHere.desc).map (fun d => d.parameters.length) = some 1 := by decide +kernel
set_option maxHeartbeats 4000000 in
set_option maxRecDepth 100000 in
theorem c_X3_isHere (l : Launch) (hfl : l.stackTraces = false) (D : va_G) (cy : Nat → ClassId) (base : Nat) (ad : Nat → Nat) (n nc : Nat) (g : sg) (i : Nat) (hi30 : i < 30) : kM l yX3_isHere wsX3_isHere (kR 0 0 0) D cy base ad n nc g [.ref (ad 9), .int (nI i)] (kD True (some (.int (b2 (mHere g i)))) ad n nc g) kNo 0 0 := by
  refine kx_meth (cc := cX3_isHere) (maxL := 2) (ret := (some .boolean)) (by decide) rfl (Nat.le_of_ble_eq_true rfl) ?_
  intro p e s m args below meth c ls hx hb hr hml hown hts hlk hT hG hw0 hS0 hl Q H locs hQ hw hS hH0 hlocs0
  have hl : lv_has ls 2 [(0, .ref (ad 9)), (1, .int (nI i))] := hl
  have hown : s.vm.findClass RX3 = some m.cls := hown
  have hF : CallFix p m c cX3_isHere 2 s args wsX3_isHere RX3 := ⟨hx, hb, hml, hown, hts⟩
  have hn30 : n ≤ 30 := hw.2.2.1
  have hc20 : nc ≤ 20 := hw.2.2.2
  clear hw0 hS0 hH0 hlocs0
  have i3 : ∀ w ∈ wsX30, w ∈ wsX3_isHere := by decide +kernel
  have f_47 := hts (.fieldLink RX3 47 "LostroomModel" "states" "[I") (by decide +kernel)
  refine lv_aload_n hx hb dX3_isHere_0 rfl (lv_at hl 0 rfl) ?_
  refine kx_getM (v := .ref (ad 65)) hx hb hts hown hG hw i3 15 (by decide) f_47 rfl dX3_isHere_1 ?_
  refine lv_iload_n hx hb dX3_isHere_4 rfl (lv_at hl 1 rfl) ?_
  refine kx_iald (v := (g 65 i)) hx hb hG hw (kC_I rfl) i (nI_clamp (by omega)) (vp_in_nI (by omega) (by decide)) rfl dX3_isHere_5 ?_
  refine lv_iconst (v := 2) hx hb dX3_isHere_6 (by decide) ?_
  have hj_15_0 : ∀ (H : Heap) (locs : List Loc) (ls : Array Slot), kW D cy base ad n nc g H → va_S (kA base) s.heap H locs → lv_has ls 2 [(0, .ref (ad 9)), (1, .int (nI i))] → W p l e (kR 0 0 0) s m args below meth c H locs 0 0 Q (F0 m 15 ls [.int (b2 (!(decide ((2 : Int32) < (g 65 i)))))]) := by
    intro H locs ls hw hS hl
    exact kx_retZ hQ hx hb hr hlk hw hS (Nat.le_of_ble_eq_true rfl) (Nat.le_of_ble_eq_true rfl) dX3_isHere_15 (nar_b2 _) (kd_i (trivial) (by unfold mHere; rw [dec_le]) (rfl))
  refine lv_icmp_gt (tgt := 14) hx hb dX3_isHere_7 (by decide) (fun c_7 => ?_) (fun c_7 => ?_)
  · refine lv_iconst (v := 0) hx hb dX3_isHere_14 (by decide) ?_
    exact kx_top (v := (b2 (!(decide ((2 : Int32) < (g 65 i)))))) (by first | (simp only [bq, decide_eq_true c_7, if_pos c_7]; done) | (simp only [bq, decide_eq_true c_7, if_pos c_7]; rfl) | simp [bq, decide_eq_true c_7, if_pos c_7]) (hj_15_0 _ _ _ hw hS hl)
  · refine lv_iconst (v := 1) hx hb dX3_isHere_10 (by decide) ?_
    refine lv_goto (tgt := 15) hx hb dX3_isHere_11 (by decide) ?_
    exact kx_top (v := (b2 (!(decide ((2 : Int32) < (g 65 i)))))) (by first | (simp only [bq, decide_eq_false c_7, if_neg c_7]; done) | (simp only [bq, decide_eq_false c_7, if_neg c_7]; rfl) | simp [bq, decide_eq_false c_7, if_neg c_7]) (hj_15_0 _ _ _ hw hS hl)
theorem hd_X3_find : yX3_find.cls = RX3 ∧ yX3_find.cls ≠ "java/lang/invoke/MethodHandle" ∧ yX3_find.cls ≠ "java/lang/invoke/VarHandle" ∧ (parseMethodDescriptor yX3_find.desc).map (fun d => d.parameters.length) = some 7 := by decide +kernel
set_option maxHeartbeats 4000000 in
set_option maxRecDepth 100000 in
theorem c_X3_find (l : Launch) (hfl : l.stackTraces = false) (D : va_G) (cy : Nat → ClassId) (base : Nat) (ad : Nat → Nat) (n nc : Nat) (g : sg) (kind : Int32) (place : Int32) (dago : Int32) (set : Int32) (secret : Int32) (value : Int32) (room : Int32) (hfn : g 9 8 = nI n) (hh0 : g 72 n = 0) : kM l yX3_find wsX3_find (kR 3 0 0) D cy base ad n nc g [.ref (ad 9), .int kind, .int place, .int dago, .int set, .int secret, .int value, .int room] (kD True (some (.int (rv (kd3 (inn kind 0 7 && (inn place 0 9 && inn room 0 5)) (inn dago 0 (g 9 1) && (inn value 0 9999 && (inn set 0 16777215 && (inn secret 0 16777215 && decide ((set &&& secret) = 0))))) (!decide (nI n = 30))) (nI n)))) ad n nc (mk (kd3 (inn kind 0 7 && (inn place 0 9 && inn room 0 5)) (inn dago 0 (g 9 1) && (inn value 0 9999 && (inn set 0 16777215 && (inn secret 0 16777215 && decide ((set &&& secret) = 0))))) (!decide (nI n = 30))) (mFind g n kind place dago set secret value room) g)) kNo 0 0 := by
  refine kx_meth (cc := cX3_find) (maxL := 10) (ret := (some .int)) (by decide) rfl (Nat.le_of_ble_eq_true rfl) ?_
  intro p e s m args below meth c ls hx hb hr hml hown hts hlk hT hG hw0 hS0 hl Q H locs hQ hw hS hH0 hlocs0
  have hl : lv_has ls 10 [(0, .ref (ad 9)), (1, .int kind), (2, .int place), (3, .int dago), (4, .int set), (5, .int secret), (6, .int value), (7, .int room)] := hl
  have hown : s.vm.findClass RX3 = some m.cls := hown
  have hF : CallFix p m c cX3_find 10 s args wsX3_find RX3 := ⟨hx, hb, hml, hown, hts⟩
  have hn30 : n ≤ 30 := hw.2.2.1
  have hc20 : nc ≤ 20 := hw.2.2.2
  clear hw0 hS0 hH0 hlocs0
  have i3 : ∀ w ∈ wsX30, w ∈ wsX3_find := by decide +kernel
  have f_16 := hts (.fieldLink RX3 16 "LostroomModel" "terms" "[I") (by decide +kernel)
  have f_29 := hts (.fieldLink RX3 29 "LostroomModel" "kinds" "[I") (by decide +kernel)
  have f_32 := hts (.fieldLink RX3 32 "LostroomModel" "places" "[I") (by decide +kernel)
  have f_35 := hts (.fieldLink RX3 35 "LostroomModel" "days" "[I") (by decide +kernel)
  have f_38 := hts (.fieldLink RX3 38 "LostroomModel" "words" "[I") (by decide +kernel)
  have f_41 := hts (.fieldLink RX3 41 "LostroomModel" "secrets" "[I") (by decide +kernel)
  have f_44 := hts (.fieldLink RX3 44 "LostroomModel" "values" "[I") (by decide +kernel)
  have f_56 := hts (.fieldLink RX3 56 "LostroomModel" "lasts" "[I") (by decide +kernel)
  have f_113 := hts (.fieldLink RX3 113 "LostroomModel" "finds" "I") (by decide +kernel)
  have f_136 := hts (.fieldLink RX3 136 "LostroomModel" "today" "I") (by decide +kernel)
  refine lv_iload_n hx hb dX3_find_0 rfl (lv_at hl 1 rfl) ?_
  refine kx_do0 (st1 := [.int (b2 (inn kind 0 7))]) (kx_cs (As := [.int kind]) (rest := []) hF hG hw hS hl.1 (c_X3_isKind l hfl D cy base ad n nc g kind ) gX3_find_X3_isKind rfl rfl rfl hd_X3_isKind ⟨Nat.le_of_ble_eq_true rfl, Nat.le_of_ble_eq_true rfl⟩ rfl rfl (Nat.le_of_ble_eq_true rfl) dX3_find_1 ⟨Nat.le_of_ble_eq_true rfl, Nat.le_of_ble_eq_true rfl⟩) hS rfl (fun H locs hw hS => ?_)
  have hj_27_0 : ∀ (H : Heap) (locs : List Loc) (ls : Array Slot), kW D cy base ad n nc g H → va_S (kA base) s.heap H locs → lv_has ls 10 [(0, .ref (ad 9)), (1, .int kind), (2, .int place), (3, .int dago), (4, .int set), (5, .int secret), (6, .int value), (7, .int room)] → W p l e (kR 3 0 0) s m args below meth c H locs 0 0 Q (F0 m 27 ls [.int (b2 ((inn kind 0 7) && ((inn place 0 9) && (inn room 0 5))))]) := by
    intro H locs ls hw hS hl
    refine lv_istore (lv' := [(8, .int (b2 ((inn kind 0 7) && ((inn place 0 9) && (inn room 0 5))))), (0, .ref (ad 9)), (1, .int kind), (2, .int place), (3, .int dago), (4, .int set), (5, .int secret), (6, .int value), (7, .int room)]) hx hb dX3_find_27 hl (by decide) rfl (fun ls hl => ?_)
    refine lv_iload_n hx hb dX3_find_29 rfl (lv_at hl 4 rfl) ?_
    refine lv_iconst (v := 0) hx hb dX3_find_30 (by decide) ?_
    refine lv_aload_n hx hb dX3_find_31 rfl (lv_at hl 1 rfl) ?_
    refine kx_getM (v := .int (g 9 1)) hx hb hts hown hG hw i3 1 (by decide) f_136 rfl dX3_find_32 ?_
    refine kx_do0 (st1 := [.int (b2 (inn dago (0 : Int32) (g 9 1)))]) (kx_cs (As := [.int dago, .int (0 : Int32), .int (g 9 1)]) (rest := []) hF hG hw hS hl.1 (c_X3_in l hfl D cy base ad n nc g dago (0 : Int32) (g 9 1) ) gX3_find_X3_in rfl rfl rfl hd_X3_in ⟨Nat.le_of_ble_eq_true rfl, Nat.le_of_ble_eq_true rfl⟩ rfl rfl (Nat.le_of_ble_eq_true rfl) dX3_find_35 ⟨Nat.le_of_ble_eq_true rfl, Nat.le_of_ble_eq_true rfl⟩) hS rfl (fun H locs hw hS => ?_)
    have hj_82_1 : ∀ (H : Heap) (locs : List Loc) (ls : Array Slot), kW D cy base ad n nc g H → va_S (kA base) s.heap H locs → lv_has ls 10 [(8, .int (b2 ((inn kind 0 7) && ((inn place 0 9) && (inn room 0 5))))), (0, .ref (ad 9)), (1, .int kind), (2, .int place), (3, .int dago), (4, .int set), (5, .int secret), (6, .int value), (7, .int room)] → W p l e (kR 3 0 0) s m args below meth c H locs 0 0 Q (F0 m 82 ls [.int (b2 ((inn dago (0 : Int32) (g 9 1)) && ((inn value (0 : Int32) (9999 : Int32)) && ((inn set 0 16777215) && ((inn secret 0 16777215) && (decide ((set &&& secret) = (0 : Int32))))))))]) := by
      intro H locs ls hw hS hl
      refine lv_istore (lv' := [(9, .int (b2 ((inn dago (0 : Int32) (g 9 1)) && ((inn value (0 : Int32) (9999 : Int32)) && ((inn set 0 16777215) && ((inn secret 0 16777215) && (decide ((set &&& secret) = (0 : Int32))))))))), (8, .int (b2 ((inn kind 0 7) && ((inn place 0 9) && (inn room 0 5))))), (0, .ref (ad 9)), (1, .int kind), (2, .int place), (3, .int dago), (4, .int set), (5, .int secret), (6, .int value), (7, .int room)]) hx hb dX3_find_82 hl (by decide) rfl (fun ls hl => ?_)
      refine lv_aload_n hx hb dX3_find_84 rfl (lv_at hl 2 rfl) ?_
      refine lv_iload hx hb dX3_find_85 (lv_at hl 1 rfl) ?_
      have hj_117_2 : ∀ (H : Heap) (locs : List Loc) (ls : Array Slot), kW D cy base ad n nc g H → va_S (kA base) s.heap H locs → lv_has ls 10 [(9, .int (b2 ((inn dago (0 : Int32) (g 9 1)) && ((inn value (0 : Int32) (9999 : Int32)) && ((inn set 0 16777215) && ((inn secret 0 16777215) && (decide ((set &&& secret) = (0 : Int32))))))))), (8, .int (b2 ((inn kind 0 7) && ((inn place 0 9) && (inn room 0 5))))), (0, .ref (ad 9)), (1, .int kind), (2, .int place), (3, .int dago), (4, .int set), (5, .int secret), (6, .int value), (7, .int room)] → W p l e (kR 3 0 0) s m args below meth c H locs 0 0 Q (F0 m 117 ls [.int (kd3 (inn kind 0 7 && (inn place 0 9 && inn room 0 5)) (inn dago 0 (g 9 1) && (inn value 0 9999 && (inn set 0 16777215 && (inn secret 0 16777215 && decide ((set &&& secret) = 0))))) (!decide (nI n = 30))), .ref (ad 9)]) := by
        intro H locs ls hw hS hl
        refine kx_do0 (st1 := [.int (b2 (decide ((kd3 (inn kind 0 7 && (inn place 0 9 && inn room 0 5)) (inn dago 0 (g 9 1) && (inn value 0 9999 && (inn set 0 16777215 && (inn secret 0 16777215 && decide ((set &&& secret) = 0))))) (!decide (nI n = 30))) = 0)))]) (kx_cv (As := [.int (kd3 (inn kind 0 7 && (inn place 0 9 && inn room 0 5)) (inn dago 0 (g 9 1) && (inn value 0 9999 && (inn set 0 16777215 && (inn secret 0 16777215 && decide ((set &&& secret) = 0))))) (!decide (nI n = 30)))]) (rest := []) hF hG hw hS hl.1 kC_9 rfl (c_X3_holds l hfl D cy base ad n nc g (kd3 (inn kind 0 7 && (inn place 0 9 && inn room 0 5)) (inn dago 0 (g 9 1) && (inn value 0 9999 && (inn set 0 16777215 && (inn secret 0 16777215 && decide ((set &&& secret) = 0))))) (!decide (nI n = 30))) ) gX3_find_X3_holds rfl rfl rfl hd_X3_holds ⟨Nat.le_of_ble_eq_true rfl, Nat.le_of_ble_eq_true rfl⟩ rfl rfl (Nat.le_of_ble_eq_true rfl) dX3_find_117 ⟨Nat.le_of_ble_eq_true rfl, Nat.le_of_ble_eq_true rfl⟩) hS rfl (fun H locs hw hS => ?_)
        refine kb_ne (tgt := 125) hx hb dX3_find_120 (by decide) (fun c_120 => ?_) (fun c_120 => ?_)
        · have h0 : kd3 (inn kind 0 7 && (inn place 0 9 && inn room 0 5)) (inn dago 0 (g 9 1) && (inn value 0 9999 && (inn set 0 16777215 && (inn secret 0 16777215 && decide ((set &&& secret) = 0))))) (!decide (nI n = 30)) = 0 := of_decide_eq_true c_120
          rw [h0] at hw
          have hk := kd3_0.mp h0
          have v_kind : vp_in kind 8 := inn_vp (and_l (hk.1)) (by decide)
          have v_place : vp_in place 10 := inn_vp (and_l (and_r (hk.1))) (by decide)
          have v_room : vp_in room 6 := inn_vp (and_r (and_r (hk.1))) (by decide)
          have hnl : n < 30 := nlt_of hk.2.2 hn30 rfl
          refine lv_aload_n hx hb dX3_find_125 rfl (lv_at hl 2 rfl) ?_
          refine kx_getM (v := .ref (ad 59)) hx hb hts hown hG hw i3 9 (by decide) f_29 rfl dX3_find_126 ?_
          refine lv_aload_n hx hb dX3_find_129 rfl (lv_at hl 2 rfl) ?_
          refine kx_getM (v := .int (nI n)) hx hb hts hown hG hw i3 8 (by decide) f_113 (congrArg Value.int ((sU_j _ _ _ _ (by decide)).trans (hfn))) dX3_find_130 ?_
          refine lv_iload_n hx hb dX3_find_133 rfl (lv_at hl 3 rfl) ?_
          refine kx_iast hx hb hG hw hS (fun _ => (kC_I rfl)) n (nI_clamp (by omega)) (vp_in_nI (by omega) (by decide)) dX3_find_134 (fun H locs hw hS => ?_)
          refine lv_aload_n hx hb dX3_find_135 rfl (lv_at hl 2 rfl) ?_
          refine kx_getM (v := .ref (ad 60)) hx hb hts hown hG hw i3 10 (by decide) f_32 rfl dX3_find_136 ?_
          refine lv_aload_n hx hb dX3_find_139 rfl (lv_at hl 2 rfl) ?_
          refine kx_getM (v := .int (nI n)) hx hb hts hown hG hw i3 8 (by decide) f_113 (congrArg Value.int ((sU_k _ _ _ _ (by omega)).trans ((sU_j _ _ _ _ (by decide)).trans (hfn)))) dX3_find_140 ?_
          refine lv_iload_n hx hb dX3_find_143 rfl (lv_at hl 4 rfl) ?_
          refine kx_iast hx hb hG hw hS (fun _ => (kC_I rfl)) n (nI_clamp (by omega)) (vp_in_nI (by omega) (by decide)) dX3_find_144 (fun H locs hw hS => ?_)
          refine lv_aload_n hx hb dX3_find_145 rfl (lv_at hl 2 rfl) ?_
          refine kx_getM (v := .ref (ad 61)) hx hb hts hown hG hw i3 11 (by decide) f_35 rfl dX3_find_146 ?_
          refine lv_aload_n hx hb dX3_find_149 rfl (lv_at hl 2 rfl) ?_
          refine kx_getM (v := .int (nI n)) hx hb hts hown hG hw i3 8 (by decide) f_113 (congrArg Value.int ((sU_k _ _ _ _ (by omega)).trans ((sU_k _ _ _ _ (by omega)).trans ((sU_j _ _ _ _ (by decide)).trans (hfn))))) dX3_find_150 ?_
          refine lv_aload_n hx hb dX3_find_153 rfl (lv_at hl 2 rfl) ?_
          refine kx_getM (v := .int (g 9 1)) hx hb hts hown hG hw i3 1 (by decide) f_136 (congrArg Value.int ((sU_k _ _ _ _ (by omega)).trans ((sU_k _ _ _ _ (by omega)).trans (sU_j _ _ _ _ (by decide))))) dX3_find_154 ?_
          refine lv_iload_n hx hb dX3_find_157 rfl (lv_at hl 5 rfl) ?_
          refine lv_isub hx hb dX3_find_158 ?_
          refine kx_iast hx hb hG hw hS (fun _ => (kC_I rfl)) n (nI_clamp (by omega)) (vp_in_nI (by omega) (by decide)) dX3_find_159 (fun H locs hw hS => ?_)
          refine lv_aload_n hx hb dX3_find_160 rfl (lv_at hl 2 rfl) ?_
          refine kx_getM (v := .ref (ad 62)) hx hb hts hown hG hw i3 12 (by decide) f_38 rfl dX3_find_161 ?_
          refine lv_aload_n hx hb dX3_find_164 rfl (lv_at hl 2 rfl) ?_
          refine kx_getM (v := .int (nI n)) hx hb hts hown hG hw i3 8 (by decide) f_113 (congrArg Value.int ((sU_k _ _ _ _ (by omega)).trans ((sU_k _ _ _ _ (by omega)).trans ((sU_k _ _ _ _ (by omega)).trans ((sU_j _ _ _ _ (by decide)).trans (hfn)))))) dX3_find_165 ?_
          refine lv_iload hx hb dX3_find_168 (lv_at hl 6 rfl) ?_
          refine kx_iast hx hb hG hw hS (fun _ => (kC_I rfl)) n (nI_clamp (by omega)) (vp_in_nI (by omega) (by decide)) dX3_find_170 (fun H locs hw hS => ?_)
          refine lv_aload_n hx hb dX3_find_171 rfl (lv_at hl 2 rfl) ?_
          refine kx_getM (v := .ref (ad 63)) hx hb hts hown hG hw i3 13 (by decide) f_41 rfl dX3_find_172 ?_
          refine lv_aload_n hx hb dX3_find_175 rfl (lv_at hl 2 rfl) ?_
          refine kx_getM (v := .int (nI n)) hx hb hts hown hG hw i3 8 (by decide) f_113 (congrArg Value.int ((sU_k _ _ _ _ (by omega)).trans ((sU_k _ _ _ _ (by omega)).trans ((sU_k _ _ _ _ (by omega)).trans ((sU_k _ _ _ _ (by omega)).trans ((sU_j _ _ _ _ (by decide)).trans (hfn))))))) dX3_find_176 ?_
          refine lv_iload hx hb dX3_find_179 (lv_at hl 7 rfl) ?_
          refine kx_iast hx hb hG hw hS (fun _ => (kC_I rfl)) n (nI_clamp (by omega)) (vp_in_nI (by omega) (by decide)) dX3_find_181 (fun H locs hw hS => ?_)
          refine lv_aload_n hx hb dX3_find_182 rfl (lv_at hl 2 rfl) ?_
          refine kx_getM (v := .ref (ad 64)) hx hb hts hown hG hw i3 14 (by decide) f_44 rfl dX3_find_183 ?_
          refine lv_aload_n hx hb dX3_find_186 rfl (lv_at hl 2 rfl) ?_
          refine kx_getM (v := .int (nI n)) hx hb hts hown hG hw i3 8 (by decide) f_113 (congrArg Value.int ((sU_k _ _ _ _ (by omega)).trans ((sU_k _ _ _ _ (by omega)).trans ((sU_k _ _ _ _ (by omega)).trans ((sU_k _ _ _ _ (by omega)).trans ((sU_k _ _ _ _ (by omega)).trans ((sU_j _ _ _ _ (by decide)).trans (hfn)))))))) dX3_find_187 ?_
          refine lv_iload hx hb dX3_find_190 (lv_at hl 8 rfl) ?_
          refine kx_iast hx hb hG hw hS (fun _ => (kC_I rfl)) n (nI_clamp (by omega)) (vp_in_nI (by omega) (by decide)) dX3_find_192 (fun H locs hw hS => ?_)
          refine lv_aload_n hx hb dX3_find_193 rfl (lv_at hl 2 rfl) ?_
          refine kx_getM (v := .ref (ad 68)) hx hb hts hown hG hw i3 18 (by decide) f_56 rfl dX3_find_194 ?_
          refine lv_aload_n hx hb dX3_find_197 rfl (lv_at hl 2 rfl) ?_
          refine kx_getM (v := .int (nI n)) hx hb hts hown hG hw i3 8 (by decide) f_113 (congrArg Value.int ((sU_k _ _ _ _ (by omega)).trans ((sU_k _ _ _ _ (by omega)).trans ((sU_k _ _ _ _ (by omega)).trans ((sU_k _ _ _ _ (by omega)).trans ((sU_k _ _ _ _ (by omega)).trans ((sU_k _ _ _ _ (by omega)).trans ((sU_j _ _ _ _ (by decide)).trans (hfn))))))))) dX3_find_198 ?_
          refine lv_aload_n hx hb dX3_find_201 rfl (lv_at hl 2 rfl) ?_
          refine kx_getM (v := .int (g 9 1)) hx hb hts hown hG hw i3 1 (by decide) f_136 (congrArg Value.int ((sU_k _ _ _ _ (by omega)).trans ((sU_k _ _ _ _ (by omega)).trans ((sU_k _ _ _ _ (by omega)).trans ((sU_k _ _ _ _ (by omega)).trans ((sU_k _ _ _ _ (by omega)).trans ((sU_k _ _ _ _ (by omega)).trans (sU_j _ _ _ _ (by decide))))))))) dX3_find_202 ?_
          refine lv_iload_n hx hb dX3_find_205 rfl (lv_at hl 3 rfl) ?_
          refine lv_bipush (v := 7) hx hb dX3_find_206 (by decide) ?_
          have hj_221_3 : ∀ (H : Heap) (locs : List Loc) (ls : Array Slot), kW D cy base ad n nc (sU (sU (sU (sU (sU (sU (sU g 9 0 (0 : Int32)) 59 n kind) 60 n place) 61 n ((g 9 1) - dago)) 62 n set) 63 n secret) 64 n value) H → va_S (kA base) s.heap H locs → lv_has ls 10 [(9, .int (b2 ((inn dago (0 : Int32) (g 9 1)) && ((inn value (0 : Int32) (9999 : Int32)) && ((inn set 0 16777215) && ((inn secret 0 16777215) && (decide ((set &&& secret) = (0 : Int32))))))))), (8, .int (b2 ((inn kind 0 7) && ((inn place 0 9) && (inn room 0 5))))), (0, .ref (ad 9)), (1, .int kind), (2, .int place), (3, .int dago), (4, .int set), (5, .int secret), (6, .int value), (7, .int room)] → W p l e (kR 3 0 0) s m args below meth c H locs 0 0 Q (F0 m 221 ls [.int (if kind = (7 : Int32) then (1 : Int32) else (g 54 kind.toNatClampNeg)), .int (g 9 1), .int (nI n), .ref (ad 68)]) := by
            intro H locs ls hw hS hl
            refine lv_iadd hx hb dX3_find_221 ?_
            refine kx_iast hx hb hG hw hS (fun _ => (kC_I rfl)) n (nI_clamp (by omega)) (vp_in_nI (by omega) (by decide)) dX3_find_222 (fun H locs hw hS => ?_)
            refine lv_aload_n hx hb dX3_find_223 rfl (lv_at hl 2 rfl) ?_
            refine lv_aload_n hx hb dX3_find_224 rfl (lv_at hl 2 rfl) ?_
            refine kx_getM (v := .int (nI n)) hx hb hts hown hG hw i3 8 (by decide) f_113 (congrArg Value.int ((sU_k _ _ _ _ (by omega)).trans ((sU_k _ _ _ _ (by omega)).trans ((sU_k _ _ _ _ (by omega)).trans ((sU_k _ _ _ _ (by omega)).trans ((sU_k _ _ _ _ (by omega)).trans ((sU_k _ _ _ _ (by omega)).trans ((sU_k _ _ _ _ (by omega)).trans ((sU_j _ _ _ _ (by decide)).trans (hfn)))))))))) dX3_find_225 ?_
            refine lv_iload hx hb dX3_find_228 (lv_at hl 9 rfl) ?_
            refine kx_do0 (st1 := []) (kx_cv (As := [.int (nI n), .int room]) (rest := []) hF hG hw hS hl.1 kC_9 rfl (c_X3_comes l hfl D cy base ad n nc (sU (sU (sU (sU (sU (sU (sU (sU g 9 0 (0 : Int32)) 59 n kind) 60 n place) 61 n ((g 9 1) - dago)) 62 n set) 63 n secret) 64 n value) 68 n ((g 9 1) + (if kind = (7 : Int32) then (1 : Int32) else (g 54 kind.toNatClampNeg)))) n room hnl ⟨0, by decide, by simp [sU, hh0]; rfl⟩) gX3_find_X3_comes rfl rfl rfl hd_X3_comes ⟨Nat.le_of_ble_eq_true rfl, Nat.le_of_ble_eq_true rfl⟩ rfl rfl (Nat.le_of_ble_eq_true rfl) dX3_find_230 ⟨Nat.le_of_ble_eq_true rfl, Nat.le_of_ble_eq_true rfl⟩) hS rfl (fun H locs hw hS => ?_)
            refine lv_aload_n hx hb dX3_find_233 rfl (lv_at hl 2 rfl) ?_
            refine lv_dup hx hb dX3_find_234 rfl ?_
            refine kx_getM (v := .int (nI n)) hx hb hts hown hG hw i3 8 (by decide) f_113 (congrArg Value.int ((by simp [mComes, sU, hfn]))) dX3_find_235 ?_
            refine lv_iconst (v := 1) hx hb dX3_find_238 (by decide) ?_
            refine lv_iadd hx hb dX3_find_239 ?_
            refine kx_putM (v := ((nI n) + (1 : Int32))) hx hb hts hown hG hw hS i3 8 (by decide) f_113 (by decide) rfl rfl rfl dX3_find_240 (fun H locs hw hS => ?_)
            refine lv_aload_n hx hb dX3_find_243 rfl (lv_at hl 2 rfl) ?_
            refine kx_getM (v := .int ((nI n) + (1 : Int32))) hx hb hts hown hG hw i3 8 (by decide) f_113 (congrArg Value.int (sU_s _ _ _ _)) dX3_find_244 ?_
            refine lv_iconst (v := 1) hx hb dX3_find_247 (by decide) ?_
            refine lv_isub hx hb dX3_find_248 ?_
            exact kx_retI hQ hx hb hr hlk hw hS (Nat.le_of_ble_eq_true rfl) (Nat.le_of_ble_eq_true rfl) dX3_find_249 (kd_i (trivial) ((rv_0 h0).trans (by simp [Int32.add_sub_cancel])) ((mk_0 h0).trans (by rfl)))
          refine lv_icmp_ne (tgt := 215) hx hb dX3_find_208 (by decide) (fun c_208 => ?_) (fun c_208 => ?_)
          · refine lv_aload_n hx hb dX3_find_215 rfl (lv_at hl 2 rfl) ?_
            refine kx_getM (v := .ref (ad 54)) hx hb hts hown hG hw i3 4 (by decide) f_16 rfl dX3_find_216 ?_
            refine lv_iload_n hx hb dX3_find_219 rfl (lv_at hl 3 rfl) ?_
            refine kx_iald (v := (g 54 kind.toNatClampNeg)) hx hb hG hw (kC_I rfl) kind.toNatClampNeg rfl (by first | assumption | exact ix_of (by assumption) (by assumption) rfl (by decide)) ((sU_k _ _ _ _ (by omega)).trans ((sU_k _ _ _ _ (by omega)).trans ((sU_k _ _ _ _ (by omega)).trans ((sU_k _ _ _ _ (by omega)).trans ((sU_k _ _ _ _ (by omega)).trans ((sU_k _ _ _ _ (by omega)).trans (sU_k _ _ _ _ (by omega)))))))) dX3_find_220 ?_
            exact kx_top (v := (if kind = (7 : Int32) then (1 : Int32) else (g 54 kind.toNatClampNeg))) (by first | (simp only [bq, decide_eq_false c_208, if_neg c_208]; done) | (simp only [bq, decide_eq_false c_208, if_neg c_208]; rfl) | simp [bq, decide_eq_false c_208, if_neg c_208]) (hj_221_3 _ _ _ hw hS hl)
          · refine lv_iconst (v := 1) hx hb dX3_find_211 (by decide) ?_
            refine lv_goto (tgt := 221) hx hb dX3_find_212 (by decide) ?_
            exact kx_top (v := (if kind = (7 : Int32) then (1 : Int32) else (g 54 kind.toNatClampNeg))) (by first | (simp only [bq, decide_eq_true c_208, if_pos c_208]; done) | (simp only [bq, decide_eq_true c_208, if_pos c_208]; rfl) | simp [bq, decide_eq_true c_208, if_pos c_208]) (hj_221_3 _ _ _ hw hS hl)
        · have h0 : ¬ kd3 (inn kind 0 7 && (inn place 0 9 && inn room 0 5)) (inn dago 0 (g 9 1) && (inn value 0 9999 && (inn set 0 16777215 && (inn secret 0 16777215 && decide ((set &&& secret) = 0))))) (!decide (nI n = 30)) = 0 := of_decide_eq_false c_120
          refine lv_iconst (v := 0) hx hb dX3_find_123 (by decide) ?_
          exact kx_retI hQ hx hb hr hlk hw hS (Nat.le_of_ble_eq_true rfl) (Nat.le_of_ble_eq_true rfl) dX3_find_124 (kd_i (trivial) (rv_n h0) (mk_n h0))
      refine kb_ne (tgt := 94) hx hb dX3_find_87 (by decide) (fun c_87 => ?_) (fun c_87 => ?_)
      · have v_kind : vp_in kind 8 := inn_vp (and_l (c_87)) (by decide)
        have v_place : vp_in place 10 := inn_vp (and_l (and_r (c_87))) (by decide)
        have v_room : vp_in room 6 := inn_vp (and_r (and_r (c_87))) (by decide)
        refine lv_iload hx hb dX3_find_94 (lv_at hl 0 rfl) ?_
        refine kb_ne (tgt := 103) hx hb dX3_find_96 (by decide) (fun c_96 => ?_) (fun c_96 => ?_)
        · refine lv_aload_n hx hb dX3_find_103 rfl (lv_at hl 2 rfl) ?_
          refine kx_getM (v := .int (nI n)) hx hb hts hown hG hw i3 8 (by decide) f_113 (congrArg Value.int (hfn)) dX3_find_104 ?_
          refine lv_bipush (v := 30) hx hb dX3_find_107 (by decide) ?_
          refine lv_icmp_ne (tgt := 116) hx hb dX3_find_109 (by decide) (fun c_109 => ?_) (fun c_109 => ?_)
          · refine lv_iconst (v := 0) hx hb dX3_find_116 (by decide) ?_
            exact kx_top (v := (kd3 (inn kind 0 7 && (inn place 0 9 && inn room 0 5)) (inn dago 0 (g 9 1) && (inn value 0 9999 && (inn set 0 16777215 && (inn secret 0 16777215 && decide ((set &&& secret) = 0))))) (!decide (nI n = 30)))) (by first | (simp only [bq, c_87, c_96, decide_eq_false c_109, if_neg c_109]; done) | (simp only [bq, c_87, c_96, decide_eq_false c_109, if_neg c_109]; rfl) | simp [bq, c_87, c_96, decide_eq_false c_109, if_neg c_109]) (hj_117_2 _ _ _ hw hS hl)
          · refine lv_iconst (v := 3) hx hb dX3_find_112 (by decide) ?_
            refine lv_goto (tgt := 117) hx hb dX3_find_113 (by decide) ?_
            exact kx_top (v := (kd3 (inn kind 0 7 && (inn place 0 9 && inn room 0 5)) (inn dago 0 (g 9 1) && (inn value 0 9999 && (inn set 0 16777215 && (inn secret 0 16777215 && decide ((set &&& secret) = 0))))) (!decide (nI n = 30)))) (by first | (simp only [bq, c_87, c_96, decide_eq_true c_109, if_pos c_109]; done) | (simp only [bq, c_87, c_96, decide_eq_true c_109, if_pos c_109]; rfl) | simp [bq, c_87, c_96, decide_eq_true c_109, if_pos c_109]) (hj_117_2 _ _ _ hw hS hl)
        · refine lv_iconst (v := 2) hx hb dX3_find_99 (by decide) ?_
          refine lv_goto (tgt := 117) hx hb dX3_find_100 (by decide) ?_
          exact kx_top (v := (kd3 (inn kind 0 7 && (inn place 0 9 && inn room 0 5)) (inn dago 0 (g 9 1) && (inn value 0 9999 && (inn set 0 16777215 && (inn secret 0 16777215 && decide ((set &&& secret) = 0))))) (!decide (nI n = 30)))) (by first | (simp only [bq, c_87, c_96]; done) | (simp only [bq, c_87, c_96]; rfl) | simp [bq, c_87, c_96]) (hj_117_2 _ _ _ hw hS hl)
      · refine lv_iconst (v := 1) hx hb dX3_find_90 (by decide) ?_
        refine lv_goto (tgt := 117) hx hb dX3_find_91 (by decide) ?_
        exact kx_top (v := (kd3 (inn kind 0 7 && (inn place 0 9 && inn room 0 5)) (inn dago 0 (g 9 1) && (inn value 0 9999 && (inn set 0 16777215 && (inn secret 0 16777215 && decide ((set &&& secret) = 0))))) (!decide (nI n = 30)))) (by first | (simp only [bq, c_87]; done) | (simp only [bq, c_87]; rfl) | simp [bq, c_87]) (hj_117_2 _ _ _ hw hS hl)
    refine kb_eq (tgt := 81) hx hb dX3_find_38 (by decide) (fun c_38 => ?_) (fun c_38 => ?_)
    · refine lv_iconst (v := 0) hx hb dX3_find_81 (by decide) ?_
      exact kx_top (v := (b2 ((inn dago (0 : Int32) (g 9 1)) && ((inn value (0 : Int32) (9999 : Int32)) && ((inn set 0 16777215) && ((inn secret 0 16777215) && (decide ((set &&& secret) = (0 : Int32))))))))) (by first | (simp only [bq, c_38]; done) | (simp only [bq, c_38]; rfl) | simp [bq, c_38]) (hj_82_1 _ _ _ hw hS hl)
    · refine lv_iload hx hb dX3_find_41 (lv_at hl 7 rfl) ?_
      refine lv_iconst (v := 0) hx hb dX3_find_43 (by decide) ?_
      refine lv_sipush (v := 9999) hx hb dX3_find_44 (by decide) ?_
      refine kx_do0 (st1 := [.int (b2 (inn value (0 : Int32) (9999 : Int32)))]) (kx_cs (As := [.int value, .int (0 : Int32), .int (9999 : Int32)]) (rest := []) hF hG hw hS hl.1 (c_X3_in l hfl D cy base ad n nc g value (0 : Int32) (9999 : Int32) ) gX3_find_X3_in rfl rfl rfl hd_X3_in ⟨Nat.le_of_ble_eq_true rfl, Nat.le_of_ble_eq_true rfl⟩ rfl rfl (Nat.le_of_ble_eq_true rfl) dX3_find_47 ⟨Nat.le_of_ble_eq_true rfl, Nat.le_of_ble_eq_true rfl⟩) hS rfl (fun H locs hw hS => ?_)
      refine kb_eq (tgt := 81) hx hb dX3_find_50 (by decide) (fun c_50 => ?_) (fun c_50 => ?_)
      · refine lv_iconst (v := 0) hx hb dX3_find_81 (by decide) ?_
        exact kx_top (v := (b2 ((inn dago (0 : Int32) (g 9 1)) && ((inn value (0 : Int32) (9999 : Int32)) && ((inn set 0 16777215) && ((inn secret 0 16777215) && (decide ((set &&& secret) = (0 : Int32))))))))) (by first | (simp only [bq, c_38, c_50]; done) | (simp only [bq, c_38, c_50]; rfl) | simp [bq, c_38, c_50]) (hj_82_1 _ _ _ hw hS hl)
      · refine lv_iload hx hb dX3_find_53 (lv_at hl 5 rfl) ?_
        refine kx_do0 (st1 := [.int (b2 (inn set 0 16777215))]) (kx_cs (As := [.int set]) (rest := []) hF hG hw hS hl.1 (c_X3_isSet l hfl D cy base ad n nc g set ) gX3_find_X3_isSet rfl rfl rfl hd_X3_isSet ⟨Nat.le_of_ble_eq_true rfl, Nat.le_of_ble_eq_true rfl⟩ rfl rfl (Nat.le_of_ble_eq_true rfl) dX3_find_55 ⟨Nat.le_of_ble_eq_true rfl, Nat.le_of_ble_eq_true rfl⟩) hS rfl (fun H locs hw hS => ?_)
        refine kb_eq (tgt := 81) hx hb dX3_find_58 (by decide) (fun c_58 => ?_) (fun c_58 => ?_)
        · refine lv_iconst (v := 0) hx hb dX3_find_81 (by decide) ?_
          exact kx_top (v := (b2 ((inn dago (0 : Int32) (g 9 1)) && ((inn value (0 : Int32) (9999 : Int32)) && ((inn set 0 16777215) && ((inn secret 0 16777215) && (decide ((set &&& secret) = (0 : Int32))))))))) (by first | (simp only [bq, c_38, c_50, c_58]; done) | (simp only [bq, c_38, c_50, c_58]; rfl) | simp [bq, c_38, c_50, c_58]) (hj_82_1 _ _ _ hw hS hl)
        · refine lv_iload hx hb dX3_find_61 (lv_at hl 6 rfl) ?_
          refine kx_do0 (st1 := [.int (b2 (inn secret 0 16777215))]) (kx_cs (As := [.int secret]) (rest := []) hF hG hw hS hl.1 (c_X3_isSet l hfl D cy base ad n nc g secret ) gX3_find_X3_isSet rfl rfl rfl hd_X3_isSet ⟨Nat.le_of_ble_eq_true rfl, Nat.le_of_ble_eq_true rfl⟩ rfl rfl (Nat.le_of_ble_eq_true rfl) dX3_find_63 ⟨Nat.le_of_ble_eq_true rfl, Nat.le_of_ble_eq_true rfl⟩) hS rfl (fun H locs hw hS => ?_)
          refine kb_eq (tgt := 81) hx hb dX3_find_66 (by decide) (fun c_66 => ?_) (fun c_66 => ?_)
          · refine lv_iconst (v := 0) hx hb dX3_find_81 (by decide) ?_
            exact kx_top (v := (b2 ((inn dago (0 : Int32) (g 9 1)) && ((inn value (0 : Int32) (9999 : Int32)) && ((inn set 0 16777215) && ((inn secret 0 16777215) && (decide ((set &&& secret) = (0 : Int32))))))))) (by first | (simp only [bq, c_38, c_50, c_58, c_66]; done) | (simp only [bq, c_38, c_50, c_58, c_66]; rfl) | simp [bq, c_38, c_50, c_58, c_66]) (hj_82_1 _ _ _ hw hS hl)
          · refine lv_iload hx hb dX3_find_69 (lv_at hl 5 rfl) ?_
            refine lv_iload hx hb dX3_find_71 (lv_at hl 6 rfl) ?_
            refine lv_iand hx hb dX3_find_73 ?_
            refine lv_if_ne (tgt := 81) hx hb dX3_find_74 (by decide) (fun c_74 => ?_) (fun c_74 => ?_)
            · refine lv_iconst (v := 0) hx hb dX3_find_81 (by decide) ?_
              exact kx_top (v := (b2 ((inn dago (0 : Int32) (g 9 1)) && ((inn value (0 : Int32) (9999 : Int32)) && ((inn set 0 16777215) && ((inn secret 0 16777215) && (decide ((set &&& secret) = (0 : Int32))))))))) (by first | (simp only [bq, c_38, c_50, c_58, c_66, decide_eq_false c_74, if_neg c_74]; done) | (simp only [bq, c_38, c_50, c_58, c_66, decide_eq_false c_74, if_neg c_74]; rfl) | simp [bq, c_38, c_50, c_58, c_66, decide_eq_false c_74, if_neg c_74]) (hj_82_1 _ _ _ hw hS hl)
            · refine lv_iconst (v := 1) hx hb dX3_find_77 (by decide) ?_
              refine lv_goto (tgt := 82) hx hb dX3_find_78 (by decide) ?_
              exact kx_top (v := (b2 ((inn dago (0 : Int32) (g 9 1)) && ((inn value (0 : Int32) (9999 : Int32)) && ((inn set 0 16777215) && ((inn secret 0 16777215) && (decide ((set &&& secret) = (0 : Int32))))))))) (by first | (simp only [bq, c_38, c_50, c_58, c_66, decide_eq_true c_74, if_pos c_74]; done) | (simp only [bq, c_38, c_50, c_58, c_66, decide_eq_true c_74, if_pos c_74]; rfl) | simp [bq, c_38, c_50, c_58, c_66, decide_eq_true c_74, if_pos c_74]) (hj_82_1 _ _ _ hw hS hl)
  refine kb_eq (tgt := 26) hx hb dX3_find_4 (by decide) (fun c_4 => ?_) (fun c_4 => ?_)
  · refine lv_iconst (v := 0) hx hb dX3_find_26 (by decide) ?_
    exact kx_top (v := (b2 ((inn kind 0 7) && ((inn place 0 9) && (inn room 0 5))))) (by first | (simp only [bq, c_4]; done) | (simp only [bq, c_4]; rfl) | simp [bq, c_4]) (hj_27_0 _ _ _ hw hS hl)
  · have v_kind : vp_in kind 8 := inn_vp (c_4) (by decide)
    refine lv_iload_n hx hb dX3_find_7 rfl (lv_at hl 2 rfl) ?_
    refine kx_do0 (st1 := [.int (b2 (inn place 0 9))]) (kx_cs (As := [.int place]) (rest := []) hF hG hw hS hl.1 (c_X3_isPlace l hfl D cy base ad n nc g place ) gX3_find_X3_isPlace rfl rfl rfl hd_X3_isPlace ⟨Nat.le_of_ble_eq_true rfl, Nat.le_of_ble_eq_true rfl⟩ rfl rfl (Nat.le_of_ble_eq_true rfl) dX3_find_8 ⟨Nat.le_of_ble_eq_true rfl, Nat.le_of_ble_eq_true rfl⟩) hS rfl (fun H locs hw hS => ?_)
    refine kb_eq (tgt := 26) hx hb dX3_find_11 (by decide) (fun c_11 => ?_) (fun c_11 => ?_)
    · refine lv_iconst (v := 0) hx hb dX3_find_26 (by decide) ?_
      exact kx_top (v := (b2 ((inn kind 0 7) && ((inn place 0 9) && (inn room 0 5))))) (by first | (simp only [bq, c_4, c_11]; done) | (simp only [bq, c_4, c_11]; rfl) | simp [bq, c_4, c_11]) (hj_27_0 _ _ _ hw hS hl)
    · have v_place : vp_in place 10 := inn_vp (c_11) (by decide)
      refine lv_iload hx hb dX3_find_14 (lv_at hl 7 rfl) ?_
      refine kx_do0 (st1 := [.int (b2 (inn room 0 5))]) (kx_cs (As := [.int room]) (rest := []) hF hG hw hS hl.1 (c_X3_isRoom l hfl D cy base ad n nc g room ) gX3_find_X3_isRoom rfl rfl rfl hd_X3_isRoom ⟨Nat.le_of_ble_eq_true rfl, Nat.le_of_ble_eq_true rfl⟩ rfl rfl (Nat.le_of_ble_eq_true rfl) dX3_find_16 ⟨Nat.le_of_ble_eq_true rfl, Nat.le_of_ble_eq_true rfl⟩) hS rfl (fun H locs hw hS => ?_)
      refine kb_eq (tgt := 26) hx hb dX3_find_19 (by decide) (fun c_19 => ?_) (fun c_19 => ?_)
      · refine lv_iconst (v := 0) hx hb dX3_find_26 (by decide) ?_
        exact kx_top (v := (b2 ((inn kind 0 7) && ((inn place 0 9) && (inn room 0 5))))) (by first | (simp only [bq, c_4, c_11, c_19]; done) | (simp only [bq, c_4, c_11, c_19]; rfl) | simp [bq, c_4, c_11, c_19]) (hj_27_0 _ _ _ hw hS hl)
      · have v_room : vp_in room 6 := inn_vp (c_19) (by decide)
        refine lv_iconst (v := 1) hx hb dX3_find_22 (by decide) ?_
        refine lv_goto (tgt := 27) hx hb dX3_find_23 (by decide) ?_
        exact kx_top (v := (b2 ((inn kind 0 7) && ((inn place 0 9) && (inn room 0 5))))) (by first | (simp only [bq, c_4, c_11, c_19]; done) | (simp only [bq, c_4, c_11, c_19]; rfl) | simp [bq, c_4, c_11, c_19]) (hj_27_0 _ _ _ hw hS hl)
theorem hd_X3_see : yX3_see.cls = RX3 ∧ yX3_see.cls ≠ "java/lang/invoke/MethodHandle" ∧ yX3_see.cls ≠ "java/lang/invoke/VarHandle" ∧ (parseMethodDescriptor yX3_see.desc).map (fun d => d.parameters.length) = some 2 := by decide +kernel
set_option maxHeartbeats 4000000 in
set_option maxRecDepth 100000 in
theorem c_X3_see (l : Launch) (hfl : l.stackTraces = false) (D : va_G) (cy : Nat → ClassId) (base : Nat) (ad : Nat → Nat) (n nc : Nat) (g : sg) (x : Int32) (set : Int32) (hfn : g 9 8 = nI n) : kM l yX3_see wsX3_see (kR 2 0 0) D cy base ad n nc g [.ref (ad 9), .int x, .int set] (kD True (some (.int (rv (kd3 (isF n x) (inn set 0 16777215 && decide ((set &&& g 63 x.toNatClampNeg) = 0)) (decide (g 65 x.toNatClampNeg = 0))) (bits (g 62 x.toNatClampNeg ||| set))))) ad n nc (mk (kd3 (isF n x) (inn set 0 16777215 && decide ((set &&& g 63 x.toNatClampNeg) = 0)) (decide (g 65 x.toNatClampNeg = 0))) (sU (sU g 9 0 0) 62 x.toNatClampNeg (g 62 x.toNatClampNeg ||| set)) g)) kNo 0 0 := by
  refine kx_meth (cc := cX3_see) (maxL := 4) (ret := (some .int)) (by decide) rfl (Nat.le_of_ble_eq_true rfl) ?_
  intro p e s m args below meth c ls hx hb hr hml hown hts hlk hT hG hw0 hS0 hl Q H locs hQ hw hS hH0 hlocs0
  have hl : lv_has ls 4 [(0, .ref (ad 9)), (1, .int x), (2, .int set)] := hl
  have hown : s.vm.findClass RX3 = some m.cls := hown
  have hF : CallFix p m c cX3_see 4 s args wsX3_see RX3 := ⟨hx, hb, hml, hown, hts⟩
  have hn30 : n ≤ 30 := hw.2.2.1
  have hc20 : nc ≤ 20 := hw.2.2.2
  clear hw0 hS0 hH0 hlocs0
  have i3 : ∀ w ∈ wsX30, w ∈ wsX3_see := by decide +kernel
  have f_38 := hts (.fieldLink RX3 38 "LostroomModel" "words" "[I") (by decide +kernel)
  have f_41 := hts (.fieldLink RX3 41 "LostroomModel" "secrets" "[I") (by decide +kernel)
  have f_47 := hts (.fieldLink RX3 47 "LostroomModel" "states" "[I") (by decide +kernel)
  refine lv_aload_n hx hb dX3_see_0 rfl (lv_at hl 0 rfl) ?_
  refine lv_iload_n hx hb dX3_see_1 rfl (lv_at hl 1 rfl) ?_
  refine kx_do0 (st1 := [.int (b2 (isF n x))]) (kx_cv (As := [.int x]) (rest := []) hF hG hw hS hl.1 kC_9 rfl (c_X3_isFind l hfl D cy base ad n nc g x (by first | assumption | omega | simp [sU, hfn])) gX3_see_X3_isFind rfl rfl rfl hd_X3_isFind ⟨Nat.le_of_ble_eq_true rfl, Nat.le_of_ble_eq_true rfl⟩ rfl rfl (Nat.le_of_ble_eq_true rfl) dX3_see_2 ⟨Nat.le_of_ble_eq_true rfl, Nat.le_of_ble_eq_true rfl⟩) hS rfl (fun H locs hw hS => ?_)
  refine lv_istore_n (lv' := [(3, .int (b2 (isF n x))), (0, .ref (ad 9)), (1, .int x), (2, .int set)]) hx hb dX3_see_5 rfl hl (by decide) rfl (fun ls hl => ?_)
  refine lv_aload_n hx hb dX3_see_6 rfl (lv_at hl 1 rfl) ?_
  refine lv_iload_n hx hb dX3_see_7 rfl (lv_at hl 0 rfl) ?_
  have hj_51_0 : ∀ (H : Heap) (locs : List Loc) (ls : Array Slot), kW D cy base ad n nc g H → va_S (kA base) s.heap H locs → lv_has ls 4 [(3, .int (b2 (isF n x))), (0, .ref (ad 9)), (1, .int x), (2, .int set)] → W p l e (kR 2 0 0) s m args below meth c H locs 0 0 Q (F0 m 51 ls [.int (kd3 (isF n x) (inn set 0 16777215 && decide ((set &&& g 63 x.toNatClampNeg) = 0)) (decide (g 65 x.toNatClampNeg = 0))), .ref (ad 9)]) := by
    intro H locs ls hw hS hl
    refine kx_do0 (st1 := [.int (b2 (decide ((kd3 (isF n x) (inn set 0 16777215 && decide ((set &&& g 63 x.toNatClampNeg) = 0)) (decide (g 65 x.toNatClampNeg = 0))) = 0)))]) (kx_cv (As := [.int (kd3 (isF n x) (inn set 0 16777215 && decide ((set &&& g 63 x.toNatClampNeg) = 0)) (decide (g 65 x.toNatClampNeg = 0)))]) (rest := []) hF hG hw hS hl.1 kC_9 rfl (c_X3_holds l hfl D cy base ad n nc g (kd3 (isF n x) (inn set 0 16777215 && decide ((set &&& g 63 x.toNatClampNeg) = 0)) (decide (g 65 x.toNatClampNeg = 0))) ) gX3_see_X3_holds rfl rfl rfl hd_X3_holds ⟨Nat.le_of_ble_eq_true rfl, Nat.le_of_ble_eq_true rfl⟩ rfl rfl (Nat.le_of_ble_eq_true rfl) dX3_see_51 ⟨Nat.le_of_ble_eq_true rfl, Nat.le_of_ble_eq_true rfl⟩) hS rfl (fun H locs hw hS => ?_)
    refine kb_ne (tgt := 59) hx hb dX3_see_54 (by decide) (fun c_54 => ?_) (fun c_54 => ?_)
    · have h0 : kd3 (isF n x) (inn set 0 16777215 && decide ((set &&& g 63 x.toNatClampNeg) = 0)) (decide (g 65 x.toNatClampNeg = 0)) = 0 := of_decide_eq_true c_54
      rw [h0] at hw
      have hk := kd3_0.mp h0
      obtain ⟨i_x, hi_x, rfl⟩ := isF_ex (hk.1) hn30
      have hcl_x : (nI i_x).toNatClampNeg = i_x := cl_nI (by omega)
      refine lv_aload_n hx hb dX3_see_59 rfl (lv_at hl 1 rfl) ?_
      refine kx_getM (v := .ref (ad 62)) hx hb hts hown hG hw i3 12 (by decide) f_38 rfl dX3_see_60 ?_
      refine lv_iload_n hx hb dX3_see_63 rfl (lv_at hl 2 rfl) ?_
      refine lv_dup2_11 hx hb dX3_see_64 rfl rfl ?_
      refine kx_iald (v := (g 62 i_x)) hx hb hG hw (kC_I rfl) i_x (nI_clamp (by omega)) (vp_in_nI (by omega) (by decide)) (sU_k _ _ _ _ (by omega)) dX3_see_65 ?_
      refine lv_iload_n hx hb dX3_see_66 rfl (lv_at hl 3 rfl) ?_
      refine lv_ior hx hb dX3_see_67 ?_
      refine kx_iast hx hb hG hw hS (fun _ => (kC_I rfl)) i_x (nI_clamp (by omega)) (vp_in_nI (by omega) (by decide)) dX3_see_68 (fun H locs hw hS => ?_)
      refine lv_aload_n hx hb dX3_see_69 rfl (lv_at hl 1 rfl) ?_
      refine kx_getM (v := .ref (ad 62)) hx hb hts hown hG hw i3 12 (by decide) f_38 rfl dX3_see_70 ?_
      refine lv_iload_n hx hb dX3_see_73 rfl (lv_at hl 2 rfl) ?_
      refine kx_iald (v := ((g 62 i_x) ||| set)) hx hb hG hw (kC_I rfl) i_x (nI_clamp (by omega)) (vp_in_nI (by omega) (by decide)) (sU_s _ _ _ _) dX3_see_74 ?_
      refine kx_do0 (st1 := [.int (bits ((g 62 i_x) ||| set))]) (kx_cs (As := [.int ((g 62 i_x) ||| set)]) (rest := []) hF hG hw hS hl.1 (c_X3_bits l hfl D cy base ad n nc (sU (sU g 9 0 (0 : Int32)) 62 i_x ((g 62 i_x) ||| set)) ((g 62 i_x) ||| set) ) gX3_see_X3_bits rfl rfl rfl hd_X3_bits ⟨Nat.le_of_ble_eq_true rfl, Nat.le_of_ble_eq_true rfl⟩ rfl rfl (Nat.le_of_ble_eq_true rfl) dX3_see_75 ⟨Nat.le_of_ble_eq_true rfl, Nat.le_of_ble_eq_true rfl⟩) hS rfl (fun H locs hw hS => ?_)
      exact kx_retI hQ hx hb hr hlk hw hS (Nat.le_of_ble_eq_true rfl) (Nat.le_of_ble_eq_true rfl) dX3_see_78 (kd_i (trivial) ((rv_0 h0).trans (by simp only [hcl_x])) ((mk_0 h0).trans (by simp only [hcl_x])))
    · have h0 : ¬ kd3 (isF n x) (inn set 0 16777215 && decide ((set &&& g 63 x.toNatClampNeg) = 0)) (decide (g 65 x.toNatClampNeg = 0)) = 0 := of_decide_eq_false c_54
      refine lv_iconst (v := 0) hx hb dX3_see_57 (by decide) ?_
      exact kx_retI hQ hx hb hr hlk hw hS (Nat.le_of_ble_eq_true rfl) (Nat.le_of_ble_eq_true rfl) dX3_see_58 (kd_i (trivial) (rv_n h0) (mk_n h0))
  refine kb_ne (tgt := 15) hx hb dX3_see_8 (by decide) (fun c_8 => ?_) (fun c_8 => ?_)
  · have v_x : vp_in x 30 := isF_vp (c_8) hn30 (by decide)
    have w_x : x.toNatClampNeg < n := isF_lt (c_8) hn30
    refine lv_iload_n hx hb dX3_see_15 rfl (lv_at hl 3 rfl) ?_
    refine kx_do0 (st1 := [.int (b2 (inn set 0 16777215)), .ref (ad 9)]) (kx_cs (As := [.int set]) (rest := [.ref (ad 9)]) hF hG hw hS hl.1 (c_X3_isSet l hfl D cy base ad n nc g set ) gX3_see_X3_isSet rfl rfl rfl hd_X3_isSet ⟨Nat.le_of_ble_eq_true rfl, Nat.le_of_ble_eq_true rfl⟩ rfl rfl (Nat.le_of_ble_eq_true rfl) dX3_see_16 ⟨Nat.le_of_ble_eq_true rfl, Nat.le_of_ble_eq_true rfl⟩) hS rfl (fun H locs hw hS => ?_)
    refine kb_eq (tgt := 33) hx hb dX3_see_19 (by decide) (fun c_19 => ?_) (fun c_19 => ?_)
    · refine lv_iconst (v := 2) hx hb dX3_see_33 (by decide) ?_
      refine lv_goto (tgt := 51) hx hb dX3_see_34 (by decide) ?_
      exact kx_top (v := (kd3 (isF n x) (inn set 0 16777215 && decide ((set &&& g 63 x.toNatClampNeg) = 0)) (decide (g 65 x.toNatClampNeg = 0)))) (by first | (simp only [bq, c_8, c_19]; done) | (simp only [bq, c_8, c_19]; rfl) | simp [bq, c_8, c_19]) (hj_51_0 _ _ _ hw hS hl)
    · refine lv_iload_n hx hb dX3_see_22 rfl (lv_at hl 3 rfl) ?_
      refine lv_aload_n hx hb dX3_see_23 rfl (lv_at hl 1 rfl) ?_
      refine kx_getM (v := .ref (ad 63)) hx hb hts hown hG hw i3 13 (by decide) f_41 rfl dX3_see_24 ?_
      refine lv_iload_n hx hb dX3_see_27 rfl (lv_at hl 2 rfl) ?_
      refine kx_iald (v := (g 63 x.toNatClampNeg)) hx hb hG hw (kC_I rfl) x.toNatClampNeg rfl (by first | assumption | exact ix_of (by assumption) (by assumption) rfl (by decide)) rfl dX3_see_28 ?_
      refine lv_iand hx hb dX3_see_29 ?_
      refine lv_if_eq (tgt := 37) hx hb dX3_see_30 (by decide) (fun c_30 => ?_) (fun c_30 => ?_)
      · refine lv_aload_n hx hb dX3_see_37 rfl (lv_at hl 1 rfl) ?_
        refine kx_getM (v := .ref (ad 65)) hx hb hts hown hG hw i3 15 (by decide) f_47 rfl dX3_see_38 ?_
        refine lv_iload_n hx hb dX3_see_41 rfl (lv_at hl 2 rfl) ?_
        refine kx_iald (v := (g 65 x.toNatClampNeg)) hx hb hG hw (kC_I rfl) x.toNatClampNeg rfl (by first | assumption | exact ix_of (by assumption) (by assumption) rfl (by decide)) rfl dX3_see_42 ?_
        refine lv_if_eq (tgt := 50) hx hb dX3_see_43 (by decide) (fun c_43 => ?_) (fun c_43 => ?_)
        · refine lv_iconst (v := 0) hx hb dX3_see_50 (by decide) ?_
          exact kx_top (v := (kd3 (isF n x) (inn set 0 16777215 && decide ((set &&& g 63 x.toNatClampNeg) = 0)) (decide (g 65 x.toNatClampNeg = 0)))) (by first | (simp only [bq, c_8, c_19, decide_eq_true c_30, if_pos c_30, decide_eq_true c_43, if_pos c_43]; done) | (simp only [bq, c_8, c_19, decide_eq_true c_30, if_pos c_30, decide_eq_true c_43, if_pos c_43]; rfl) | simp [bq, c_8, c_19, decide_eq_true c_30, if_pos c_30, decide_eq_true c_43, if_pos c_43]) (hj_51_0 _ _ _ hw hS hl)
        · refine lv_iconst (v := 3) hx hb dX3_see_46 (by decide) ?_
          refine lv_goto (tgt := 51) hx hb dX3_see_47 (by decide) ?_
          exact kx_top (v := (kd3 (isF n x) (inn set 0 16777215 && decide ((set &&& g 63 x.toNatClampNeg) = 0)) (decide (g 65 x.toNatClampNeg = 0)))) (by first | (simp only [bq, c_8, c_19, decide_eq_true c_30, if_pos c_30, decide_eq_false c_43, if_neg c_43]; done) | (simp only [bq, c_8, c_19, decide_eq_true c_30, if_pos c_30, decide_eq_false c_43, if_neg c_43]; rfl) | simp [bq, c_8, c_19, decide_eq_true c_30, if_pos c_30, decide_eq_false c_43, if_neg c_43]) (hj_51_0 _ _ _ hw hS hl)
      · refine lv_iconst (v := 2) hx hb dX3_see_33 (by decide) ?_
        refine lv_goto (tgt := 51) hx hb dX3_see_34 (by decide) ?_
        exact kx_top (v := (kd3 (isF n x) (inn set 0 16777215 && decide ((set &&& g 63 x.toNatClampNeg) = 0)) (decide (g 65 x.toNatClampNeg = 0)))) (by first | (simp only [bq, c_8, c_19, decide_eq_false c_30, if_neg c_30]; done) | (simp only [bq, c_8, c_19, decide_eq_false c_30, if_neg c_30]; rfl) | simp [bq, c_8, c_19, decide_eq_false c_30, if_neg c_30]) (hj_51_0 _ _ _ hw hS hl)
  · refine lv_iconst (v := 1) hx hb dX3_see_11 (by decide) ?_
    refine lv_goto (tgt := 51) hx hb dX3_see_12 (by decide) ?_
    exact kx_top (v := (kd3 (isF n x) (inn set 0 16777215 && decide ((set &&& g 63 x.toNatClampNeg) = 0)) (decide (g 65 x.toNatClampNeg = 0)))) (by first | (simp only [bq, c_8]; done) | (simp only [bq, c_8]; rfl) | simp [bq, c_8]) (hj_51_0 _ _ _ hw hS hl)
theorem hd_X3_send : yX3_send.cls = RX3 ∧ yX3_send.cls ≠ "java/lang/invoke/MethodHandle" ∧ yX3_send.cls ≠ "java/lang/invoke/VarHandle" ∧ (parseMethodDescriptor yX3_send.desc).map (fun d => d.parameters.length) = some 2 := by decide +kernel
set_option maxHeartbeats 4000000 in
set_option maxRecDepth 100000 in
theorem c_X3_send (l : Launch) (hfl : l.stackTraces = false) (D : va_G) (cy : Nat → ClassId) (base : Nat) (ad : Nat → Nat) (n nc : Nat) (g : sg) (x : Int32) (room : Int32) (hfn : g 9 8 = nI n) : kM l yX3_send wsX3_send (kR 2 0 0) D cy base ad n nc g [.ref (ad 9), .int x, .int room] (kD True (some (.int (rv (kd2 (isF n x && inn room 0 5) (decide (g 65 x.toNatClampNeg = 0) && !decide (g 66 x.toNatClampNeg = room))) (g 66 x.toNatClampNeg)))) ad n nc (mk (kd2 (isF n x && inn room 0 5) (decide (g 65 x.toNatClampNeg = 0) && !decide (g 66 x.toNatClampNeg = room))) (sU (sU (sU g 9 0 0) 65 x.toNatClampNeg 1) 67 x.toNatClampNeg room) g)) kNo 0 0 := by
  refine kx_meth (cc := cX3_send) (maxL := 4) (ret := (some .int)) (by decide) rfl (Nat.le_of_ble_eq_true rfl) ?_
  intro p e s m args below meth c ls hx hb hr hml hown hts hlk hT hG hw0 hS0 hl Q H locs hQ hw hS hH0 hlocs0
  have hl : lv_has ls 4 [(0, .ref (ad 9)), (1, .int x), (2, .int room)] := hl
  have hown : s.vm.findClass RX3 = some m.cls := hown
  have hF : CallFix p m c cX3_send 4 s args wsX3_send RX3 := ⟨hx, hb, hml, hown, hts⟩
  have hn30 : n ≤ 30 := hw.2.2.1
  have hc20 : nc ≤ 20 := hw.2.2.2
  clear hw0 hS0 hH0 hlocs0
  have i3 : ∀ w ∈ wsX30, w ∈ wsX3_send := by decide +kernel
  have f_47 := hts (.fieldLink RX3 47 "LostroomModel" "states" "[I") (by decide +kernel)
  have f_50 := hts (.fieldLink RX3 50 "LostroomModel" "rooms" "[I") (by decide +kernel)
  have f_53 := hts (.fieldLink RX3 53 "LostroomModel" "goesTo" "[I") (by decide +kernel)
  refine lv_aload_n hx hb dX3_send_0 rfl (lv_at hl 0 rfl) ?_
  refine lv_iload_n hx hb dX3_send_1 rfl (lv_at hl 1 rfl) ?_
  refine kx_do0 (st1 := [.int (b2 (isF n x))]) (kx_cv (As := [.int x]) (rest := []) hF hG hw hS hl.1 kC_9 rfl (c_X3_isFind l hfl D cy base ad n nc g x (by first | assumption | omega | simp [sU, hfn])) gX3_send_X3_isFind rfl rfl rfl hd_X3_isFind ⟨Nat.le_of_ble_eq_true rfl, Nat.le_of_ble_eq_true rfl⟩ rfl rfl (Nat.le_of_ble_eq_true rfl) dX3_send_2 ⟨Nat.le_of_ble_eq_true rfl, Nat.le_of_ble_eq_true rfl⟩) hS rfl (fun H locs hw hS => ?_)
  have hj_20_0 : ∀ (H : Heap) (locs : List Loc) (ls : Array Slot), kW D cy base ad n nc g H → va_S (kA base) s.heap H locs → lv_has ls 4 [(0, .ref (ad 9)), (1, .int x), (2, .int room)] → W p l e (kR 2 0 0) s m args below meth c H locs 0 0 Q (F0 m 20 ls [.int (b2 ((isF n x) && (inn room 0 5)))]) := by
    intro H locs ls hw hS hl
    refine lv_istore_n (lv' := [(3, .int (b2 ((isF n x) && (inn room 0 5)))), (0, .ref (ad 9)), (1, .int x), (2, .int room)]) hx hb dX3_send_20 rfl hl (by decide) rfl (fun ls hl => ?_)
    refine lv_aload_n hx hb dX3_send_21 rfl (lv_at hl 1 rfl) ?_
    refine lv_iload_n hx hb dX3_send_22 rfl (lv_at hl 0 rfl) ?_
    have hj_54_1 : ∀ (H : Heap) (locs : List Loc) (ls : Array Slot), kW D cy base ad n nc g H → va_S (kA base) s.heap H locs → lv_has ls 4 [(3, .int (b2 ((isF n x) && (inn room 0 5)))), (0, .ref (ad 9)), (1, .int x), (2, .int room)] → W p l e (kR 2 0 0) s m args below meth c H locs 0 0 Q (F0 m 54 ls [.int (kd2 (isF n x && inn room 0 5) (decide (g 65 x.toNatClampNeg = 0) && !decide (g 66 x.toNatClampNeg = room))), .ref (ad 9)]) := by
      intro H locs ls hw hS hl
      refine kx_do0 (st1 := [.int (b2 (decide ((kd2 (isF n x && inn room 0 5) (decide (g 65 x.toNatClampNeg = 0) && !decide (g 66 x.toNatClampNeg = room))) = 0)))]) (kx_cv (As := [.int (kd2 (isF n x && inn room 0 5) (decide (g 65 x.toNatClampNeg = 0) && !decide (g 66 x.toNatClampNeg = room)))]) (rest := []) hF hG hw hS hl.1 kC_9 rfl (c_X3_holds l hfl D cy base ad n nc g (kd2 (isF n x && inn room 0 5) (decide (g 65 x.toNatClampNeg = 0) && !decide (g 66 x.toNatClampNeg = room))) ) gX3_send_X3_holds rfl rfl rfl hd_X3_holds ⟨Nat.le_of_ble_eq_true rfl, Nat.le_of_ble_eq_true rfl⟩ rfl rfl (Nat.le_of_ble_eq_true rfl) dX3_send_54 ⟨Nat.le_of_ble_eq_true rfl, Nat.le_of_ble_eq_true rfl⟩) hS rfl (fun H locs hw hS => ?_)
      refine kb_ne (tgt := 62) hx hb dX3_send_57 (by decide) (fun c_57 => ?_) (fun c_57 => ?_)
      · have h0 : kd2 (isF n x && inn room 0 5) (decide (g 65 x.toNatClampNeg = 0) && !decide (g 66 x.toNatClampNeg = room)) = 0 := of_decide_eq_true c_57
        rw [h0] at hw
        have hk := kd2_0.mp h0
        obtain ⟨i_x, hi_x, rfl⟩ := isF_ex (and_l (hk.1)) hn30
        have hcl_x : (nI i_x).toNatClampNeg = i_x := cl_nI (by omega)
        have v_room : vp_in room 6 := inn_vp (and_r (hk.1)) (by decide)
        refine lv_aload_n hx hb dX3_send_62 rfl (lv_at hl 1 rfl) ?_
        refine kx_getM (v := .ref (ad 65)) hx hb hts hown hG hw i3 15 (by decide) f_47 rfl dX3_send_63 ?_
        refine lv_iload_n hx hb dX3_send_66 rfl (lv_at hl 2 rfl) ?_
        refine lv_iconst (v := 1) hx hb dX3_send_67 (by decide) ?_
        refine kx_iast hx hb hG hw hS (fun _ => (kC_I rfl)) i_x (nI_clamp (by omega)) (vp_in_nI (by omega) (by decide)) dX3_send_68 (fun H locs hw hS => ?_)
        refine lv_aload_n hx hb dX3_send_69 rfl (lv_at hl 1 rfl) ?_
        refine kx_getM (v := .ref (ad 67)) hx hb hts hown hG hw i3 17 (by decide) f_53 rfl dX3_send_70 ?_
        refine lv_iload_n hx hb dX3_send_73 rfl (lv_at hl 2 rfl) ?_
        refine lv_iload_n hx hb dX3_send_74 rfl (lv_at hl 3 rfl) ?_
        refine kx_iast hx hb hG hw hS (fun _ => (kC_I rfl)) i_x (nI_clamp (by omega)) (vp_in_nI (by omega) (by decide)) dX3_send_75 (fun H locs hw hS => ?_)
        refine lv_aload_n hx hb dX3_send_76 rfl (lv_at hl 1 rfl) ?_
        refine kx_getM (v := .ref (ad 66)) hx hb hts hown hG hw i3 16 (by decide) f_50 rfl dX3_send_77 ?_
        refine lv_iload_n hx hb dX3_send_80 rfl (lv_at hl 2 rfl) ?_
        refine kx_iald (v := (g 66 i_x)) hx hb hG hw (kC_I rfl) i_x (nI_clamp (by omega)) (vp_in_nI (by omega) (by decide)) ((sU_k _ _ _ _ (by omega)).trans ((sU_k _ _ _ _ (by omega)).trans (sU_k _ _ _ _ (by omega)))) dX3_send_81 ?_
        exact kx_retI hQ hx hb hr hlk hw hS (Nat.le_of_ble_eq_true rfl) (Nat.le_of_ble_eq_true rfl) dX3_send_82 (kd_i (trivial) ((rv_0 h0).trans (by simp only [hcl_x])) ((mk_0 h0).trans (by simp only [hcl_x])))
      · have h0 : ¬ kd2 (isF n x && inn room 0 5) (decide (g 65 x.toNatClampNeg = 0) && !decide (g 66 x.toNatClampNeg = room)) = 0 := of_decide_eq_false c_57
        refine lv_iconst (v := 0) hx hb dX3_send_60 (by decide) ?_
        exact kx_retI hQ hx hb hr hlk hw hS (Nat.le_of_ble_eq_true rfl) (Nat.le_of_ble_eq_true rfl) dX3_send_61 (kd_i (trivial) (rv_n h0) (mk_n h0))
    refine kb_ne (tgt := 30) hx hb dX3_send_23 (by decide) (fun c_23 => ?_) (fun c_23 => ?_)
    · have v_x : vp_in x 30 := isF_vp (and_l (c_23)) hn30 (by decide)
      have w_x : x.toNatClampNeg < n := isF_lt (and_l (c_23)) hn30
      have v_room : vp_in room 6 := inn_vp (and_r (c_23)) (by decide)
      refine lv_aload_n hx hb dX3_send_30 rfl (lv_at hl 1 rfl) ?_
      refine kx_getM (v := .ref (ad 65)) hx hb hts hown hG hw i3 15 (by decide) f_47 rfl dX3_send_31 ?_
      refine lv_iload_n hx hb dX3_send_34 rfl (lv_at hl 2 rfl) ?_
      refine kx_iald (v := (g 65 x.toNatClampNeg)) hx hb hG hw (kC_I rfl) x.toNatClampNeg rfl (by first | assumption | exact ix_of (by assumption) (by assumption) rfl (by decide)) rfl dX3_send_35 ?_
      refine lv_if_ne (tgt := 49) hx hb dX3_send_36 (by decide) (fun c_36 => ?_) (fun c_36 => ?_)
      · refine lv_iconst (v := 2) hx hb dX3_send_49 (by decide) ?_
        refine lv_goto (tgt := 54) hx hb dX3_send_50 (by decide) ?_
        exact kx_top (v := (kd2 (isF n x && inn room 0 5) (decide (g 65 x.toNatClampNeg = 0) && !decide (g 66 x.toNatClampNeg = room)))) (by first | (simp only [bq, c_23, decide_eq_false c_36, if_neg c_36]; done) | (simp only [bq, c_23, decide_eq_false c_36, if_neg c_36]; rfl) | simp [bq, c_23, decide_eq_false c_36, if_neg c_36]) (hj_54_1 _ _ _ hw hS hl)
      · refine lv_aload_n hx hb dX3_send_39 rfl (lv_at hl 1 rfl) ?_
        refine kx_getM (v := .ref (ad 66)) hx hb hts hown hG hw i3 16 (by decide) f_50 rfl dX3_send_40 ?_
        refine lv_iload_n hx hb dX3_send_43 rfl (lv_at hl 2 rfl) ?_
        refine kx_iald (v := (g 66 x.toNatClampNeg)) hx hb hG hw (kC_I rfl) x.toNatClampNeg rfl (by first | assumption | exact ix_of (by assumption) (by assumption) rfl (by decide)) rfl dX3_send_44 ?_
        refine lv_iload_n hx hb dX3_send_45 rfl (lv_at hl 3 rfl) ?_
        refine lv_icmp_ne (tgt := 53) hx hb dX3_send_46 (by decide) (fun c_46 => ?_) (fun c_46 => ?_)
        · refine lv_iconst (v := 0) hx hb dX3_send_53 (by decide) ?_
          exact kx_top (v := (kd2 (isF n x && inn room 0 5) (decide (g 65 x.toNatClampNeg = 0) && !decide (g 66 x.toNatClampNeg = room)))) (by first | (simp only [bq, c_23, decide_eq_true c_36, if_pos c_36, decide_eq_false c_46, if_neg c_46]; done) | (simp only [bq, c_23, decide_eq_true c_36, if_pos c_36, decide_eq_false c_46, if_neg c_46]; rfl) | simp [bq, c_23, decide_eq_true c_36, if_pos c_36, decide_eq_false c_46, if_neg c_46]) (hj_54_1 _ _ _ hw hS hl)
        · refine lv_iconst (v := 2) hx hb dX3_send_49 (by decide) ?_
          refine lv_goto (tgt := 54) hx hb dX3_send_50 (by decide) ?_
          exact kx_top (v := (kd2 (isF n x && inn room 0 5) (decide (g 65 x.toNatClampNeg = 0) && !decide (g 66 x.toNatClampNeg = room)))) (by first | (simp only [bq, c_23, decide_eq_true c_36, if_pos c_36, decide_eq_true c_46, if_pos c_46]; done) | (simp only [bq, c_23, decide_eq_true c_36, if_pos c_36, decide_eq_true c_46, if_pos c_46]; rfl) | simp [bq, c_23, decide_eq_true c_36, if_pos c_36, decide_eq_true c_46, if_pos c_46]) (hj_54_1 _ _ _ hw hS hl)
    · refine lv_iconst (v := 1) hx hb dX3_send_26 (by decide) ?_
      refine lv_goto (tgt := 54) hx hb dX3_send_27 (by decide) ?_
      exact kx_top (v := (kd2 (isF n x && inn room 0 5) (decide (g 65 x.toNatClampNeg = 0) && !decide (g 66 x.toNatClampNeg = room)))) (by first | (simp only [bq, c_23]; done) | (simp only [bq, c_23]; rfl) | simp [bq, c_23]) (hj_54_1 _ _ _ hw hS hl)
  refine kb_eq (tgt := 19) hx hb dX3_send_5 (by decide) (fun c_5 => ?_) (fun c_5 => ?_)
  · refine lv_iconst (v := 0) hx hb dX3_send_19 (by decide) ?_
    exact kx_top (v := (b2 ((isF n x) && (inn room 0 5)))) (by first | (simp only [bq, c_5]; done) | (simp only [bq, c_5]; rfl) | simp [bq, c_5]) (hj_20_0 _ _ _ hw hS hl)
  · have v_x : vp_in x 30 := isF_vp (c_5) hn30 (by decide)
    have w_x : x.toNatClampNeg < n := isF_lt (c_5) hn30
    refine lv_iload_n hx hb dX3_send_8 rfl (lv_at hl 2 rfl) ?_
    refine kx_do0 (st1 := [.int (b2 (inn room 0 5))]) (kx_cs (As := [.int room]) (rest := []) hF hG hw hS hl.1 (c_X3_isRoom l hfl D cy base ad n nc g room ) gX3_send_X3_isRoom rfl rfl rfl hd_X3_isRoom ⟨Nat.le_of_ble_eq_true rfl, Nat.le_of_ble_eq_true rfl⟩ rfl rfl (Nat.le_of_ble_eq_true rfl) dX3_send_9 ⟨Nat.le_of_ble_eq_true rfl, Nat.le_of_ble_eq_true rfl⟩) hS rfl (fun H locs hw hS => ?_)
    refine kb_eq (tgt := 19) hx hb dX3_send_12 (by decide) (fun c_12 => ?_) (fun c_12 => ?_)
    · refine lv_iconst (v := 0) hx hb dX3_send_19 (by decide) ?_
      exact kx_top (v := (b2 ((isF n x) && (inn room 0 5)))) (by first | (simp only [bq, c_5, c_12]; done) | (simp only [bq, c_5, c_12]; rfl) | simp [bq, c_5, c_12]) (hj_20_0 _ _ _ hw hS hl)
    · have v_room : vp_in room 6 := inn_vp (c_12) (by decide)
      refine lv_iconst (v := 1) hx hb dX3_send_15 (by decide) ?_
      refine lv_goto (tgt := 20) hx hb dX3_send_16 (by decide) ?_
      exact kx_top (v := (b2 ((isF n x) && (inn room 0 5)))) (by first | (simp only [bq, c_5, c_12]; done) | (simp only [bq, c_5, c_12]; rfl) | simp [bq, c_5, c_12]) (hj_20_0 _ _ _ hw hS hl)
theorem hd_X3_lose : yX3_lose.cls = RX3 ∧ yX3_lose.cls ≠ "java/lang/invoke/MethodHandle" ∧ yX3_lose.cls ≠ "java/lang/invoke/VarHandle" ∧ (parseMethodDescriptor yX3_lose.desc).map (fun d => d.parameters.length) = some 1 := by decide +kernel
set_option maxHeartbeats 4000000 in
set_option maxRecDepth 100000 in
theorem c_X3_lose (l : Launch) (hfl : l.stackTraces = false) (D : va_G) (cy : Nat → ClassId) (base : Nat) (ad : Nat → Nat) (n nc : Nat) (g : sg) (room : Int32) (hfn : g 9 8 = nI n) : kM l yX3_lose wsX3_lose (kR 2 0 0) D cy base ad n nc g [.ref (ad 9), .int room] (kD True (some (.int (rv (kd1 (inn room 0 5)) (lsN g room n)))) ad n nc (mk (kd1 (inn room 0 5)) (lsS (sU g 9 0 0) room n) g)) kNo 0 0 := by
  refine kx_meth (cc := cX3_lose) (maxL := 5) (ret := (some .int)) (by decide) rfl (Nat.le_of_ble_eq_true rfl) ?_
  intro p e s m args below meth c ls hx hb hr hml hown hts hlk hT hG hw0 hS0 hl Q H locs hQ hw hS hH0 hlocs0
  have hl : lv_has ls 5 [(0, .ref (ad 9)), (1, .int room)] := hl
  have hown : s.vm.findClass RX3 = some m.cls := hown
  have hF : CallFix p m c cX3_lose 5 s args wsX3_lose RX3 := ⟨hx, hb, hml, hown, hts⟩
  have hn30 : n ≤ 30 := hw.2.2.1
  have hc20 : nc ≤ 20 := hw.2.2.2
  clear hw0 hS0 hH0 hlocs0
  have i3 : ∀ w ∈ wsX30, w ∈ wsX3_lose := by decide +kernel
  have f_47 := hts (.fieldLink RX3 47 "LostroomModel" "states" "[I") (by decide +kernel)
  have f_53 := hts (.fieldLink RX3 53 "LostroomModel" "goesTo" "[I") (by decide +kernel)
  have f_113 := hts (.fieldLink RX3 113 "LostroomModel" "finds" "I") (by decide +kernel)
  refine lv_aload_n hx hb dX3_lose_0 rfl (lv_at hl 0 rfl) ?_
  refine lv_iload_n hx hb dX3_lose_1 rfl (lv_at hl 1 rfl) ?_
  refine kx_do0 (st1 := [.int (b2 (inn room 0 5)), .ref (ad 9)]) (kx_cs (As := [.int room]) (rest := [.ref (ad 9)]) hF hG hw hS hl.1 (c_X3_isRoom l hfl D cy base ad n nc g room ) gX3_lose_X3_isRoom rfl rfl rfl hd_X3_isRoom ⟨Nat.le_of_ble_eq_true rfl, Nat.le_of_ble_eq_true rfl⟩ rfl rfl (Nat.le_of_ble_eq_true rfl) dX3_lose_2 ⟨Nat.le_of_ble_eq_true rfl, Nat.le_of_ble_eq_true rfl⟩) hS rfl (fun H locs hw hS => ?_)
  have hj_13_0 : ∀ (H : Heap) (locs : List Loc) (ls : Array Slot), kW D cy base ad n nc g H → va_S (kA base) s.heap H locs → lv_has ls 5 [(0, .ref (ad 9)), (1, .int room)] → W p l e (kR 2 0 0) s m args below meth c H locs 0 0 Q (F0 m 13 ls [.int (kd1 (inn room 0 5)), .ref (ad 9)]) := by
    intro H locs ls hw hS hl
    refine kx_do0 (st1 := [.int (b2 (decide ((kd1 (inn room 0 5)) = 0)))]) (kx_cv (As := [.int (kd1 (inn room 0 5))]) (rest := []) hF hG hw hS hl.1 kC_9 rfl (c_X3_holds l hfl D cy base ad n nc g (kd1 (inn room 0 5)) ) gX3_lose_X3_holds rfl rfl rfl hd_X3_holds ⟨Nat.le_of_ble_eq_true rfl, Nat.le_of_ble_eq_true rfl⟩ rfl rfl (Nat.le_of_ble_eq_true rfl) dX3_lose_13 ⟨Nat.le_of_ble_eq_true rfl, Nat.le_of_ble_eq_true rfl⟩) hS rfl (fun H locs hw hS => ?_)
    refine kb_ne (tgt := 21) hx hb dX3_lose_16 (by decide) (fun c_16 => ?_) (fun c_16 => ?_)
    · have h0 : kd1 (inn room 0 5) = 0 := of_decide_eq_true c_16
      rw [h0] at hw
      have hk := kd1_0.mp h0
      have v_room : vp_in room 6 := inn_vp (hk) (by decide)
      refine lv_iconst (v := 0) hx hb dX3_lose_21 (by decide) ?_
      refine lv_istore_n (lv' := [(2, .int (0 : Int32)), (0, .ref (ad 9)), (1, .int room)]) hx hb dX3_lose_22 rfl hl (by decide) rfl (fun ls hl => ?_)
      refine lv_iconst (v := 0) hx hb dX3_lose_23 (by decide) ?_
      refine lv_istore_n (lv' := [(3, .int (0 : Int32)), (2, .int (0 : Int32)), (0, .ref (ad 9)), (1, .int room)]) hx hb dX3_lose_24 rfl hl (by decide) rfl (fun ls hl => ?_)
      have lp_25 : ∀ (nn k : Nat), k ≤ n → n < k + nn → ∀ (H : Heap) (locs : List Loc) (ls : Array Slot), kW D cy base ad n nc (lsS (sU g 9 0 (0 : Int32)) room k) H → va_S (kA base) s.heap H locs → lv_has ls 5 [(3, .int (nI k)), (2, .int (lsN g room k)), (0, .ref (ad 9)), (1, .int room)] → W p l e (kR 2 0 0) s m args below meth c H locs 0 0 Q (F0 m 25 ls []) := by
        intro nn
        induction nn with
        | zero => intro k h1 h2; exact absurd h2 (by omega)
        | succ nn ih_25 =>
          intro k hk_k hkn_k H locs ls hw hS hl
          refine lv_iload_n hx hb dX3_lose_25 rfl (lv_at hl 0 rfl) ?_
          refine lv_aload_n hx hb dX3_lose_26 rfl (lv_at hl 2 rfl) ?_
          refine kx_getM (v := .int (nI n)) hx hb hts hown hG hw i3 8 (by decide) f_113 (congrArg Value.int ((by simp [lsS, sU, hfn]))) dX3_lose_27 ?_
          refine lv_icmp_ge (tgt := 100) hx hb dX3_lose_30 (by decide) (fun c_30 => ?_) (fun c_30 => ?_)
          · have e_k : k = n := Nat.le_antisymm hk_k (le_nI (a := n) (b := k) c_30 (by omega) (by omega))
            refine lv_iload_n hx hb dX3_lose_100 rfl (lv_at hl 1 rfl) ?_
            exact kx_retI hQ hx hb hr hlk hw hS (Nat.le_of_ble_eq_true rfl) (Nat.le_of_ble_eq_true rfl) dX3_lose_101 (kd_i (trivial) ((rv_0 h0).trans (by rw [e_k])) ((mk_0 h0).trans (by rw [e_k])))
          · have hlt_k : k < n := lt_nI (a := n) (b := k) c_30 (by omega) (by omega)
            refine lv_aload_n hx hb dX3_lose_33 rfl (lv_at hl 2 rfl) ?_
            refine kx_getM (v := .ref (ad 65)) hx hb hts hown hG hw i3 15 (by decide) f_47 rfl dX3_lose_34 ?_
            refine lv_iload_n hx hb dX3_lose_37 rfl (lv_at hl 0 rfl) ?_
            refine kx_iald (v := (g 65 k)) hx hb hG hw (kC_I rfl) k (nI_clamp (by omega)) (vp_in_nI (by omega) (by decide)) (by simp [lsS, sU]) dX3_lose_38 ?_
            refine lv_iconst (v := 1) hx hb dX3_lose_39 (by decide) ?_
            have hj_58_1 : ∀ (H : Heap) (locs : List Loc) (ls : Array Slot), kW D cy base ad n nc (lsS (sU g 9 0 (0 : Int32)) room k) H → va_S (kA base) s.heap H locs → lv_has ls 5 [(3, .int (nI k)), (2, .int (lsN g room k)), (0, .ref (ad 9)), (1, .int room)] → W p l e (kR 2 0 0) s m args below meth c H locs 0 0 Q (F0 m 58 ls [.int (b2 ((decide ((g 65 k) = (1 : Int32))) && (decide ((g 67 k) = room))))]) := by
              intro H locs ls hw hS hl
              refine lv_istore (lv' := [(4, .int (b2 ((decide ((g 65 k) = (1 : Int32))) && (decide ((g 67 k) = room))))), (3, .int (nI k)), (2, .int (lsN g room k)), (0, .ref (ad 9)), (1, .int room)]) hx hb dX3_lose_58 hl (by decide) rfl (fun ls hl => ?_)
              refine lv_aload_n hx hb dX3_lose_60 rfl (lv_at hl 3 rfl) ?_
              refine kx_getM (v := .ref (ad 65)) hx hb hts hown hG hw i3 15 (by decide) f_47 rfl dX3_lose_61 ?_
              refine lv_iload_n hx hb dX3_lose_64 rfl (lv_at hl 1 rfl) ?_
              refine lv_iload hx hb dX3_lose_65 (lv_at hl 0 rfl) ?_
              have hj_80_2 : ∀ (H : Heap) (locs : List Loc) (ls : Array Slot), kW D cy base ad n nc (lsS (sU g 9 0 (0 : Int32)) room k) H → va_S (kA base) s.heap H locs → lv_has ls 5 [(4, .int (b2 ((decide ((g 65 k) = (1 : Int32))) && (decide ((g 67 k) = room))))), (3, .int (nI k)), (2, .int (lsN g room k)), (0, .ref (ad 9)), (1, .int room)] → W p l e (kR 2 0 0) s m args below meth c H locs 0 0 Q (F0 m 80 ls [.int (if ((decide ((g 65 k) = (1 : Int32))) && (decide ((g 67 k) = room))) = true then (2 : Int32) else (g 65 k)), .int (nI k), .ref (ad 65)]) := by
                intro H locs ls hw hS hl
                refine kx_iast hx hb hG hw hS (fun _ => (kC_I rfl)) k (nI_clamp (by omega)) (vp_in_nI (by omega) (by decide)) dX3_lose_80 (fun H locs hw hS => ?_)
                refine lv_iload_n hx hb dX3_lose_81 rfl (lv_at hl 2 rfl) ?_
                refine lv_iload hx hb dX3_lose_82 (lv_at hl 0 rfl) ?_
                have hj_92_3 : ∀ (H : Heap) (locs : List Loc) (ls : Array Slot), kW D cy base ad n nc (sU (lsS (sU g 9 0 (0 : Int32)) room k) 65 k (if ((decide ((g 65 k) = (1 : Int32))) && (decide ((g 67 k) = room))) = true then (2 : Int32) else (g 65 k))) H → va_S (kA base) s.heap H locs → lv_has ls 5 [(4, .int (b2 ((decide ((g 65 k) = (1 : Int32))) && (decide ((g 67 k) = room))))), (3, .int (nI k)), (2, .int (lsN g room k)), (0, .ref (ad 9)), (1, .int room)] → W p l e (kR 2 0 0) s m args below meth c H locs 0 0 Q (F0 m 92 ls [.int (b2 ((decide ((g 65 k) = (1 : Int32))) && (decide ((g 67 k) = room)))), .int (lsN g room k)]) := by
                  intro H locs ls hw hS hl
                  refine lv_iadd hx hb dX3_lose_92 ?_
                  refine lv_istore_n (lv' := [(2, .int (lsN g room k + (b2 ((decide ((g 65 k) = (1 : Int32))) && (decide ((g 67 k) = room)))))), (4, .int (b2 ((decide ((g 65 k) = (1 : Int32))) && (decide ((g 67 k) = room))))), (3, .int (nI k)), (0, .ref (ad 9)), (1, .int room)]) hx hb dX3_lose_93 rfl hl (by decide) rfl (fun ls hl => ?_)
                  refine lv_iinc (v := (nI k + (1 : Int32))) (lv' := [(3, .int (nI k + (1 : Int32))), (2, .int (lsN g room k + (b2 ((decide ((g 65 k) = (1 : Int32))) && (decide ((g 67 k) = room)))))), (4, .int (b2 ((decide ((g 65 k) = (1 : Int32))) && (decide ((g 67 k) = room))))), (0, .ref (ad 9)), (1, .int room)]) hx hb dX3_lose_94 hl (k := 2) rfl rfl (by decide) rfl (fun ls hl => ?_)
                  refine lv_goto (tgt := 25) hx hb dX3_lose_97 (by decide) ?_
                  exact ih_25 (k + 1) (by omega) (by omega) _ _ _ (show kW D cy base ad n nc (lsS (sU g 9 0 (0 : Int32)) room (k + 1)) H from (show (sU (lsS (sU g 9 0 (0 : Int32)) room k) 65 k (if ((decide ((g 65 k) = (1 : Int32))) && (decide ((g 67 k) = room))) = true then (2 : Int32) else (g 65 k))) = (lsS (sU g 9 0 (0 : Int32)) room (k + 1)) from lsS_s _ _ _) ▸ hw) hS (kx_lv (l := [(3, .int (nI k + (1 : Int32))), (2, .int (lsN g room k + (b2 ((decide ((g 65 k) = (1 : Int32))) && (decide ((g 67 k) = room)))))), (0, .ref (ad 9)), (1, .int room)]) (l' := [(3, .int (nI (k + 1))), (2, .int (lsN g room (k + 1))), (0, .ref (ad 9)), (1, .int room)]) (lv_sub hl [0, 1, 3, 4] rfl) (by rw [nI_1]; rfl)) 
                refine kb_eq (tgt := 91) hx hb dX3_lose_84 (by decide) (fun c_84 => ?_) (fun c_84 => ?_)
                · refine lv_iconst (v := 0) hx hb dX3_lose_91 (by decide) ?_
                  exact kx_top (v := (b2 ((decide ((g 65 k) = (1 : Int32))) && (decide ((g 67 k) = room))))) (by first | (simp only [bq, c_84]; done) | (simp only [bq, c_84]; rfl) | simp [bq, c_84]) (hj_92_3 _ _ _ hw hS hl)
                · refine lv_iconst (v := 1) hx hb dX3_lose_87 (by decide) ?_
                  refine lv_goto (tgt := 92) hx hb dX3_lose_88 (by decide) ?_
                  exact kx_top (v := (b2 ((decide ((g 65 k) = (1 : Int32))) && (decide ((g 67 k) = room))))) (by first | (simp only [bq, c_84]; done) | (simp only [bq, c_84]; rfl) | simp [bq, c_84]) (hj_92_3 _ _ _ hw hS hl)
              refine kb_eq (tgt := 74) hx hb dX3_lose_67 (by decide) (fun c_67 => ?_) (fun c_67 => ?_)
              · refine lv_aload_n hx hb dX3_lose_74 rfl (lv_at hl 3 rfl) ?_
                refine kx_getM (v := .ref (ad 65)) hx hb hts hown hG hw i3 15 (by decide) f_47 rfl dX3_lose_75 ?_
                refine lv_iload_n hx hb dX3_lose_78 rfl (lv_at hl 1 rfl) ?_
                refine kx_iald (v := (g 65 k)) hx hb hG hw (kC_I rfl) k (nI_clamp (by omega)) (vp_in_nI (by omega) (by decide)) (by simp [lsS, sU]) dX3_lose_79 ?_
                exact kx_top (v := (if ((decide ((g 65 k) = (1 : Int32))) && (decide ((g 67 k) = room))) = true then (2 : Int32) else (g 65 k))) (by first | (simp only [bq, c_67]; done) | (simp only [bq, c_67]; rfl) | simp [bq, c_67]) (hj_80_2 _ _ _ hw hS hl)
              · refine lv_iconst (v := 2) hx hb dX3_lose_70 (by decide) ?_
                refine lv_goto (tgt := 80) hx hb dX3_lose_71 (by decide) ?_
                exact kx_top (v := (if ((decide ((g 65 k) = (1 : Int32))) && (decide ((g 67 k) = room))) = true then (2 : Int32) else (g 65 k))) (by first | (simp only [bq, c_67]; done) | (simp only [bq, c_67]; rfl) | simp [bq, c_67]) (hj_80_2 _ _ _ hw hS hl)
            refine lv_icmp_ne (tgt := 57) hx hb dX3_lose_40 (by decide) (fun c_40 => ?_) (fun c_40 => ?_)
            · refine lv_iconst (v := 0) hx hb dX3_lose_57 (by decide) ?_
              exact kx_top (v := (b2 ((decide ((g 65 k) = (1 : Int32))) && (decide ((g 67 k) = room))))) (by first | (simp only [bq, decide_eq_false c_40, if_neg c_40]; done) | (simp only [bq, decide_eq_false c_40, if_neg c_40]; rfl) | simp [bq, decide_eq_false c_40, if_neg c_40]) (hj_58_1 _ _ _ hw hS hl)
            · refine lv_aload_n hx hb dX3_lose_43 rfl (lv_at hl 2 rfl) ?_
              refine kx_getM (v := .ref (ad 67)) hx hb hts hown hG hw i3 17 (by decide) f_53 rfl dX3_lose_44 ?_
              refine lv_iload_n hx hb dX3_lose_47 rfl (lv_at hl 0 rfl) ?_
              refine kx_iald (v := (g 67 k)) hx hb hG hw (kC_I rfl) k (nI_clamp (by omega)) (vp_in_nI (by omega) (by decide)) (by simp [lsS, sU]) dX3_lose_48 ?_
              refine lv_iload_n hx hb dX3_lose_49 rfl (lv_at hl 3 rfl) ?_
              refine lv_icmp_ne (tgt := 57) hx hb dX3_lose_50 (by decide) (fun c_50 => ?_) (fun c_50 => ?_)
              · refine lv_iconst (v := 0) hx hb dX3_lose_57 (by decide) ?_
                exact kx_top (v := (b2 ((decide ((g 65 k) = (1 : Int32))) && (decide ((g 67 k) = room))))) (by first | (simp only [bq, decide_eq_true c_40, if_pos c_40, decide_eq_false c_50, if_neg c_50]; done) | (simp only [bq, decide_eq_true c_40, if_pos c_40, decide_eq_false c_50, if_neg c_50]; rfl) | simp [bq, decide_eq_true c_40, if_pos c_40, decide_eq_false c_50, if_neg c_50]) (hj_58_1 _ _ _ hw hS hl)
              · refine lv_iconst (v := 1) hx hb dX3_lose_53 (by decide) ?_
                refine lv_goto (tgt := 58) hx hb dX3_lose_54 (by decide) ?_
                exact kx_top (v := (b2 ((decide ((g 65 k) = (1 : Int32))) && (decide ((g 67 k) = room))))) (by first | (simp only [bq, decide_eq_true c_40, if_pos c_40, decide_eq_true c_50, if_pos c_50]; done) | (simp only [bq, decide_eq_true c_40, if_pos c_40, decide_eq_true c_50, if_pos c_50]; rfl) | simp [bq, decide_eq_true c_40, if_pos c_40, decide_eq_true c_50, if_pos c_50]) (hj_58_1 _ _ _ hw hS hl)
      exact lp_25 (n + 1) 0 (by omega) (by omega) _ _ _ (by rw [lsS_0]; exact hw) hS (kx_lv (l := [(3, .int (0 : Int32)), (2, .int (0 : Int32)), (0, .ref (ad 9)), (1, .int room)]) (l' := [(3, .int (nI 0)), (2, .int (lsN g room 0)), (0, .ref (ad 9)), (1, .int room)]) (lv_sub hl [0, 1, 2, 3] rfl) (rfl)) 
    · have h0 : ¬ kd1 (inn room 0 5) = 0 := of_decide_eq_false c_16
      refine lv_iconst (v := 0) hx hb dX3_lose_19 (by decide) ?_
      exact kx_retI hQ hx hb hr hlk hw hS (Nat.le_of_ble_eq_true rfl) (Nat.le_of_ble_eq_true rfl) dX3_lose_20 (kd_i (trivial) (rv_n h0) (mk_n h0))
  refine kb_eq (tgt := 12) hx hb dX3_lose_5 (by decide) (fun c_5 => ?_) (fun c_5 => ?_)
  · refine lv_iconst (v := 1) hx hb dX3_lose_12 (by decide) ?_
    exact kx_top (v := (kd1 (inn room 0 5))) (by first | (simp only [bq, c_5]; done) | (simp only [bq, c_5]; rfl) | simp [bq, c_5]) (hj_13_0 _ _ _ hw hS hl)
  · have v_room : vp_in room 6 := inn_vp (c_5) (by decide)
    refine lv_iconst (v := 0) hx hb dX3_lose_8 (by decide) ?_
    refine lv_goto (tgt := 13) hx hb dX3_lose_9 (by decide) ?_
    exact kx_top (v := (kd1 (inn room 0 5))) (by first | (simp only [bq, c_5]; done) | (simp only [bq, c_5]; rfl) | simp [bq, c_5]) (hj_13_0 _ _ _ hw hS hl)
theorem hd_X3_turnUp : yX3_turnUp.cls = RX3 ∧ yX3_turnUp.cls ≠ "java/lang/invoke/MethodHandle" ∧ yX3_turnUp.cls ≠ "java/lang/invoke/VarHandle" ∧ (parseMethodDescriptor yX3_turnUp.desc).map (fun d => d.parameters.length) = some 2 := by decide +kernel
set_option maxHeartbeats 4000000 in
set_option maxRecDepth 100000 in
theorem c_X3_turnUp (l : Launch) (hfl : l.stackTraces = false) (D : va_G) (cy : Nat → ClassId) (base : Nat) (ad : Nat → Nat) (n nc : Nat) (g : sg) (x : Int32) (room : Int32) (hfn : g 9 8 = nI n) (hh : ∀ i, i < n → ∃ h : Nat, h ≤ 12 ∧ g 72 i = nI h) : kM l yX3_turnUp wsX3_turnUp (kR 3 0 0) D cy base ad n nc g [.ref (ad 9), .int x, .int room] (kD True (some (.int (rv (kd2 (isF n x && inn room 0 5) (decide (g 65 x.toNatClampNeg = 2))) (cmH (g 72 x.toNatClampNeg))))) ad n nc (mk (kd2 (isF n x && inn room 0 5) (decide (g 65 x.toNatClampNeg = 2))) (mComes (sU g 9 0 0) x.toNatClampNeg room) g)) kNo 0 0 := by
  refine kx_meth (cc := cX3_turnUp) (maxL := 4) (ret := (some .int)) (by decide) rfl (Nat.le_of_ble_eq_true rfl) ?_
  intro p e s m args below meth c ls hx hb hr hml hown hts hlk hT hG hw0 hS0 hl Q H locs hQ hw hS hH0 hlocs0
  have hl : lv_has ls 4 [(0, .ref (ad 9)), (1, .int x), (2, .int room)] := hl
  have hown : s.vm.findClass RX3 = some m.cls := hown
  have hF : CallFix p m c cX3_turnUp 4 s args wsX3_turnUp RX3 := ⟨hx, hb, hml, hown, hts⟩
  have hn30 : n ≤ 30 := hw.2.2.1
  have hc20 : nc ≤ 20 := hw.2.2.2
  clear hw0 hS0 hH0 hlocs0
  have i3 : ∀ w ∈ wsX30, w ∈ wsX3_turnUp := by decide +kernel
  have f_47 := hts (.fieldLink RX3 47 "LostroomModel" "states" "[I") (by decide +kernel)
  have f_69 := hts (.fieldLink RX3 69 "LostroomModel" "handMany" "[I") (by decide +kernel)
  refine lv_aload_n hx hb dX3_turnUp_0 rfl (lv_at hl 0 rfl) ?_
  refine lv_iload_n hx hb dX3_turnUp_1 rfl (lv_at hl 1 rfl) ?_
  refine kx_do0 (st1 := [.int (b2 (isF n x))]) (kx_cv (As := [.int x]) (rest := []) hF hG hw hS hl.1 kC_9 rfl (c_X3_isFind l hfl D cy base ad n nc g x (by first | assumption | omega | simp [sU, hfn, hh])) gX3_turnUp_X3_isFind rfl rfl rfl hd_X3_isFind ⟨Nat.le_of_ble_eq_true rfl, Nat.le_of_ble_eq_true rfl⟩ rfl rfl (Nat.le_of_ble_eq_true rfl) dX3_turnUp_2 ⟨Nat.le_of_ble_eq_true rfl, Nat.le_of_ble_eq_true rfl⟩) hS rfl (fun H locs hw hS => ?_)
  have hj_20_0 : ∀ (H : Heap) (locs : List Loc) (ls : Array Slot), kW D cy base ad n nc g H → va_S (kA base) s.heap H locs → lv_has ls 4 [(0, .ref (ad 9)), (1, .int x), (2, .int room)] → W p l e (kR 3 0 0) s m args below meth c H locs 0 0 Q (F0 m 20 ls [.int (b2 ((isF n x) && (inn room 0 5)))]) := by
    intro H locs ls hw hS hl
    refine lv_istore_n (lv' := [(3, .int (b2 ((isF n x) && (inn room 0 5)))), (0, .ref (ad 9)), (1, .int x), (2, .int room)]) hx hb dX3_turnUp_20 rfl hl (by decide) rfl (fun ls hl => ?_)
    refine lv_aload_n hx hb dX3_turnUp_21 rfl (lv_at hl 1 rfl) ?_
    refine lv_iload_n hx hb dX3_turnUp_22 rfl (lv_at hl 0 rfl) ?_
    have hj_45_1 : ∀ (H : Heap) (locs : List Loc) (ls : Array Slot), kW D cy base ad n nc g H → va_S (kA base) s.heap H locs → lv_has ls 4 [(3, .int (b2 ((isF n x) && (inn room 0 5)))), (0, .ref (ad 9)), (1, .int x), (2, .int room)] → W p l e (kR 3 0 0) s m args below meth c H locs 0 0 Q (F0 m 45 ls [.int (kd2 (isF n x && inn room 0 5) (decide (g 65 x.toNatClampNeg = 2))), .ref (ad 9)]) := by
      intro H locs ls hw hS hl
      refine kx_do0 (st1 := [.int (b2 (decide ((kd2 (isF n x && inn room 0 5) (decide (g 65 x.toNatClampNeg = 2))) = 0)))]) (kx_cv (As := [.int (kd2 (isF n x && inn room 0 5) (decide (g 65 x.toNatClampNeg = 2)))]) (rest := []) hF hG hw hS hl.1 kC_9 rfl (c_X3_holds l hfl D cy base ad n nc g (kd2 (isF n x && inn room 0 5) (decide (g 65 x.toNatClampNeg = 2))) ) gX3_turnUp_X3_holds rfl rfl rfl hd_X3_holds ⟨Nat.le_of_ble_eq_true rfl, Nat.le_of_ble_eq_true rfl⟩ rfl rfl (Nat.le_of_ble_eq_true rfl) dX3_turnUp_45 ⟨Nat.le_of_ble_eq_true rfl, Nat.le_of_ble_eq_true rfl⟩) hS rfl (fun H locs hw hS => ?_)
      refine kb_ne (tgt := 53) hx hb dX3_turnUp_48 (by decide) (fun c_48 => ?_) (fun c_48 => ?_)
      · have h0 : kd2 (isF n x && inn room 0 5) (decide (g 65 x.toNatClampNeg = 2)) = 0 := of_decide_eq_true c_48
        rw [h0] at hw
        have hk := kd2_0.mp h0
        obtain ⟨i_x, hi_x, rfl⟩ := isF_ex (and_l (hk.1)) hn30
        have hcl_x : (nI i_x).toNatClampNeg = i_x := cl_nI (by omega)
        have v_room : vp_in room 6 := inn_vp (and_r (hk.1)) (by decide)
        refine lv_aload_n hx hb dX3_turnUp_53 rfl (lv_at hl 1 rfl) ?_
        refine lv_iload_n hx hb dX3_turnUp_54 rfl (lv_at hl 2 rfl) ?_
        refine lv_iload_n hx hb dX3_turnUp_55 rfl (lv_at hl 3 rfl) ?_
        refine kx_do0 (st1 := []) (kx_cv (As := [.int (nI i_x), .int room]) (rest := []) hF hG hw hS hl.1 kC_9 rfl (c_X3_comes l hfl D cy base ad n nc (sU g 9 0 (0 : Int32)) i_x room (by omega) (by simpa [sU] using hh i_x hi_x)) gX3_turnUp_X3_comes rfl rfl rfl hd_X3_comes ⟨Nat.le_of_ble_eq_true rfl, Nat.le_of_ble_eq_true rfl⟩ rfl rfl (Nat.le_of_ble_eq_true rfl) dX3_turnUp_56 ⟨Nat.le_of_ble_eq_true rfl, Nat.le_of_ble_eq_true rfl⟩) hS rfl (fun H locs hw hS => ?_)
        refine lv_aload_n hx hb dX3_turnUp_59 rfl (lv_at hl 1 rfl) ?_
        refine kx_getM (v := .ref (ad 72)) hx hb hts hown hG hw i3 22 (by decide) f_69 rfl dX3_turnUp_60 ?_
        refine lv_iload_n hx hb dX3_turnUp_63 rfl (lv_at hl 2 rfl) ?_
        refine kx_iald (v := (cmH (g 72 i_x))) hx hb hG hw (kC_I rfl) i_x (nI_clamp (by omega)) (vp_in_nI (by omega) (by decide)) (by simp [mComes, sU, upd]) dX3_turnUp_64 ?_
        exact kx_retI hQ hx hb hr hlk hw hS (Nat.le_of_ble_eq_true rfl) (Nat.le_of_ble_eq_true rfl) dX3_turnUp_65 (kd_i (trivial) ((rv_0 h0).trans (by simp only [hcl_x])) ((mk_0 h0).trans (by simp only [hcl_x])))
      · have h0 : ¬ kd2 (isF n x && inn room 0 5) (decide (g 65 x.toNatClampNeg = 2)) = 0 := of_decide_eq_false c_48
        refine lv_iconst (v := 0) hx hb dX3_turnUp_51 (by decide) ?_
        exact kx_retI hQ hx hb hr hlk hw hS (Nat.le_of_ble_eq_true rfl) (Nat.le_of_ble_eq_true rfl) dX3_turnUp_52 (kd_i (trivial) (rv_n h0) (mk_n h0))
    refine kb_ne (tgt := 30) hx hb dX3_turnUp_23 (by decide) (fun c_23 => ?_) (fun c_23 => ?_)
    · have v_x : vp_in x 30 := isF_vp (and_l (c_23)) hn30 (by decide)
      have w_x : x.toNatClampNeg < n := isF_lt (and_l (c_23)) hn30
      have v_room : vp_in room 6 := inn_vp (and_r (c_23)) (by decide)
      refine lv_aload_n hx hb dX3_turnUp_30 rfl (lv_at hl 1 rfl) ?_
      refine kx_getM (v := .ref (ad 65)) hx hb hts hown hG hw i3 15 (by decide) f_47 rfl dX3_turnUp_31 ?_
      refine lv_iload_n hx hb dX3_turnUp_34 rfl (lv_at hl 2 rfl) ?_
      refine kx_iald (v := (g 65 x.toNatClampNeg)) hx hb hG hw (kC_I rfl) x.toNatClampNeg rfl (by first | assumption | exact ix_of (by assumption) (by assumption) rfl (by decide)) rfl dX3_turnUp_35 ?_
      refine lv_iconst (v := 2) hx hb dX3_turnUp_36 (by decide) ?_
      refine lv_icmp_eq (tgt := 44) hx hb dX3_turnUp_37 (by decide) (fun c_37 => ?_) (fun c_37 => ?_)
      · refine lv_iconst (v := 0) hx hb dX3_turnUp_44 (by decide) ?_
        exact kx_top (v := (kd2 (isF n x && inn room 0 5) (decide (g 65 x.toNatClampNeg = 2)))) (by first | (simp only [bq, c_23, decide_eq_true c_37, if_pos c_37]; done) | (simp only [bq, c_23, decide_eq_true c_37, if_pos c_37]; rfl) | simp [bq, c_23, decide_eq_true c_37, if_pos c_37]) (hj_45_1 _ _ _ hw hS hl)
      · refine lv_iconst (v := 2) hx hb dX3_turnUp_40 (by decide) ?_
        refine lv_goto (tgt := 45) hx hb dX3_turnUp_41 (by decide) ?_
        exact kx_top (v := (kd2 (isF n x && inn room 0 5) (decide (g 65 x.toNatClampNeg = 2)))) (by first | (simp only [bq, c_23, decide_eq_false c_37, if_neg c_37]; done) | (simp only [bq, c_23, decide_eq_false c_37, if_neg c_37]; rfl) | simp [bq, c_23, decide_eq_false c_37, if_neg c_37]) (hj_45_1 _ _ _ hw hS hl)
    · refine lv_iconst (v := 1) hx hb dX3_turnUp_26 (by decide) ?_
      refine lv_goto (tgt := 45) hx hb dX3_turnUp_27 (by decide) ?_
      exact kx_top (v := (kd2 (isF n x && inn room 0 5) (decide (g 65 x.toNatClampNeg = 2)))) (by first | (simp only [bq, c_23]; done) | (simp only [bq, c_23]; rfl) | simp [bq, c_23]) (hj_45_1 _ _ _ hw hS hl)
  refine kb_eq (tgt := 19) hx hb dX3_turnUp_5 (by decide) (fun c_5 => ?_) (fun c_5 => ?_)
  · refine lv_iconst (v := 0) hx hb dX3_turnUp_19 (by decide) ?_
    exact kx_top (v := (b2 ((isF n x) && (inn room 0 5)))) (by first | (simp only [bq, c_5]; done) | (simp only [bq, c_5]; rfl) | simp [bq, c_5]) (hj_20_0 _ _ _ hw hS hl)
  · have v_x : vp_in x 30 := isF_vp (c_5) hn30 (by decide)
    have w_x : x.toNatClampNeg < n := isF_lt (c_5) hn30
    refine lv_iload_n hx hb dX3_turnUp_8 rfl (lv_at hl 2 rfl) ?_
    refine kx_do0 (st1 := [.int (b2 (inn room 0 5))]) (kx_cs (As := [.int room]) (rest := []) hF hG hw hS hl.1 (c_X3_isRoom l hfl D cy base ad n nc g room ) gX3_turnUp_X3_isRoom rfl rfl rfl hd_X3_isRoom ⟨Nat.le_of_ble_eq_true rfl, Nat.le_of_ble_eq_true rfl⟩ rfl rfl (Nat.le_of_ble_eq_true rfl) dX3_turnUp_9 ⟨Nat.le_of_ble_eq_true rfl, Nat.le_of_ble_eq_true rfl⟩) hS rfl (fun H locs hw hS => ?_)
    refine kb_eq (tgt := 19) hx hb dX3_turnUp_12 (by decide) (fun c_12 => ?_) (fun c_12 => ?_)
    · refine lv_iconst (v := 0) hx hb dX3_turnUp_19 (by decide) ?_
      exact kx_top (v := (b2 ((isF n x) && (inn room 0 5)))) (by first | (simp only [bq, c_5, c_12]; done) | (simp only [bq, c_5, c_12]; rfl) | simp [bq, c_5, c_12]) (hj_20_0 _ _ _ hw hS hl)
    · have v_room : vp_in room 6 := inn_vp (c_12) (by decide)
      refine lv_iconst (v := 1) hx hb dX3_turnUp_15 (by decide) ?_
      refine lv_goto (tgt := 20) hx hb dX3_turnUp_16 (by decide) ?_
      exact kx_top (v := (b2 ((isF n x) && (inn room 0 5)))) (by first | (simp only [bq, c_5, c_12]; done) | (simp only [bq, c_5, c_12]; rfl) | simp [bq, c_5, c_12]) (hj_20_0 _ _ _ hw hS hl)
theorem hd_X3_hold : yX3_hold.cls = RX3 ∧ yX3_hold.cls ≠ "java/lang/invoke/MethodHandle" ∧ yX3_hold.cls ≠ "java/lang/invoke/VarHandle" ∧ (parseMethodDescriptor yX3_hold.desc).map (fun d => d.parameters.length) = some 2 := by decide +kernel
set_option maxHeartbeats 4000000 in
set_option maxRecDepth 100000 in
theorem c_X3_hold (l : Launch) (hfl : l.stackTraces = false) (D : va_G) (cy : Nat → ClassId) (base : Nat) (ad : Nat → Nat) (n nc : Nat) (g : sg) (x : Int32) (is : Bool) (hfn : g 9 8 = nI n) (hz : ∀ i, i < n → g 69 i = 0 ∨ g 69 i = 1) : kM l yX3_hold wsX3_hold (kR 2 0 0) D cy base ad n nc g [.ref (ad 9), .int x, .int (b2 is)] (kD True (some (.int (b2 (decide (kd2 (isF n x) (mHere g x.toNatClampNeg) = 0) && (!decide (g 69 x.toNatClampNeg = 0)))))) ad n nc (mk (kd2 (isF n x) (mHere g x.toNatClampNeg)) (sU (sU g 9 0 0) 69 x.toNatClampNeg (b2 is)) g)) kNo 0 0 := by
  refine kx_meth (cc := cX3_hold) (maxL := 5) (ret := (some .boolean)) (by decide) rfl (Nat.le_of_ble_eq_true rfl) ?_
  intro p e s m args below meth c ls hx hb hr hml hown hts hlk hT hG hw0 hS0 hl Q H locs hQ hw hS hH0 hlocs0
  have hl : lv_has ls 5 [(0, .ref (ad 9)), (1, .int x), (2, .int (b2 is))] := hl
  have hown : s.vm.findClass RX3 = some m.cls := hown
  have hF : CallFix p m c cX3_hold 5 s args wsX3_hold RX3 := ⟨hx, hb, hml, hown, hts⟩
  have hn30 : n ≤ 30 := hw.2.2.1
  have hc20 : nc ≤ 20 := hw.2.2.2
  clear hw0 hS0 hH0 hlocs0
  have i3 : ∀ w ∈ wsX30, w ∈ wsX3_hold := by decide +kernel
  have f_59 := hts (.fieldLink RX3 59 "LostroomModel" "areHeld" "[Z") (by decide +kernel)
  refine lv_aload_n hx hb dX3_hold_0 rfl (lv_at hl 0 rfl) ?_
  refine lv_iload_n hx hb dX3_hold_1 rfl (lv_at hl 1 rfl) ?_
  refine kx_do0 (st1 := [.int (b2 (isF n x))]) (kx_cv (As := [.int x]) (rest := []) hF hG hw hS hl.1 kC_9 rfl (c_X3_isFind l hfl D cy base ad n nc g x (by first | assumption | omega | simp [sU, hfn, hz])) gX3_hold_X3_isFind rfl rfl rfl hd_X3_isFind ⟨Nat.le_of_ble_eq_true rfl, Nat.le_of_ble_eq_true rfl⟩ rfl rfl (Nat.le_of_ble_eq_true rfl) dX3_hold_2 ⟨Nat.le_of_ble_eq_true rfl, Nat.le_of_ble_eq_true rfl⟩) hS rfl (fun H locs hw hS => ?_)
  refine lv_istore_n (lv' := [(3, .int (b2 (isF n x))), (0, .ref (ad 9)), (1, .int x), (2, .int (b2 is))]) hx hb dX3_hold_5 rfl hl (by decide) rfl (fun ls hl => ?_)
  refine lv_aload_n hx hb dX3_hold_6 rfl (lv_at hl 1 rfl) ?_
  refine lv_iload_n hx hb dX3_hold_7 rfl (lv_at hl 0 rfl) ?_
  have hj_28_0 : ∀ (H : Heap) (locs : List Loc) (ls : Array Slot), kW D cy base ad n nc g H → va_S (kA base) s.heap H locs → lv_has ls 5 [(3, .int (b2 (isF n x))), (0, .ref (ad 9)), (1, .int x), (2, .int (b2 is))] → W p l e (kR 2 0 0) s m args below meth c H locs 0 0 Q (F0 m 28 ls [.int (kd2 (isF n x) (mHere g x.toNatClampNeg)), .ref (ad 9)]) := by
    intro H locs ls hw hS hl
    refine kx_do0 (st1 := [.int (b2 (decide ((kd2 (isF n x) (mHere g x.toNatClampNeg)) = 0)))]) (kx_cv (As := [.int (kd2 (isF n x) (mHere g x.toNatClampNeg))]) (rest := []) hF hG hw hS hl.1 kC_9 rfl (c_X3_holds l hfl D cy base ad n nc g (kd2 (isF n x) (mHere g x.toNatClampNeg)) ) gX3_hold_X3_holds rfl rfl rfl hd_X3_holds ⟨Nat.le_of_ble_eq_true rfl, Nat.le_of_ble_eq_true rfl⟩ rfl rfl (Nat.le_of_ble_eq_true rfl) dX3_hold_28 ⟨Nat.le_of_ble_eq_true rfl, Nat.le_of_ble_eq_true rfl⟩) hS rfl (fun H locs hw hS => ?_)
    refine kb_ne (tgt := 36) hx hb dX3_hold_31 (by decide) (fun c_31 => ?_) (fun c_31 => ?_)
    · have h0 : kd2 (isF n x) (mHere g x.toNatClampNeg) = 0 := of_decide_eq_true c_31
      rw [h0] at hw
      have hk := kd2_0.mp h0
      obtain ⟨i_x, hi_x, rfl⟩ := isF_ex (hk.1) hn30
      have hcl_x : (nI i_x).toNatClampNeg = i_x := cl_nI (by omega)
      refine lv_aload_n hx hb dX3_hold_36 rfl (lv_at hl 1 rfl) ?_
      refine kx_getM (v := .ref (ad 69)) hx hb hts hown hG hw i3 19 (by decide) f_59 rfl dX3_hold_37 ?_
      refine lv_iload_n hx hb dX3_hold_40 rfl (lv_at hl 2 rfl) ?_
      refine kx_zald (v := (g 69 i_x)) hx hb hG hw i_x (nI_clamp (by omega)) (vp_in_nI (by omega) (by decide)) (sU_k _ _ _ _ (by omega)) dX3_hold_41 ?_
      refine lv_istore (lv' := [(4, .int (g 69 i_x)), (3, .int (b2 (isF n (nI i_x)))), (0, .ref (ad 9)), (1, .int (nI i_x)), (2, .int (b2 is))]) hx hb dX3_hold_42 hl (by decide) rfl (fun ls hl => ?_)
      refine lv_aload_n hx hb dX3_hold_44 rfl (lv_at hl 2 rfl) ?_
      refine kx_getM (v := .ref (ad 69)) hx hb hts hown hG hw i3 19 (by decide) f_59 rfl dX3_hold_45 ?_
      refine lv_iload_n hx hb dX3_hold_48 rfl (lv_at hl 3 rfl) ?_
      refine lv_iload_n hx hb dX3_hold_49 rfl (lv_at hl 4 rfl) ?_
      refine kx_zast hx hb hG hw hS i_x (nI_clamp (by omega)) (vp_in_nI (by omega) (by decide)) (nar_b2 _) dX3_hold_50 (fun H locs hw hS => ?_)
      refine lv_iload hx hb dX3_hold_51 (lv_at hl 0 rfl) ?_
      exact kx_retZ hQ hx hb hr hlk hw hS (Nat.le_of_ble_eq_true rfl) (Nat.le_of_ble_eq_true rfl) dX3_hold_53 (by rcases hz i_x hi_x with h9 | h9 <;> rw [h9] <;> rfl) (kd_i (trivial) ((zv_0 h0).trans (by rcases hz i_x hi_x with h9 | h9 <;> simp [b2, h9, hcl_x])) ((mk_0 h0).trans (by simp only [hcl_x])))
    · have h0 : ¬ kd2 (isF n x) (mHere g x.toNatClampNeg) = 0 := of_decide_eq_false c_31
      refine lv_iconst (v := 0) hx hb dX3_hold_34 (by decide) ?_
      exact kx_retZ hQ hx hb hr hlk hw hS (Nat.le_of_ble_eq_true rfl) (Nat.le_of_ble_eq_true rfl) dX3_hold_35 rfl (kd_i (trivial) (zv_n h0) (mk_n h0))
  refine kb_ne (tgt := 15) hx hb dX3_hold_8 (by decide) (fun c_8 => ?_) (fun c_8 => ?_)
  · have v_x : vp_in x 30 := isF_vp (c_8) hn30 (by decide)
    have w_x : x.toNatClampNeg < n := isF_lt (c_8) hn30
    refine lv_aload_n hx hb dX3_hold_15 rfl (lv_at hl 1 rfl) ?_
    refine lv_iload_n hx hb dX3_hold_16 rfl (lv_at hl 2 rfl) ?_
    refine W.eq (g2 := F0 m 17 ls [.int (nI (x.toNatClampNeg)), .ref (ad 9), .ref (ad 9)]) (by rw [nI_cl (x := x) (by assumption)]) ?_
    refine kx_do0 (st1 := [.int (b2 (mHere g (x.toNatClampNeg))), .ref (ad 9)]) (kx_cv (As := [.int (nI (x.toNatClampNeg))]) (rest := [.ref (ad 9)]) hF hG hw hS hl.1 kC_9 rfl (c_X3_isHere l hfl D cy base ad n nc g (x.toNatClampNeg) (by first | assumption | omega | simp [sU, hfn, hz])) gX3_hold_X3_isHere rfl rfl rfl hd_X3_isHere ⟨Nat.le_of_ble_eq_true rfl, Nat.le_of_ble_eq_true rfl⟩ rfl rfl (Nat.le_of_ble_eq_true rfl) dX3_hold_17 ⟨Nat.le_of_ble_eq_true rfl, Nat.le_of_ble_eq_true rfl⟩) hS rfl (fun H locs hw hS => ?_)
    refine kb_eq (tgt := 27) hx hb dX3_hold_20 (by decide) (fun c_20 => ?_) (fun c_20 => ?_)
    · refine lv_iconst (v := 2) hx hb dX3_hold_27 (by decide) ?_
      exact kx_top (v := (kd2 (isF n x) (mHere g x.toNatClampNeg))) (by first | (simp only [bq, c_8, c_20]; done) | (simp only [bq, c_8, c_20]; rfl) | simp [bq, c_8, c_20]) (hj_28_0 _ _ _ hw hS hl)
    · refine lv_iconst (v := 0) hx hb dX3_hold_23 (by decide) ?_
      refine lv_goto (tgt := 28) hx hb dX3_hold_24 (by decide) ?_
      exact kx_top (v := (kd2 (isF n x) (mHere g x.toNatClampNeg))) (by first | (simp only [bq, c_8, c_20]; done) | (simp only [bq, c_8, c_20]; rfl) | simp [bq, c_8, c_20]) (hj_28_0 _ _ _ hw hS hl)
  · refine lv_iconst (v := 1) hx hb dX3_hold_11 (by decide) ?_
    refine lv_goto (tgt := 28) hx hb dX3_hold_12 (by decide) ?_
    exact kx_top (v := (kd2 (isF n x) (mHere g x.toNatClampNeg))) (by first | (simp only [bq, c_8]; done) | (simp only [bq, c_8]; rfl) | simp [bq, c_8]) (hj_28_0 _ _ _ hw hS hl)
