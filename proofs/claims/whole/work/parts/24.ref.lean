/-! walks laid by wip/whole/kgen.py, kall.py -/
theorem hd_X3_claim : yX3_claim.cls = RX3 ∧ yX3_claim.cls ≠ "java/lang/invoke/MethodHandle" ∧ yX3_claim.cls ≠ "java/lang/invoke/VarHandle" ∧ (parseMethodDescriptor yX3_claim.desc).map (fun d => d.parameters.length) = some 5 := by decide +kernel
set_option maxHeartbeats 4000000 in
set_option maxRecDepth 100000 in
theorem c_X3_claim (l : Launch) (hfl : l.stackTraces = false) (D : va_G) (cy : Nat → ClassId) (base : Nat) (ad : Nat → Nat) (n nc : Nat) (g : sg) (kind : Int32) (place : Int32) (fr : Int32) (to : Int32) (set : Int32) (hcn : g 9 25 = nI nc) : kM l yX3_claim wsX3_claim (kR 2 0 0) D cy base ad n nc g [.ref (ad 9), .int kind, .int place, .int fr, .int to, .int set] (kD True (some (.int (rv (kd3 (inn kind 0 7 && inn place 0 9) (inn fr 0 (g 9 1) && (inn to fr (g 9 1) && inn set 0 16777215)) (!decide (nI nc = 20))) (nI nc)))) ad n nc (mk (kd3 (inn kind 0 7 && inn place 0 9) (inn fr 0 (g 9 1) && (inn to fr (g 9 1) && inn set 0 16777215)) (!decide (nI nc = 20))) (mClaim g nc kind place fr to set) g)) kNo 0 0 := by
  refine kx_meth (cc := cX3_claim) (maxL := 8) (ret := (some .int)) (by decide) rfl (Nat.le_of_ble_eq_true rfl) ?_
  intro p e s m args below meth c ls hx hb hr hml hown hts hlk hT hG hw0 hS0 hl Q H locs hQ hw hS hH0 hlocs0
  have hl : lv_has ls 8 [(0, .ref (ad 9)), (1, .int kind), (2, .int place), (3, .int fr), (4, .int to), (5, .int set)] := hl
  have hown : s.vm.findClass RX3 = some m.cls := hown
  have hF : CallFix p m c cX3_claim 8 s args wsX3_claim RX3 := ⟨hx, hb, hml, hown, hts⟩
  have hn30 : n ≤ 30 := hw.2.2.1
  have hc20 : nc ≤ 20 := hw.2.2.2
  clear hw0 hS0 hH0 hlocs0
  have i3 : ∀ w ∈ wsX30, w ∈ wsX3_claim := by decide +kernel
  have f_78 := hts (.fieldLink RX3 78 "LostroomModel" "claimKind" "[I") (by decide +kernel)
  have f_81 := hts (.fieldLink RX3 81 "LostroomModel" "claimPlace" "[I") (by decide +kernel)
  have f_84 := hts (.fieldLink RX3 84 "LostroomModel" "froms" "[I") (by decide +kernel)
  have f_87 := hts (.fieldLink RX3 87 "LostroomModel" "tos" "[I") (by decide +kernel)
  have f_90 := hts (.fieldLink RX3 90 "LostroomModel" "said" "[I") (by decide +kernel)
  have f_93 := hts (.fieldLink RX3 93 "LostroomModel" "tolds" "[I") (by decide +kernel)
  have f_96 := hts (.fieldLink RX3 96 "LostroomModel" "claimState" "[I") (by decide +kernel)
  have f_102 := hts (.fieldLink RX3 102 "LostroomModel" "servedBy" "[I") (by decide +kernel)
  have f_116 := hts (.fieldLink RX3 116 "LostroomModel" "claims" "I") (by decide +kernel)
  have f_136 := hts (.fieldLink RX3 136 "LostroomModel" "today" "I") (by decide +kernel)
  refine lv_iload_n hx hb dX3_claim_0 rfl (lv_at hl 1 rfl) ?_
  refine kx_do0 (st1 := [.int (b2 (inn kind 0 7))]) (kx_cs (As := [.int kind]) (rest := []) hF hG hw hS hl.1 (c_X3_isKind l hfl D cy base ad n nc g kind ) gX3_claim_X3_isKind rfl rfl rfl hd_X3_isKind ⟨Nat.le_of_ble_eq_true rfl, Nat.le_of_ble_eq_true rfl⟩ rfl rfl (Nat.le_of_ble_eq_true rfl) dX3_claim_1 ⟨Nat.le_of_ble_eq_true rfl, Nat.le_of_ble_eq_true rfl⟩) hS rfl (fun H locs hw hS => ?_)
  have hj_19_0 : ∀ (H : Heap) (locs : List Loc) (ls : Array Slot), kW D cy base ad n nc g H → va_S (kA base) s.heap H locs → lv_has ls 8 [(0, .ref (ad 9)), (1, .int kind), (2, .int place), (3, .int fr), (4, .int to), (5, .int set)] → W p l e (kR 2 0 0) s m args below meth c H locs 0 0 Q (F0 m 19 ls [.int (b2 ((inn kind 0 7) && (inn place 0 9)))]) := by
    intro H locs ls hw hS hl
    refine lv_istore (lv' := [(6, .int (b2 ((inn kind 0 7) && (inn place 0 9)))), (0, .ref (ad 9)), (1, .int kind), (2, .int place), (3, .int fr), (4, .int to), (5, .int set)]) hx hb dX3_claim_19 hl (by decide) rfl (fun ls hl => ?_)
    refine lv_iload_n hx hb dX3_claim_21 rfl (lv_at hl 4 rfl) ?_
    refine lv_iconst (v := 0) hx hb dX3_claim_22 (by decide) ?_
    refine lv_aload_n hx hb dX3_claim_23 rfl (lv_at hl 1 rfl) ?_
    refine kx_getM (v := .int (g 9 1)) hx hb hts hown hG hw i3 1 (by decide) f_136 rfl dX3_claim_24 ?_
    refine kx_do0 (st1 := [.int (b2 (inn fr (0 : Int32) (g 9 1)))]) (kx_cs (As := [.int fr, .int (0 : Int32), .int (g 9 1)]) (rest := []) hF hG hw hS hl.1 (c_X3_in l hfl D cy base ad n nc g fr (0 : Int32) (g 9 1) ) gX3_claim_X3_in rfl rfl rfl hd_X3_in ⟨Nat.le_of_ble_eq_true rfl, Nat.le_of_ble_eq_true rfl⟩ rfl rfl (Nat.le_of_ble_eq_true rfl) dX3_claim_27 ⟨Nat.le_of_ble_eq_true rfl, Nat.le_of_ble_eq_true rfl⟩) hS rfl (fun H locs hw hS => ?_)
    have hj_59_1 : ∀ (H : Heap) (locs : List Loc) (ls : Array Slot), kW D cy base ad n nc g H → va_S (kA base) s.heap H locs → lv_has ls 8 [(6, .int (b2 ((inn kind 0 7) && (inn place 0 9)))), (0, .ref (ad 9)), (1, .int kind), (2, .int place), (3, .int fr), (4, .int to), (5, .int set)] → W p l e (kR 2 0 0) s m args below meth c H locs 0 0 Q (F0 m 59 ls [.int (b2 ((inn fr (0 : Int32) (g 9 1)) && ((inn to fr (g 9 1)) && (inn set 0 16777215))))]) := by
      intro H locs ls hw hS hl
      refine lv_istore (lv' := [(7, .int (b2 ((inn fr (0 : Int32) (g 9 1)) && ((inn to fr (g 9 1)) && (inn set 0 16777215))))), (6, .int (b2 ((inn kind 0 7) && (inn place 0 9)))), (0, .ref (ad 9)), (1, .int kind), (2, .int place), (3, .int fr), (4, .int to), (5, .int set)]) hx hb dX3_claim_59 hl (by decide) rfl (fun ls hl => ?_)
      refine lv_aload_n hx hb dX3_claim_61 rfl (lv_at hl 2 rfl) ?_
      refine lv_iload hx hb dX3_claim_62 (lv_at hl 1 rfl) ?_
      have hj_94_2 : ∀ (H : Heap) (locs : List Loc) (ls : Array Slot), kW D cy base ad n nc g H → va_S (kA base) s.heap H locs → lv_has ls 8 [(7, .int (b2 ((inn fr (0 : Int32) (g 9 1)) && ((inn to fr (g 9 1)) && (inn set 0 16777215))))), (6, .int (b2 ((inn kind 0 7) && (inn place 0 9)))), (0, .ref (ad 9)), (1, .int kind), (2, .int place), (3, .int fr), (4, .int to), (5, .int set)] → W p l e (kR 2 0 0) s m args below meth c H locs 0 0 Q (F0 m 94 ls [.int (kd3 (inn kind 0 7 && inn place 0 9) (inn fr 0 (g 9 1) && (inn to fr (g 9 1) && inn set 0 16777215)) (!decide (nI nc = 20))), .ref (ad 9)]) := by
        intro H locs ls hw hS hl
        refine kx_do0 (st1 := [.int (b2 (decide ((kd3 (inn kind 0 7 && inn place 0 9) (inn fr 0 (g 9 1) && (inn to fr (g 9 1) && inn set 0 16777215)) (!decide (nI nc = 20))) = 0)))]) (kx_cv (As := [.int (kd3 (inn kind 0 7 && inn place 0 9) (inn fr 0 (g 9 1) && (inn to fr (g 9 1) && inn set 0 16777215)) (!decide (nI nc = 20)))]) (rest := []) hF hG hw hS hl.1 kC_9 rfl (c_X3_holds l hfl D cy base ad n nc g (kd3 (inn kind 0 7 && inn place 0 9) (inn fr 0 (g 9 1) && (inn to fr (g 9 1) && inn set 0 16777215)) (!decide (nI nc = 20))) ) gX3_claim_X3_holds rfl rfl rfl hd_X3_holds ⟨Nat.le_of_ble_eq_true rfl, Nat.le_of_ble_eq_true rfl⟩ rfl rfl (Nat.le_of_ble_eq_true rfl) dX3_claim_94 ⟨Nat.le_of_ble_eq_true rfl, Nat.le_of_ble_eq_true rfl⟩) hS rfl (fun H locs hw hS => ?_)
        refine kb_ne (tgt := 102) hx hb dX3_claim_97 (by decide) (fun c_97 => ?_) (fun c_97 => ?_)
        · have h0 : kd3 (inn kind 0 7 && inn place 0 9) (inn fr 0 (g 9 1) && (inn to fr (g 9 1) && inn set 0 16777215)) (!decide (nI nc = 20)) = 0 := of_decide_eq_true c_97
          rw [h0] at hw
          have hk := kd3_0.mp h0
          have v_kind : vp_in kind 8 := inn_vp (and_l (hk.1)) (by decide)
          have v_place : vp_in place 10 := inn_vp (and_r (hk.1)) (by decide)
          have hnl : nc < 20 := nlt_of hk.2.2 hc20 rfl
          refine lv_aload_n hx hb dX3_claim_102 rfl (lv_at hl 2 rfl) ?_
          refine kx_getM (v := .ref (ad 76)) hx hb hts hown hG hw i3 26 (by decide) f_78 rfl dX3_claim_103 ?_
          refine lv_aload_n hx hb dX3_claim_106 rfl (lv_at hl 2 rfl) ?_
          refine kx_getM (v := .int (nI nc)) hx hb hts hown hG hw i3 25 (by decide) f_116 (congrArg Value.int ((sU_j _ _ _ _ (by decide)).trans (hcn))) dX3_claim_107 ?_
          refine lv_iload_n hx hb dX3_claim_110 rfl (lv_at hl 3 rfl) ?_
          refine kx_iast hx hb hG hw hS (fun _ => (kC_I rfl)) nc (nI_clamp (by omega)) (vp_in_nI (by omega) (by decide)) dX3_claim_111 (fun H locs hw hS => ?_)
          refine lv_aload_n hx hb dX3_claim_112 rfl (lv_at hl 2 rfl) ?_
          refine kx_getM (v := .ref (ad 77)) hx hb hts hown hG hw i3 27 (by decide) f_81 rfl dX3_claim_113 ?_
          refine lv_aload_n hx hb dX3_claim_116 rfl (lv_at hl 2 rfl) ?_
          refine kx_getM (v := .int (nI nc)) hx hb hts hown hG hw i3 25 (by decide) f_116 (congrArg Value.int ((sU_k _ _ _ _ (by omega)).trans ((sU_j _ _ _ _ (by decide)).trans (hcn)))) dX3_claim_117 ?_
          refine lv_iload_n hx hb dX3_claim_120 rfl (lv_at hl 4 rfl) ?_
          refine kx_iast hx hb hG hw hS (fun _ => (kC_I rfl)) nc (nI_clamp (by omega)) (vp_in_nI (by omega) (by decide)) dX3_claim_121 (fun H locs hw hS => ?_)
          refine lv_aload_n hx hb dX3_claim_122 rfl (lv_at hl 2 rfl) ?_
          refine kx_getM (v := .ref (ad 78)) hx hb hts hown hG hw i3 28 (by decide) f_84 rfl dX3_claim_123 ?_
          refine lv_aload_n hx hb dX3_claim_126 rfl (lv_at hl 2 rfl) ?_
          refine kx_getM (v := .int (nI nc)) hx hb hts hown hG hw i3 25 (by decide) f_116 (congrArg Value.int ((sU_k _ _ _ _ (by omega)).trans ((sU_k _ _ _ _ (by omega)).trans ((sU_j _ _ _ _ (by decide)).trans (hcn))))) dX3_claim_127 ?_
          refine lv_iload_n hx hb dX3_claim_130 rfl (lv_at hl 5 rfl) ?_
          refine kx_iast hx hb hG hw hS (fun _ => (kC_I rfl)) nc (nI_clamp (by omega)) (vp_in_nI (by omega) (by decide)) dX3_claim_131 (fun H locs hw hS => ?_)
          refine lv_aload_n hx hb dX3_claim_132 rfl (lv_at hl 2 rfl) ?_
          refine kx_getM (v := .ref (ad 79)) hx hb hts hown hG hw i3 29 (by decide) f_87 rfl dX3_claim_133 ?_
          refine lv_aload_n hx hb dX3_claim_136 rfl (lv_at hl 2 rfl) ?_
          refine kx_getM (v := .int (nI nc)) hx hb hts hown hG hw i3 25 (by decide) f_116 (congrArg Value.int ((sU_k _ _ _ _ (by omega)).trans ((sU_k _ _ _ _ (by omega)).trans ((sU_k _ _ _ _ (by omega)).trans ((sU_j _ _ _ _ (by decide)).trans (hcn)))))) dX3_claim_137 ?_
          refine lv_iload hx hb dX3_claim_140 (lv_at hl 6 rfl) ?_
          refine kx_iast hx hb hG hw hS (fun _ => (kC_I rfl)) nc (nI_clamp (by omega)) (vp_in_nI (by omega) (by decide)) dX3_claim_142 (fun H locs hw hS => ?_)
          refine lv_aload_n hx hb dX3_claim_143 rfl (lv_at hl 2 rfl) ?_
          refine kx_getM (v := .ref (ad 80)) hx hb hts hown hG hw i3 30 (by decide) f_90 rfl dX3_claim_144 ?_
          refine lv_aload_n hx hb dX3_claim_147 rfl (lv_at hl 2 rfl) ?_
          refine kx_getM (v := .int (nI nc)) hx hb hts hown hG hw i3 25 (by decide) f_116 (congrArg Value.int ((sU_k _ _ _ _ (by omega)).trans ((sU_k _ _ _ _ (by omega)).trans ((sU_k _ _ _ _ (by omega)).trans ((sU_k _ _ _ _ (by omega)).trans ((sU_j _ _ _ _ (by decide)).trans (hcn))))))) dX3_claim_148 ?_
          refine lv_iload hx hb dX3_claim_151 (lv_at hl 7 rfl) ?_
          refine kx_iast hx hb hG hw hS (fun _ => (kC_I rfl)) nc (nI_clamp (by omega)) (vp_in_nI (by omega) (by decide)) dX3_claim_153 (fun H locs hw hS => ?_)
          refine lv_aload_n hx hb dX3_claim_154 rfl (lv_at hl 2 rfl) ?_
          refine kx_getM (v := .ref (ad 81)) hx hb hts hown hG hw i3 31 (by decide) f_93 rfl dX3_claim_155 ?_
          refine lv_aload_n hx hb dX3_claim_158 rfl (lv_at hl 2 rfl) ?_
          refine kx_getM (v := .int (nI nc)) hx hb hts hown hG hw i3 25 (by decide) f_116 (congrArg Value.int ((sU_k _ _ _ _ (by omega)).trans ((sU_k _ _ _ _ (by omega)).trans ((sU_k _ _ _ _ (by omega)).trans ((sU_k _ _ _ _ (by omega)).trans ((sU_k _ _ _ _ (by omega)).trans ((sU_j _ _ _ _ (by decide)).trans (hcn)))))))) dX3_claim_159 ?_
          refine lv_iconst (v := 0) hx hb dX3_claim_162 (by decide) ?_
          refine kx_iast hx hb hG hw hS (fun _ => (kC_I rfl)) nc (nI_clamp (by omega)) (vp_in_nI (by omega) (by decide)) dX3_claim_163 (fun H locs hw hS => ?_)
          refine lv_aload_n hx hb dX3_claim_164 rfl (lv_at hl 2 rfl) ?_
          refine kx_getM (v := .ref (ad 82)) hx hb hts hown hG hw i3 32 (by decide) f_96 rfl dX3_claim_165 ?_
          refine lv_aload_n hx hb dX3_claim_168 rfl (lv_at hl 2 rfl) ?_
          refine kx_getM (v := .int (nI nc)) hx hb hts hown hG hw i3 25 (by decide) f_116 (congrArg Value.int ((sU_k _ _ _ _ (by omega)).trans ((sU_k _ _ _ _ (by omega)).trans ((sU_k _ _ _ _ (by omega)).trans ((sU_k _ _ _ _ (by omega)).trans ((sU_k _ _ _ _ (by omega)).trans ((sU_k _ _ _ _ (by omega)).trans ((sU_j _ _ _ _ (by decide)).trans (hcn))))))))) dX3_claim_169 ?_
          refine lv_iconst (v := 0) hx hb dX3_claim_172 (by decide) ?_
          refine kx_iast hx hb hG hw hS (fun _ => (kC_I rfl)) nc (nI_clamp (by omega)) (vp_in_nI (by omega) (by decide)) dX3_claim_173 (fun H locs hw hS => ?_)
          refine lv_aload_n hx hb dX3_claim_174 rfl (lv_at hl 2 rfl) ?_
          refine kx_getM (v := .ref (ad 84)) hx hb hts hown hG hw i3 34 (by decide) f_102 rfl dX3_claim_175 ?_
          refine lv_aload_n hx hb dX3_claim_178 rfl (lv_at hl 2 rfl) ?_
          refine kx_getM (v := .int (nI nc)) hx hb hts hown hG hw i3 25 (by decide) f_116 (congrArg Value.int ((sU_k _ _ _ _ (by omega)).trans ((sU_k _ _ _ _ (by omega)).trans ((sU_k _ _ _ _ (by omega)).trans ((sU_k _ _ _ _ (by omega)).trans ((sU_k _ _ _ _ (by omega)).trans ((sU_k _ _ _ _ (by omega)).trans ((sU_k _ _ _ _ (by omega)).trans ((sU_j _ _ _ _ (by decide)).trans (hcn)))))))))) dX3_claim_179 ?_
          refine lv_iconst (v := -1) hx hb dX3_claim_182 (by decide) ?_
          refine kx_iast hx hb hG hw hS (fun _ => (kC_I rfl)) nc (nI_clamp (by omega)) (vp_in_nI (by omega) (by decide)) dX3_claim_183 (fun H locs hw hS => ?_)
          refine lv_aload_n hx hb dX3_claim_184 rfl (lv_at hl 2 rfl) ?_
          refine lv_dup hx hb dX3_claim_185 rfl ?_
          refine kx_getM (v := .int (nI nc)) hx hb hts hown hG hw i3 25 (by decide) f_116 (congrArg Value.int ((sU_k _ _ _ _ (by omega)).trans ((sU_k _ _ _ _ (by omega)).trans ((sU_k _ _ _ _ (by omega)).trans ((sU_k _ _ _ _ (by omega)).trans ((sU_k _ _ _ _ (by omega)).trans ((sU_k _ _ _ _ (by omega)).trans ((sU_k _ _ _ _ (by omega)).trans ((sU_k _ _ _ _ (by omega)).trans ((sU_j _ _ _ _ (by decide)).trans (hcn))))))))))) dX3_claim_186 ?_
          refine lv_iconst (v := 1) hx hb dX3_claim_189 (by decide) ?_
          refine lv_iadd hx hb dX3_claim_190 ?_
          refine kx_putM (v := ((nI nc) + (1 : Int32))) hx hb hts hown hG hw hS i3 25 (by decide) f_116 (by decide) rfl rfl rfl dX3_claim_191 (fun H locs hw hS => ?_)
          refine lv_aload_n hx hb dX3_claim_194 rfl (lv_at hl 2 rfl) ?_
          refine kx_getM (v := .int ((nI nc) + (1 : Int32))) hx hb hts hown hG hw i3 25 (by decide) f_116 (congrArg Value.int (sU_s _ _ _ _)) dX3_claim_195 ?_
          refine lv_iconst (v := 1) hx hb dX3_claim_198 (by decide) ?_
          refine lv_isub hx hb dX3_claim_199 ?_
          exact kx_retI hQ hx hb hr hlk hw hS (Nat.le_of_ble_eq_true rfl) (Nat.le_of_ble_eq_true rfl) dX3_claim_200 (kd_i (trivial) ((rv_0 h0).trans (by simp [Int32.add_sub_cancel])) ((mk_0 h0).trans (by rfl)))
        · have h0 : ¬ kd3 (inn kind 0 7 && inn place 0 9) (inn fr 0 (g 9 1) && (inn to fr (g 9 1) && inn set 0 16777215)) (!decide (nI nc = 20)) = 0 := of_decide_eq_false c_97
          refine lv_iconst (v := 0) hx hb dX3_claim_100 (by decide) ?_
          exact kx_retI hQ hx hb hr hlk hw hS (Nat.le_of_ble_eq_true rfl) (Nat.le_of_ble_eq_true rfl) dX3_claim_101 (kd_i (trivial) (rv_n h0) (mk_n h0))
      refine kb_ne (tgt := 71) hx hb dX3_claim_64 (by decide) (fun c_64 => ?_) (fun c_64 => ?_)
      · have v_kind : vp_in kind 8 := inn_vp (and_l (c_64)) (by decide)
        have v_place : vp_in place 10 := inn_vp (and_r (c_64)) (by decide)
        refine lv_iload hx hb dX3_claim_71 (lv_at hl 0 rfl) ?_
        refine kb_ne (tgt := 80) hx hb dX3_claim_73 (by decide) (fun c_73 => ?_) (fun c_73 => ?_)
        · refine lv_aload_n hx hb dX3_claim_80 rfl (lv_at hl 2 rfl) ?_
          refine kx_getM (v := .int (nI nc)) hx hb hts hown hG hw i3 25 (by decide) f_116 (congrArg Value.int (hcn)) dX3_claim_81 ?_
          refine lv_bipush (v := 20) hx hb dX3_claim_84 (by decide) ?_
          refine lv_icmp_ne (tgt := 93) hx hb dX3_claim_86 (by decide) (fun c_86 => ?_) (fun c_86 => ?_)
          · refine lv_iconst (v := 0) hx hb dX3_claim_93 (by decide) ?_
            exact kx_top (v := (kd3 (inn kind 0 7 && inn place 0 9) (inn fr 0 (g 9 1) && (inn to fr (g 9 1) && inn set 0 16777215)) (!decide (nI nc = 20)))) (by first | (simp only [bq, c_64, c_73, decide_eq_false c_86, if_neg c_86]; done) | (simp only [bq, c_64, c_73, decide_eq_false c_86, if_neg c_86]; rfl) | (simp [bq, c_64, c_73, decide_eq_false c_86, if_neg c_86]; done)) (hj_94_2 _ _ _ hw hS hl)
          · refine lv_iconst (v := 3) hx hb dX3_claim_89 (by decide) ?_
            refine lv_goto (tgt := 94) hx hb dX3_claim_90 (by decide) ?_
            exact kx_top (v := (kd3 (inn kind 0 7 && inn place 0 9) (inn fr 0 (g 9 1) && (inn to fr (g 9 1) && inn set 0 16777215)) (!decide (nI nc = 20)))) (by first | (simp only [bq, c_64, c_73, decide_eq_true c_86, if_pos c_86]; done) | (simp only [bq, c_64, c_73, decide_eq_true c_86, if_pos c_86]; rfl) | (simp [bq, c_64, c_73, decide_eq_true c_86, if_pos c_86]; done)) (hj_94_2 _ _ _ hw hS hl)
        · refine lv_iconst (v := 2) hx hb dX3_claim_76 (by decide) ?_
          refine lv_goto (tgt := 94) hx hb dX3_claim_77 (by decide) ?_
          exact kx_top (v := (kd3 (inn kind 0 7 && inn place 0 9) (inn fr 0 (g 9 1) && (inn to fr (g 9 1) && inn set 0 16777215)) (!decide (nI nc = 20)))) (by first | (simp only [bq, c_64, c_73]; done) | (simp only [bq, c_64, c_73]; rfl) | (simp [bq, c_64, c_73]; done)) (hj_94_2 _ _ _ hw hS hl)
      · refine lv_iconst (v := 1) hx hb dX3_claim_67 (by decide) ?_
        refine lv_goto (tgt := 94) hx hb dX3_claim_68 (by decide) ?_
        exact kx_top (v := (kd3 (inn kind 0 7 && inn place 0 9) (inn fr 0 (g 9 1) && (inn to fr (g 9 1) && inn set 0 16777215)) (!decide (nI nc = 20)))) (by first | (simp only [bq, c_64]; done) | (simp only [bq, c_64]; rfl) | (simp [bq, c_64]; done)) (hj_94_2 _ _ _ hw hS hl)
    refine kb_eq (tgt := 58) hx hb dX3_claim_30 (by decide) (fun c_30 => ?_) (fun c_30 => ?_)
    · refine lv_iconst (v := 0) hx hb dX3_claim_58 (by decide) ?_
      exact kx_top (v := (b2 ((inn fr (0 : Int32) (g 9 1)) && ((inn to fr (g 9 1)) && (inn set 0 16777215))))) (by first | (simp only [bq, c_30]; done) | (simp only [bq, c_30]; rfl) | (simp [bq, c_30]; done)) (hj_59_1 _ _ _ hw hS hl)
    · refine lv_iload hx hb dX3_claim_33 (lv_at hl 5 rfl) ?_
      refine lv_iload_n hx hb dX3_claim_35 rfl (lv_at hl 4 rfl) ?_
      refine lv_aload_n hx hb dX3_claim_36 rfl (lv_at hl 1 rfl) ?_
      refine kx_getM (v := .int (g 9 1)) hx hb hts hown hG hw i3 1 (by decide) f_136 rfl dX3_claim_37 ?_
      refine kx_do0 (st1 := [.int (b2 (inn to fr (g 9 1)))]) (kx_cs (As := [.int to, .int fr, .int (g 9 1)]) (rest := []) hF hG hw hS hl.1 (c_X3_in l hfl D cy base ad n nc g to fr (g 9 1) ) gX3_claim_X3_in rfl rfl rfl hd_X3_in ⟨Nat.le_of_ble_eq_true rfl, Nat.le_of_ble_eq_true rfl⟩ rfl rfl (Nat.le_of_ble_eq_true rfl) dX3_claim_40 ⟨Nat.le_of_ble_eq_true rfl, Nat.le_of_ble_eq_true rfl⟩) hS rfl (fun H locs hw hS => ?_)
      refine kb_eq (tgt := 58) hx hb dX3_claim_43 (by decide) (fun c_43 => ?_) (fun c_43 => ?_)
      · refine lv_iconst (v := 0) hx hb dX3_claim_58 (by decide) ?_
        exact kx_top (v := (b2 ((inn fr (0 : Int32) (g 9 1)) && ((inn to fr (g 9 1)) && (inn set 0 16777215))))) (by first | (simp only [bq, c_30, c_43]; done) | (simp only [bq, c_30, c_43]; rfl) | (simp [bq, c_30, c_43]; done)) (hj_59_1 _ _ _ hw hS hl)
      · refine lv_iload hx hb dX3_claim_46 (lv_at hl 6 rfl) ?_
        refine kx_do0 (st1 := [.int (b2 (inn set 0 16777215))]) (kx_cs (As := [.int set]) (rest := []) hF hG hw hS hl.1 (c_X3_isSet l hfl D cy base ad n nc g set ) gX3_claim_X3_isSet rfl rfl rfl hd_X3_isSet ⟨Nat.le_of_ble_eq_true rfl, Nat.le_of_ble_eq_true rfl⟩ rfl rfl (Nat.le_of_ble_eq_true rfl) dX3_claim_48 ⟨Nat.le_of_ble_eq_true rfl, Nat.le_of_ble_eq_true rfl⟩) hS rfl (fun H locs hw hS => ?_)
        refine kb_eq (tgt := 58) hx hb dX3_claim_51 (by decide) (fun c_51 => ?_) (fun c_51 => ?_)
        · refine lv_iconst (v := 0) hx hb dX3_claim_58 (by decide) ?_
          exact kx_top (v := (b2 ((inn fr (0 : Int32) (g 9 1)) && ((inn to fr (g 9 1)) && (inn set 0 16777215))))) (by first | (simp only [bq, c_30, c_43, c_51]; done) | (simp only [bq, c_30, c_43, c_51]; rfl) | (simp [bq, c_30, c_43, c_51]; done)) (hj_59_1 _ _ _ hw hS hl)
        · refine lv_iconst (v := 1) hx hb dX3_claim_54 (by decide) ?_
          refine lv_goto (tgt := 59) hx hb dX3_claim_55 (by decide) ?_
          exact kx_top (v := (b2 ((inn fr (0 : Int32) (g 9 1)) && ((inn to fr (g 9 1)) && (inn set 0 16777215))))) (by first | (simp only [bq, c_30, c_43, c_51]; done) | (simp only [bq, c_30, c_43, c_51]; rfl) | (simp [bq, c_30, c_43, c_51]; done)) (hj_59_1 _ _ _ hw hS hl)
  refine kb_eq (tgt := 18) hx hb dX3_claim_4 (by decide) (fun c_4 => ?_) (fun c_4 => ?_)
  · refine lv_iconst (v := 0) hx hb dX3_claim_18 (by decide) ?_
    exact kx_top (v := (b2 ((inn kind 0 7) && (inn place 0 9)))) (by first | (simp only [bq, c_4]; done) | (simp only [bq, c_4]; rfl) | (simp [bq, c_4]; done)) (hj_19_0 _ _ _ hw hS hl)
  · have v_kind : vp_in kind 8 := inn_vp (c_4) (by decide)
    refine lv_iload_n hx hb dX3_claim_7 rfl (lv_at hl 2 rfl) ?_
    refine kx_do0 (st1 := [.int (b2 (inn place 0 9))]) (kx_cs (As := [.int place]) (rest := []) hF hG hw hS hl.1 (c_X3_isPlace l hfl D cy base ad n nc g place ) gX3_claim_X3_isPlace rfl rfl rfl hd_X3_isPlace ⟨Nat.le_of_ble_eq_true rfl, Nat.le_of_ble_eq_true rfl⟩ rfl rfl (Nat.le_of_ble_eq_true rfl) dX3_claim_8 ⟨Nat.le_of_ble_eq_true rfl, Nat.le_of_ble_eq_true rfl⟩) hS rfl (fun H locs hw hS => ?_)
    refine kb_eq (tgt := 18) hx hb dX3_claim_11 (by decide) (fun c_11 => ?_) (fun c_11 => ?_)
    · refine lv_iconst (v := 0) hx hb dX3_claim_18 (by decide) ?_
      exact kx_top (v := (b2 ((inn kind 0 7) && (inn place 0 9)))) (by first | (simp only [bq, c_4, c_11]; done) | (simp only [bq, c_4, c_11]; rfl) | (simp [bq, c_4, c_11]; done)) (hj_19_0 _ _ _ hw hS hl)
    · have v_place : vp_in place 10 := inn_vp (c_11) (by decide)
      refine lv_iconst (v := 1) hx hb dX3_claim_14 (by decide) ?_
      refine lv_goto (tgt := 19) hx hb dX3_claim_15 (by decide) ?_
      exact kx_top (v := (b2 ((inn kind 0 7) && (inn place 0 9)))) (by first | (simp only [bq, c_4, c_11]; done) | (simp only [bq, c_4, c_11]; rfl) | (simp [bq, c_4, c_11]; done)) (hj_19_0 _ _ _ hw hS hl)
theorem hd_X3_errorOfWords : yX3_errorOfWords.cls = RX3 ∧ yX3_errorOfWords.cls ≠ "java/lang/invoke/MethodHandle" ∧ yX3_errorOfWords.cls ≠ "java/lang/invoke/VarHandle" ∧ (parseMethodDescriptor yX3_errorOfWords.desc).map (fun d => d.parameters.length) = some 2 := by decide +kernel
set_option maxHeartbeats 4000000 in
set_option maxRecDepth 100000 in
theorem c_X3_errorOfWords (l : Launch) (hfl : l.stackTraces = false) (D : va_G) (cy : Nat → ClassId) (base : Nat) (ad : Nat → Nat) (n nc : Nat) (g : sg) (x : Int32) (set : Int32) (hcn : g 9 25 = nI nc) : kM l yX3_errorOfWords wsX3_errorOfWords (kR 2 0 0) D cy base ad n nc g [.ref (ad 9), .int x, .int set] (kD True (some (.int (kd3 (isF nc x) (inn set 0 16777215) (decide (g 82 x.toNatClampNeg = 0))))) ad n nc g) kNo 0 0 := by
  refine kx_meth (cc := cX3_errorOfWords) (maxL := 3) (ret := (some .int)) (by decide) rfl (Nat.le_of_ble_eq_true rfl) ?_
  intro p e s m args below meth c ls hx hb hr hml hown hts hlk hT hG hw0 hS0 hl Q H locs hQ hw hS hH0 hlocs0
  have hl : lv_has ls 3 [(0, .ref (ad 9)), (1, .int x), (2, .int set)] := hl
  have hown : s.vm.findClass RX3 = some m.cls := hown
  have hF : CallFix p m c cX3_errorOfWords 3 s args wsX3_errorOfWords RX3 := ⟨hx, hb, hml, hown, hts⟩
  have hn30 : n ≤ 30 := hw.2.2.1
  have hc20 : nc ≤ 20 := hw.2.2.2
  clear hw0 hS0 hH0 hlocs0
  have i3 : ∀ w ∈ wsX30, w ∈ wsX3_errorOfWords := by decide +kernel
  have f_96 := hts (.fieldLink RX3 96 "LostroomModel" "claimState" "[I") (by decide +kernel)
  refine lv_aload_n hx hb dX3_errorOfWords_0 rfl (lv_at hl 0 rfl) ?_
  refine lv_iload_n hx hb dX3_errorOfWords_1 rfl (lv_at hl 1 rfl) ?_
  refine kx_do0 (st1 := [.int (b2 (isF nc x))]) (kx_cv (As := [.int x]) (rest := []) hF hG hw hS hl.1 kC_9 rfl (c_X3_isClaim l hfl D cy base ad n nc g x (by first | assumption | omega | exact mR_9 (by assumption) _ _ | simp [sU, hcn])) gX3_errorOfWords_X3_isClaim rfl rfl rfl hd_X3_isClaim ⟨Nat.le_of_ble_eq_true rfl, Nat.le_of_ble_eq_true rfl⟩ rfl rfl (Nat.le_of_ble_eq_true rfl) dX3_errorOfWords_2 ⟨Nat.le_of_ble_eq_true rfl, Nat.le_of_ble_eq_true rfl⟩) hS rfl (fun H locs hw hS => ?_)
  refine kb_ne (tgt := 10) hx hb dX3_errorOfWords_5 (by decide) (fun c_5 => ?_) (fun c_5 => ?_)
  · have v_x : vp_in x 20 := isF_vp (c_5) hc20 (by decide)
    have w_x : x.toNatClampNeg < nc := isF_lt (c_5) (Nat.le_trans hc20 (by decide))
    refine lv_iload_n hx hb dX3_errorOfWords_10 rfl (lv_at hl 2 rfl) ?_
    refine kx_do0 (st1 := [.int (b2 (inn set 0 16777215))]) (kx_cs (As := [.int set]) (rest := []) hF hG hw hS hl.1 (c_X3_isSet l hfl D cy base ad n nc g set ) gX3_errorOfWords_X3_isSet rfl rfl rfl hd_X3_isSet ⟨Nat.le_of_ble_eq_true rfl, Nat.le_of_ble_eq_true rfl⟩ rfl rfl (Nat.le_of_ble_eq_true rfl) dX3_errorOfWords_11 ⟨Nat.le_of_ble_eq_true rfl, Nat.le_of_ble_eq_true rfl⟩) hS rfl (fun H locs hw hS => ?_)
    have hj_35_0 : ∀ (H : Heap) (locs : List Loc) (ls : Array Slot), kW D cy base ad n nc g H → va_S (kA base) s.heap H locs → lv_has ls 3 [(0, .ref (ad 9)), (1, .int x), (2, .int set)] → W p l e (kR 2 0 0) s m args below meth c H locs 0 0 Q (F0 m 35 ls [.int (if (inn set 0 16777215) = true then (if (g 82 x.toNatClampNeg) = (0 : Int32) then (0 : Int32) else (3 : Int32)) else (2 : Int32))]) := by
      intro H locs ls hw hS hl
      exact kx_retI hQ hx hb hr hlk hw hS (Nat.le_of_ble_eq_true rfl) (Nat.le_of_ble_eq_true rfl) dX3_errorOfWords_35 (kd_i (trivial) (by first | (simp only [c_5]; done) | (simp only [c_5]; rfl) | (simp [c_5]; done) | simp [kd3, c_5]) (rfl))
    refine kb_ne (tgt := 21) hx hb dX3_errorOfWords_14 (by decide) (fun c_14 => ?_) (fun c_14 => ?_)
    · refine lv_aload_n hx hb dX3_errorOfWords_21 rfl (lv_at hl 0 rfl) ?_
      refine kx_getM (v := .ref (ad 82)) hx hb hts hown hG hw i3 32 (by decide) f_96 rfl dX3_errorOfWords_22 ?_
      refine lv_iload_n hx hb dX3_errorOfWords_25 rfl (lv_at hl 1 rfl) ?_
      refine kx_iald (v := (g 82 x.toNatClampNeg)) hx hb hG hw (kC_I rfl) x.toNatClampNeg rfl (by first | assumption | exact ix_of (by assumption) (by assumption) rfl (by decide)) rfl dX3_errorOfWords_26 ?_
      refine lv_if_eq (tgt := 34) hx hb dX3_errorOfWords_27 (by decide) (fun c_27 => ?_) (fun c_27 => ?_)
      · refine lv_iconst (v := 0) hx hb dX3_errorOfWords_34 (by decide) ?_
        exact kx_top (v := (if (inn set 0 16777215) = true then (if (g 82 x.toNatClampNeg) = (0 : Int32) then (0 : Int32) else (3 : Int32)) else (2 : Int32))) (by first | (simp only [bq, c_14, decide_eq_true c_27, if_pos c_27]; done) | (simp only [bq, c_14, decide_eq_true c_27, if_pos c_27]; rfl) | (simp [bq, c_14, decide_eq_true c_27, if_pos c_27]; done)) (hj_35_0 _ _ _ hw hS hl)
      · refine lv_iconst (v := 3) hx hb dX3_errorOfWords_30 (by decide) ?_
        refine lv_goto (tgt := 35) hx hb dX3_errorOfWords_31 (by decide) ?_
        exact kx_top (v := (if (inn set 0 16777215) = true then (if (g 82 x.toNatClampNeg) = (0 : Int32) then (0 : Int32) else (3 : Int32)) else (2 : Int32))) (by first | (simp only [bq, c_14, decide_eq_false c_27, if_neg c_27]; done) | (simp only [bq, c_14, decide_eq_false c_27, if_neg c_27]; rfl) | (simp [bq, c_14, decide_eq_false c_27, if_neg c_27]; done)) (hj_35_0 _ _ _ hw hS hl)
    · refine lv_iconst (v := 2) hx hb dX3_errorOfWords_17 (by decide) ?_
      refine lv_goto (tgt := 35) hx hb dX3_errorOfWords_18 (by decide) ?_
      exact kx_top (v := (if (inn set 0 16777215) = true then (if (g 82 x.toNatClampNeg) = (0 : Int32) then (0 : Int32) else (3 : Int32)) else (2 : Int32))) (by first | (simp only [bq, c_14]; done) | (simp only [bq, c_14]; rfl) | (simp [bq, c_14]; done)) (hj_35_0 _ _ _ hw hS hl)
  · refine lv_iconst (v := 1) hx hb dX3_errorOfWords_8 (by decide) ?_
    exact kx_retI hQ hx hb hr hlk hw hS (Nat.le_of_ble_eq_true rfl) (Nat.le_of_ble_eq_true rfl) dX3_errorOfWords_9 (kd_i (trivial) (by first | (simp only [c_5]; done) | (simp only [c_5]; rfl) | (simp [c_5]; done) | simp [kd3, c_5]) (rfl))
theorem hd_X3_say : yX3_say.cls = RX3 ∧ yX3_say.cls ≠ "java/lang/invoke/MethodHandle" ∧ yX3_say.cls ≠ "java/lang/invoke/VarHandle" ∧ (parseMethodDescriptor yX3_say.desc).map (fun d => d.parameters.length) = some 2 := by decide +kernel
set_option maxHeartbeats 4000000 in
set_option maxRecDepth 100000 in
theorem c_X3_say (l : Launch) (hfl : l.stackTraces = false) (D : va_G) (cy : Nat → ClassId) (base : Nat) (ad : Nat → Nat) (n nc : Nat) (g : sg) (x : Int32) (set : Int32) (hcn : g 9 25 = nI nc) : kM l yX3_say wsX3_say (kR 3 0 0) D cy base ad n nc g [.ref (ad 9), .int x, .int set] (kD True (some (.int (rv (kd3 (isF nc x) (inn set 0 16777215) (decide (g 82 x.toNatClampNeg = 0))) (bits (g 80 x.toNatClampNeg ||| set))))) ad n nc (mk (kd3 (isF nc x) (inn set 0 16777215) (decide (g 82 x.toNatClampNeg = 0))) (sU (sU g 9 0 0) 80 x.toNatClampNeg (g 80 x.toNatClampNeg ||| set)) g)) kNo 0 0 := by
  refine kx_meth (cc := cX3_say) (maxL := 3) (ret := (some .int)) (by decide) rfl (Nat.le_of_ble_eq_true rfl) ?_
  intro p e s m args below meth c ls hx hb hr hml hown hts hlk hT hG hw0 hS0 hl Q H locs hQ hw hS hH0 hlocs0
  have hl : lv_has ls 3 [(0, .ref (ad 9)), (1, .int x), (2, .int set)] := hl
  have hown : s.vm.findClass RX3 = some m.cls := hown
  have hF : CallFix p m c cX3_say 3 s args wsX3_say RX3 := ⟨hx, hb, hml, hown, hts⟩
  have hn30 : n ≤ 30 := hw.2.2.1
  have hc20 : nc ≤ 20 := hw.2.2.2
  clear hw0 hS0 hH0 hlocs0
  have i3 : ∀ w ∈ wsX30, w ∈ wsX3_say := by decide +kernel
  have f_90 := hts (.fieldLink RX3 90 "LostroomModel" "said" "[I") (by decide +kernel)
  refine lv_aload_n hx hb dX3_say_0 rfl (lv_at hl 0 rfl) ?_
  refine lv_aload_n hx hb dX3_say_1 rfl (lv_at hl 0 rfl) ?_
  refine lv_iload_n hx hb dX3_say_2 rfl (lv_at hl 1 rfl) ?_
  refine lv_iload_n hx hb dX3_say_3 rfl (lv_at hl 2 rfl) ?_
  refine kx_do0 (st1 := [.int (kd3 (isF nc x) (inn set 0 16777215) (decide (g 82 x.toNatClampNeg = 0))), .ref (ad 9)]) (kx_cv (As := [.int x, .int set]) (rest := [.ref (ad 9)]) hF hG hw hS hl.1 kC_9 rfl (c_X3_errorOfWords l hfl D cy base ad n nc g x set (by first | assumption | omega | exact mR_9 (by assumption) _ _ | simp [sU, hcn])) gX3_say_X3_errorOfWords rfl rfl rfl hd_X3_errorOfWords ⟨Nat.le_of_ble_eq_true rfl, Nat.le_of_ble_eq_true rfl⟩ rfl rfl (Nat.le_of_ble_eq_true rfl) dX3_say_4 ⟨Nat.le_of_ble_eq_true rfl, Nat.le_of_ble_eq_true rfl⟩) hS rfl (fun H locs hw hS => ?_)
  refine kx_do0 (st1 := [.int (b2 (decide ((kd3 (isF nc x) (inn set 0 16777215) (decide (g 82 x.toNatClampNeg = 0))) = 0)))]) (kx_cv (As := [.int (kd3 (isF nc x) (inn set 0 16777215) (decide (g 82 x.toNatClampNeg = 0)))]) (rest := []) hF hG hw hS hl.1 kC_9 rfl (c_X3_holds l hfl D cy base ad n nc g (kd3 (isF nc x) (inn set 0 16777215) (decide (g 82 x.toNatClampNeg = 0))) ) gX3_say_X3_holds rfl rfl rfl hd_X3_holds ⟨Nat.le_of_ble_eq_true rfl, Nat.le_of_ble_eq_true rfl⟩ rfl rfl (Nat.le_of_ble_eq_true rfl) dX3_say_7 ⟨Nat.le_of_ble_eq_true rfl, Nat.le_of_ble_eq_true rfl⟩) hS rfl (fun H locs hw hS => ?_)
  refine kb_ne (tgt := 15) hx hb dX3_say_10 (by decide) (fun c_10 => ?_) (fun c_10 => ?_)
  · have h0 : kd3 (isF nc x) (inn set 0 16777215) (decide (g 82 x.toNatClampNeg = 0)) = 0 := of_decide_eq_true c_10
    rw [h0] at hw
    have hk := kd3_0.mp h0
    obtain ⟨i_x, hi_x, rfl⟩ := isF_ex (hk.1) (Nat.le_trans hc20 (by decide))
    have hcl_x : (nI i_x).toNatClampNeg = i_x := cl_nI (by omega)
    refine lv_aload_n hx hb dX3_say_15 rfl (lv_at hl 0 rfl) ?_
    refine kx_getM (v := .ref (ad 80)) hx hb hts hown hG hw i3 30 (by decide) f_90 rfl dX3_say_16 ?_
    refine lv_iload_n hx hb dX3_say_19 rfl (lv_at hl 1 rfl) ?_
    refine lv_dup2_11 hx hb dX3_say_20 rfl rfl ?_
    refine kx_iald (v := (g 80 i_x)) hx hb hG hw (kC_I rfl) i_x (nI_clamp (by omega)) (vp_in_nI (by omega) (by decide)) (sU_k _ _ _ _ (by omega)) dX3_say_21 ?_
    refine lv_iload_n hx hb dX3_say_22 rfl (lv_at hl 2 rfl) ?_
    refine lv_ior hx hb dX3_say_23 ?_
    refine kx_iast hx hb hG hw hS (fun _ => (kC_I rfl)) i_x (nI_clamp (by omega)) (vp_in_nI (by omega) (by decide)) dX3_say_24 (fun H locs hw hS => ?_)
    refine lv_aload_n hx hb dX3_say_25 rfl (lv_at hl 0 rfl) ?_
    refine kx_getM (v := .ref (ad 80)) hx hb hts hown hG hw i3 30 (by decide) f_90 rfl dX3_say_26 ?_
    refine lv_iload_n hx hb dX3_say_29 rfl (lv_at hl 1 rfl) ?_
    refine kx_iald (v := ((g 80 i_x) ||| set)) hx hb hG hw (kC_I rfl) i_x (nI_clamp (by omega)) (vp_in_nI (by omega) (by decide)) (sU_s _ _ _ _) dX3_say_30 ?_
    refine kx_do0 (st1 := [.int (bits ((g 80 i_x) ||| set))]) (kx_cs (As := [.int ((g 80 i_x) ||| set)]) (rest := []) hF hG hw hS hl.1 (c_X3_bits l hfl D cy base ad n nc (sU (sU g 9 0 (0 : Int32)) 80 i_x ((g 80 i_x) ||| set)) ((g 80 i_x) ||| set) ) gX3_say_X3_bits rfl rfl rfl hd_X3_bits ⟨Nat.le_of_ble_eq_true rfl, Nat.le_of_ble_eq_true rfl⟩ rfl rfl (Nat.le_of_ble_eq_true rfl) dX3_say_31 ⟨Nat.le_of_ble_eq_true rfl, Nat.le_of_ble_eq_true rfl⟩) hS rfl (fun H locs hw hS => ?_)
    exact kx_retI hQ hx hb hr hlk hw hS (Nat.le_of_ble_eq_true rfl) (Nat.le_of_ble_eq_true rfl) dX3_say_34 (kd_i (trivial) ((rv_0 h0).trans (by simp only [hcl_x])) ((mk_0 h0).trans (by simp only [hcl_x])))
  · have h0 : ¬ kd3 (isF nc x) (inn set 0 16777215) (decide (g 82 x.toNatClampNeg = 0)) = 0 := of_decide_eq_false c_10
    refine lv_iconst (v := 0) hx hb dX3_say_13 (by decide) ?_
    exact kx_retI hQ hx hb hr hlk hw hS (Nat.le_of_ble_eq_true rfl) (Nat.le_of_ble_eq_true rfl) dX3_say_14 (kd_i (trivial) (rv_n h0) (mk_n h0))
theorem hd_X3_tell : yX3_tell.cls = RX3 ∧ yX3_tell.cls ≠ "java/lang/invoke/MethodHandle" ∧ yX3_tell.cls ≠ "java/lang/invoke/VarHandle" ∧ (parseMethodDescriptor yX3_tell.desc).map (fun d => d.parameters.length) = some 2 := by decide +kernel
set_option maxHeartbeats 4000000 in
set_option maxRecDepth 100000 in
theorem c_X3_tell (l : Launch) (hfl : l.stackTraces = false) (D : va_G) (cy : Nat → ClassId) (base : Nat) (ad : Nat → Nat) (n nc : Nat) (g : sg) (x : Int32) (set : Int32) (hcn : g 9 25 = nI nc) : kM l yX3_tell wsX3_tell (kR 3 0 0) D cy base ad n nc g [.ref (ad 9), .int x, .int set] (kD True (some (.int (rv (kd3 (isF nc x) (inn set 0 16777215) (decide (g 82 x.toNatClampNeg = 0))) (bits (g 81 x.toNatClampNeg ||| set))))) ad n nc (mk (kd3 (isF nc x) (inn set 0 16777215) (decide (g 82 x.toNatClampNeg = 0))) (sU (sU (sU g 9 0 0) 80 x.toNatClampNeg (g 80 x.toNatClampNeg ||| set)) 81 x.toNatClampNeg (g 81 x.toNatClampNeg ||| set)) g)) kNo 0 0 := by
  refine kx_meth (cc := cX3_tell) (maxL := 3) (ret := (some .int)) (by decide) rfl (Nat.le_of_ble_eq_true rfl) ?_
  intro p e s m args below meth c ls hx hb hr hml hown hts hlk hT hG hw0 hS0 hl Q H locs hQ hw hS hH0 hlocs0
  have hl : lv_has ls 3 [(0, .ref (ad 9)), (1, .int x), (2, .int set)] := hl
  have hown : s.vm.findClass RX3 = some m.cls := hown
  have hF : CallFix p m c cX3_tell 3 s args wsX3_tell RX3 := ⟨hx, hb, hml, hown, hts⟩
  have hn30 : n ≤ 30 := hw.2.2.1
  have hc20 : nc ≤ 20 := hw.2.2.2
  clear hw0 hS0 hH0 hlocs0
  have i3 : ∀ w ∈ wsX30, w ∈ wsX3_tell := by decide +kernel
  have f_90 := hts (.fieldLink RX3 90 "LostroomModel" "said" "[I") (by decide +kernel)
  have f_93 := hts (.fieldLink RX3 93 "LostroomModel" "tolds" "[I") (by decide +kernel)
  refine lv_aload_n hx hb dX3_tell_0 rfl (lv_at hl 0 rfl) ?_
  refine lv_aload_n hx hb dX3_tell_1 rfl (lv_at hl 0 rfl) ?_
  refine lv_iload_n hx hb dX3_tell_2 rfl (lv_at hl 1 rfl) ?_
  refine lv_iload_n hx hb dX3_tell_3 rfl (lv_at hl 2 rfl) ?_
  refine kx_do0 (st1 := [.int (kd3 (isF nc x) (inn set 0 16777215) (decide (g 82 x.toNatClampNeg = 0))), .ref (ad 9)]) (kx_cv (As := [.int x, .int set]) (rest := [.ref (ad 9)]) hF hG hw hS hl.1 kC_9 rfl (c_X3_errorOfWords l hfl D cy base ad n nc g x set (by first | assumption | omega | exact mR_9 (by assumption) _ _ | simp [sU, hcn])) gX3_tell_X3_errorOfWords rfl rfl rfl hd_X3_errorOfWords ⟨Nat.le_of_ble_eq_true rfl, Nat.le_of_ble_eq_true rfl⟩ rfl rfl (Nat.le_of_ble_eq_true rfl) dX3_tell_4 ⟨Nat.le_of_ble_eq_true rfl, Nat.le_of_ble_eq_true rfl⟩) hS rfl (fun H locs hw hS => ?_)
  refine kx_do0 (st1 := [.int (b2 (decide ((kd3 (isF nc x) (inn set 0 16777215) (decide (g 82 x.toNatClampNeg = 0))) = 0)))]) (kx_cv (As := [.int (kd3 (isF nc x) (inn set 0 16777215) (decide (g 82 x.toNatClampNeg = 0)))]) (rest := []) hF hG hw hS hl.1 kC_9 rfl (c_X3_holds l hfl D cy base ad n nc g (kd3 (isF nc x) (inn set 0 16777215) (decide (g 82 x.toNatClampNeg = 0))) ) gX3_tell_X3_holds rfl rfl rfl hd_X3_holds ⟨Nat.le_of_ble_eq_true rfl, Nat.le_of_ble_eq_true rfl⟩ rfl rfl (Nat.le_of_ble_eq_true rfl) dX3_tell_7 ⟨Nat.le_of_ble_eq_true rfl, Nat.le_of_ble_eq_true rfl⟩) hS rfl (fun H locs hw hS => ?_)
  refine kb_ne (tgt := 15) hx hb dX3_tell_10 (by decide) (fun c_10 => ?_) (fun c_10 => ?_)
  · have h0 : kd3 (isF nc x) (inn set 0 16777215) (decide (g 82 x.toNatClampNeg = 0)) = 0 := of_decide_eq_true c_10
    rw [h0] at hw
    have hk := kd3_0.mp h0
    obtain ⟨i_x, hi_x, rfl⟩ := isF_ex (hk.1) (Nat.le_trans hc20 (by decide))
    have hcl_x : (nI i_x).toNatClampNeg = i_x := cl_nI (by omega)
    refine lv_aload_n hx hb dX3_tell_15 rfl (lv_at hl 0 rfl) ?_
    refine kx_getM (v := .ref (ad 80)) hx hb hts hown hG hw i3 30 (by decide) f_90 rfl dX3_tell_16 ?_
    refine lv_iload_n hx hb dX3_tell_19 rfl (lv_at hl 1 rfl) ?_
    refine lv_dup2_11 hx hb dX3_tell_20 rfl rfl ?_
    refine kx_iald (v := (g 80 i_x)) hx hb hG hw (kC_I rfl) i_x (nI_clamp (by omega)) (vp_in_nI (by omega) (by decide)) (sU_k _ _ _ _ (by omega)) dX3_tell_21 ?_
    refine lv_iload_n hx hb dX3_tell_22 rfl (lv_at hl 2 rfl) ?_
    refine lv_ior hx hb dX3_tell_23 ?_
    refine kx_iast hx hb hG hw hS (fun _ => (kC_I rfl)) i_x (nI_clamp (by omega)) (vp_in_nI (by omega) (by decide)) dX3_tell_24 (fun H locs hw hS => ?_)
    refine lv_aload_n hx hb dX3_tell_25 rfl (lv_at hl 0 rfl) ?_
    refine kx_getM (v := .ref (ad 81)) hx hb hts hown hG hw i3 31 (by decide) f_93 rfl dX3_tell_26 ?_
    refine lv_iload_n hx hb dX3_tell_29 rfl (lv_at hl 1 rfl) ?_
    refine lv_dup2_11 hx hb dX3_tell_30 rfl rfl ?_
    refine kx_iald (v := (g 81 i_x)) hx hb hG hw (kC_I rfl) i_x (nI_clamp (by omega)) (vp_in_nI (by omega) (by decide)) ((sU_k _ _ _ _ (by omega)).trans (sU_k _ _ _ _ (by omega))) dX3_tell_31 ?_
    refine lv_iload_n hx hb dX3_tell_32 rfl (lv_at hl 2 rfl) ?_
    refine lv_ior hx hb dX3_tell_33 ?_
    refine kx_iast hx hb hG hw hS (fun _ => (kC_I rfl)) i_x (nI_clamp (by omega)) (vp_in_nI (by omega) (by decide)) dX3_tell_34 (fun H locs hw hS => ?_)
    refine lv_aload_n hx hb dX3_tell_35 rfl (lv_at hl 0 rfl) ?_
    refine kx_getM (v := .ref (ad 81)) hx hb hts hown hG hw i3 31 (by decide) f_93 rfl dX3_tell_36 ?_
    refine lv_iload_n hx hb dX3_tell_39 rfl (lv_at hl 1 rfl) ?_
    refine kx_iald (v := ((g 81 i_x) ||| set)) hx hb hG hw (kC_I rfl) i_x (nI_clamp (by omega)) (vp_in_nI (by omega) (by decide)) (sU_s _ _ _ _) dX3_tell_40 ?_
    refine kx_do0 (st1 := [.int (bits ((g 81 i_x) ||| set))]) (kx_cs (As := [.int ((g 81 i_x) ||| set)]) (rest := []) hF hG hw hS hl.1 (c_X3_bits l hfl D cy base ad n nc (sU (sU (sU g 9 0 (0 : Int32)) 80 i_x ((g 80 i_x) ||| set)) 81 i_x ((g 81 i_x) ||| set)) ((g 81 i_x) ||| set) ) gX3_tell_X3_bits rfl rfl rfl hd_X3_bits ⟨Nat.le_of_ble_eq_true rfl, Nat.le_of_ble_eq_true rfl⟩ rfl rfl (Nat.le_of_ble_eq_true rfl) dX3_tell_41 ⟨Nat.le_of_ble_eq_true rfl, Nat.le_of_ble_eq_true rfl⟩) hS rfl (fun H locs hw hS => ?_)
    exact kx_retI hQ hx hb hr hlk hw hS (Nat.le_of_ble_eq_true rfl) (Nat.le_of_ble_eq_true rfl) dX3_tell_44 (kd_i (trivial) ((rv_0 h0).trans (by simp only [hcl_x])) ((mk_0 h0).trans (by simp only [hcl_x])))
  · have h0 : ¬ kd3 (isF nc x) (inn set 0 16777215) (decide (g 82 x.toNatClampNeg = 0)) = 0 := of_decide_eq_false c_10
    refine lv_iconst (v := 0) hx hb dX3_tell_13 (by decide) ?_
    exact kx_retI hQ hx hb hr hlk hw hS (Nat.le_of_ble_eq_true rfl) (Nat.le_of_ble_eq_true rfl) dX3_tell_14 (kd_i (trivial) (rv_n h0) (mk_n h0))
theorem hd_X3_ends : yX3_ends.cls = RX3 ∧ yX3_ends.cls ≠ "java/lang/invoke/MethodHandle" ∧ yX3_ends.cls ≠ "java/lang/invoke/VarHandle" ∧ (parseMethodDescriptor yX3_ends.desc).map (fun d => d.parameters.length) = some 3 := by decide +kernel
set_option maxHeartbeats 4000000 in
set_option maxRecDepth 100000 in
theorem c_X3_ends (l : Launch) (hfl : l.stackTraces = false) (D : va_G) (cy : Nat → ClassId) (base : Nat) (ad : Nat → Nat) (n nc : Nat) (g : sg) (j : Nat) (st : Int32) (fi : Int32) (hj20 : j < 20) : kM l yX3_ends wsX3_ends (kR 0 0 0) D cy base ad n nc g [.ref (ad 9), .int (nI j), .int st, .int fi] (kD True none ad n nc (sU (sU (sU g 82 j st) 83 j (g 9 1)) 84 j fi)) kNo 0 0 := by
  refine kx_meth (cc := cX3_ends) (maxL := 4) (ret := none) (by decide) rfl (Nat.le_of_ble_eq_true rfl) ?_
  intro p e s m args below meth c ls hx hb hr hml hown hts hlk hT hG hw0 hS0 hl Q H locs hQ hw hS hH0 hlocs0
  have hl : lv_has ls 4 [(0, .ref (ad 9)), (1, .int (nI j)), (2, .int st), (3, .int fi)] := hl
  have hown : s.vm.findClass RX3 = some m.cls := hown
  have hF : CallFix p m c cX3_ends 4 s args wsX3_ends RX3 := ⟨hx, hb, hml, hown, hts⟩
  have hn30 : n ≤ 30 := hw.2.2.1
  have hc20 : nc ≤ 20 := hw.2.2.2
  clear hw0 hS0 hH0 hlocs0
  have i3 : ∀ w ∈ wsX30, w ∈ wsX3_ends := by decide +kernel
  have f_96 := hts (.fieldLink RX3 96 "LostroomModel" "claimState" "[I") (by decide +kernel)
  have f_99 := hts (.fieldLink RX3 99 "LostroomModel" "endedOn" "[I") (by decide +kernel)
  have f_102 := hts (.fieldLink RX3 102 "LostroomModel" "servedBy" "[I") (by decide +kernel)
  have f_136 := hts (.fieldLink RX3 136 "LostroomModel" "today" "I") (by decide +kernel)
  refine lv_aload_n hx hb dX3_ends_0 rfl (lv_at hl 0 rfl) ?_
  refine kx_getM (v := .ref (ad 82)) hx hb hts hown hG hw i3 32 (by decide) f_96 rfl dX3_ends_1 ?_
  refine lv_iload_n hx hb dX3_ends_4 rfl (lv_at hl 1 rfl) ?_
  refine lv_iload_n hx hb dX3_ends_5 rfl (lv_at hl 2 rfl) ?_
  refine kx_iast hx hb hG hw hS (fun _ => (kC_I rfl)) j (nI_clamp (by omega)) (vp_in_nI (by omega) (by decide)) dX3_ends_6 (fun H locs hw hS => ?_)
  refine lv_aload_n hx hb dX3_ends_7 rfl (lv_at hl 0 rfl) ?_
  refine kx_getM (v := .ref (ad 83)) hx hb hts hown hG hw i3 33 (by decide) f_99 rfl dX3_ends_8 ?_
  refine lv_iload_n hx hb dX3_ends_11 rfl (lv_at hl 1 rfl) ?_
  refine lv_aload_n hx hb dX3_ends_12 rfl (lv_at hl 0 rfl) ?_
  refine kx_getM (v := .int (g 9 1)) hx hb hts hown hG hw i3 1 (by decide) f_136 (congrArg Value.int (sU_k _ _ _ _ (by omega))) dX3_ends_13 ?_
  refine kx_iast hx hb hG hw hS (fun _ => (kC_I rfl)) j (nI_clamp (by omega)) (vp_in_nI (by omega) (by decide)) dX3_ends_16 (fun H locs hw hS => ?_)
  refine lv_aload_n hx hb dX3_ends_17 rfl (lv_at hl 0 rfl) ?_
  refine kx_getM (v := .ref (ad 84)) hx hb hts hown hG hw i3 34 (by decide) f_102 rfl dX3_ends_18 ?_
  refine lv_iload_n hx hb dX3_ends_21 rfl (lv_at hl 1 rfl) ?_
  refine lv_iload_n hx hb dX3_ends_22 rfl (lv_at hl 3 rfl) ?_
  refine kx_iast hx hb hG hw hS (fun _ => (kC_I rfl)) j (nI_clamp (by omega)) (vp_in_nI (by omega) (by decide)) dX3_ends_23 (fun H locs hw hS => ?_)
  exact kx_retV hQ hx hb hr hlk hw hS (Nat.le_of_ble_eq_true rfl) (Nat.le_of_ble_eq_true rfl) dX3_ends_24 (kd_v (trivial) (rfl))
theorem hd_X3_withdraw : yX3_withdraw.cls = RX3 ∧ yX3_withdraw.cls ≠ "java/lang/invoke/MethodHandle" ∧ yX3_withdraw.cls ≠ "java/lang/invoke/VarHandle" ∧ (parseMethodDescriptor yX3_withdraw.desc).map (fun d => d.parameters.length) = some 1 := by decide +kernel
set_option maxHeartbeats 4000000 in
set_option maxRecDepth 100000 in
theorem c_X3_withdraw (l : Launch) (hfl : l.stackTraces = false) (D : va_G) (cy : Nat → ClassId) (base : Nat) (ad : Nat → Nat) (n nc : Nat) (g : sg) (x : Int32) (hcn : g 9 25 = nI nc) : kM l yX3_withdraw wsX3_withdraw (kR 2 0 0) D cy base ad n nc g [.ref (ad 9), .int x] (kD True (some (.int (rv (kd2 (isF nc x) (decide (g 82 x.toNatClampNeg = 0))) (g 9 1)))) ad n nc (mk (kd2 (isF nc x) (decide (g 82 x.toNatClampNeg = 0))) (mEnds (sU g 9 0 0) x.toNatClampNeg 2 (-1)) g)) kNo 0 0 := by
  refine kx_meth (cc := cX3_withdraw) (maxL := 3) (ret := (some .int)) (by decide) rfl (Nat.le_of_ble_eq_true rfl) ?_
  intro p e s m args below meth c ls hx hb hr hml hown hts hlk hT hG hw0 hS0 hl Q H locs hQ hw hS hH0 hlocs0
  have hl : lv_has ls 3 [(0, .ref (ad 9)), (1, .int x)] := hl
  have hown : s.vm.findClass RX3 = some m.cls := hown
  have hF : CallFix p m c cX3_withdraw 3 s args wsX3_withdraw RX3 := ⟨hx, hb, hml, hown, hts⟩
  have hn30 : n ≤ 30 := hw.2.2.1
  have hc20 : nc ≤ 20 := hw.2.2.2
  clear hw0 hS0 hH0 hlocs0
  have i3 : ∀ w ∈ wsX30, w ∈ wsX3_withdraw := by decide +kernel
  have f_96 := hts (.fieldLink RX3 96 "LostroomModel" "claimState" "[I") (by decide +kernel)
  have f_136 := hts (.fieldLink RX3 136 "LostroomModel" "today" "I") (by decide +kernel)
  refine lv_aload_n hx hb dX3_withdraw_0 rfl (lv_at hl 0 rfl) ?_
  refine lv_iload_n hx hb dX3_withdraw_1 rfl (lv_at hl 1 rfl) ?_
  refine kx_do0 (st1 := [.int (b2 (isF nc x))]) (kx_cv (As := [.int x]) (rest := []) hF hG hw hS hl.1 kC_9 rfl (c_X3_isClaim l hfl D cy base ad n nc g x (by first | assumption | omega | exact mR_9 (by assumption) _ _ | simp [sU, hcn])) gX3_withdraw_X3_isClaim rfl rfl rfl hd_X3_isClaim ⟨Nat.le_of_ble_eq_true rfl, Nat.le_of_ble_eq_true rfl⟩ rfl rfl (Nat.le_of_ble_eq_true rfl) dX3_withdraw_2 ⟨Nat.le_of_ble_eq_true rfl, Nat.le_of_ble_eq_true rfl⟩) hS rfl (fun H locs hw hS => ?_)
  refine lv_istore_n (lv' := [(2, .int (b2 (isF nc x))), (0, .ref (ad 9)), (1, .int x)]) hx hb dX3_withdraw_5 rfl hl (by decide) rfl (fun ls hl => ?_)
  refine lv_aload_n hx hb dX3_withdraw_6 rfl (lv_at hl 1 rfl) ?_
  refine lv_iload_n hx hb dX3_withdraw_7 rfl (lv_at hl 0 rfl) ?_
  have hj_29_0 : ∀ (H : Heap) (locs : List Loc) (ls : Array Slot), kW D cy base ad n nc g H → va_S (kA base) s.heap H locs → lv_has ls 3 [(2, .int (b2 (isF nc x))), (0, .ref (ad 9)), (1, .int x)] → W p l e (kR 2 0 0) s m args below meth c H locs 0 0 Q (F0 m 29 ls [.int (kd2 (isF nc x) (decide (g 82 x.toNatClampNeg = 0))), .ref (ad 9)]) := by
    intro H locs ls hw hS hl
    refine kx_do0 (st1 := [.int (b2 (decide ((kd2 (isF nc x) (decide (g 82 x.toNatClampNeg = 0))) = 0)))]) (kx_cv (As := [.int (kd2 (isF nc x) (decide (g 82 x.toNatClampNeg = 0)))]) (rest := []) hF hG hw hS hl.1 kC_9 rfl (c_X3_holds l hfl D cy base ad n nc g (kd2 (isF nc x) (decide (g 82 x.toNatClampNeg = 0))) ) gX3_withdraw_X3_holds rfl rfl rfl hd_X3_holds ⟨Nat.le_of_ble_eq_true rfl, Nat.le_of_ble_eq_true rfl⟩ rfl rfl (Nat.le_of_ble_eq_true rfl) dX3_withdraw_29 ⟨Nat.le_of_ble_eq_true rfl, Nat.le_of_ble_eq_true rfl⟩) hS rfl (fun H locs hw hS => ?_)
    refine kb_ne (tgt := 37) hx hb dX3_withdraw_32 (by decide) (fun c_32 => ?_) (fun c_32 => ?_)
    · have h0 : kd2 (isF nc x) (decide (g 82 x.toNatClampNeg = 0)) = 0 := of_decide_eq_true c_32
      rw [h0] at hw
      have hk := kd2_0.mp h0
      obtain ⟨i_x, hi_x, rfl⟩ := isF_ex (hk.1) (Nat.le_trans hc20 (by decide))
      have hcl_x : (nI i_x).toNatClampNeg = i_x := cl_nI (by omega)
      refine lv_aload_n hx hb dX3_withdraw_37 rfl (lv_at hl 1 rfl) ?_
      refine lv_iload_n hx hb dX3_withdraw_38 rfl (lv_at hl 2 rfl) ?_
      refine lv_iconst (v := 2) hx hb dX3_withdraw_39 (by decide) ?_
      refine lv_iconst (v := -1) hx hb dX3_withdraw_40 (by decide) ?_
      refine kx_do0 (st1 := []) (kx_cv (As := [.int (nI i_x), .int (2 : Int32), .int (-1 : Int32)]) (rest := []) hF hG hw hS hl.1 kC_9 rfl (c_X3_ends l hfl D cy base ad n nc (sU g 9 0 (0 : Int32)) i_x (2 : Int32) (-1 : Int32) (by first | assumption | omega | exact mR_9 (by assumption) _ _ | simp [sU, hcn])) gX3_withdraw_X3_ends rfl rfl rfl hd_X3_ends ⟨Nat.le_of_ble_eq_true rfl, Nat.le_of_ble_eq_true rfl⟩ rfl rfl (Nat.le_of_ble_eq_true rfl) dX3_withdraw_41 ⟨Nat.le_of_ble_eq_true rfl, Nat.le_of_ble_eq_true rfl⟩) hS rfl (fun H locs hw hS => ?_)
      refine lv_aload_n hx hb dX3_withdraw_44 rfl (lv_at hl 1 rfl) ?_
      refine kx_getM (v := .int (g 9 1)) hx hb hts hown hG hw i3 1 (by decide) f_136 (congrArg Value.int ((sU_k _ _ _ _ (by omega)).trans ((sU_k _ _ _ _ (by omega)).trans ((sU_k _ _ _ _ (by omega)).trans (sU_j _ _ _ _ (by decide)))))) dX3_withdraw_45 ?_
      exact kx_retI hQ hx hb hr hlk hw hS (Nat.le_of_ble_eq_true rfl) (Nat.le_of_ble_eq_true rfl) dX3_withdraw_48 (kd_i (trivial) ((rv_0 h0).trans (by simp only [hcl_x])) ((mk_0 h0).trans (by simp only [hcl_x]; rfl)))
    · have h0 : ¬ kd2 (isF nc x) (decide (g 82 x.toNatClampNeg = 0)) = 0 := of_decide_eq_false c_32
      refine lv_iconst (v := 0) hx hb dX3_withdraw_35 (by decide) ?_
      exact kx_retI hQ hx hb hr hlk hw hS (Nat.le_of_ble_eq_true rfl) (Nat.le_of_ble_eq_true rfl) dX3_withdraw_36 (kd_i (trivial) (rv_n h0) (mk_n h0))
  refine kb_ne (tgt := 15) hx hb dX3_withdraw_8 (by decide) (fun c_8 => ?_) (fun c_8 => ?_)
  · have v_x : vp_in x 20 := isF_vp (c_8) hc20 (by decide)
    have w_x : x.toNatClampNeg < nc := isF_lt (c_8) (Nat.le_trans hc20 (by decide))
    refine lv_aload_n hx hb dX3_withdraw_15 rfl (lv_at hl 1 rfl) ?_
    refine kx_getM (v := .ref (ad 82)) hx hb hts hown hG hw i3 32 (by decide) f_96 rfl dX3_withdraw_16 ?_
    refine lv_iload_n hx hb dX3_withdraw_19 rfl (lv_at hl 2 rfl) ?_
    refine kx_iald (v := (g 82 x.toNatClampNeg)) hx hb hG hw (kC_I rfl) x.toNatClampNeg rfl (by first | assumption | exact ix_of (by assumption) (by assumption) rfl (by decide)) rfl dX3_withdraw_20 ?_
    refine lv_if_eq (tgt := 28) hx hb dX3_withdraw_21 (by decide) (fun c_21 => ?_) (fun c_21 => ?_)
    · refine lv_iconst (v := 0) hx hb dX3_withdraw_28 (by decide) ?_
      exact kx_top (v := (kd2 (isF nc x) (decide (g 82 x.toNatClampNeg = 0)))) (by first | (simp only [bq, c_8, decide_eq_true c_21, if_pos c_21]; done) | (simp only [bq, c_8, decide_eq_true c_21, if_pos c_21]; rfl) | (simp [bq, c_8, decide_eq_true c_21, if_pos c_21]; done)) (hj_29_0 _ _ _ hw hS hl)
    · refine lv_iconst (v := 2) hx hb dX3_withdraw_24 (by decide) ?_
      refine lv_goto (tgt := 29) hx hb dX3_withdraw_25 (by decide) ?_
      exact kx_top (v := (kd2 (isF nc x) (decide (g 82 x.toNatClampNeg = 0)))) (by first | (simp only [bq, c_8, decide_eq_false c_21, if_neg c_21]; done) | (simp only [bq, c_8, decide_eq_false c_21, if_neg c_21]; rfl) | (simp [bq, c_8, decide_eq_false c_21, if_neg c_21]; done)) (hj_29_0 _ _ _ hw hS hl)
  · refine lv_iconst (v := 1) hx hb dX3_withdraw_11 (by decide) ?_
    refine lv_goto (tgt := 29) hx hb dX3_withdraw_12 (by decide) ?_
    exact kx_top (v := (kd2 (isF nc x) (decide (g 82 x.toNatClampNeg = 0)))) (by first | (simp only [bq, c_8]; done) | (simp only [bq, c_8]; rfl) | (simp [bq, c_8]; done)) (hj_29_0 _ _ _ hw hS hl)
theorem hd_X3_roomsOf : yX3_roomsOf.cls = RX3 ∧ yX3_roomsOf.cls ≠ "java/lang/invoke/MethodHandle" ∧ yX3_roomsOf.cls ≠ "java/lang/invoke/VarHandle" ∧ (parseMethodDescriptor yX3_roomsOf.desc).map (fun d => d.parameters.length) = some 1 := by decide +kernel
set_option maxHeartbeats 4000000 in
set_option maxRecDepth 100000 in
theorem c_X3_roomsOf (l : Launch) (hfl : l.stackTraces = false) (D : va_G) (cy : Nat → ClassId) (base : Nat) (ad : Nat → Nat) (n nc : Nat) (g : sg) (q : Int32) (hq : vp_in q 10) : kM l yX3_roomsOf wsX3_roomsOf (kR 0 0 0) D cy base ad n nc g [.ref (ad 9), .int q] (kD True (some (.int (rmO (g 56) q))) ad n nc g) kNo 0 0 := by
  refine kx_meth (cc := cX3_roomsOf) (maxL := 2) (ret := (some .int)) (by decide) rfl (Nat.le_of_ble_eq_true rfl) ?_
  intro p e s m args below meth c ls hx hb hr hml hown hts hlk hT hG hw0 hS0 hl Q H locs hQ hw hS hH0 hlocs0
  have hl : lv_has ls 2 [(0, .ref (ad 9)), (1, .int q)] := hl
  have hown : s.vm.findClass RX3 = some m.cls := hown
  have hF : CallFix p m c cX3_roomsOf 2 s args wsX3_roomsOf RX3 := ⟨hx, hb, hml, hown, hts⟩
  have hn30 : n ≤ 30 := hw.2.2.1
  have hc20 : nc ≤ 20 := hw.2.2.2
  clear hw0 hS0 hH0 hlocs0
  have i3 : ∀ w ∈ wsX30, w ∈ wsX3_roomsOf := by decide +kernel
  have f_22 := hts (.fieldLink RX3 22 "LostroomModel" "stops" "[I") (by decide +kernel)
  refine lv_iload_n hx hb dX3_roomsOf_0 rfl (lv_at hl 1 rfl) ?_
  refine lv_bipush (v := 6) hx hb dX3_roomsOf_1 (by decide) ?_
  have hj_21_0 : ∀ (H : Heap) (locs : List Loc) (ls : Array Slot), kW D cy base ad n nc g H → va_S (kA base) s.heap H locs → lv_has ls 2 [(0, .ref (ad 9)), (1, .int q)] → W p l e (kR 0 0 0) s m args below meth c H locs 0 0 Q (F0 m 21 ls [.int (if (6 : Int32) ≤ q then (g 56 ((q - (6 : Int32)).toNatClampNeg)) else ((1 : Int32) <<< (q &&& 31)))]) := by
    intro H locs ls hw hS hl
    exact kx_retI hQ hx hb hr hlk hw hS (Nat.le_of_ble_eq_true rfl) (Nat.le_of_ble_eq_true rfl) dX3_roomsOf_21 (kd_i (trivial) (rfl) (rfl))
  refine lv_icmp_ge (tgt := 12) hx hb dX3_roomsOf_3 (by decide) (fun c_3 => ?_) (fun c_3 => ?_)
  · refine lv_aload_n hx hb dX3_roomsOf_12 rfl (lv_at hl 0 rfl) ?_
    refine kx_getM (v := .ref (ad 56)) hx hb hts hown hG hw i3 6 (by decide) f_22 rfl dX3_roomsOf_13 ?_
    refine lv_iload_n hx hb dX3_roomsOf_16 rfl (lv_at hl 1 rfl) ?_
    refine lv_bipush (v := 6) hx hb dX3_roomsOf_17 (by decide) ?_
    refine lv_isub hx hb dX3_roomsOf_19 ?_
    refine kx_iald (v := (g 56 ((q - (6 : Int32)).toNatClampNeg))) hx hb hG hw (kC_I rfl) ((q - (6 : Int32)).toNatClampNeg) rfl (vp_sub6 hq c_3) rfl dX3_roomsOf_20 ?_
    exact kx_top (v := (if (6 : Int32) ≤ q then (g 56 ((q - (6 : Int32)).toNatClampNeg)) else ((1 : Int32) <<< (q &&& 31)))) (by first | (simp only [bq, decide_eq_true c_3, if_pos c_3]; done) | (simp only [bq, decide_eq_true c_3, if_pos c_3]; rfl) | (simp [bq, decide_eq_true c_3, if_pos c_3]; done)) (hj_21_0 _ _ _ hw hS hl)
  · refine lv_iconst (v := 1) hx hb dX3_roomsOf_6 (by decide) ?_
    refine lv_iload_n hx hb dX3_roomsOf_7 rfl (lv_at hl 1 rfl) ?_
    refine lv_ishl hx hb dX3_roomsOf_8 ?_
    refine lv_goto (tgt := 21) hx hb dX3_roomsOf_9 (by decide) ?_
    exact kx_top (v := (if (6 : Int32) ≤ q then (g 56 ((q - (6 : Int32)).toNatClampNeg)) else ((1 : Int32) <<< (q &&& 31)))) (by first | (simp only [bq, decide_eq_false c_3, if_neg c_3]; done) | (simp only [bq, decide_eq_false c_3, if_neg c_3]; rfl) | (simp [bq, decide_eq_false c_3, if_neg c_3]; done)) (hj_21_0 _ _ _ hw hS hl)
theorem hd_X3_scoreOf : yX3_scoreOf.cls = RX3 ∧ yX3_scoreOf.cls ≠ "java/lang/invoke/MethodHandle" ∧ yX3_scoreOf.cls ≠ "java/lang/invoke/VarHandle" ∧ (parseMethodDescriptor yX3_scoreOf.desc).map (fun d => d.parameters.length) = some 2 := by decide +kernel
set_option maxHeartbeats 4000000 in
set_option maxRecDepth 100000 in
theorem c_X3_scoreOf (l : Launch) (hfl : l.stackTraces = false) (D : va_G) (cy : Nat → ClassId) (base : Nat) (ad : Nat → Nat) (n nc : Nat) (g : sg) (i : Nat) (j : Nat) (hi : i < n) (hj : j < nc) (hR : mR n nc g) : kM l yX3_scoreOf wsX3_scoreOf (kR 1 0 0) D cy base ad n nc g [.ref (ad 9), .int (nI i), .int (nI j)] (kD True (some (.int (mSc g i j))) ad n nc g) kNo 0 0 := by
  refine kx_meth (cc := cX3_scoreOf) (maxL := 11) (ret := (some .int)) (by decide) rfl (Nat.le_of_ble_eq_true rfl) ?_
  intro p e s m args below meth c ls hx hb hr hml hown hts hlk hT hG hw0 hS0 hl Q H locs hQ hw hS hH0 hlocs0
  have hl : lv_has ls 11 [(0, .ref (ad 9)), (1, .int (nI i)), (2, .int (nI j))] := hl
  have hown : s.vm.findClass RX3 = some m.cls := hown
  have hF : CallFix p m c cX3_scoreOf 11 s args wsX3_scoreOf RX3 := ⟨hx, hb, hml, hown, hts⟩
  have hn30 : n ≤ 30 := hw.2.2.1
  have hc20 : nc ≤ 20 := hw.2.2.2
  clear hw0 hS0 hH0 hlocs0
  have i3 : ∀ w ∈ wsX30, w ∈ wsX3_scoreOf := by decide +kernel
  have f_7 := hts (.fieldLink RX3 7 "LostroomModel" "nears" "[I") (by decide +kernel)
  have f_13 := hts (.fieldLink RX3 13 "LostroomModel" "alikes" "[I") (by decide +kernel)
  have f_29 := hts (.fieldLink RX3 29 "LostroomModel" "kinds" "[I") (by decide +kernel)
  have f_32 := hts (.fieldLink RX3 32 "LostroomModel" "places" "[I") (by decide +kernel)
  have f_35 := hts (.fieldLink RX3 35 "LostroomModel" "days" "[I") (by decide +kernel)
  have f_38 := hts (.fieldLink RX3 38 "LostroomModel" "words" "[I") (by decide +kernel)
  have f_41 := hts (.fieldLink RX3 41 "LostroomModel" "secrets" "[I") (by decide +kernel)
  have f_78 := hts (.fieldLink RX3 78 "LostroomModel" "claimKind" "[I") (by decide +kernel)
  have f_81 := hts (.fieldLink RX3 81 "LostroomModel" "claimPlace" "[I") (by decide +kernel)
  have f_84 := hts (.fieldLink RX3 84 "LostroomModel" "froms" "[I") (by decide +kernel)
  have f_87 := hts (.fieldLink RX3 87 "LostroomModel" "tos" "[I") (by decide +kernel)
  have f_90 := hts (.fieldLink RX3 90 "LostroomModel" "said" "[I") (by decide +kernel)
  have f_93 := hts (.fieldLink RX3 93 "LostroomModel" "tolds" "[I") (by decide +kernel)
  have hr1 := (hR.1 i hi).1
  have hr2 := (hR.1 i hi).2
  have hr3 := hR.2 j hj
  refine lv_aload_n hx hb dX3_scoreOf_0 rfl (lv_at hl 0 rfl) ?_
  refine kx_getM (v := .ref (ad 59)) hx hb hts hown hG hw i3 9 (by decide) f_29 rfl dX3_scoreOf_1 ?_
  refine lv_iload_n hx hb dX3_scoreOf_4 rfl (lv_at hl 1 rfl) ?_
  refine kx_iald (v := (g 59 i)) hx hb hG hw (kC_I rfl) i (nI_clamp (by omega)) (vp_in_nI (by omega) (by decide)) rfl dX3_scoreOf_5 ?_
  refine lv_istore_n (lv' := [(3, .int (g 59 i)), (0, .ref (ad 9)), (1, .int (nI i)), (2, .int (nI j))]) hx hb dX3_scoreOf_6 rfl hl (by decide) rfl (fun ls hl => ?_)
  refine lv_aload_n hx hb dX3_scoreOf_7 rfl (lv_at hl 1 rfl) ?_
  refine kx_getM (v := .ref (ad 53)) hx hb hts hown hG hw i3 3 (by decide) f_13 rfl dX3_scoreOf_8 ?_
  refine lv_iload_n hx hb dX3_scoreOf_11 rfl (lv_at hl 0 rfl) ?_
  refine kx_iald (v := (g 53 (g 59 i).toNatClampNeg)) hx hb hG hw (kC_I rfl) ((g 59 i).toNatClampNeg) rfl (by first | assumption | exact ix_of (by assumption) (by assumption) rfl (by decide)) rfl dX3_scoreOf_12 ?_
  refine lv_aload_n hx hb dX3_scoreOf_13 rfl (lv_at hl 1 rfl) ?_
  refine kx_getM (v := .ref (ad 76)) hx hb hts hown hG hw i3 26 (by decide) f_78 rfl dX3_scoreOf_14 ?_
  refine lv_iload_n hx hb dX3_scoreOf_17 rfl (lv_at hl 3 rfl) ?_
  refine kx_iald (v := (g 76 j)) hx hb hG hw (kC_I rfl) j (nI_clamp (by omega)) (vp_in_nI (by omega) (by decide)) rfl dX3_scoreOf_18 ?_
  refine lv_ishr hx hb dX3_scoreOf_19 ?_
  refine lv_iconst (v := 1) hx hb dX3_scoreOf_20 (by decide) ?_
  refine lv_iand hx hb dX3_scoreOf_21 ?_
  refine lv_iconst (v := 1) hx hb dX3_scoreOf_22 (by decide) ?_
  have hj_31_0 : ∀ (H : Heap) (locs : List Loc) (ls : Array Slot), kW D cy base ad n nc g H → va_S (kA base) s.heap H locs → lv_has ls 11 [(3, .int (g 59 i)), (0, .ref (ad 9)), (1, .int (nI i)), (2, .int (nI j))] → W p l e (kR 1 0 0) s m args below meth c H locs 0 0 Q (F0 m 31 ls [.int (b2 (decide ((((g 53 (g 59 i).toNatClampNeg) >>> ((g 76 j) &&& 31)) &&& (1 : Int32)) = (1 : Int32))))]) := by
    intro H locs ls hw hS hl
    refine lv_istore (lv' := [(4, .int (b2 (decide ((((g 53 (g 59 i).toNatClampNeg) >>> ((g 76 j) &&& 31)) &&& (1 : Int32)) = (1 : Int32))))), (3, .int (g 59 i)), (0, .ref (ad 9)), (1, .int (nI i)), (2, .int (nI j))]) hx hb dX3_scoreOf_31 hl (by decide) rfl (fun ls hl => ?_)
    refine lv_iload_n hx hb dX3_scoreOf_33 rfl (lv_at hl 1 rfl) ?_
    refine lv_aload_n hx hb dX3_scoreOf_34 rfl (lv_at hl 2 rfl) ?_
    refine kx_getM (v := .ref (ad 76)) hx hb hts hown hG hw i3 26 (by decide) f_78 rfl dX3_scoreOf_35 ?_
    refine lv_iload_n hx hb dX3_scoreOf_38 rfl (lv_at hl 4 rfl) ?_
    refine kx_iald (v := (g 76 j)) hx hb hG hw (kC_I rfl) j (nI_clamp (by omega)) (vp_in_nI (by omega) (by decide)) rfl dX3_scoreOf_39 ?_
    refine lv_icmp_eq (tgt := 50) hx hb dX3_scoreOf_40 (by decide) (fun c_40 => ?_) (fun c_40 => ?_)
    · refine lv_iload_n hx hb dX3_scoreOf_50 rfl (lv_at hl 1 rfl) ?_
      refine lv_aload_n hx hb dX3_scoreOf_51 rfl (lv_at hl 2 rfl) ?_
      refine kx_getM (v := .ref (ad 76)) hx hb hts hown hG hw i3 26 (by decide) f_78 rfl dX3_scoreOf_52 ?_
      refine lv_iload_n hx hb dX3_scoreOf_55 rfl (lv_at hl 4 rfl) ?_
      refine kx_iald (v := (g 76 j)) hx hb hG hw (kC_I rfl) j (nI_clamp (by omega)) (vp_in_nI (by omega) (by decide)) rfl dX3_scoreOf_56 ?_
      have hj_67_1 : ∀ (H : Heap) (locs : List Loc) (ls : Array Slot), kW D cy base ad n nc g H → va_S (kA base) s.heap H locs → lv_has ls 11 [(4, .int (b2 (decide ((((g 53 (g 59 i).toNatClampNeg) >>> ((g 76 j) &&& 31)) &&& (1 : Int32)) = (1 : Int32))))), (3, .int (g 59 i)), (0, .ref (ad 9)), (1, .int (nI i)), (2, .int (nI j))] → W p l e (kR 1 0 0) s m args below meth c H locs 0 0 Q (F0 m 67 ls [.int (if (g 59 i) = (g 76 j) then (40 : Int32) else (15 : Int32))]) := by
        intro H locs ls hw hS hl
        refine lv_istore (lv' := [(5, .int (if (g 59 i) = (g 76 j) then (40 : Int32) else (15 : Int32))), (4, .int (b2 (decide ((((g 53 (g 59 i).toNatClampNeg) >>> ((g 76 j) &&& 31)) &&& (1 : Int32)) = (1 : Int32))))), (3, .int (g 59 i)), (0, .ref (ad 9)), (1, .int (nI i)), (2, .int (nI j))]) hx hb dX3_scoreOf_67 hl (by decide) rfl (fun ls hl => ?_)
        refine lv_iload hx hb dX3_scoreOf_69 (lv_at hl 0 rfl) ?_
        refine lv_aload_n hx hb dX3_scoreOf_71 rfl (lv_at hl 3 rfl) ?_
        refine kx_getM (v := .ref (ad 60)) hx hb hts hown hG hw i3 10 (by decide) f_32 rfl dX3_scoreOf_72 ?_
        refine lv_iload_n hx hb dX3_scoreOf_75 rfl (lv_at hl 4 rfl) ?_
        refine kx_iald (v := (g 60 i)) hx hb hG hw (kC_I rfl) i (nI_clamp (by omega)) (vp_in_nI (by omega) (by decide)) rfl dX3_scoreOf_76 ?_
        refine lv_aload_n hx hb dX3_scoreOf_77 rfl (lv_at hl 3 rfl) ?_
        refine kx_getM (v := .ref (ad 77)) hx hb hts hown hG hw i3 27 (by decide) f_81 rfl dX3_scoreOf_78 ?_
        refine lv_iload_n hx hb dX3_scoreOf_81 rfl (lv_at hl 5 rfl) ?_
        refine kx_iald (v := (g 77 j)) hx hb hG hw (kC_I rfl) j (nI_clamp (by omega)) (vp_in_nI (by omega) (by decide)) rfl dX3_scoreOf_82 ?_
        have hj_121_2 : ∀ (H : Heap) (locs : List Loc) (ls : Array Slot), kW D cy base ad n nc g H → va_S (kA base) s.heap H locs → lv_has ls 11 [(5, .int (if (g 59 i) = (g 76 j) then (40 : Int32) else (15 : Int32))), (4, .int (b2 (decide ((((g 53 (g 59 i).toNatClampNeg) >>> ((g 76 j) &&& 31)) &&& (1 : Int32)) = (1 : Int32))))), (3, .int (g 59 i)), (0, .ref (ad 9)), (1, .int (nI i)), (2, .int (nI j))] → W p l e (kR 1 0 0) s m args below meth c H locs 0 0 Q (F0 m 121 ls [.int (if (g 60 i) = (g 77 j) then (20 : Int32) else (if ((rmO (g 56) (g 60 i)) &&& (rmO (g 56) (g 77 j))) = (0 : Int32) then (0 : Int32) else (10 : Int32))), .int (if (g 59 i) = (g 76 j) then (40 : Int32) else (15 : Int32))]) := by
          intro H locs ls hw hS hl
          refine lv_iadd hx hb dX3_scoreOf_121 ?_
          refine lv_istore (lv' := [(5, .int ((if (g 59 i) = (g 76 j) then (40 : Int32) else (15 : Int32)) + (if (g 60 i) = (g 77 j) then (20 : Int32) else (if ((rmO (g 56) (g 60 i)) &&& (rmO (g 56) (g 77 j))) = (0 : Int32) then (0 : Int32) else (10 : Int32))))), (4, .int (b2 (decide ((((g 53 (g 59 i).toNatClampNeg) >>> ((g 76 j) &&& 31)) &&& (1 : Int32)) = (1 : Int32))))), (3, .int (g 59 i)), (0, .ref (ad 9)), (1, .int (nI i)), (2, .int (nI j))]) hx hb dX3_scoreOf_122 hl (by decide) rfl (fun ls hl => ?_)
          refine lv_aload_n hx hb dX3_scoreOf_124 rfl (lv_at hl 3 rfl) ?_
          refine kx_getM (v := .ref (ad 61)) hx hb hts hown hG hw i3 11 (by decide) f_35 rfl dX3_scoreOf_125 ?_
          refine lv_iload_n hx hb dX3_scoreOf_128 rfl (lv_at hl 4 rfl) ?_
          refine kx_iald (v := (g 61 i)) hx hb hG hw (kC_I rfl) i (nI_clamp (by omega)) (vp_in_nI (by omega) (by decide)) rfl dX3_scoreOf_129 ?_
          refine lv_aload_n hx hb dX3_scoreOf_130 rfl (lv_at hl 3 rfl) ?_
          refine kx_getM (v := .ref (ad 79)) hx hb hts hown hG hw i3 29 (by decide) f_87 rfl dX3_scoreOf_131 ?_
          refine lv_iload_n hx hb dX3_scoreOf_134 rfl (lv_at hl 5 rfl) ?_
          refine kx_iald (v := (g 79 j)) hx hb hG hw (kC_I rfl) j (nI_clamp (by omega)) (vp_in_nI (by omega) (by decide)) rfl dX3_scoreOf_135 ?_
          refine lv_isub hx hb dX3_scoreOf_136 ?_
          refine lv_istore (lv' := [(6, .int ((g 61 i) - (g 79 j))), (5, .int ((if (g 59 i) = (g 76 j) then (40 : Int32) else (15 : Int32)) + (if (g 60 i) = (g 77 j) then (20 : Int32) else (if ((rmO (g 56) (g 60 i)) &&& (rmO (g 56) (g 77 j))) = (0 : Int32) then (0 : Int32) else (10 : Int32))))), (4, .int (b2 (decide ((((g 53 (g 59 i).toNatClampNeg) >>> ((g 76 j) &&& 31)) &&& (1 : Int32)) = (1 : Int32))))), (3, .int (g 59 i)), (0, .ref (ad 9)), (1, .int (nI i)), (2, .int (nI j))]) hx hb dX3_scoreOf_137 hl (by decide) rfl (fun ls hl => ?_)
          refine lv_iload hx hb dX3_scoreOf_139 (lv_at hl 1 rfl) ?_
          refine lv_aload_n hx hb dX3_scoreOf_141 rfl (lv_at hl 4 rfl) ?_
          refine kx_getM (v := .ref (ad 61)) hx hb hts hown hG hw i3 11 (by decide) f_35 rfl dX3_scoreOf_142 ?_
          refine lv_iload_n hx hb dX3_scoreOf_145 rfl (lv_at hl 5 rfl) ?_
          refine kx_iald (v := (g 61 i)) hx hb hG hw (kC_I rfl) i (nI_clamp (by omega)) (vp_in_nI (by omega) (by decide)) rfl dX3_scoreOf_146 ?_
          refine lv_aload_n hx hb dX3_scoreOf_147 rfl (lv_at hl 4 rfl) ?_
          refine kx_getM (v := .ref (ad 78)) hx hb hts hown hG hw i3 28 (by decide) f_84 rfl dX3_scoreOf_148 ?_
          refine lv_iload_n hx hb dX3_scoreOf_151 rfl (lv_at hl 6 rfl) ?_
          refine kx_iald (v := (g 78 j)) hx hb hG hw (kC_I rfl) j (nI_clamp (by omega)) (vp_in_nI (by omega) (by decide)) rfl dX3_scoreOf_152 ?_
          have hj_188_3 : ∀ (H : Heap) (locs : List Loc) (ls : Array Slot), kW D cy base ad n nc g H → va_S (kA base) s.heap H locs → lv_has ls 11 [(6, .int ((g 61 i) - (g 79 j))), (5, .int ((if (g 59 i) = (g 76 j) then (40 : Int32) else (15 : Int32)) + (if (g 60 i) = (g 77 j) then (20 : Int32) else (if ((rmO (g 56) (g 60 i)) &&& (rmO (g 56) (g 77 j))) = (0 : Int32) then (0 : Int32) else (10 : Int32))))), (4, .int (b2 (decide ((((g 53 (g 59 i).toNatClampNeg) >>> ((g 76 j) &&& 31)) &&& (1 : Int32)) = (1 : Int32))))), (3, .int (g 59 i)), (0, .ref (ad 9)), (1, .int (nI i)), (2, .int (nI j))] → W p l e (kR 1 0 0) s m args below meth c H locs 0 0 Q (F0 m 188 ls [.int (if (g 78 j) ≤ (g 61 i) then (if (0 : Int32) < ((g 61 i) - (g 79 j)) then (if (10 : Int32) ≤ ((g 61 i) - (g 79 j)) then (0 : Int32) else ((20 : Int32) - ((2 : Int32) * ((g 61 i) - (g 79 j))))) else (20 : Int32)) else (0 : Int32)), .int ((if (g 59 i) = (g 76 j) then (40 : Int32) else (15 : Int32)) + (if (g 60 i) = (g 77 j) then (20 : Int32) else (if ((rmO (g 56) (g 60 i)) &&& (rmO (g 56) (g 77 j))) = (0 : Int32) then (0 : Int32) else (10 : Int32))))]) := by
            intro H locs ls hw hS hl
            refine lv_iadd hx hb dX3_scoreOf_188 ?_
            refine lv_istore (lv' := [(5, .int (((if (g 59 i) = (g 76 j) then (40 : Int32) else (15 : Int32)) + (if (g 60 i) = (g 77 j) then (20 : Int32) else (if ((rmO (g 56) (g 60 i)) &&& (rmO (g 56) (g 77 j))) = (0 : Int32) then (0 : Int32) else (10 : Int32)))) + (if (g 78 j) ≤ (g 61 i) then (if (0 : Int32) < ((g 61 i) - (g 79 j)) then (if (10 : Int32) ≤ ((g 61 i) - (g 79 j)) then (0 : Int32) else ((20 : Int32) - ((2 : Int32) * ((g 61 i) - (g 79 j))))) else (20 : Int32)) else (0 : Int32)))), (6, .int ((g 61 i) - (g 79 j))), (4, .int (b2 (decide ((((g 53 (g 59 i).toNatClampNeg) >>> ((g 76 j) &&& 31)) &&& (1 : Int32)) = (1 : Int32))))), (3, .int (g 59 i)), (0, .ref (ad 9)), (1, .int (nI i)), (2, .int (nI j))]) hx hb dX3_scoreOf_189 hl (by decide) rfl (fun ls hl => ?_)
            refine lv_aload_n hx hb dX3_scoreOf_191 rfl (lv_at hl 4 rfl) ?_
            refine kx_getM (v := .ref (ad 62)) hx hb hts hown hG hw i3 12 (by decide) f_38 rfl dX3_scoreOf_192 ?_
            refine lv_iload_n hx hb dX3_scoreOf_195 rfl (lv_at hl 5 rfl) ?_
            refine kx_iald (v := (g 62 i)) hx hb hG hw (kC_I rfl) i (nI_clamp (by omega)) (vp_in_nI (by omega) (by decide)) rfl dX3_scoreOf_196 ?_
            refine lv_aload_n hx hb dX3_scoreOf_197 rfl (lv_at hl 4 rfl) ?_
            refine kx_getM (v := .ref (ad 63)) hx hb hts hown hG hw i3 13 (by decide) f_41 rfl dX3_scoreOf_198 ?_
            refine lv_iload_n hx hb dX3_scoreOf_201 rfl (lv_at hl 5 rfl) ?_
            refine kx_iald (v := (g 63 i)) hx hb hG hw (kC_I rfl) i (nI_clamp (by omega)) (vp_in_nI (by omega) (by decide)) rfl dX3_scoreOf_202 ?_
            refine lv_aload_n hx hb dX3_scoreOf_203 rfl (lv_at hl 4 rfl) ?_
            refine kx_getM (v := .ref (ad 81)) hx hb hts hown hG hw i3 31 (by decide) f_93 rfl dX3_scoreOf_204 ?_
            refine lv_iload_n hx hb dX3_scoreOf_207 rfl (lv_at hl 6 rfl) ?_
            refine kx_iald (v := (g 81 j)) hx hb hG hw (kC_I rfl) j (nI_clamp (by omega)) (vp_in_nI (by omega) (by decide)) rfl dX3_scoreOf_208 ?_
            refine lv_iand hx hb dX3_scoreOf_209 ?_
            refine lv_ior hx hb dX3_scoreOf_210 ?_
            refine lv_istore (lv' := [(7, .int ((g 62 i) ||| ((g 63 i) &&& (g 81 j)))), (5, .int (((if (g 59 i) = (g 76 j) then (40 : Int32) else (15 : Int32)) + (if (g 60 i) = (g 77 j) then (20 : Int32) else (if ((rmO (g 56) (g 60 i)) &&& (rmO (g 56) (g 77 j))) = (0 : Int32) then (0 : Int32) else (10 : Int32)))) + (if (g 78 j) ≤ (g 61 i) then (if (0 : Int32) < ((g 61 i) - (g 79 j)) then (if (10 : Int32) ≤ ((g 61 i) - (g 79 j)) then (0 : Int32) else ((20 : Int32) - ((2 : Int32) * ((g 61 i) - (g 79 j))))) else (20 : Int32)) else (0 : Int32)))), (6, .int ((g 61 i) - (g 79 j))), (4, .int (b2 (decide ((((g 53 (g 59 i).toNatClampNeg) >>> ((g 76 j) &&& 31)) &&& (1 : Int32)) = (1 : Int32))))), (3, .int (g 59 i)), (0, .ref (ad 9)), (1, .int (nI i)), (2, .int (nI j))]) hx hb dX3_scoreOf_211 hl (by decide) rfl (fun ls hl => ?_)
            refine lv_iconst (v := 0) hx hb dX3_scoreOf_213 (by decide) ?_
            refine lv_istore (lv' := [(8, .int (0 : Int32)), (7, .int ((g 62 i) ||| ((g 63 i) &&& (g 81 j)))), (5, .int (((if (g 59 i) = (g 76 j) then (40 : Int32) else (15 : Int32)) + (if (g 60 i) = (g 77 j) then (20 : Int32) else (if ((rmO (g 56) (g 60 i)) &&& (rmO (g 56) (g 77 j))) = (0 : Int32) then (0 : Int32) else (10 : Int32)))) + (if (g 78 j) ≤ (g 61 i) then (if (0 : Int32) < ((g 61 i) - (g 79 j)) then (if (10 : Int32) ≤ ((g 61 i) - (g 79 j)) then (0 : Int32) else ((20 : Int32) - ((2 : Int32) * ((g 61 i) - (g 79 j))))) else (20 : Int32)) else (0 : Int32)))), (6, .int ((g 61 i) - (g 79 j))), (4, .int (b2 (decide ((((g 53 (g 59 i).toNatClampNeg) >>> ((g 76 j) &&& 31)) &&& (1 : Int32)) = (1 : Int32))))), (3, .int (g 59 i)), (0, .ref (ad 9)), (1, .int (nI i)), (2, .int (nI j))]) hx hb dX3_scoreOf_214 hl (by decide) rfl (fun ls hl => ?_)
            have lp_216 : ∀ (nn k : Nat), k ≤ 24 → 24 < k + nn → ∀ (H : Heap) (locs : List Loc) (ls : Array Slot), kW D cy base ad n nc g H → va_S (kA base) s.heap H locs → lv_has ls 11 [(8, .int (nI k)), (7, .int ((g 62 i) ||| ((g 63 i) &&& (g 81 j)))), (5, .int ((((if (g 59 i) = (g 76 j) then (40 : Int32) else (15 : Int32)) + scP (g 56) (g 60 i) (g 77 j)) + scD (g 61 i) (g 78 j) (g 79 j)) + scW ((g 62 i) ||| ((g 63 i) &&& (g 81 j))) (g 80 j) (g 52) k)), (6, .int ((g 61 i) - (g 79 j))), (4, .int (b2 (decide ((((g 53 (g 59 i).toNatClampNeg) >>> ((g 76 j) &&& 31)) &&& (1 : Int32)) = (1 : Int32))))), (3, .int (g 59 i)), (0, .ref (ad 9)), (1, .int (nI i)), (2, .int (nI j))] → W p l e (kR 1 0 0) s m args below meth c H locs 0 0 Q (F0 m 216 ls []) := by
              intro nn
              induction nn with
              | zero => intro k h1 h2; exact absurd h2 (by omega)
              | succ nn ih_216 =>
                intro k hk_k hkn_k H locs ls hw hS hl
                refine lv_iload hx hb dX3_scoreOf_216 (lv_at hl 0 rfl) ?_
                refine lv_bipush (v := 24) hx hb dX3_scoreOf_218 (by decide) ?_
                refine lv_icmp_ge (tgt := 303) hx hb dX3_scoreOf_220 (by decide) (fun c_220 => ?_) (fun c_220 => ?_)
                · have e_k : k = 24 := Nat.le_antisymm hk_k (le_nI (a := 24) (b := k) c_220 (by omega) (by omega))
                  refine lv_iload hx hb dX3_scoreOf_303 (lv_at hl 2 rfl) ?_
                  have hj_314_4 : ∀ (H : Heap) (locs : List Loc) (ls : Array Slot), kW D cy base ad n nc g H → va_S (kA base) s.heap H locs → lv_has ls 11 [(8, .int (nI k)), (7, .int ((g 62 i) ||| ((g 63 i) &&& (g 81 j)))), (5, .int ((((if (g 59 i) = (g 76 j) then (40 : Int32) else (15 : Int32)) + scP (g 56) (g 60 i) (g 77 j)) + scD (g 61 i) (g 78 j) (g 79 j)) + scW ((g 62 i) ||| ((g 63 i) &&& (g 81 j))) (g 80 j) (g 52) k)), (6, .int ((g 61 i) - (g 79 j))), (4, .int (b2 (decide ((((g 53 (g 59 i).toNatClampNeg) >>> ((g 76 j) &&& 31)) &&& (1 : Int32)) = (1 : Int32))))), (3, .int (g 59 i)), (0, .ref (ad 9)), (1, .int (nI i)), (2, .int (nI j))] → W p l e (kR 1 0 0) s m args below meth c H locs 0 0 Q (F0 m 314 ls [.int (if (0 : Int32) ≤ (((if (g 59 i) = (g 76 j) then (40 : Int32) else (15 : Int32)) + scP (g 56) (g 60 i) (g 77 j)) + scD (g 61 i) (g 78 j) (g 79 j)) + scW ((g 62 i) ||| ((g 63 i) &&& (g 81 j))) (g 80 j) (g 52) k then (((if (g 59 i) = (g 76 j) then (40 : Int32) else (15 : Int32)) + scP (g 56) (g 60 i) (g 77 j)) + scD (g 61 i) (g 78 j) (g 79 j)) + scW ((g 62 i) ||| ((g 63 i) &&& (g 81 j))) (g 80 j) (g 52) k else (0 : Int32))]) := by
                    intro H locs ls hw hS hl
                    exact kx_retI hQ hx hb hr hlk hw hS (Nat.le_of_ble_eq_true rfl) (Nat.le_of_ble_eq_true rfl) dX3_scoreOf_314 (kd_i (trivial) (by simp only [mSc, score, scK, bq, e_k, decide_eq_true c_40, if_pos c_40, decide_eq_true c_220, if_pos c_220, e_k]; rfl) (rfl))
                  refine lv_if_ge (tgt := 312) hx hb dX3_scoreOf_305 (by decide) (fun c_305 => ?_) (fun c_305 => ?_)
                  · refine lv_iload hx hb dX3_scoreOf_312 (lv_at hl 2 rfl) ?_
                    exact kx_top (v := (if (0 : Int32) ≤ (((if (g 59 i) = (g 76 j) then (40 : Int32) else (15 : Int32)) + scP (g 56) (g 60 i) (g 77 j)) + scD (g 61 i) (g 78 j) (g 79 j)) + scW ((g 62 i) ||| ((g 63 i) &&& (g 81 j))) (g 80 j) (g 52) k then (((if (g 59 i) = (g 76 j) then (40 : Int32) else (15 : Int32)) + scP (g 56) (g 60 i) (g 77 j)) + scD (g 61 i) (g 78 j) (g 79 j)) + scW ((g 62 i) ||| ((g 63 i) &&& (g 81 j))) (g 80 j) (g 52) k else (0 : Int32))) (by first | (simp only [bq, decide_eq_true c_305, if_pos c_305]; done) | (simp only [bq, decide_eq_true c_305, if_pos c_305]; rfl) | (simp [bq, decide_eq_true c_305, if_pos c_305]; done)) (hj_314_4 _ _ _ hw hS hl)
                  · refine lv_iconst (v := 0) hx hb dX3_scoreOf_308 (by decide) ?_
                    refine lv_goto (tgt := 314) hx hb dX3_scoreOf_309 (by decide) ?_
                    exact kx_top (v := (if (0 : Int32) ≤ (((if (g 59 i) = (g 76 j) then (40 : Int32) else (15 : Int32)) + scP (g 56) (g 60 i) (g 77 j)) + scD (g 61 i) (g 78 j) (g 79 j)) + scW ((g 62 i) ||| ((g 63 i) &&& (g 81 j))) (g 80 j) (g 52) k then (((if (g 59 i) = (g 76 j) then (40 : Int32) else (15 : Int32)) + scP (g 56) (g 60 i) (g 77 j)) + scD (g 61 i) (g 78 j) (g 79 j)) + scW ((g 62 i) ||| ((g 63 i) &&& (g 81 j))) (g 80 j) (g 52) k else (0 : Int32))) (by first | (simp only [bq, decide_eq_false c_305, if_neg c_305]; done) | (simp only [bq, decide_eq_false c_305, if_neg c_305]; rfl) | (simp [bq, decide_eq_false c_305, if_neg c_305]; done)) (hj_314_4 _ _ _ hw hS hl)
                · have hlt_k : k < 24 := lt_nI (a := 24) (b := k) c_220 (by omega) (by omega)
                  refine lv_aload_n hx hb dX3_scoreOf_223 rfl (lv_at hl 6 rfl) ?_
                  refine kx_getM (v := .ref (ad 80)) hx hb hts hown hG hw i3 30 (by decide) f_90 rfl dX3_scoreOf_224 ?_
                  refine lv_iload_n hx hb dX3_scoreOf_227 rfl (lv_at hl 8 rfl) ?_
                  refine kx_iald (v := (g 80 j)) hx hb hG hw (kC_I rfl) j (nI_clamp (by omega)) (vp_in_nI (by omega) (by decide)) rfl dX3_scoreOf_228 ?_
                  refine lv_iload hx hb dX3_scoreOf_229 (lv_at hl 0 rfl) ?_
                  refine lv_ishr hx hb dX3_scoreOf_231 ?_
                  refine lv_iconst (v := 1) hx hb dX3_scoreOf_232 (by decide) ?_
                  refine lv_iand hx hb dX3_scoreOf_233 ?_
                  refine lv_iconst (v := 1) hx hb dX3_scoreOf_234 (by decide) ?_
                  have hj_243_5 : ∀ (H : Heap) (locs : List Loc) (ls : Array Slot), kW D cy base ad n nc g H → va_S (kA base) s.heap H locs → lv_has ls 11 [(8, .int (nI k)), (7, .int ((g 62 i) ||| ((g 63 i) &&& (g 81 j)))), (5, .int ((((if (g 59 i) = (g 76 j) then (40 : Int32) else (15 : Int32)) + scP (g 56) (g 60 i) (g 77 j)) + scD (g 61 i) (g 78 j) (g 79 j)) + scW ((g 62 i) ||| ((g 63 i) &&& (g 81 j))) (g 80 j) (g 52) k)), (6, .int ((g 61 i) - (g 79 j))), (4, .int (b2 (decide ((((g 53 (g 59 i).toNatClampNeg) >>> ((g 76 j) &&& 31)) &&& (1 : Int32)) = (1 : Int32))))), (3, .int (g 59 i)), (0, .ref (ad 9)), (1, .int (nI i)), (2, .int (nI j))] → W p l e (kR 1 0 0) s m args below meth c H locs 0 0 Q (F0 m 243 ls [.int (b2 (decide ((((g 80 j) >>> (nI k &&& 31)) &&& (1 : Int32)) = (1 : Int32))))]) := by
                    intro H locs ls hw hS hl
                    refine lv_istore (lv' := [(9, .int (b2 (decide ((((g 80 j) >>> (nI k &&& 31)) &&& (1 : Int32)) = (1 : Int32))))), (8, .int (nI k)), (7, .int ((g 62 i) ||| ((g 63 i) &&& (g 81 j)))), (5, .int ((((if (g 59 i) = (g 76 j) then (40 : Int32) else (15 : Int32)) + scP (g 56) (g 60 i) (g 77 j)) + scD (g 61 i) (g 78 j) (g 79 j)) + scW ((g 62 i) ||| ((g 63 i) &&& (g 81 j))) (g 80 j) (g 52) k)), (6, .int ((g 61 i) - (g 79 j))), (4, .int (b2 (decide ((((g 53 (g 59 i).toNatClampNeg) >>> ((g 76 j) &&& 31)) &&& (1 : Int32)) = (1 : Int32))))), (3, .int (g 59 i)), (0, .ref (ad 9)), (1, .int (nI i)), (2, .int (nI j))]) hx hb dX3_scoreOf_243 hl (by decide) rfl (fun ls hl => ?_)
                    refine lv_iload hx hb dX3_scoreOf_245 (lv_at hl 2 rfl) ?_
                    refine lv_iload hx hb dX3_scoreOf_247 (lv_at hl 1 rfl) ?_
                    refine lv_ishr hx hb dX3_scoreOf_249 ?_
                    refine lv_iconst (v := 1) hx hb dX3_scoreOf_250 (by decide) ?_
                    refine lv_iand hx hb dX3_scoreOf_251 ?_
                    refine lv_iconst (v := 1) hx hb dX3_scoreOf_252 (by decide) ?_
                    have hj_279_6 : ∀ (H : Heap) (locs : List Loc) (ls : Array Slot), kW D cy base ad n nc g H → va_S (kA base) s.heap H locs → lv_has ls 11 [(9, .int (b2 (decide ((((g 80 j) >>> (nI k &&& 31)) &&& (1 : Int32)) = (1 : Int32))))), (8, .int (nI k)), (7, .int ((g 62 i) ||| ((g 63 i) &&& (g 81 j)))), (5, .int ((((if (g 59 i) = (g 76 j) then (40 : Int32) else (15 : Int32)) + scP (g 56) (g 60 i) (g 77 j)) + scD (g 61 i) (g 78 j) (g 79 j)) + scW ((g 62 i) ||| ((g 63 i) &&& (g 81 j))) (g 80 j) (g 52) k)), (6, .int ((g 61 i) - (g 79 j))), (4, .int (b2 (decide ((((g 53 (g 59 i).toNatClampNeg) >>> ((g 76 j) &&& 31)) &&& (1 : Int32)) = (1 : Int32))))), (3, .int (g 59 i)), (0, .ref (ad 9)), (1, .int (nI i)), (2, .int (nI j))] → W p l e (kR 1 0 0) s m args below meth c H locs 0 0 Q (F0 m 279 ls [.int (if ((((g 62 i) ||| ((g 63 i) &&& (g 81 j))) >>> (nI k &&& 31)) &&& (1 : Int32)) = (1 : Int32) then (6 : Int32) else (if (((g 62 i) ||| ((g 63 i) &&& (g 81 j))) &&& (g 52 k)) = (0 : Int32) then (-1 : Int32) else (3 : Int32)))]) := by
                      intro H locs ls hw hS hl
                      refine lv_istore (lv' := [(10, .int (if ((((g 62 i) ||| ((g 63 i) &&& (g 81 j))) >>> (nI k &&& 31)) &&& (1 : Int32)) = (1 : Int32) then (6 : Int32) else (if (((g 62 i) ||| ((g 63 i) &&& (g 81 j))) &&& (g 52 k)) = (0 : Int32) then (-1 : Int32) else (3 : Int32)))), (9, .int (b2 (decide ((((g 80 j) >>> (nI k &&& 31)) &&& (1 : Int32)) = (1 : Int32))))), (8, .int (nI k)), (7, .int ((g 62 i) ||| ((g 63 i) &&& (g 81 j)))), (5, .int ((((if (g 59 i) = (g 76 j) then (40 : Int32) else (15 : Int32)) + scP (g 56) (g 60 i) (g 77 j)) + scD (g 61 i) (g 78 j) (g 79 j)) + scW ((g 62 i) ||| ((g 63 i) &&& (g 81 j))) (g 80 j) (g 52) k)), (6, .int ((g 61 i) - (g 79 j))), (4, .int (b2 (decide ((((g 53 (g 59 i).toNatClampNeg) >>> ((g 76 j) &&& 31)) &&& (1 : Int32)) = (1 : Int32))))), (3, .int (g 59 i)), (0, .ref (ad 9)), (1, .int (nI i)), (2, .int (nI j))]) hx hb dX3_scoreOf_279 hl (by decide) rfl (fun ls hl => ?_)
                      refine lv_iload hx hb dX3_scoreOf_281 (lv_at hl 4 rfl) ?_
                      refine lv_iload hx hb dX3_scoreOf_283 (lv_at hl 1 rfl) ?_
                      have hj_294_7 : ∀ (H : Heap) (locs : List Loc) (ls : Array Slot), kW D cy base ad n nc g H → va_S (kA base) s.heap H locs → lv_has ls 11 [(10, .int (if ((((g 62 i) ||| ((g 63 i) &&& (g 81 j))) >>> (nI k &&& 31)) &&& (1 : Int32)) = (1 : Int32) then (6 : Int32) else (if (((g 62 i) ||| ((g 63 i) &&& (g 81 j))) &&& (g 52 k)) = (0 : Int32) then (-1 : Int32) else (3 : Int32)))), (9, .int (b2 (decide ((((g 80 j) >>> (nI k &&& 31)) &&& (1 : Int32)) = (1 : Int32))))), (8, .int (nI k)), (7, .int ((g 62 i) ||| ((g 63 i) &&& (g 81 j)))), (5, .int ((((if (g 59 i) = (g 76 j) then (40 : Int32) else (15 : Int32)) + scP (g 56) (g 60 i) (g 77 j)) + scD (g 61 i) (g 78 j) (g 79 j)) + scW ((g 62 i) ||| ((g 63 i) &&& (g 81 j))) (g 80 j) (g 52) k)), (6, .int ((g 61 i) - (g 79 j))), (4, .int (b2 (decide ((((g 53 (g 59 i).toNatClampNeg) >>> ((g 76 j) &&& 31)) &&& (1 : Int32)) = (1 : Int32))))), (3, .int (g 59 i)), (0, .ref (ad 9)), (1, .int (nI i)), (2, .int (nI j))] → W p l e (kR 1 0 0) s m args below meth c H locs 0 0 Q (F0 m 294 ls [.int (if (decide ((((g 80 j) >>> (nI k &&& 31)) &&& (1 : Int32)) = (1 : Int32))) = true then (if ((((g 62 i) ||| ((g 63 i) &&& (g 81 j))) >>> (nI k &&& 31)) &&& (1 : Int32)) = (1 : Int32) then (6 : Int32) else (if (((g 62 i) ||| ((g 63 i) &&& (g 81 j))) &&& (g 52 k)) = (0 : Int32) then (-1 : Int32) else (3 : Int32))) else (0 : Int32)), .int ((((if (g 59 i) = (g 76 j) then (40 : Int32) else (15 : Int32)) + scP (g 56) (g 60 i) (g 77 j)) + scD (g 61 i) (g 78 j) (g 79 j)) + scW ((g 62 i) ||| ((g 63 i) &&& (g 81 j))) (g 80 j) (g 52) k)]) := by
                        intro H locs ls hw hS hl
                        refine lv_iadd hx hb dX3_scoreOf_294 ?_
                        refine lv_istore (lv' := [(5, .int ((((if (g 59 i) = (g 76 j) then (40 : Int32) else (15 : Int32)) + scP (g 56) (g 60 i) (g 77 j)) + scD (g 61 i) (g 78 j) (g 79 j)) + scW ((g 62 i) ||| ((g 63 i) &&& (g 81 j))) (g 80 j) (g 52) k + (if (decide ((((g 80 j) >>> (nI k &&& 31)) &&& (1 : Int32)) = (1 : Int32))) = true then (if ((((g 62 i) ||| ((g 63 i) &&& (g 81 j))) >>> (nI k &&& 31)) &&& (1 : Int32)) = (1 : Int32) then (6 : Int32) else (if (((g 62 i) ||| ((g 63 i) &&& (g 81 j))) &&& (g 52 k)) = (0 : Int32) then (-1 : Int32) else (3 : Int32))) else (0 : Int32)))), (10, .int (if ((((g 62 i) ||| ((g 63 i) &&& (g 81 j))) >>> (nI k &&& 31)) &&& (1 : Int32)) = (1 : Int32) then (6 : Int32) else (if (((g 62 i) ||| ((g 63 i) &&& (g 81 j))) &&& (g 52 k)) = (0 : Int32) then (-1 : Int32) else (3 : Int32)))), (9, .int (b2 (decide ((((g 80 j) >>> (nI k &&& 31)) &&& (1 : Int32)) = (1 : Int32))))), (8, .int (nI k)), (7, .int ((g 62 i) ||| ((g 63 i) &&& (g 81 j)))), (6, .int ((g 61 i) - (g 79 j))), (4, .int (b2 (decide ((((g 53 (g 59 i).toNatClampNeg) >>> ((g 76 j) &&& 31)) &&& (1 : Int32)) = (1 : Int32))))), (3, .int (g 59 i)), (0, .ref (ad 9)), (1, .int (nI i)), (2, .int (nI j))]) hx hb dX3_scoreOf_295 hl (by decide) rfl (fun ls hl => ?_)
                        refine lv_iinc (v := (nI k + (1 : Int32))) (lv' := [(8, .int (nI k + (1 : Int32))), (5, .int ((((if (g 59 i) = (g 76 j) then (40 : Int32) else (15 : Int32)) + scP (g 56) (g 60 i) (g 77 j)) + scD (g 61 i) (g 78 j) (g 79 j)) + scW ((g 62 i) ||| ((g 63 i) &&& (g 81 j))) (g 80 j) (g 52) k + (if (decide ((((g 80 j) >>> (nI k &&& 31)) &&& (1 : Int32)) = (1 : Int32))) = true then (if ((((g 62 i) ||| ((g 63 i) &&& (g 81 j))) >>> (nI k &&& 31)) &&& (1 : Int32)) = (1 : Int32) then (6 : Int32) else (if (((g 62 i) ||| ((g 63 i) &&& (g 81 j))) &&& (g 52 k)) = (0 : Int32) then (-1 : Int32) else (3 : Int32))) else (0 : Int32)))), (10, .int (if ((((g 62 i) ||| ((g 63 i) &&& (g 81 j))) >>> (nI k &&& 31)) &&& (1 : Int32)) = (1 : Int32) then (6 : Int32) else (if (((g 62 i) ||| ((g 63 i) &&& (g 81 j))) &&& (g 52 k)) = (0 : Int32) then (-1 : Int32) else (3 : Int32)))), (9, .int (b2 (decide ((((g 80 j) >>> (nI k &&& 31)) &&& (1 : Int32)) = (1 : Int32))))), (7, .int ((g 62 i) ||| ((g 63 i) &&& (g 81 j)))), (6, .int ((g 61 i) - (g 79 j))), (4, .int (b2 (decide ((((g 53 (g 59 i).toNatClampNeg) >>> ((g 76 j) &&& 31)) &&& (1 : Int32)) = (1 : Int32))))), (3, .int (g 59 i)), (0, .ref (ad 9)), (1, .int (nI i)), (2, .int (nI j))]) hx hb dX3_scoreOf_297 hl (k := 3) rfl rfl (by decide) rfl (fun ls hl => ?_)
                        refine lv_goto (tgt := 216) hx hb dX3_scoreOf_300 (by decide) ?_
                        exact ih_216 (k + 1) (by omega) (by omega) _ _ _ hw hS (kx_lv (l := [(8, .int (nI k + (1 : Int32))), (7, .int ((g 62 i) ||| ((g 63 i) &&& (g 81 j)))), (5, .int ((((if (g 59 i) = (g 76 j) then (40 : Int32) else (15 : Int32)) + scP (g 56) (g 60 i) (g 77 j)) + scD (g 61 i) (g 78 j) (g 79 j)) + scW ((g 62 i) ||| ((g 63 i) &&& (g 81 j))) (g 80 j) (g 52) k + (if (decide ((((g 80 j) >>> (nI k &&& 31)) &&& (1 : Int32)) = (1 : Int32))) = true then (if ((((g 62 i) ||| ((g 63 i) &&& (g 81 j))) >>> (nI k &&& 31)) &&& (1 : Int32)) = (1 : Int32) then (6 : Int32) else (if (((g 62 i) ||| ((g 63 i) &&& (g 81 j))) &&& (g 52 k)) = (0 : Int32) then (-1 : Int32) else (3 : Int32))) else (0 : Int32)))), (6, .int ((g 61 i) - (g 79 j))), (4, .int (b2 (decide ((((g 53 (g 59 i).toNatClampNeg) >>> ((g 76 j) &&& 31)) &&& (1 : Int32)) = (1 : Int32))))), (3, .int (g 59 i)), (0, .ref (ad 9)), (1, .int (nI i)), (2, .int (nI j))]) (l' := [(8, .int (nI (k + 1))), (7, .int ((g 62 i) ||| ((g 63 i) &&& (g 81 j)))), (5, .int ((((if (g 59 i) = (g 76 j) then (40 : Int32) else (15 : Int32)) + scP (g 56) (g 60 i) (g 77 j)) + scD (g 61 i) (g 78 j) (g 79 j)) + scW ((g 62 i) ||| ((g 63 i) &&& (g 81 j))) (g 80 j) (g 52) (k + 1))), (6, .int ((g 61 i) - (g 79 j))), (4, .int (b2 (decide ((((g 53 (g 59 i).toNatClampNeg) >>> ((g 76 j) &&& 31)) &&& (1 : Int32)) = (1 : Int32))))), (3, .int (g 59 i)), (0, .ref (ad 9)), (1, .int (nI i)), (2, .int (nI j))]) (lv_sub hl [0, 4, 1, 5, 6, 7, 8, 9, 10] rfl) (by rw [nI_1, Int32.add_assoc]; rfl)) 
                      refine kb_eq (tgt := 293) hx hb dX3_scoreOf_285 (by decide) (fun c_285 => ?_) (fun c_285 => ?_)
                      · refine lv_iconst (v := 0) hx hb dX3_scoreOf_293 (by decide) ?_
                        exact kx_top (v := (if (decide ((((g 80 j) >>> (nI k &&& 31)) &&& (1 : Int32)) = (1 : Int32))) = true then (if ((((g 62 i) ||| ((g 63 i) &&& (g 81 j))) >>> (nI k &&& 31)) &&& (1 : Int32)) = (1 : Int32) then (6 : Int32) else (if (((g 62 i) ||| ((g 63 i) &&& (g 81 j))) &&& (g 52 k)) = (0 : Int32) then (-1 : Int32) else (3 : Int32))) else (0 : Int32))) (by first | (simp only [bq, c_285]; done) | (simp only [bq, c_285]; rfl) | (simp [bq, c_285]; done)) (hj_294_7 _ _ _ hw hS hl)
                      · refine lv_iload hx hb dX3_scoreOf_288 (lv_at hl 0 rfl) ?_
                        refine lv_goto (tgt := 294) hx hb dX3_scoreOf_290 (by decide) ?_
                        exact kx_top (v := (if (decide ((((g 80 j) >>> (nI k &&& 31)) &&& (1 : Int32)) = (1 : Int32))) = true then (if ((((g 62 i) ||| ((g 63 i) &&& (g 81 j))) >>> (nI k &&& 31)) &&& (1 : Int32)) = (1 : Int32) then (6 : Int32) else (if (((g 62 i) ||| ((g 63 i) &&& (g 81 j))) &&& (g 52 k)) = (0 : Int32) then (-1 : Int32) else (3 : Int32))) else (0 : Int32))) (by first | (simp only [bq, c_285]; done) | (simp only [bq, c_285]; rfl) | (simp [bq, c_285]; done)) (hj_294_7 _ _ _ hw hS hl)
                    refine lv_icmp_ne (tgt := 261) hx hb dX3_scoreOf_253 (by decide) (fun c_253 => ?_) (fun c_253 => ?_)
                    · refine lv_iload hx hb dX3_scoreOf_261 (lv_at hl 2 rfl) ?_
                      refine lv_aload_n hx hb dX3_scoreOf_263 rfl (lv_at hl 7 rfl) ?_
                      refine kx_getM (v := .ref (ad 52)) hx hb hts hown hG hw i3 2 (by decide) f_7 rfl dX3_scoreOf_264 ?_
                      refine lv_iload hx hb dX3_scoreOf_267 (lv_at hl 1 rfl) ?_
                      refine kx_iald (v := (g 52 k)) hx hb hG hw (kC_I rfl) k (nI_clamp (by omega)) (vp_in_nI (by omega) (by decide)) rfl dX3_scoreOf_269 ?_
                      refine lv_iand hx hb dX3_scoreOf_270 ?_
                      refine lv_if_eq (tgt := 278) hx hb dX3_scoreOf_271 (by decide) (fun c_271 => ?_) (fun c_271 => ?_)
                      · refine lv_iconst (v := -1) hx hb dX3_scoreOf_278 (by decide) ?_
                        exact kx_top (v := (if ((((g 62 i) ||| ((g 63 i) &&& (g 81 j))) >>> (nI k &&& 31)) &&& (1 : Int32)) = (1 : Int32) then (6 : Int32) else (if (((g 62 i) ||| ((g 63 i) &&& (g 81 j))) &&& (g 52 k)) = (0 : Int32) then (-1 : Int32) else (3 : Int32)))) (by first | (simp only [bq, decide_eq_false c_253, if_neg c_253, decide_eq_true c_271, if_pos c_271]; done) | (simp only [bq, decide_eq_false c_253, if_neg c_253, decide_eq_true c_271, if_pos c_271]; rfl) | (simp [bq, decide_eq_false c_253, if_neg c_253, decide_eq_true c_271, if_pos c_271]; done)) (hj_279_6 _ _ _ hw hS hl)
                      · refine lv_iconst (v := 3) hx hb dX3_scoreOf_274 (by decide) ?_
                        refine lv_goto (tgt := 279) hx hb dX3_scoreOf_275 (by decide) ?_
                        exact kx_top (v := (if ((((g 62 i) ||| ((g 63 i) &&& (g 81 j))) >>> (nI k &&& 31)) &&& (1 : Int32)) = (1 : Int32) then (6 : Int32) else (if (((g 62 i) ||| ((g 63 i) &&& (g 81 j))) &&& (g 52 k)) = (0 : Int32) then (-1 : Int32) else (3 : Int32)))) (by first | (simp only [bq, decide_eq_false c_253, if_neg c_253, decide_eq_false c_271, if_neg c_271]; done) | (simp only [bq, decide_eq_false c_253, if_neg c_253, decide_eq_false c_271, if_neg c_271]; rfl) | (simp [bq, decide_eq_false c_253, if_neg c_253, decide_eq_false c_271, if_neg c_271]; done)) (hj_279_6 _ _ _ hw hS hl)
                    · refine lv_bipush (v := 6) hx hb dX3_scoreOf_256 (by decide) ?_
                      refine lv_goto (tgt := 279) hx hb dX3_scoreOf_258 (by decide) ?_
                      exact kx_top (v := (if ((((g 62 i) ||| ((g 63 i) &&& (g 81 j))) >>> (nI k &&& 31)) &&& (1 : Int32)) = (1 : Int32) then (6 : Int32) else (if (((g 62 i) ||| ((g 63 i) &&& (g 81 j))) &&& (g 52 k)) = (0 : Int32) then (-1 : Int32) else (3 : Int32)))) (by first | (simp only [bq, decide_eq_true c_253, if_pos c_253]; done) | (simp only [bq, decide_eq_true c_253, if_pos c_253]; rfl) | (simp [bq, decide_eq_true c_253, if_pos c_253]; done)) (hj_279_6 _ _ _ hw hS hl)
                  refine lv_icmp_ne (tgt := 242) hx hb dX3_scoreOf_235 (by decide) (fun c_235 => ?_) (fun c_235 => ?_)
                  · refine lv_iconst (v := 0) hx hb dX3_scoreOf_242 (by decide) ?_
                    exact kx_top (v := (b2 (decide ((((g 80 j) >>> (nI k &&& 31)) &&& (1 : Int32)) = (1 : Int32))))) (by first | (simp only [bq, decide_eq_false c_235, if_neg c_235]; done) | (simp only [bq, decide_eq_false c_235, if_neg c_235]; rfl) | (simp [bq, decide_eq_false c_235, if_neg c_235]; done)) (hj_243_5 _ _ _ hw hS hl)
                  · refine lv_iconst (v := 1) hx hb dX3_scoreOf_238 (by decide) ?_
                    refine lv_goto (tgt := 243) hx hb dX3_scoreOf_239 (by decide) ?_
                    exact kx_top (v := (b2 (decide ((((g 80 j) >>> (nI k &&& 31)) &&& (1 : Int32)) = (1 : Int32))))) (by first | (simp only [bq, decide_eq_true c_235, if_pos c_235]; done) | (simp only [bq, decide_eq_true c_235, if_pos c_235]; rfl) | (simp [bq, decide_eq_true c_235, if_pos c_235]; done)) (hj_243_5 _ _ _ hw hS hl)
            exact lp_216 (24 + 1) 0 (by omega) (by omega) _ _ _ hw hS (kx_lv (l := [(8, .int (0 : Int32)), (7, .int ((g 62 i) ||| ((g 63 i) &&& (g 81 j)))), (5, .int (((if (g 59 i) = (g 76 j) then (40 : Int32) else (15 : Int32)) + (if (g 60 i) = (g 77 j) then (20 : Int32) else (if ((rmO (g 56) (g 60 i)) &&& (rmO (g 56) (g 77 j))) = (0 : Int32) then (0 : Int32) else (10 : Int32)))) + (if (g 78 j) ≤ (g 61 i) then (if (0 : Int32) < ((g 61 i) - (g 79 j)) then (if (10 : Int32) ≤ ((g 61 i) - (g 79 j)) then (0 : Int32) else ((20 : Int32) - ((2 : Int32) * ((g 61 i) - (g 79 j))))) else (20 : Int32)) else (0 : Int32)))), (6, .int ((g 61 i) - (g 79 j))), (4, .int (b2 (decide ((((g 53 (g 59 i).toNatClampNeg) >>> ((g 76 j) &&& 31)) &&& (1 : Int32)) = (1 : Int32))))), (3, .int (g 59 i)), (0, .ref (ad 9)), (1, .int (nI i)), (2, .int (nI j))]) (l' := [(8, .int (nI 0)), (7, .int ((g 62 i) ||| ((g 63 i) &&& (g 81 j)))), (5, .int ((((if (g 59 i) = (g 76 j) then (40 : Int32) else (15 : Int32)) + scP (g 56) (g 60 i) (g 77 j)) + scD (g 61 i) (g 78 j) (g 79 j)) + scW ((g 62 i) ||| ((g 63 i) &&& (g 81 j))) (g 80 j) (g 52) 0)), (6, .int ((g 61 i) - (g 79 j))), (4, .int (b2 (decide ((((g 53 (g 59 i).toNatClampNeg) >>> ((g 76 j) &&& 31)) &&& (1 : Int32)) = (1 : Int32))))), (3, .int (g 59 i)), (0, .ref (ad 9)), (1, .int (nI i)), (2, .int (nI j))]) (lv_sub hl [0, 1, 2, 3, 4, 5, 6, 7, 8] rfl) (by rw [show scW ((g 62 i) ||| ((g 63 i) &&& (g 81 j))) (g 80 j) (g 52) 0 = 0 from rfl, Int32.add_zero]; rfl)) 
          refine lv_icmp_ge (tgt := 160) hx hb dX3_scoreOf_153 (by decide) (fun c_153 => ?_) (fun c_153 => ?_)
          · refine lv_iload hx hb dX3_scoreOf_160 (lv_at hl 0 rfl) ?_
            refine lv_if_gt (tgt := 170) hx hb dX3_scoreOf_162 (by decide) (fun c_162 => ?_) (fun c_162 => ?_)
            · refine lv_iload hx hb dX3_scoreOf_170 (lv_at hl 0 rfl) ?_
              refine lv_bipush (v := 10) hx hb dX3_scoreOf_172 (by decide) ?_
              refine lv_icmp_ge (tgt := 187) hx hb dX3_scoreOf_174 (by decide) (fun c_174 => ?_) (fun c_174 => ?_)
              · refine lv_iconst (v := 0) hx hb dX3_scoreOf_187 (by decide) ?_
                exact kx_top (v := (if (g 78 j) ≤ (g 61 i) then (if (0 : Int32) < ((g 61 i) - (g 79 j)) then (if (10 : Int32) ≤ ((g 61 i) - (g 79 j)) then (0 : Int32) else ((20 : Int32) - ((2 : Int32) * ((g 61 i) - (g 79 j))))) else (20 : Int32)) else (0 : Int32))) (by first | (simp only [bq, decide_eq_true c_153, if_pos c_153, decide_eq_true c_162, if_pos c_162, decide_eq_true c_174, if_pos c_174]; done) | (simp only [bq, decide_eq_true c_153, if_pos c_153, decide_eq_true c_162, if_pos c_162, decide_eq_true c_174, if_pos c_174]; rfl) | (simp [bq, decide_eq_true c_153, if_pos c_153, decide_eq_true c_162, if_pos c_162, decide_eq_true c_174, if_pos c_174]; done)) (hj_188_3 _ _ _ hw hS hl)
              · refine lv_bipush (v := 20) hx hb dX3_scoreOf_177 (by decide) ?_
                refine lv_iconst (v := 2) hx hb dX3_scoreOf_179 (by decide) ?_
                refine lv_iload hx hb dX3_scoreOf_180 (lv_at hl 0 rfl) ?_
                refine lv_imul hx hb dX3_scoreOf_182 ?_
                refine lv_isub hx hb dX3_scoreOf_183 ?_
                refine lv_goto (tgt := 188) hx hb dX3_scoreOf_184 (by decide) ?_
                exact kx_top (v := (if (g 78 j) ≤ (g 61 i) then (if (0 : Int32) < ((g 61 i) - (g 79 j)) then (if (10 : Int32) ≤ ((g 61 i) - (g 79 j)) then (0 : Int32) else ((20 : Int32) - ((2 : Int32) * ((g 61 i) - (g 79 j))))) else (20 : Int32)) else (0 : Int32))) (by first | (simp only [bq, decide_eq_true c_153, if_pos c_153, decide_eq_true c_162, if_pos c_162, decide_eq_false c_174, if_neg c_174]; done) | (simp only [bq, decide_eq_true c_153, if_pos c_153, decide_eq_true c_162, if_pos c_162, decide_eq_false c_174, if_neg c_174]; rfl) | (simp [bq, decide_eq_true c_153, if_pos c_153, decide_eq_true c_162, if_pos c_162, decide_eq_false c_174, if_neg c_174]; done)) (hj_188_3 _ _ _ hw hS hl)
            · refine lv_bipush (v := 20) hx hb dX3_scoreOf_165 (by decide) ?_
              refine lv_goto (tgt := 188) hx hb dX3_scoreOf_167 (by decide) ?_
              exact kx_top (v := (if (g 78 j) ≤ (g 61 i) then (if (0 : Int32) < ((g 61 i) - (g 79 j)) then (if (10 : Int32) ≤ ((g 61 i) - (g 79 j)) then (0 : Int32) else ((20 : Int32) - ((2 : Int32) * ((g 61 i) - (g 79 j))))) else (20 : Int32)) else (0 : Int32))) (by first | (simp only [bq, decide_eq_true c_153, if_pos c_153, decide_eq_false c_162, if_neg c_162]; done) | (simp only [bq, decide_eq_true c_153, if_pos c_153, decide_eq_false c_162, if_neg c_162]; rfl) | (simp [bq, decide_eq_true c_153, if_pos c_153, decide_eq_false c_162, if_neg c_162]; done)) (hj_188_3 _ _ _ hw hS hl)
          · refine lv_iconst (v := 0) hx hb dX3_scoreOf_156 (by decide) ?_
            refine lv_goto (tgt := 188) hx hb dX3_scoreOf_157 (by decide) ?_
            exact kx_top (v := (if (g 78 j) ≤ (g 61 i) then (if (0 : Int32) < ((g 61 i) - (g 79 j)) then (if (10 : Int32) ≤ ((g 61 i) - (g 79 j)) then (0 : Int32) else ((20 : Int32) - ((2 : Int32) * ((g 61 i) - (g 79 j))))) else (20 : Int32)) else (0 : Int32))) (by first | (simp only [bq, decide_eq_false c_153, if_neg c_153]; done) | (simp only [bq, decide_eq_false c_153, if_neg c_153]; rfl) | (simp [bq, decide_eq_false c_153, if_neg c_153]; done)) (hj_188_3 _ _ _ hw hS hl)
        refine lv_icmp_ne (tgt := 91) hx hb dX3_scoreOf_83 (by decide) (fun c_83 => ?_) (fun c_83 => ?_)
        · refine lv_aload_n hx hb dX3_scoreOf_91 rfl (lv_at hl 3 rfl) ?_
          refine lv_aload_n hx hb dX3_scoreOf_92 rfl (lv_at hl 3 rfl) ?_
          refine kx_getM (v := .ref (ad 60)) hx hb hts hown hG hw i3 10 (by decide) f_32 rfl dX3_scoreOf_93 ?_
          refine lv_iload_n hx hb dX3_scoreOf_96 rfl (lv_at hl 4 rfl) ?_
          refine kx_iald (v := (g 60 i)) hx hb hG hw (kC_I rfl) i (nI_clamp (by omega)) (vp_in_nI (by omega) (by decide)) rfl dX3_scoreOf_97 ?_
          refine kx_do0 (st1 := [.int (rmO (g 56) (g 60 i)), .int (if (g 59 i) = (g 76 j) then (40 : Int32) else (15 : Int32))]) (kx_cv (As := [.int (g 60 i)]) (rest := [.int (if (g 59 i) = (g 76 j) then (40 : Int32) else (15 : Int32))]) hF hG hw hS hl.1 kC_9 rfl (c_X3_roomsOf l hfl D cy base ad n nc g (g 60 i) (by first | assumption | omega | exact mR_9 (by assumption) _ _ | simp [sU, hi, hj, hR])) gX3_scoreOf_X3_roomsOf rfl rfl rfl hd_X3_roomsOf ⟨Nat.le_of_ble_eq_true rfl, Nat.le_of_ble_eq_true rfl⟩ rfl rfl (Nat.le_of_ble_eq_true rfl) dX3_scoreOf_98 ⟨Nat.le_of_ble_eq_true rfl, Nat.le_of_ble_eq_true rfl⟩) hS rfl (fun H locs hw hS => ?_)
          refine lv_aload_n hx hb dX3_scoreOf_101 rfl (lv_at hl 3 rfl) ?_
          refine lv_aload_n hx hb dX3_scoreOf_102 rfl (lv_at hl 3 rfl) ?_
          refine kx_getM (v := .ref (ad 77)) hx hb hts hown hG hw i3 27 (by decide) f_81 rfl dX3_scoreOf_103 ?_
          refine lv_iload_n hx hb dX3_scoreOf_106 rfl (lv_at hl 5 rfl) ?_
          refine kx_iald (v := (g 77 j)) hx hb hG hw (kC_I rfl) j (nI_clamp (by omega)) (vp_in_nI (by omega) (by decide)) rfl dX3_scoreOf_107 ?_
          refine kx_do0 (st1 := [.int (rmO (g 56) (g 77 j)), .int (rmO (g 56) (g 60 i)), .int (if (g 59 i) = (g 76 j) then (40 : Int32) else (15 : Int32))]) (kx_cv (As := [.int (g 77 j)]) (rest := [.int (rmO (g 56) (g 60 i)), .int (if (g 59 i) = (g 76 j) then (40 : Int32) else (15 : Int32))]) hF hG hw hS hl.1 kC_9 rfl (c_X3_roomsOf l hfl D cy base ad n nc g (g 77 j) (by first | assumption | omega | exact mR_9 (by assumption) _ _ | simp [sU, hi, hj, hR])) gX3_scoreOf_X3_roomsOf rfl rfl rfl hd_X3_roomsOf ⟨Nat.le_of_ble_eq_true rfl, Nat.le_of_ble_eq_true rfl⟩ rfl rfl (Nat.le_of_ble_eq_true rfl) dX3_scoreOf_108 ⟨Nat.le_of_ble_eq_true rfl, Nat.le_of_ble_eq_true rfl⟩) hS rfl (fun H locs hw hS => ?_)
          refine lv_iand hx hb dX3_scoreOf_111 ?_
          refine lv_if_eq (tgt := 120) hx hb dX3_scoreOf_112 (by decide) (fun c_112 => ?_) (fun c_112 => ?_)
          · refine lv_iconst (v := 0) hx hb dX3_scoreOf_120 (by decide) ?_
            exact kx_top (v := (if (g 60 i) = (g 77 j) then (20 : Int32) else (if ((rmO (g 56) (g 60 i)) &&& (rmO (g 56) (g 77 j))) = (0 : Int32) then (0 : Int32) else (10 : Int32)))) (by first | (simp only [bq, decide_eq_false c_83, if_neg c_83, decide_eq_true c_112, if_pos c_112]; done) | (simp only [bq, decide_eq_false c_83, if_neg c_83, decide_eq_true c_112, if_pos c_112]; rfl) | (simp [bq, decide_eq_false c_83, if_neg c_83, decide_eq_true c_112, if_pos c_112]; done)) (hj_121_2 _ _ _ hw hS hl)
          · refine lv_bipush (v := 10) hx hb dX3_scoreOf_115 (by decide) ?_
            refine lv_goto (tgt := 121) hx hb dX3_scoreOf_117 (by decide) ?_
            exact kx_top (v := (if (g 60 i) = (g 77 j) then (20 : Int32) else (if ((rmO (g 56) (g 60 i)) &&& (rmO (g 56) (g 77 j))) = (0 : Int32) then (0 : Int32) else (10 : Int32)))) (by first | (simp only [bq, decide_eq_false c_83, if_neg c_83, decide_eq_false c_112, if_neg c_112]; done) | (simp only [bq, decide_eq_false c_83, if_neg c_83, decide_eq_false c_112, if_neg c_112]; rfl) | (simp [bq, decide_eq_false c_83, if_neg c_83, decide_eq_false c_112, if_neg c_112]; done)) (hj_121_2 _ _ _ hw hS hl)
        · refine lv_bipush (v := 20) hx hb dX3_scoreOf_86 (by decide) ?_
          refine lv_goto (tgt := 121) hx hb dX3_scoreOf_88 (by decide) ?_
          exact kx_top (v := (if (g 60 i) = (g 77 j) then (20 : Int32) else (if ((rmO (g 56) (g 60 i)) &&& (rmO (g 56) (g 77 j))) = (0 : Int32) then (0 : Int32) else (10 : Int32)))) (by first | (simp only [bq, decide_eq_true c_83, if_pos c_83]; done) | (simp only [bq, decide_eq_true c_83, if_pos c_83]; rfl) | (simp [bq, decide_eq_true c_83, if_pos c_83]; done)) (hj_121_2 _ _ _ hw hS hl)
      refine lv_icmp_ne (tgt := 65) hx hb dX3_scoreOf_57 (by decide) (fun c_57 => ?_) (fun c_57 => ?_)
      · refine lv_bipush (v := 15) hx hb dX3_scoreOf_65 (by decide) ?_
        exact kx_top (v := (if (g 59 i) = (g 76 j) then (40 : Int32) else (15 : Int32))) (by first | (simp only [bq, decide_eq_false c_57, if_neg c_57]; done) | (simp only [bq, decide_eq_false c_57, if_neg c_57]; rfl) | (simp [bq, decide_eq_false c_57, if_neg c_57]; done)) (hj_67_1 _ _ _ hw hS hl)
      · refine lv_bipush (v := 40) hx hb dX3_scoreOf_60 (by decide) ?_
        refine lv_goto (tgt := 67) hx hb dX3_scoreOf_62 (by decide) ?_
        exact kx_top (v := (if (g 59 i) = (g 76 j) then (40 : Int32) else (15 : Int32))) (by first | (simp only [bq, decide_eq_true c_57, if_pos c_57]; done) | (simp only [bq, decide_eq_true c_57, if_pos c_57]; rfl) | (simp [bq, decide_eq_true c_57, if_pos c_57]; done)) (hj_67_1 _ _ _ hw hS hl)
    · refine lv_iload hx hb dX3_scoreOf_43 (lv_at hl 0 rfl) ?_
      refine kb_ne (tgt := 50) hx hb dX3_scoreOf_45 (by decide) (fun c_45 => ?_) (fun c_45 => ?_)
      · refine lv_iload_n hx hb dX3_scoreOf_50 rfl (lv_at hl 1 rfl) ?_
        refine lv_aload_n hx hb dX3_scoreOf_51 rfl (lv_at hl 2 rfl) ?_
        refine kx_getM (v := .ref (ad 76)) hx hb hts hown hG hw i3 26 (by decide) f_78 rfl dX3_scoreOf_52 ?_
        refine lv_iload_n hx hb dX3_scoreOf_55 rfl (lv_at hl 4 rfl) ?_
        refine kx_iald (v := (g 76 j)) hx hb hG hw (kC_I rfl) j (nI_clamp (by omega)) (vp_in_nI (by omega) (by decide)) rfl dX3_scoreOf_56 ?_
        have hj_67_8 : ∀ (H : Heap) (locs : List Loc) (ls : Array Slot), kW D cy base ad n nc g H → va_S (kA base) s.heap H locs → lv_has ls 11 [(4, .int (b2 (decide ((((g 53 (g 59 i).toNatClampNeg) >>> ((g 76 j) &&& 31)) &&& (1 : Int32)) = (1 : Int32))))), (3, .int (g 59 i)), (0, .ref (ad 9)), (1, .int (nI i)), (2, .int (nI j))] → W p l e (kR 1 0 0) s m args below meth c H locs 0 0 Q (F0 m 67 ls [.int (if (g 59 i) = (g 76 j) then (40 : Int32) else (15 : Int32))]) := by
          intro H locs ls hw hS hl
          refine lv_istore (lv' := [(5, .int (if (g 59 i) = (g 76 j) then (40 : Int32) else (15 : Int32))), (4, .int (b2 (decide ((((g 53 (g 59 i).toNatClampNeg) >>> ((g 76 j) &&& 31)) &&& (1 : Int32)) = (1 : Int32))))), (3, .int (g 59 i)), (0, .ref (ad 9)), (1, .int (nI i)), (2, .int (nI j))]) hx hb dX3_scoreOf_67 hl (by decide) rfl (fun ls hl => ?_)
          refine lv_iload hx hb dX3_scoreOf_69 (lv_at hl 0 rfl) ?_
          refine lv_aload_n hx hb dX3_scoreOf_71 rfl (lv_at hl 3 rfl) ?_
          refine kx_getM (v := .ref (ad 60)) hx hb hts hown hG hw i3 10 (by decide) f_32 rfl dX3_scoreOf_72 ?_
          refine lv_iload_n hx hb dX3_scoreOf_75 rfl (lv_at hl 4 rfl) ?_
          refine kx_iald (v := (g 60 i)) hx hb hG hw (kC_I rfl) i (nI_clamp (by omega)) (vp_in_nI (by omega) (by decide)) rfl dX3_scoreOf_76 ?_
          refine lv_aload_n hx hb dX3_scoreOf_77 rfl (lv_at hl 3 rfl) ?_
          refine kx_getM (v := .ref (ad 77)) hx hb hts hown hG hw i3 27 (by decide) f_81 rfl dX3_scoreOf_78 ?_
          refine lv_iload_n hx hb dX3_scoreOf_81 rfl (lv_at hl 5 rfl) ?_
          refine kx_iald (v := (g 77 j)) hx hb hG hw (kC_I rfl) j (nI_clamp (by omega)) (vp_in_nI (by omega) (by decide)) rfl dX3_scoreOf_82 ?_
          have hj_121_9 : ∀ (H : Heap) (locs : List Loc) (ls : Array Slot), kW D cy base ad n nc g H → va_S (kA base) s.heap H locs → lv_has ls 11 [(5, .int (if (g 59 i) = (g 76 j) then (40 : Int32) else (15 : Int32))), (4, .int (b2 (decide ((((g 53 (g 59 i).toNatClampNeg) >>> ((g 76 j) &&& 31)) &&& (1 : Int32)) = (1 : Int32))))), (3, .int (g 59 i)), (0, .ref (ad 9)), (1, .int (nI i)), (2, .int (nI j))] → W p l e (kR 1 0 0) s m args below meth c H locs 0 0 Q (F0 m 121 ls [.int (if (g 60 i) = (g 77 j) then (20 : Int32) else (if ((rmO (g 56) (g 60 i)) &&& (rmO (g 56) (g 77 j))) = (0 : Int32) then (0 : Int32) else (10 : Int32))), .int (if (g 59 i) = (g 76 j) then (40 : Int32) else (15 : Int32))]) := by
            intro H locs ls hw hS hl
            refine lv_iadd hx hb dX3_scoreOf_121 ?_
            refine lv_istore (lv' := [(5, .int ((if (g 59 i) = (g 76 j) then (40 : Int32) else (15 : Int32)) + (if (g 60 i) = (g 77 j) then (20 : Int32) else (if ((rmO (g 56) (g 60 i)) &&& (rmO (g 56) (g 77 j))) = (0 : Int32) then (0 : Int32) else (10 : Int32))))), (4, .int (b2 (decide ((((g 53 (g 59 i).toNatClampNeg) >>> ((g 76 j) &&& 31)) &&& (1 : Int32)) = (1 : Int32))))), (3, .int (g 59 i)), (0, .ref (ad 9)), (1, .int (nI i)), (2, .int (nI j))]) hx hb dX3_scoreOf_122 hl (by decide) rfl (fun ls hl => ?_)
            refine lv_aload_n hx hb dX3_scoreOf_124 rfl (lv_at hl 3 rfl) ?_
            refine kx_getM (v := .ref (ad 61)) hx hb hts hown hG hw i3 11 (by decide) f_35 rfl dX3_scoreOf_125 ?_
            refine lv_iload_n hx hb dX3_scoreOf_128 rfl (lv_at hl 4 rfl) ?_
            refine kx_iald (v := (g 61 i)) hx hb hG hw (kC_I rfl) i (nI_clamp (by omega)) (vp_in_nI (by omega) (by decide)) rfl dX3_scoreOf_129 ?_
            refine lv_aload_n hx hb dX3_scoreOf_130 rfl (lv_at hl 3 rfl) ?_
            refine kx_getM (v := .ref (ad 79)) hx hb hts hown hG hw i3 29 (by decide) f_87 rfl dX3_scoreOf_131 ?_
            refine lv_iload_n hx hb dX3_scoreOf_134 rfl (lv_at hl 5 rfl) ?_
            refine kx_iald (v := (g 79 j)) hx hb hG hw (kC_I rfl) j (nI_clamp (by omega)) (vp_in_nI (by omega) (by decide)) rfl dX3_scoreOf_135 ?_
            refine lv_isub hx hb dX3_scoreOf_136 ?_
            refine lv_istore (lv' := [(6, .int ((g 61 i) - (g 79 j))), (5, .int ((if (g 59 i) = (g 76 j) then (40 : Int32) else (15 : Int32)) + (if (g 60 i) = (g 77 j) then (20 : Int32) else (if ((rmO (g 56) (g 60 i)) &&& (rmO (g 56) (g 77 j))) = (0 : Int32) then (0 : Int32) else (10 : Int32))))), (4, .int (b2 (decide ((((g 53 (g 59 i).toNatClampNeg) >>> ((g 76 j) &&& 31)) &&& (1 : Int32)) = (1 : Int32))))), (3, .int (g 59 i)), (0, .ref (ad 9)), (1, .int (nI i)), (2, .int (nI j))]) hx hb dX3_scoreOf_137 hl (by decide) rfl (fun ls hl => ?_)
            refine lv_iload hx hb dX3_scoreOf_139 (lv_at hl 1 rfl) ?_
            refine lv_aload_n hx hb dX3_scoreOf_141 rfl (lv_at hl 4 rfl) ?_
            refine kx_getM (v := .ref (ad 61)) hx hb hts hown hG hw i3 11 (by decide) f_35 rfl dX3_scoreOf_142 ?_
            refine lv_iload_n hx hb dX3_scoreOf_145 rfl (lv_at hl 5 rfl) ?_
            refine kx_iald (v := (g 61 i)) hx hb hG hw (kC_I rfl) i (nI_clamp (by omega)) (vp_in_nI (by omega) (by decide)) rfl dX3_scoreOf_146 ?_
            refine lv_aload_n hx hb dX3_scoreOf_147 rfl (lv_at hl 4 rfl) ?_
            refine kx_getM (v := .ref (ad 78)) hx hb hts hown hG hw i3 28 (by decide) f_84 rfl dX3_scoreOf_148 ?_
            refine lv_iload_n hx hb dX3_scoreOf_151 rfl (lv_at hl 6 rfl) ?_
            refine kx_iald (v := (g 78 j)) hx hb hG hw (kC_I rfl) j (nI_clamp (by omega)) (vp_in_nI (by omega) (by decide)) rfl dX3_scoreOf_152 ?_
            have hj_188_10 : ∀ (H : Heap) (locs : List Loc) (ls : Array Slot), kW D cy base ad n nc g H → va_S (kA base) s.heap H locs → lv_has ls 11 [(6, .int ((g 61 i) - (g 79 j))), (5, .int ((if (g 59 i) = (g 76 j) then (40 : Int32) else (15 : Int32)) + (if (g 60 i) = (g 77 j) then (20 : Int32) else (if ((rmO (g 56) (g 60 i)) &&& (rmO (g 56) (g 77 j))) = (0 : Int32) then (0 : Int32) else (10 : Int32))))), (4, .int (b2 (decide ((((g 53 (g 59 i).toNatClampNeg) >>> ((g 76 j) &&& 31)) &&& (1 : Int32)) = (1 : Int32))))), (3, .int (g 59 i)), (0, .ref (ad 9)), (1, .int (nI i)), (2, .int (nI j))] → W p l e (kR 1 0 0) s m args below meth c H locs 0 0 Q (F0 m 188 ls [.int (if (g 78 j) ≤ (g 61 i) then (if (0 : Int32) < ((g 61 i) - (g 79 j)) then (if (10 : Int32) ≤ ((g 61 i) - (g 79 j)) then (0 : Int32) else ((20 : Int32) - ((2 : Int32) * ((g 61 i) - (g 79 j))))) else (20 : Int32)) else (0 : Int32)), .int ((if (g 59 i) = (g 76 j) then (40 : Int32) else (15 : Int32)) + (if (g 60 i) = (g 77 j) then (20 : Int32) else (if ((rmO (g 56) (g 60 i)) &&& (rmO (g 56) (g 77 j))) = (0 : Int32) then (0 : Int32) else (10 : Int32))))]) := by
              intro H locs ls hw hS hl
              refine lv_iadd hx hb dX3_scoreOf_188 ?_
              refine lv_istore (lv' := [(5, .int (((if (g 59 i) = (g 76 j) then (40 : Int32) else (15 : Int32)) + (if (g 60 i) = (g 77 j) then (20 : Int32) else (if ((rmO (g 56) (g 60 i)) &&& (rmO (g 56) (g 77 j))) = (0 : Int32) then (0 : Int32) else (10 : Int32)))) + (if (g 78 j) ≤ (g 61 i) then (if (0 : Int32) < ((g 61 i) - (g 79 j)) then (if (10 : Int32) ≤ ((g 61 i) - (g 79 j)) then (0 : Int32) else ((20 : Int32) - ((2 : Int32) * ((g 61 i) - (g 79 j))))) else (20 : Int32)) else (0 : Int32)))), (6, .int ((g 61 i) - (g 79 j))), (4, .int (b2 (decide ((((g 53 (g 59 i).toNatClampNeg) >>> ((g 76 j) &&& 31)) &&& (1 : Int32)) = (1 : Int32))))), (3, .int (g 59 i)), (0, .ref (ad 9)), (1, .int (nI i)), (2, .int (nI j))]) hx hb dX3_scoreOf_189 hl (by decide) rfl (fun ls hl => ?_)
              refine lv_aload_n hx hb dX3_scoreOf_191 rfl (lv_at hl 4 rfl) ?_
              refine kx_getM (v := .ref (ad 62)) hx hb hts hown hG hw i3 12 (by decide) f_38 rfl dX3_scoreOf_192 ?_
              refine lv_iload_n hx hb dX3_scoreOf_195 rfl (lv_at hl 5 rfl) ?_
              refine kx_iald (v := (g 62 i)) hx hb hG hw (kC_I rfl) i (nI_clamp (by omega)) (vp_in_nI (by omega) (by decide)) rfl dX3_scoreOf_196 ?_
              refine lv_aload_n hx hb dX3_scoreOf_197 rfl (lv_at hl 4 rfl) ?_
              refine kx_getM (v := .ref (ad 63)) hx hb hts hown hG hw i3 13 (by decide) f_41 rfl dX3_scoreOf_198 ?_
              refine lv_iload_n hx hb dX3_scoreOf_201 rfl (lv_at hl 5 rfl) ?_
              refine kx_iald (v := (g 63 i)) hx hb hG hw (kC_I rfl) i (nI_clamp (by omega)) (vp_in_nI (by omega) (by decide)) rfl dX3_scoreOf_202 ?_
              refine lv_aload_n hx hb dX3_scoreOf_203 rfl (lv_at hl 4 rfl) ?_
              refine kx_getM (v := .ref (ad 81)) hx hb hts hown hG hw i3 31 (by decide) f_93 rfl dX3_scoreOf_204 ?_
              refine lv_iload_n hx hb dX3_scoreOf_207 rfl (lv_at hl 6 rfl) ?_
              refine kx_iald (v := (g 81 j)) hx hb hG hw (kC_I rfl) j (nI_clamp (by omega)) (vp_in_nI (by omega) (by decide)) rfl dX3_scoreOf_208 ?_
              refine lv_iand hx hb dX3_scoreOf_209 ?_
              refine lv_ior hx hb dX3_scoreOf_210 ?_
              refine lv_istore (lv' := [(7, .int ((g 62 i) ||| ((g 63 i) &&& (g 81 j)))), (5, .int (((if (g 59 i) = (g 76 j) then (40 : Int32) else (15 : Int32)) + (if (g 60 i) = (g 77 j) then (20 : Int32) else (if ((rmO (g 56) (g 60 i)) &&& (rmO (g 56) (g 77 j))) = (0 : Int32) then (0 : Int32) else (10 : Int32)))) + (if (g 78 j) ≤ (g 61 i) then (if (0 : Int32) < ((g 61 i) - (g 79 j)) then (if (10 : Int32) ≤ ((g 61 i) - (g 79 j)) then (0 : Int32) else ((20 : Int32) - ((2 : Int32) * ((g 61 i) - (g 79 j))))) else (20 : Int32)) else (0 : Int32)))), (6, .int ((g 61 i) - (g 79 j))), (4, .int (b2 (decide ((((g 53 (g 59 i).toNatClampNeg) >>> ((g 76 j) &&& 31)) &&& (1 : Int32)) = (1 : Int32))))), (3, .int (g 59 i)), (0, .ref (ad 9)), (1, .int (nI i)), (2, .int (nI j))]) hx hb dX3_scoreOf_211 hl (by decide) rfl (fun ls hl => ?_)
              refine lv_iconst (v := 0) hx hb dX3_scoreOf_213 (by decide) ?_
              refine lv_istore (lv' := [(8, .int (0 : Int32)), (7, .int ((g 62 i) ||| ((g 63 i) &&& (g 81 j)))), (5, .int (((if (g 59 i) = (g 76 j) then (40 : Int32) else (15 : Int32)) + (if (g 60 i) = (g 77 j) then (20 : Int32) else (if ((rmO (g 56) (g 60 i)) &&& (rmO (g 56) (g 77 j))) = (0 : Int32) then (0 : Int32) else (10 : Int32)))) + (if (g 78 j) ≤ (g 61 i) then (if (0 : Int32) < ((g 61 i) - (g 79 j)) then (if (10 : Int32) ≤ ((g 61 i) - (g 79 j)) then (0 : Int32) else ((20 : Int32) - ((2 : Int32) * ((g 61 i) - (g 79 j))))) else (20 : Int32)) else (0 : Int32)))), (6, .int ((g 61 i) - (g 79 j))), (4, .int (b2 (decide ((((g 53 (g 59 i).toNatClampNeg) >>> ((g 76 j) &&& 31)) &&& (1 : Int32)) = (1 : Int32))))), (3, .int (g 59 i)), (0, .ref (ad 9)), (1, .int (nI i)), (2, .int (nI j))]) hx hb dX3_scoreOf_214 hl (by decide) rfl (fun ls hl => ?_)
              have lp_216 : ∀ (nn k : Nat), k ≤ 24 → 24 < k + nn → ∀ (H : Heap) (locs : List Loc) (ls : Array Slot), kW D cy base ad n nc g H → va_S (kA base) s.heap H locs → lv_has ls 11 [(8, .int (nI k)), (7, .int ((g 62 i) ||| ((g 63 i) &&& (g 81 j)))), (5, .int ((((if (g 59 i) = (g 76 j) then (40 : Int32) else (15 : Int32)) + scP (g 56) (g 60 i) (g 77 j)) + scD (g 61 i) (g 78 j) (g 79 j)) + scW ((g 62 i) ||| ((g 63 i) &&& (g 81 j))) (g 80 j) (g 52) k)), (6, .int ((g 61 i) - (g 79 j))), (4, .int (b2 (decide ((((g 53 (g 59 i).toNatClampNeg) >>> ((g 76 j) &&& 31)) &&& (1 : Int32)) = (1 : Int32))))), (3, .int (g 59 i)), (0, .ref (ad 9)), (1, .int (nI i)), (2, .int (nI j))] → W p l e (kR 1 0 0) s m args below meth c H locs 0 0 Q (F0 m 216 ls []) := by
                intro nn
                induction nn with
                | zero => intro k h1 h2; exact absurd h2 (by omega)
                | succ nn ih_216 =>
                  intro k hk_k hkn_k H locs ls hw hS hl
                  refine lv_iload hx hb dX3_scoreOf_216 (lv_at hl 0 rfl) ?_
                  refine lv_bipush (v := 24) hx hb dX3_scoreOf_218 (by decide) ?_
                  refine lv_icmp_ge (tgt := 303) hx hb dX3_scoreOf_220 (by decide) (fun c_220 => ?_) (fun c_220 => ?_)
                  · have e_k : k = 24 := Nat.le_antisymm hk_k (le_nI (a := 24) (b := k) c_220 (by omega) (by omega))
                    refine lv_iload hx hb dX3_scoreOf_303 (lv_at hl 2 rfl) ?_
                    have hj_314_11 : ∀ (H : Heap) (locs : List Loc) (ls : Array Slot), kW D cy base ad n nc g H → va_S (kA base) s.heap H locs → lv_has ls 11 [(8, .int (nI k)), (7, .int ((g 62 i) ||| ((g 63 i) &&& (g 81 j)))), (5, .int ((((if (g 59 i) = (g 76 j) then (40 : Int32) else (15 : Int32)) + scP (g 56) (g 60 i) (g 77 j)) + scD (g 61 i) (g 78 j) (g 79 j)) + scW ((g 62 i) ||| ((g 63 i) &&& (g 81 j))) (g 80 j) (g 52) k)), (6, .int ((g 61 i) - (g 79 j))), (4, .int (b2 (decide ((((g 53 (g 59 i).toNatClampNeg) >>> ((g 76 j) &&& 31)) &&& (1 : Int32)) = (1 : Int32))))), (3, .int (g 59 i)), (0, .ref (ad 9)), (1, .int (nI i)), (2, .int (nI j))] → W p l e (kR 1 0 0) s m args below meth c H locs 0 0 Q (F0 m 314 ls [.int (if (0 : Int32) ≤ (((if (g 59 i) = (g 76 j) then (40 : Int32) else (15 : Int32)) + scP (g 56) (g 60 i) (g 77 j)) + scD (g 61 i) (g 78 j) (g 79 j)) + scW ((g 62 i) ||| ((g 63 i) &&& (g 81 j))) (g 80 j) (g 52) k then (((if (g 59 i) = (g 76 j) then (40 : Int32) else (15 : Int32)) + scP (g 56) (g 60 i) (g 77 j)) + scD (g 61 i) (g 78 j) (g 79 j)) + scW ((g 62 i) ||| ((g 63 i) &&& (g 81 j))) (g 80 j) (g 52) k else (0 : Int32))]) := by
                      intro H locs ls hw hS hl
                      exact kx_retI hQ hx hb hr hlk hw hS (Nat.le_of_ble_eq_true rfl) (Nat.le_of_ble_eq_true rfl) dX3_scoreOf_314 (kd_i (trivial) (by simp only [mSc, score, scK, bq, e_k, decide_eq_false c_40, if_neg c_40, c_45, decide_eq_true c_220, if_pos c_220, e_k]; rfl) (rfl))
                    refine lv_if_ge (tgt := 312) hx hb dX3_scoreOf_305 (by decide) (fun c_305 => ?_) (fun c_305 => ?_)
                    · refine lv_iload hx hb dX3_scoreOf_312 (lv_at hl 2 rfl) ?_
                      exact kx_top (v := (if (0 : Int32) ≤ (((if (g 59 i) = (g 76 j) then (40 : Int32) else (15 : Int32)) + scP (g 56) (g 60 i) (g 77 j)) + scD (g 61 i) (g 78 j) (g 79 j)) + scW ((g 62 i) ||| ((g 63 i) &&& (g 81 j))) (g 80 j) (g 52) k then (((if (g 59 i) = (g 76 j) then (40 : Int32) else (15 : Int32)) + scP (g 56) (g 60 i) (g 77 j)) + scD (g 61 i) (g 78 j) (g 79 j)) + scW ((g 62 i) ||| ((g 63 i) &&& (g 81 j))) (g 80 j) (g 52) k else (0 : Int32))) (by first | (simp only [bq, decide_eq_true c_305, if_pos c_305]; done) | (simp only [bq, decide_eq_true c_305, if_pos c_305]; rfl) | (simp [bq, decide_eq_true c_305, if_pos c_305]; done)) (hj_314_11 _ _ _ hw hS hl)
                    · refine lv_iconst (v := 0) hx hb dX3_scoreOf_308 (by decide) ?_
                      refine lv_goto (tgt := 314) hx hb dX3_scoreOf_309 (by decide) ?_
                      exact kx_top (v := (if (0 : Int32) ≤ (((if (g 59 i) = (g 76 j) then (40 : Int32) else (15 : Int32)) + scP (g 56) (g 60 i) (g 77 j)) + scD (g 61 i) (g 78 j) (g 79 j)) + scW ((g 62 i) ||| ((g 63 i) &&& (g 81 j))) (g 80 j) (g 52) k then (((if (g 59 i) = (g 76 j) then (40 : Int32) else (15 : Int32)) + scP (g 56) (g 60 i) (g 77 j)) + scD (g 61 i) (g 78 j) (g 79 j)) + scW ((g 62 i) ||| ((g 63 i) &&& (g 81 j))) (g 80 j) (g 52) k else (0 : Int32))) (by first | (simp only [bq, decide_eq_false c_305, if_neg c_305]; done) | (simp only [bq, decide_eq_false c_305, if_neg c_305]; rfl) | (simp [bq, decide_eq_false c_305, if_neg c_305]; done)) (hj_314_11 _ _ _ hw hS hl)
                  · have hlt_k : k < 24 := lt_nI (a := 24) (b := k) c_220 (by omega) (by omega)
                    refine lv_aload_n hx hb dX3_scoreOf_223 rfl (lv_at hl 6 rfl) ?_
                    refine kx_getM (v := .ref (ad 80)) hx hb hts hown hG hw i3 30 (by decide) f_90 rfl dX3_scoreOf_224 ?_
                    refine lv_iload_n hx hb dX3_scoreOf_227 rfl (lv_at hl 8 rfl) ?_
                    refine kx_iald (v := (g 80 j)) hx hb hG hw (kC_I rfl) j (nI_clamp (by omega)) (vp_in_nI (by omega) (by decide)) rfl dX3_scoreOf_228 ?_
                    refine lv_iload hx hb dX3_scoreOf_229 (lv_at hl 0 rfl) ?_
                    refine lv_ishr hx hb dX3_scoreOf_231 ?_
                    refine lv_iconst (v := 1) hx hb dX3_scoreOf_232 (by decide) ?_
                    refine lv_iand hx hb dX3_scoreOf_233 ?_
                    refine lv_iconst (v := 1) hx hb dX3_scoreOf_234 (by decide) ?_
                    have hj_243_12 : ∀ (H : Heap) (locs : List Loc) (ls : Array Slot), kW D cy base ad n nc g H → va_S (kA base) s.heap H locs → lv_has ls 11 [(8, .int (nI k)), (7, .int ((g 62 i) ||| ((g 63 i) &&& (g 81 j)))), (5, .int ((((if (g 59 i) = (g 76 j) then (40 : Int32) else (15 : Int32)) + scP (g 56) (g 60 i) (g 77 j)) + scD (g 61 i) (g 78 j) (g 79 j)) + scW ((g 62 i) ||| ((g 63 i) &&& (g 81 j))) (g 80 j) (g 52) k)), (6, .int ((g 61 i) - (g 79 j))), (4, .int (b2 (decide ((((g 53 (g 59 i).toNatClampNeg) >>> ((g 76 j) &&& 31)) &&& (1 : Int32)) = (1 : Int32))))), (3, .int (g 59 i)), (0, .ref (ad 9)), (1, .int (nI i)), (2, .int (nI j))] → W p l e (kR 1 0 0) s m args below meth c H locs 0 0 Q (F0 m 243 ls [.int (b2 (decide ((((g 80 j) >>> (nI k &&& 31)) &&& (1 : Int32)) = (1 : Int32))))]) := by
                      intro H locs ls hw hS hl
                      refine lv_istore (lv' := [(9, .int (b2 (decide ((((g 80 j) >>> (nI k &&& 31)) &&& (1 : Int32)) = (1 : Int32))))), (8, .int (nI k)), (7, .int ((g 62 i) ||| ((g 63 i) &&& (g 81 j)))), (5, .int ((((if (g 59 i) = (g 76 j) then (40 : Int32) else (15 : Int32)) + scP (g 56) (g 60 i) (g 77 j)) + scD (g 61 i) (g 78 j) (g 79 j)) + scW ((g 62 i) ||| ((g 63 i) &&& (g 81 j))) (g 80 j) (g 52) k)), (6, .int ((g 61 i) - (g 79 j))), (4, .int (b2 (decide ((((g 53 (g 59 i).toNatClampNeg) >>> ((g 76 j) &&& 31)) &&& (1 : Int32)) = (1 : Int32))))), (3, .int (g 59 i)), (0, .ref (ad 9)), (1, .int (nI i)), (2, .int (nI j))]) hx hb dX3_scoreOf_243 hl (by decide) rfl (fun ls hl => ?_)
                      refine lv_iload hx hb dX3_scoreOf_245 (lv_at hl 2 rfl) ?_
                      refine lv_iload hx hb dX3_scoreOf_247 (lv_at hl 1 rfl) ?_
                      refine lv_ishr hx hb dX3_scoreOf_249 ?_
                      refine lv_iconst (v := 1) hx hb dX3_scoreOf_250 (by decide) ?_
                      refine lv_iand hx hb dX3_scoreOf_251 ?_
                      refine lv_iconst (v := 1) hx hb dX3_scoreOf_252 (by decide) ?_
                      have hj_279_13 : ∀ (H : Heap) (locs : List Loc) (ls : Array Slot), kW D cy base ad n nc g H → va_S (kA base) s.heap H locs → lv_has ls 11 [(9, .int (b2 (decide ((((g 80 j) >>> (nI k &&& 31)) &&& (1 : Int32)) = (1 : Int32))))), (8, .int (nI k)), (7, .int ((g 62 i) ||| ((g 63 i) &&& (g 81 j)))), (5, .int ((((if (g 59 i) = (g 76 j) then (40 : Int32) else (15 : Int32)) + scP (g 56) (g 60 i) (g 77 j)) + scD (g 61 i) (g 78 j) (g 79 j)) + scW ((g 62 i) ||| ((g 63 i) &&& (g 81 j))) (g 80 j) (g 52) k)), (6, .int ((g 61 i) - (g 79 j))), (4, .int (b2 (decide ((((g 53 (g 59 i).toNatClampNeg) >>> ((g 76 j) &&& 31)) &&& (1 : Int32)) = (1 : Int32))))), (3, .int (g 59 i)), (0, .ref (ad 9)), (1, .int (nI i)), (2, .int (nI j))] → W p l e (kR 1 0 0) s m args below meth c H locs 0 0 Q (F0 m 279 ls [.int (if ((((g 62 i) ||| ((g 63 i) &&& (g 81 j))) >>> (nI k &&& 31)) &&& (1 : Int32)) = (1 : Int32) then (6 : Int32) else (if (((g 62 i) ||| ((g 63 i) &&& (g 81 j))) &&& (g 52 k)) = (0 : Int32) then (-1 : Int32) else (3 : Int32)))]) := by
                        intro H locs ls hw hS hl
                        refine lv_istore (lv' := [(10, .int (if ((((g 62 i) ||| ((g 63 i) &&& (g 81 j))) >>> (nI k &&& 31)) &&& (1 : Int32)) = (1 : Int32) then (6 : Int32) else (if (((g 62 i) ||| ((g 63 i) &&& (g 81 j))) &&& (g 52 k)) = (0 : Int32) then (-1 : Int32) else (3 : Int32)))), (9, .int (b2 (decide ((((g 80 j) >>> (nI k &&& 31)) &&& (1 : Int32)) = (1 : Int32))))), (8, .int (nI k)), (7, .int ((g 62 i) ||| ((g 63 i) &&& (g 81 j)))), (5, .int ((((if (g 59 i) = (g 76 j) then (40 : Int32) else (15 : Int32)) + scP (g 56) (g 60 i) (g 77 j)) + scD (g 61 i) (g 78 j) (g 79 j)) + scW ((g 62 i) ||| ((g 63 i) &&& (g 81 j))) (g 80 j) (g 52) k)), (6, .int ((g 61 i) - (g 79 j))), (4, .int (b2 (decide ((((g 53 (g 59 i).toNatClampNeg) >>> ((g 76 j) &&& 31)) &&& (1 : Int32)) = (1 : Int32))))), (3, .int (g 59 i)), (0, .ref (ad 9)), (1, .int (nI i)), (2, .int (nI j))]) hx hb dX3_scoreOf_279 hl (by decide) rfl (fun ls hl => ?_)
                        refine lv_iload hx hb dX3_scoreOf_281 (lv_at hl 4 rfl) ?_
                        refine lv_iload hx hb dX3_scoreOf_283 (lv_at hl 1 rfl) ?_
                        have hj_294_14 : ∀ (H : Heap) (locs : List Loc) (ls : Array Slot), kW D cy base ad n nc g H → va_S (kA base) s.heap H locs → lv_has ls 11 [(10, .int (if ((((g 62 i) ||| ((g 63 i) &&& (g 81 j))) >>> (nI k &&& 31)) &&& (1 : Int32)) = (1 : Int32) then (6 : Int32) else (if (((g 62 i) ||| ((g 63 i) &&& (g 81 j))) &&& (g 52 k)) = (0 : Int32) then (-1 : Int32) else (3 : Int32)))), (9, .int (b2 (decide ((((g 80 j) >>> (nI k &&& 31)) &&& (1 : Int32)) = (1 : Int32))))), (8, .int (nI k)), (7, .int ((g 62 i) ||| ((g 63 i) &&& (g 81 j)))), (5, .int ((((if (g 59 i) = (g 76 j) then (40 : Int32) else (15 : Int32)) + scP (g 56) (g 60 i) (g 77 j)) + scD (g 61 i) (g 78 j) (g 79 j)) + scW ((g 62 i) ||| ((g 63 i) &&& (g 81 j))) (g 80 j) (g 52) k)), (6, .int ((g 61 i) - (g 79 j))), (4, .int (b2 (decide ((((g 53 (g 59 i).toNatClampNeg) >>> ((g 76 j) &&& 31)) &&& (1 : Int32)) = (1 : Int32))))), (3, .int (g 59 i)), (0, .ref (ad 9)), (1, .int (nI i)), (2, .int (nI j))] → W p l e (kR 1 0 0) s m args below meth c H locs 0 0 Q (F0 m 294 ls [.int (if (decide ((((g 80 j) >>> (nI k &&& 31)) &&& (1 : Int32)) = (1 : Int32))) = true then (if ((((g 62 i) ||| ((g 63 i) &&& (g 81 j))) >>> (nI k &&& 31)) &&& (1 : Int32)) = (1 : Int32) then (6 : Int32) else (if (((g 62 i) ||| ((g 63 i) &&& (g 81 j))) &&& (g 52 k)) = (0 : Int32) then (-1 : Int32) else (3 : Int32))) else (0 : Int32)), .int ((((if (g 59 i) = (g 76 j) then (40 : Int32) else (15 : Int32)) + scP (g 56) (g 60 i) (g 77 j)) + scD (g 61 i) (g 78 j) (g 79 j)) + scW ((g 62 i) ||| ((g 63 i) &&& (g 81 j))) (g 80 j) (g 52) k)]) := by
                          intro H locs ls hw hS hl
                          refine lv_iadd hx hb dX3_scoreOf_294 ?_
                          refine lv_istore (lv' := [(5, .int ((((if (g 59 i) = (g 76 j) then (40 : Int32) else (15 : Int32)) + scP (g 56) (g 60 i) (g 77 j)) + scD (g 61 i) (g 78 j) (g 79 j)) + scW ((g 62 i) ||| ((g 63 i) &&& (g 81 j))) (g 80 j) (g 52) k + (if (decide ((((g 80 j) >>> (nI k &&& 31)) &&& (1 : Int32)) = (1 : Int32))) = true then (if ((((g 62 i) ||| ((g 63 i) &&& (g 81 j))) >>> (nI k &&& 31)) &&& (1 : Int32)) = (1 : Int32) then (6 : Int32) else (if (((g 62 i) ||| ((g 63 i) &&& (g 81 j))) &&& (g 52 k)) = (0 : Int32) then (-1 : Int32) else (3 : Int32))) else (0 : Int32)))), (10, .int (if ((((g 62 i) ||| ((g 63 i) &&& (g 81 j))) >>> (nI k &&& 31)) &&& (1 : Int32)) = (1 : Int32) then (6 : Int32) else (if (((g 62 i) ||| ((g 63 i) &&& (g 81 j))) &&& (g 52 k)) = (0 : Int32) then (-1 : Int32) else (3 : Int32)))), (9, .int (b2 (decide ((((g 80 j) >>> (nI k &&& 31)) &&& (1 : Int32)) = (1 : Int32))))), (8, .int (nI k)), (7, .int ((g 62 i) ||| ((g 63 i) &&& (g 81 j)))), (6, .int ((g 61 i) - (g 79 j))), (4, .int (b2 (decide ((((g 53 (g 59 i).toNatClampNeg) >>> ((g 76 j) &&& 31)) &&& (1 : Int32)) = (1 : Int32))))), (3, .int (g 59 i)), (0, .ref (ad 9)), (1, .int (nI i)), (2, .int (nI j))]) hx hb dX3_scoreOf_295 hl (by decide) rfl (fun ls hl => ?_)
                          refine lv_iinc (v := (nI k + (1 : Int32))) (lv' := [(8, .int (nI k + (1 : Int32))), (5, .int ((((if (g 59 i) = (g 76 j) then (40 : Int32) else (15 : Int32)) + scP (g 56) (g 60 i) (g 77 j)) + scD (g 61 i) (g 78 j) (g 79 j)) + scW ((g 62 i) ||| ((g 63 i) &&& (g 81 j))) (g 80 j) (g 52) k + (if (decide ((((g 80 j) >>> (nI k &&& 31)) &&& (1 : Int32)) = (1 : Int32))) = true then (if ((((g 62 i) ||| ((g 63 i) &&& (g 81 j))) >>> (nI k &&& 31)) &&& (1 : Int32)) = (1 : Int32) then (6 : Int32) else (if (((g 62 i) ||| ((g 63 i) &&& (g 81 j))) &&& (g 52 k)) = (0 : Int32) then (-1 : Int32) else (3 : Int32))) else (0 : Int32)))), (10, .int (if ((((g 62 i) ||| ((g 63 i) &&& (g 81 j))) >>> (nI k &&& 31)) &&& (1 : Int32)) = (1 : Int32) then (6 : Int32) else (if (((g 62 i) ||| ((g 63 i) &&& (g 81 j))) &&& (g 52 k)) = (0 : Int32) then (-1 : Int32) else (3 : Int32)))), (9, .int (b2 (decide ((((g 80 j) >>> (nI k &&& 31)) &&& (1 : Int32)) = (1 : Int32))))), (7, .int ((g 62 i) ||| ((g 63 i) &&& (g 81 j)))), (6, .int ((g 61 i) - (g 79 j))), (4, .int (b2 (decide ((((g 53 (g 59 i).toNatClampNeg) >>> ((g 76 j) &&& 31)) &&& (1 : Int32)) = (1 : Int32))))), (3, .int (g 59 i)), (0, .ref (ad 9)), (1, .int (nI i)), (2, .int (nI j))]) hx hb dX3_scoreOf_297 hl (k := 3) rfl rfl (by decide) rfl (fun ls hl => ?_)
                          refine lv_goto (tgt := 216) hx hb dX3_scoreOf_300 (by decide) ?_
                          exact ih_216 (k + 1) (by omega) (by omega) _ _ _ hw hS (kx_lv (l := [(8, .int (nI k + (1 : Int32))), (7, .int ((g 62 i) ||| ((g 63 i) &&& (g 81 j)))), (5, .int ((((if (g 59 i) = (g 76 j) then (40 : Int32) else (15 : Int32)) + scP (g 56) (g 60 i) (g 77 j)) + scD (g 61 i) (g 78 j) (g 79 j)) + scW ((g 62 i) ||| ((g 63 i) &&& (g 81 j))) (g 80 j) (g 52) k + (if (decide ((((g 80 j) >>> (nI k &&& 31)) &&& (1 : Int32)) = (1 : Int32))) = true then (if ((((g 62 i) ||| ((g 63 i) &&& (g 81 j))) >>> (nI k &&& 31)) &&& (1 : Int32)) = (1 : Int32) then (6 : Int32) else (if (((g 62 i) ||| ((g 63 i) &&& (g 81 j))) &&& (g 52 k)) = (0 : Int32) then (-1 : Int32) else (3 : Int32))) else (0 : Int32)))), (6, .int ((g 61 i) - (g 79 j))), (4, .int (b2 (decide ((((g 53 (g 59 i).toNatClampNeg) >>> ((g 76 j) &&& 31)) &&& (1 : Int32)) = (1 : Int32))))), (3, .int (g 59 i)), (0, .ref (ad 9)), (1, .int (nI i)), (2, .int (nI j))]) (l' := [(8, .int (nI (k + 1))), (7, .int ((g 62 i) ||| ((g 63 i) &&& (g 81 j)))), (5, .int ((((if (g 59 i) = (g 76 j) then (40 : Int32) else (15 : Int32)) + scP (g 56) (g 60 i) (g 77 j)) + scD (g 61 i) (g 78 j) (g 79 j)) + scW ((g 62 i) ||| ((g 63 i) &&& (g 81 j))) (g 80 j) (g 52) (k + 1))), (6, .int ((g 61 i) - (g 79 j))), (4, .int (b2 (decide ((((g 53 (g 59 i).toNatClampNeg) >>> ((g 76 j) &&& 31)) &&& (1 : Int32)) = (1 : Int32))))), (3, .int (g 59 i)), (0, .ref (ad 9)), (1, .int (nI i)), (2, .int (nI j))]) (lv_sub hl [0, 4, 1, 5, 6, 7, 8, 9, 10] rfl) (by rw [nI_1, Int32.add_assoc]; rfl)) 
                        refine kb_eq (tgt := 293) hx hb dX3_scoreOf_285 (by decide) (fun c_285 => ?_) (fun c_285 => ?_)
                        · refine lv_iconst (v := 0) hx hb dX3_scoreOf_293 (by decide) ?_
                          exact kx_top (v := (if (decide ((((g 80 j) >>> (nI k &&& 31)) &&& (1 : Int32)) = (1 : Int32))) = true then (if ((((g 62 i) ||| ((g 63 i) &&& (g 81 j))) >>> (nI k &&& 31)) &&& (1 : Int32)) = (1 : Int32) then (6 : Int32) else (if (((g 62 i) ||| ((g 63 i) &&& (g 81 j))) &&& (g 52 k)) = (0 : Int32) then (-1 : Int32) else (3 : Int32))) else (0 : Int32))) (by first | (simp only [bq, c_285]; done) | (simp only [bq, c_285]; rfl) | (simp [bq, c_285]; done)) (hj_294_14 _ _ _ hw hS hl)
                        · refine lv_iload hx hb dX3_scoreOf_288 (lv_at hl 0 rfl) ?_
                          refine lv_goto (tgt := 294) hx hb dX3_scoreOf_290 (by decide) ?_
                          exact kx_top (v := (if (decide ((((g 80 j) >>> (nI k &&& 31)) &&& (1 : Int32)) = (1 : Int32))) = true then (if ((((g 62 i) ||| ((g 63 i) &&& (g 81 j))) >>> (nI k &&& 31)) &&& (1 : Int32)) = (1 : Int32) then (6 : Int32) else (if (((g 62 i) ||| ((g 63 i) &&& (g 81 j))) &&& (g 52 k)) = (0 : Int32) then (-1 : Int32) else (3 : Int32))) else (0 : Int32))) (by first | (simp only [bq, c_285]; done) | (simp only [bq, c_285]; rfl) | (simp [bq, c_285]; done)) (hj_294_14 _ _ _ hw hS hl)
                      refine lv_icmp_ne (tgt := 261) hx hb dX3_scoreOf_253 (by decide) (fun c_253 => ?_) (fun c_253 => ?_)
                      · refine lv_iload hx hb dX3_scoreOf_261 (lv_at hl 2 rfl) ?_
                        refine lv_aload_n hx hb dX3_scoreOf_263 rfl (lv_at hl 7 rfl) ?_
                        refine kx_getM (v := .ref (ad 52)) hx hb hts hown hG hw i3 2 (by decide) f_7 rfl dX3_scoreOf_264 ?_
                        refine lv_iload hx hb dX3_scoreOf_267 (lv_at hl 1 rfl) ?_
                        refine kx_iald (v := (g 52 k)) hx hb hG hw (kC_I rfl) k (nI_clamp (by omega)) (vp_in_nI (by omega) (by decide)) rfl dX3_scoreOf_269 ?_
                        refine lv_iand hx hb dX3_scoreOf_270 ?_
                        refine lv_if_eq (tgt := 278) hx hb dX3_scoreOf_271 (by decide) (fun c_271 => ?_) (fun c_271 => ?_)
                        · refine lv_iconst (v := -1) hx hb dX3_scoreOf_278 (by decide) ?_
                          exact kx_top (v := (if ((((g 62 i) ||| ((g 63 i) &&& (g 81 j))) >>> (nI k &&& 31)) &&& (1 : Int32)) = (1 : Int32) then (6 : Int32) else (if (((g 62 i) ||| ((g 63 i) &&& (g 81 j))) &&& (g 52 k)) = (0 : Int32) then (-1 : Int32) else (3 : Int32)))) (by first | (simp only [bq, decide_eq_false c_253, if_neg c_253, decide_eq_true c_271, if_pos c_271]; done) | (simp only [bq, decide_eq_false c_253, if_neg c_253, decide_eq_true c_271, if_pos c_271]; rfl) | (simp [bq, decide_eq_false c_253, if_neg c_253, decide_eq_true c_271, if_pos c_271]; done)) (hj_279_13 _ _ _ hw hS hl)
                        · refine lv_iconst (v := 3) hx hb dX3_scoreOf_274 (by decide) ?_
                          refine lv_goto (tgt := 279) hx hb dX3_scoreOf_275 (by decide) ?_
                          exact kx_top (v := (if ((((g 62 i) ||| ((g 63 i) &&& (g 81 j))) >>> (nI k &&& 31)) &&& (1 : Int32)) = (1 : Int32) then (6 : Int32) else (if (((g 62 i) ||| ((g 63 i) &&& (g 81 j))) &&& (g 52 k)) = (0 : Int32) then (-1 : Int32) else (3 : Int32)))) (by first | (simp only [bq, decide_eq_false c_253, if_neg c_253, decide_eq_false c_271, if_neg c_271]; done) | (simp only [bq, decide_eq_false c_253, if_neg c_253, decide_eq_false c_271, if_neg c_271]; rfl) | (simp [bq, decide_eq_false c_253, if_neg c_253, decide_eq_false c_271, if_neg c_271]; done)) (hj_279_13 _ _ _ hw hS hl)
                      · refine lv_bipush (v := 6) hx hb dX3_scoreOf_256 (by decide) ?_
                        refine lv_goto (tgt := 279) hx hb dX3_scoreOf_258 (by decide) ?_
                        exact kx_top (v := (if ((((g 62 i) ||| ((g 63 i) &&& (g 81 j))) >>> (nI k &&& 31)) &&& (1 : Int32)) = (1 : Int32) then (6 : Int32) else (if (((g 62 i) ||| ((g 63 i) &&& (g 81 j))) &&& (g 52 k)) = (0 : Int32) then (-1 : Int32) else (3 : Int32)))) (by first | (simp only [bq, decide_eq_true c_253, if_pos c_253]; done) | (simp only [bq, decide_eq_true c_253, if_pos c_253]; rfl) | (simp [bq, decide_eq_true c_253, if_pos c_253]; done)) (hj_279_13 _ _ _ hw hS hl)
                    refine lv_icmp_ne (tgt := 242) hx hb dX3_scoreOf_235 (by decide) (fun c_235 => ?_) (fun c_235 => ?_)
                    · refine lv_iconst (v := 0) hx hb dX3_scoreOf_242 (by decide) ?_
                      exact kx_top (v := (b2 (decide ((((g 80 j) >>> (nI k &&& 31)) &&& (1 : Int32)) = (1 : Int32))))) (by first | (simp only [bq, decide_eq_false c_235, if_neg c_235]; done) | (simp only [bq, decide_eq_false c_235, if_neg c_235]; rfl) | (simp [bq, decide_eq_false c_235, if_neg c_235]; done)) (hj_243_12 _ _ _ hw hS hl)
                    · refine lv_iconst (v := 1) hx hb dX3_scoreOf_238 (by decide) ?_
                      refine lv_goto (tgt := 243) hx hb dX3_scoreOf_239 (by decide) ?_
                      exact kx_top (v := (b2 (decide ((((g 80 j) >>> (nI k &&& 31)) &&& (1 : Int32)) = (1 : Int32))))) (by first | (simp only [bq, decide_eq_true c_235, if_pos c_235]; done) | (simp only [bq, decide_eq_true c_235, if_pos c_235]; rfl) | (simp [bq, decide_eq_true c_235, if_pos c_235]; done)) (hj_243_12 _ _ _ hw hS hl)
              exact lp_216 (24 + 1) 0 (by omega) (by omega) _ _ _ hw hS (kx_lv (l := [(8, .int (0 : Int32)), (7, .int ((g 62 i) ||| ((g 63 i) &&& (g 81 j)))), (5, .int (((if (g 59 i) = (g 76 j) then (40 : Int32) else (15 : Int32)) + (if (g 60 i) = (g 77 j) then (20 : Int32) else (if ((rmO (g 56) (g 60 i)) &&& (rmO (g 56) (g 77 j))) = (0 : Int32) then (0 : Int32) else (10 : Int32)))) + (if (g 78 j) ≤ (g 61 i) then (if (0 : Int32) < ((g 61 i) - (g 79 j)) then (if (10 : Int32) ≤ ((g 61 i) - (g 79 j)) then (0 : Int32) else ((20 : Int32) - ((2 : Int32) * ((g 61 i) - (g 79 j))))) else (20 : Int32)) else (0 : Int32)))), (6, .int ((g 61 i) - (g 79 j))), (4, .int (b2 (decide ((((g 53 (g 59 i).toNatClampNeg) >>> ((g 76 j) &&& 31)) &&& (1 : Int32)) = (1 : Int32))))), (3, .int (g 59 i)), (0, .ref (ad 9)), (1, .int (nI i)), (2, .int (nI j))]) (l' := [(8, .int (nI 0)), (7, .int ((g 62 i) ||| ((g 63 i) &&& (g 81 j)))), (5, .int ((((if (g 59 i) = (g 76 j) then (40 : Int32) else (15 : Int32)) + scP (g 56) (g 60 i) (g 77 j)) + scD (g 61 i) (g 78 j) (g 79 j)) + scW ((g 62 i) ||| ((g 63 i) &&& (g 81 j))) (g 80 j) (g 52) 0)), (6, .int ((g 61 i) - (g 79 j))), (4, .int (b2 (decide ((((g 53 (g 59 i).toNatClampNeg) >>> ((g 76 j) &&& 31)) &&& (1 : Int32)) = (1 : Int32))))), (3, .int (g 59 i)), (0, .ref (ad 9)), (1, .int (nI i)), (2, .int (nI j))]) (lv_sub hl [0, 1, 2, 3, 4, 5, 6, 7, 8] rfl) (by rw [show scW ((g 62 i) ||| ((g 63 i) &&& (g 81 j))) (g 80 j) (g 52) 0 = 0 from rfl, Int32.add_zero]; rfl)) 
            refine lv_icmp_ge (tgt := 160) hx hb dX3_scoreOf_153 (by decide) (fun c_153 => ?_) (fun c_153 => ?_)
            · refine lv_iload hx hb dX3_scoreOf_160 (lv_at hl 0 rfl) ?_
              refine lv_if_gt (tgt := 170) hx hb dX3_scoreOf_162 (by decide) (fun c_162 => ?_) (fun c_162 => ?_)
              · refine lv_iload hx hb dX3_scoreOf_170 (lv_at hl 0 rfl) ?_
                refine lv_bipush (v := 10) hx hb dX3_scoreOf_172 (by decide) ?_
                refine lv_icmp_ge (tgt := 187) hx hb dX3_scoreOf_174 (by decide) (fun c_174 => ?_) (fun c_174 => ?_)
                · refine lv_iconst (v := 0) hx hb dX3_scoreOf_187 (by decide) ?_
                  exact kx_top (v := (if (g 78 j) ≤ (g 61 i) then (if (0 : Int32) < ((g 61 i) - (g 79 j)) then (if (10 : Int32) ≤ ((g 61 i) - (g 79 j)) then (0 : Int32) else ((20 : Int32) - ((2 : Int32) * ((g 61 i) - (g 79 j))))) else (20 : Int32)) else (0 : Int32))) (by first | (simp only [bq, decide_eq_true c_153, if_pos c_153, decide_eq_true c_162, if_pos c_162, decide_eq_true c_174, if_pos c_174]; done) | (simp only [bq, decide_eq_true c_153, if_pos c_153, decide_eq_true c_162, if_pos c_162, decide_eq_true c_174, if_pos c_174]; rfl) | (simp [bq, decide_eq_true c_153, if_pos c_153, decide_eq_true c_162, if_pos c_162, decide_eq_true c_174, if_pos c_174]; done)) (hj_188_10 _ _ _ hw hS hl)
                · refine lv_bipush (v := 20) hx hb dX3_scoreOf_177 (by decide) ?_
                  refine lv_iconst (v := 2) hx hb dX3_scoreOf_179 (by decide) ?_
                  refine lv_iload hx hb dX3_scoreOf_180 (lv_at hl 0 rfl) ?_
                  refine lv_imul hx hb dX3_scoreOf_182 ?_
                  refine lv_isub hx hb dX3_scoreOf_183 ?_
                  refine lv_goto (tgt := 188) hx hb dX3_scoreOf_184 (by decide) ?_
                  exact kx_top (v := (if (g 78 j) ≤ (g 61 i) then (if (0 : Int32) < ((g 61 i) - (g 79 j)) then (if (10 : Int32) ≤ ((g 61 i) - (g 79 j)) then (0 : Int32) else ((20 : Int32) - ((2 : Int32) * ((g 61 i) - (g 79 j))))) else (20 : Int32)) else (0 : Int32))) (by first | (simp only [bq, decide_eq_true c_153, if_pos c_153, decide_eq_true c_162, if_pos c_162, decide_eq_false c_174, if_neg c_174]; done) | (simp only [bq, decide_eq_true c_153, if_pos c_153, decide_eq_true c_162, if_pos c_162, decide_eq_false c_174, if_neg c_174]; rfl) | (simp [bq, decide_eq_true c_153, if_pos c_153, decide_eq_true c_162, if_pos c_162, decide_eq_false c_174, if_neg c_174]; done)) (hj_188_10 _ _ _ hw hS hl)
              · refine lv_bipush (v := 20) hx hb dX3_scoreOf_165 (by decide) ?_
                refine lv_goto (tgt := 188) hx hb dX3_scoreOf_167 (by decide) ?_
                exact kx_top (v := (if (g 78 j) ≤ (g 61 i) then (if (0 : Int32) < ((g 61 i) - (g 79 j)) then (if (10 : Int32) ≤ ((g 61 i) - (g 79 j)) then (0 : Int32) else ((20 : Int32) - ((2 : Int32) * ((g 61 i) - (g 79 j))))) else (20 : Int32)) else (0 : Int32))) (by first | (simp only [bq, decide_eq_true c_153, if_pos c_153, decide_eq_false c_162, if_neg c_162]; done) | (simp only [bq, decide_eq_true c_153, if_pos c_153, decide_eq_false c_162, if_neg c_162]; rfl) | (simp [bq, decide_eq_true c_153, if_pos c_153, decide_eq_false c_162, if_neg c_162]; done)) (hj_188_10 _ _ _ hw hS hl)
            · refine lv_iconst (v := 0) hx hb dX3_scoreOf_156 (by decide) ?_
              refine lv_goto (tgt := 188) hx hb dX3_scoreOf_157 (by decide) ?_
              exact kx_top (v := (if (g 78 j) ≤ (g 61 i) then (if (0 : Int32) < ((g 61 i) - (g 79 j)) then (if (10 : Int32) ≤ ((g 61 i) - (g 79 j)) then (0 : Int32) else ((20 : Int32) - ((2 : Int32) * ((g 61 i) - (g 79 j))))) else (20 : Int32)) else (0 : Int32))) (by first | (simp only [bq, decide_eq_false c_153, if_neg c_153]; done) | (simp only [bq, decide_eq_false c_153, if_neg c_153]; rfl) | (simp [bq, decide_eq_false c_153, if_neg c_153]; done)) (hj_188_10 _ _ _ hw hS hl)
          refine lv_icmp_ne (tgt := 91) hx hb dX3_scoreOf_83 (by decide) (fun c_83 => ?_) (fun c_83 => ?_)
          · refine lv_aload_n hx hb dX3_scoreOf_91 rfl (lv_at hl 3 rfl) ?_
            refine lv_aload_n hx hb dX3_scoreOf_92 rfl (lv_at hl 3 rfl) ?_
            refine kx_getM (v := .ref (ad 60)) hx hb hts hown hG hw i3 10 (by decide) f_32 rfl dX3_scoreOf_93 ?_
            refine lv_iload_n hx hb dX3_scoreOf_96 rfl (lv_at hl 4 rfl) ?_
            refine kx_iald (v := (g 60 i)) hx hb hG hw (kC_I rfl) i (nI_clamp (by omega)) (vp_in_nI (by omega) (by decide)) rfl dX3_scoreOf_97 ?_
            refine kx_do0 (st1 := [.int (rmO (g 56) (g 60 i)), .int (if (g 59 i) = (g 76 j) then (40 : Int32) else (15 : Int32))]) (kx_cv (As := [.int (g 60 i)]) (rest := [.int (if (g 59 i) = (g 76 j) then (40 : Int32) else (15 : Int32))]) hF hG hw hS hl.1 kC_9 rfl (c_X3_roomsOf l hfl D cy base ad n nc g (g 60 i) (by first | assumption | omega | exact mR_9 (by assumption) _ _ | simp [sU, hi, hj, hR])) gX3_scoreOf_X3_roomsOf rfl rfl rfl hd_X3_roomsOf ⟨Nat.le_of_ble_eq_true rfl, Nat.le_of_ble_eq_true rfl⟩ rfl rfl (Nat.le_of_ble_eq_true rfl) dX3_scoreOf_98 ⟨Nat.le_of_ble_eq_true rfl, Nat.le_of_ble_eq_true rfl⟩) hS rfl (fun H locs hw hS => ?_)
            refine lv_aload_n hx hb dX3_scoreOf_101 rfl (lv_at hl 3 rfl) ?_
            refine lv_aload_n hx hb dX3_scoreOf_102 rfl (lv_at hl 3 rfl) ?_
            refine kx_getM (v := .ref (ad 77)) hx hb hts hown hG hw i3 27 (by decide) f_81 rfl dX3_scoreOf_103 ?_
            refine lv_iload_n hx hb dX3_scoreOf_106 rfl (lv_at hl 5 rfl) ?_
            refine kx_iald (v := (g 77 j)) hx hb hG hw (kC_I rfl) j (nI_clamp (by omega)) (vp_in_nI (by omega) (by decide)) rfl dX3_scoreOf_107 ?_
            refine kx_do0 (st1 := [.int (rmO (g 56) (g 77 j)), .int (rmO (g 56) (g 60 i)), .int (if (g 59 i) = (g 76 j) then (40 : Int32) else (15 : Int32))]) (kx_cv (As := [.int (g 77 j)]) (rest := [.int (rmO (g 56) (g 60 i)), .int (if (g 59 i) = (g 76 j) then (40 : Int32) else (15 : Int32))]) hF hG hw hS hl.1 kC_9 rfl (c_X3_roomsOf l hfl D cy base ad n nc g (g 77 j) (by first | assumption | omega | exact mR_9 (by assumption) _ _ | simp [sU, hi, hj, hR])) gX3_scoreOf_X3_roomsOf rfl rfl rfl hd_X3_roomsOf ⟨Nat.le_of_ble_eq_true rfl, Nat.le_of_ble_eq_true rfl⟩ rfl rfl (Nat.le_of_ble_eq_true rfl) dX3_scoreOf_108 ⟨Nat.le_of_ble_eq_true rfl, Nat.le_of_ble_eq_true rfl⟩) hS rfl (fun H locs hw hS => ?_)
            refine lv_iand hx hb dX3_scoreOf_111 ?_
            refine lv_if_eq (tgt := 120) hx hb dX3_scoreOf_112 (by decide) (fun c_112 => ?_) (fun c_112 => ?_)
            · refine lv_iconst (v := 0) hx hb dX3_scoreOf_120 (by decide) ?_
              exact kx_top (v := (if (g 60 i) = (g 77 j) then (20 : Int32) else (if ((rmO (g 56) (g 60 i)) &&& (rmO (g 56) (g 77 j))) = (0 : Int32) then (0 : Int32) else (10 : Int32)))) (by first | (simp only [bq, decide_eq_false c_83, if_neg c_83, decide_eq_true c_112, if_pos c_112]; done) | (simp only [bq, decide_eq_false c_83, if_neg c_83, decide_eq_true c_112, if_pos c_112]; rfl) | (simp [bq, decide_eq_false c_83, if_neg c_83, decide_eq_true c_112, if_pos c_112]; done)) (hj_121_9 _ _ _ hw hS hl)
            · refine lv_bipush (v := 10) hx hb dX3_scoreOf_115 (by decide) ?_
              refine lv_goto (tgt := 121) hx hb dX3_scoreOf_117 (by decide) ?_
              exact kx_top (v := (if (g 60 i) = (g 77 j) then (20 : Int32) else (if ((rmO (g 56) (g 60 i)) &&& (rmO (g 56) (g 77 j))) = (0 : Int32) then (0 : Int32) else (10 : Int32)))) (by first | (simp only [bq, decide_eq_false c_83, if_neg c_83, decide_eq_false c_112, if_neg c_112]; done) | (simp only [bq, decide_eq_false c_83, if_neg c_83, decide_eq_false c_112, if_neg c_112]; rfl) | (simp [bq, decide_eq_false c_83, if_neg c_83, decide_eq_false c_112, if_neg c_112]; done)) (hj_121_9 _ _ _ hw hS hl)
          · refine lv_bipush (v := 20) hx hb dX3_scoreOf_86 (by decide) ?_
            refine lv_goto (tgt := 121) hx hb dX3_scoreOf_88 (by decide) ?_
            exact kx_top (v := (if (g 60 i) = (g 77 j) then (20 : Int32) else (if ((rmO (g 56) (g 60 i)) &&& (rmO (g 56) (g 77 j))) = (0 : Int32) then (0 : Int32) else (10 : Int32)))) (by first | (simp only [bq, decide_eq_true c_83, if_pos c_83]; done) | (simp only [bq, decide_eq_true c_83, if_pos c_83]; rfl) | (simp [bq, decide_eq_true c_83, if_pos c_83]; done)) (hj_121_9 _ _ _ hw hS hl)
        refine lv_icmp_ne (tgt := 65) hx hb dX3_scoreOf_57 (by decide) (fun c_57 => ?_) (fun c_57 => ?_)
        · refine lv_bipush (v := 15) hx hb dX3_scoreOf_65 (by decide) ?_
          exact kx_top (v := (if (g 59 i) = (g 76 j) then (40 : Int32) else (15 : Int32))) (by first | (simp only [bq, decide_eq_false c_57, if_neg c_57]; done) | (simp only [bq, decide_eq_false c_57, if_neg c_57]; rfl) | (simp [bq, decide_eq_false c_57, if_neg c_57]; done)) (hj_67_8 _ _ _ hw hS hl)
        · refine lv_bipush (v := 40) hx hb dX3_scoreOf_60 (by decide) ?_
          refine lv_goto (tgt := 67) hx hb dX3_scoreOf_62 (by decide) ?_
          exact kx_top (v := (if (g 59 i) = (g 76 j) then (40 : Int32) else (15 : Int32))) (by first | (simp only [bq, decide_eq_true c_57, if_pos c_57]; done) | (simp only [bq, decide_eq_true c_57, if_pos c_57]; rfl) | (simp [bq, decide_eq_true c_57, if_pos c_57]; done)) (hj_67_8 _ _ _ hw hS hl)
      · refine lv_iconst (v := -1) hx hb dX3_scoreOf_48 (by decide) ?_
        exact kx_retI hQ hx hb hr hlk hw hS (Nat.le_of_ble_eq_true rfl) (Nat.le_of_ble_eq_true rfl) dX3_scoreOf_49 (kd_i (trivial) (by simp only [mSc, score, scK, bq, if_neg c_40, c_45]; rfl) (rfl))
  refine lv_icmp_ne (tgt := 30) hx hb dX3_scoreOf_23 (by decide) (fun c_23 => ?_) (fun c_23 => ?_)
  · refine lv_iconst (v := 0) hx hb dX3_scoreOf_30 (by decide) ?_
    exact kx_top (v := (b2 (decide ((((g 53 (g 59 i).toNatClampNeg) >>> ((g 76 j) &&& 31)) &&& (1 : Int32)) = (1 : Int32))))) (by first | (simp only [bq, decide_eq_false c_23, if_neg c_23]; done) | (simp only [bq, decide_eq_false c_23, if_neg c_23]; rfl) | (simp [bq, decide_eq_false c_23, if_neg c_23]; done)) (hj_31_0 _ _ _ hw hS hl)
  · refine lv_iconst (v := 1) hx hb dX3_scoreOf_26 (by decide) ?_
    refine lv_goto (tgt := 31) hx hb dX3_scoreOf_27 (by decide) ?_
    exact kx_top (v := (b2 (decide ((((g 53 (g 59 i).toNatClampNeg) >>> ((g 76 j) &&& 31)) &&& (1 : Int32)) = (1 : Int32))))) (by first | (simp only [bq, decide_eq_true c_23, if_pos c_23]; done) | (simp only [bq, decide_eq_true c_23, if_pos c_23]; rfl) | (simp [bq, decide_eq_true c_23, if_pos c_23]; done)) (hj_31_0 _ _ _ hw hS hl)
theorem hd_X3_isCandidate : yX3_isCandidate.cls = RX3 ∧ yX3_isCandidate.cls ≠ "java/lang/invoke/MethodHandle" ∧ yX3_isCandidate.cls ≠ "java/lang/invoke/VarHandle" ∧ (parseMethodDescriptor yX3_isCandidate.desc).map (fun d => d.parameters.length) = some 2 := by decide +kernel
set_option maxHeartbeats 4000000 in
set_option maxRecDepth 100000 in
theorem c_X3_isCandidate (l : Launch) (hfl : l.stackTraces = false) (D : va_G) (cy : Nat → ClassId) (base : Nat) (ad : Nat → Nat) (n nc : Nat) (g : sg) (i : Nat) (j : Nat) (hi : i < n) (hj : j < nc) (hR : mR n nc g) : kM l yX3_isCandidate wsX3_isCandidate (kR 2 0 0) D cy base ad n nc g [.ref (ad 9), .int (nI i), .int (nI j)] (kD True (some (.int (b2 (mCnd g i j)))) ad n nc g) kNo 0 0 := by
  refine kx_meth (cc := cX3_isCandidate) (maxL := 3) (ret := (some .boolean)) (by decide) rfl (Nat.le_of_ble_eq_true rfl) ?_
  intro p e s m args below meth c ls hx hb hr hml hown hts hlk hT hG hw0 hS0 hl Q H locs hQ hw hS hH0 hlocs0
  have hl : lv_has ls 3 [(0, .ref (ad 9)), (1, .int (nI i)), (2, .int (nI j))] := hl
  have hown : s.vm.findClass RX3 = some m.cls := hown
  have hF : CallFix p m c cX3_isCandidate 3 s args wsX3_isCandidate RX3 := ⟨hx, hb, hml, hown, hts⟩
  have hn30 : n ≤ 30 := hw.2.2.1
  have hc20 : nc ≤ 20 := hw.2.2.2
  clear hw0 hS0 hH0 hlocs0
  have i3 : ∀ w ∈ wsX30, w ∈ wsX3_isCandidate := by decide +kernel
  have f_25 := hts (.fieldLink RX3 25 "LostroomModel" "threshold" "I") (by decide +kernel)
  have f_96 := hts (.fieldLink RX3 96 "LostroomModel" "claimState" "[I") (by decide +kernel)
  refine lv_aload_n hx hb dX3_isCandidate_0 rfl (lv_at hl 0 rfl) ?_
  refine kx_getM (v := .ref (ad 82)) hx hb hts hown hG hw i3 32 (by decide) f_96 rfl dX3_isCandidate_1 ?_
  refine lv_iload_n hx hb dX3_isCandidate_4 rfl (lv_at hl 2 rfl) ?_
  refine kx_iald (v := (g 82 j)) hx hb hG hw (kC_I rfl) j (nI_clamp (by omega)) (vp_in_nI (by omega) (by decide)) rfl dX3_isCandidate_5 ?_
  have hj_27_0 : ∀ (H : Heap) (locs : List Loc) (ls : Array Slot), kW D cy base ad n nc g H → va_S (kA base) s.heap H locs → lv_has ls 3 [(0, .ref (ad 9)), (1, .int (nI i)), (2, .int (nI j))] → W p l e (kR 2 0 0) s m args below meth c H locs 0 0 Q (F0 m 27 ls [.int (b2 ((decide ((g 82 j) = (0 : Int32))) && (!(decide ((mSc g i j) < (g 9 7))))))]) := by
    intro H locs ls hw hS hl
    exact kx_retZ hQ hx hb hr hlk hw hS (Nat.le_of_ble_eq_true rfl) (Nat.le_of_ble_eq_true rfl) dX3_isCandidate_27 (nar_b2 _) (kd_i (trivial) (rfl) (rfl))
  refine lv_if_ne (tgt := 26) hx hb dX3_isCandidate_6 (by decide) (fun c_6 => ?_) (fun c_6 => ?_)
  · refine lv_iconst (v := 0) hx hb dX3_isCandidate_26 (by decide) ?_
    exact kx_top (v := (b2 ((decide ((g 82 j) = (0 : Int32))) && (!(decide ((mSc g i j) < (g 9 7))))))) (by first | (simp only [bq, decide_eq_false c_6, if_neg c_6]; done) | (simp only [bq, decide_eq_false c_6, if_neg c_6]; rfl) | (simp [bq, decide_eq_false c_6, if_neg c_6]; done)) (hj_27_0 _ _ _ hw hS hl)
  · refine lv_aload_n hx hb dX3_isCandidate_9 rfl (lv_at hl 0 rfl) ?_
    refine lv_iload_n hx hb dX3_isCandidate_10 rfl (lv_at hl 1 rfl) ?_
    refine lv_iload_n hx hb dX3_isCandidate_11 rfl (lv_at hl 2 rfl) ?_
    refine kx_do0 (st1 := [.int (mSc g i j)]) (kx_cv (As := [.int (nI i), .int (nI j)]) (rest := []) hF hG hw hS hl.1 kC_9 rfl (c_X3_scoreOf l hfl D cy base ad n nc g i j (by first | assumption | omega | exact mR_9 (by assumption) _ _ | simp [sU, hi, hj, hR]) (by first | assumption | omega | exact mR_9 (by assumption) _ _ | simp [sU, hi, hj, hR]) (by first | assumption | omega | exact mR_9 (by assumption) _ _ | simp [sU, hi, hj, hR])) gX3_isCandidate_X3_scoreOf rfl rfl rfl hd_X3_scoreOf ⟨Nat.le_of_ble_eq_true rfl, Nat.le_of_ble_eq_true rfl⟩ rfl rfl (Nat.le_of_ble_eq_true rfl) dX3_isCandidate_12 ⟨Nat.le_of_ble_eq_true rfl, Nat.le_of_ble_eq_true rfl⟩) hS rfl (fun H locs hw hS => ?_)
    refine lv_aload_n hx hb dX3_isCandidate_15 rfl (lv_at hl 0 rfl) ?_
    refine kx_getM (v := .int (g 9 7)) hx hb hts hown hG hw i3 7 (by decide) f_25 rfl dX3_isCandidate_16 ?_
    refine lv_icmp_lt (tgt := 26) hx hb dX3_isCandidate_19 (by decide) (fun c_19 => ?_) (fun c_19 => ?_)
    · refine lv_iconst (v := 0) hx hb dX3_isCandidate_26 (by decide) ?_
      exact kx_top (v := (b2 ((decide ((g 82 j) = (0 : Int32))) && (!(decide ((mSc g i j) < (g 9 7))))))) (by first | (simp only [bq, decide_eq_true c_6, if_pos c_6, decide_eq_true c_19, if_pos c_19]; done) | (simp only [bq, decide_eq_true c_6, if_pos c_6, decide_eq_true c_19, if_pos c_19]; rfl) | (simp [bq, decide_eq_true c_6, if_pos c_6, decide_eq_true c_19, if_pos c_19]; done)) (hj_27_0 _ _ _ hw hS hl)
    · refine lv_iconst (v := 1) hx hb dX3_isCandidate_22 (by decide) ?_
      refine lv_goto (tgt := 27) hx hb dX3_isCandidate_23 (by decide) ?_
      exact kx_top (v := (b2 ((decide ((g 82 j) = (0 : Int32))) && (!(decide ((mSc g i j) < (g 9 7))))))) (by first | (simp only [bq, decide_eq_true c_6, if_pos c_6, decide_eq_false c_19, if_neg c_19]; done) | (simp only [bq, decide_eq_true c_6, if_pos c_6, decide_eq_false c_19, if_neg c_19]; rfl) | (simp [bq, decide_eq_true c_6, if_pos c_6, decide_eq_false c_19, if_neg c_19]; done)) (hj_27_0 _ _ _ hw hS hl)
theorem hd_X3_proves : yX3_proves.cls = RX3 ∧ yX3_proves.cls ≠ "java/lang/invoke/MethodHandle" ∧ yX3_proves.cls ≠ "java/lang/invoke/VarHandle" ∧ (parseMethodDescriptor yX3_proves.desc).map (fun d => d.parameters.length) = some 2 := by decide +kernel
set_option maxHeartbeats 4000000 in
set_option maxRecDepth 100000 in
theorem c_X3_proves (l : Launch) (hfl : l.stackTraces = false) (D : va_G) (cy : Nat → ClassId) (base : Nat) (ad : Nat → Nat) (n nc : Nat) (g : sg) (i : Nat) (j : Nat) (hi : i < n) (hj : j < nc) : kM l yX3_proves wsX3_proves (kR 1 0 0) D cy base ad n nc g [.ref (ad 9), .int (nI i), .int (nI j)] (kD True (some (.int (b2 (mPrv g i j)))) ad n nc g) kNo 0 0 := by
  refine kx_meth (cc := cX3_proves) (maxL := 5) (ret := (some .boolean)) (by decide) rfl (Nat.le_of_ble_eq_true rfl) ?_
  intro p e s m args below meth c ls hx hb hr hml hown hts hlk hT hG hw0 hS0 hl Q H locs hQ hw hS hH0 hlocs0
  have hl : lv_has ls 5 [(0, .ref (ad 9)), (1, .int (nI i)), (2, .int (nI j))] := hl
  have hown : s.vm.findClass RX3 = some m.cls := hown
  have hF : CallFix p m c cX3_proves 5 s args wsX3_proves RX3 := ⟨hx, hb, hml, hown, hts⟩
  have hn30 : n ≤ 30 := hw.2.2.1
  have hc20 : nc ≤ 20 := hw.2.2.2
  clear hw0 hS0 hH0 hlocs0
  have i3 : ∀ w ∈ wsX30, w ∈ wsX3_proves := by decide +kernel
  have f_41 := hts (.fieldLink RX3 41 "LostroomModel" "secrets" "[I") (by decide +kernel)
  have f_93 := hts (.fieldLink RX3 93 "LostroomModel" "tolds" "[I") (by decide +kernel)
  refine lv_aload_n hx hb dX3_proves_0 rfl (lv_at hl 0 rfl) ?_
  refine kx_getM (v := .ref (ad 63)) hx hb hts hown hG hw i3 13 (by decide) f_41 rfl dX3_proves_1 ?_
  refine lv_iload_n hx hb dX3_proves_4 rfl (lv_at hl 1 rfl) ?_
  refine kx_iald (v := (g 63 i)) hx hb hG hw (kC_I rfl) i (nI_clamp (by omega)) (vp_in_nI (by omega) (by decide)) rfl dX3_proves_5 ?_
  refine kx_do0 (st1 := [.int (bits (g 63 i))]) (kx_cs (As := [.int (g 63 i)]) (rest := []) hF hG hw hS hl.1 (c_X3_bits l hfl D cy base ad n nc g (g 63 i) ) gX3_proves_X3_bits rfl rfl rfl hd_X3_bits ⟨Nat.le_of_ble_eq_true rfl, Nat.le_of_ble_eq_true rfl⟩ rfl rfl (Nat.le_of_ble_eq_true rfl) dX3_proves_6 ⟨Nat.le_of_ble_eq_true rfl, Nat.le_of_ble_eq_true rfl⟩) hS rfl (fun H locs hw hS => ?_)
  refine lv_istore_n (lv' := [(3, .int (bits (g 63 i))), (0, .ref (ad 9)), (1, .int (nI i)), (2, .int (nI j))]) hx hb dX3_proves_9 rfl hl (by decide) rfl (fun ls hl => ?_)
  refine lv_aload_n hx hb dX3_proves_10 rfl (lv_at hl 1 rfl) ?_
  refine kx_getM (v := .ref (ad 63)) hx hb hts hown hG hw i3 13 (by decide) f_41 rfl dX3_proves_11 ?_
  refine lv_iload_n hx hb dX3_proves_14 rfl (lv_at hl 2 rfl) ?_
  refine kx_iald (v := (g 63 i)) hx hb hG hw (kC_I rfl) i (nI_clamp (by omega)) (vp_in_nI (by omega) (by decide)) rfl dX3_proves_15 ?_
  refine lv_aload_n hx hb dX3_proves_16 rfl (lv_at hl 1 rfl) ?_
  refine kx_getM (v := .ref (ad 81)) hx hb hts hown hG hw i3 31 (by decide) f_93 rfl dX3_proves_17 ?_
  refine lv_iload_n hx hb dX3_proves_20 rfl (lv_at hl 3 rfl) ?_
  refine kx_iald (v := (g 81 j)) hx hb hG hw (kC_I rfl) j (nI_clamp (by omega)) (vp_in_nI (by omega) (by decide)) rfl dX3_proves_21 ?_
  refine lv_iand hx hb dX3_proves_22 ?_
  refine kx_do0 (st1 := [.int (bits ((g 63 i) &&& (g 81 j)))]) (kx_cs (As := [.int ((g 63 i) &&& (g 81 j))]) (rest := []) hF hG hw hS hl.1 (c_X3_bits l hfl D cy base ad n nc g ((g 63 i) &&& (g 81 j)) ) gX3_proves_X3_bits rfl rfl rfl hd_X3_bits ⟨Nat.le_of_ble_eq_true rfl, Nat.le_of_ble_eq_true rfl⟩ rfl rfl (Nat.le_of_ble_eq_true rfl) dX3_proves_23 ⟨Nat.le_of_ble_eq_true rfl, Nat.le_of_ble_eq_true rfl⟩) hS rfl (fun H locs hw hS => ?_)
  refine lv_istore (lv' := [(4, .int (bits ((g 63 i) &&& (g 81 j)))), (3, .int (bits (g 63 i))), (0, .ref (ad 9)), (1, .int (nI i)), (2, .int (nI j))]) hx hb dX3_proves_26 hl (by decide) rfl (fun ls hl => ?_)
  refine lv_iload hx hb dX3_proves_28 (lv_at hl 0 rfl) ?_
  refine lv_iload_n hx hb dX3_proves_30 rfl (lv_at hl 1 rfl) ?_
  refine lv_iconst (v := 2) hx hb dX3_proves_31 (by decide) ?_
  have hj_40_0 : ∀ (H : Heap) (locs : List Loc) (ls : Array Slot), kW D cy base ad n nc g H → va_S (kA base) s.heap H locs → lv_has ls 5 [(4, .int (bits ((g 63 i) &&& (g 81 j)))), (3, .int (bits (g 63 i))), (0, .ref (ad 9)), (1, .int (nI i)), (2, .int (nI j))] → W p l e (kR 1 0 0) s m args below meth c H locs 0 0 Q (F0 m 40 ls [.int (if (2 : Int32) ≤ (bits (g 63 i)) then (2 : Int32) else (bits (g 63 i))), .int (bits ((g 63 i) &&& (g 81 j)))]) := by
    intro H locs ls hw hS hl
    have hj_70_1 : ∀ (H : Heap) (locs : List Loc) (ls : Array Slot), kW D cy base ad n nc g H → va_S (kA base) s.heap H locs → lv_has ls 5 [(4, .int (bits ((g 63 i) &&& (g 81 j)))), (3, .int (bits (g 63 i))), (0, .ref (ad 9)), (1, .int (nI i)), (2, .int (nI j))] → W p l e (kR 1 0 0) s m args below meth c H locs 0 0 Q (F0 m 70 ls [.int (b2 ((!(decide ((bits ((g 63 i) &&& (g 81 j))) < (if (2 : Int32) ≤ (bits (g 63 i)) then (2 : Int32) else (bits (g 63 i)))))) && (!(decide ((1 : Int32) < (bits ((g 81 j) &&& ((g 63 i) ^^^ (-1 : Int32)))))))))]) := by
      intro H locs ls hw hS hl
      exact kx_retZ hQ hx hb hr hlk hw hS (Nat.le_of_ble_eq_true rfl) (Nat.le_of_ble_eq_true rfl) dX3_proves_70 (nar_b2 _) (kd_i (trivial) (rfl) (rfl))
    refine lv_icmp_lt (tgt := 69) hx hb dX3_proves_40 (by decide) (fun c_40 => ?_) (fun c_40 => ?_)
    · refine lv_iconst (v := 0) hx hb dX3_proves_69 (by decide) ?_
      exact kx_top (v := (b2 ((!(decide ((bits ((g 63 i) &&& (g 81 j))) < (if (2 : Int32) ≤ (bits (g 63 i)) then (2 : Int32) else (bits (g 63 i)))))) && (!(decide ((1 : Int32) < (bits ((g 81 j) &&& ((g 63 i) ^^^ (-1 : Int32)))))))))) (by first | (simp only [bq, decide_eq_true c_40, if_pos c_40]; done) | (simp only [bq, decide_eq_true c_40, if_pos c_40]; rfl) | (simp [bq, decide_eq_true c_40, if_pos c_40]; done)) (hj_70_1 _ _ _ hw hS hl)
    · refine lv_aload_n hx hb dX3_proves_43 rfl (lv_at hl 2 rfl) ?_
      refine kx_getM (v := .ref (ad 81)) hx hb hts hown hG hw i3 31 (by decide) f_93 rfl dX3_proves_44 ?_
      refine lv_iload_n hx hb dX3_proves_47 rfl (lv_at hl 4 rfl) ?_
      refine kx_iald (v := (g 81 j)) hx hb hG hw (kC_I rfl) j (nI_clamp (by omega)) (vp_in_nI (by omega) (by decide)) rfl dX3_proves_48 ?_
      refine lv_aload_n hx hb dX3_proves_49 rfl (lv_at hl 2 rfl) ?_
      refine kx_getM (v := .ref (ad 63)) hx hb hts hown hG hw i3 13 (by decide) f_41 rfl dX3_proves_50 ?_
      refine lv_iload_n hx hb dX3_proves_53 rfl (lv_at hl 3 rfl) ?_
      refine kx_iald (v := (g 63 i)) hx hb hG hw (kC_I rfl) i (nI_clamp (by omega)) (vp_in_nI (by omega) (by decide)) rfl dX3_proves_54 ?_
      refine lv_iconst (v := -1) hx hb dX3_proves_55 (by decide) ?_
      refine lv_ixor hx hb dX3_proves_56 ?_
      refine lv_iand hx hb dX3_proves_57 ?_
      refine kx_do0 (st1 := [.int (bits ((g 81 j) &&& ((g 63 i) ^^^ (-1 : Int32))))]) (kx_cs (As := [.int ((g 81 j) &&& ((g 63 i) ^^^ (-1 : Int32)))]) (rest := []) hF hG hw hS hl.1 (c_X3_bits l hfl D cy base ad n nc g ((g 81 j) &&& ((g 63 i) ^^^ (-1 : Int32))) ) gX3_proves_X3_bits rfl rfl rfl hd_X3_bits ⟨Nat.le_of_ble_eq_true rfl, Nat.le_of_ble_eq_true rfl⟩ rfl rfl (Nat.le_of_ble_eq_true rfl) dX3_proves_58 ⟨Nat.le_of_ble_eq_true rfl, Nat.le_of_ble_eq_true rfl⟩) hS rfl (fun H locs hw hS => ?_)
      refine lv_iconst (v := 1) hx hb dX3_proves_61 (by decide) ?_
      refine lv_icmp_gt (tgt := 69) hx hb dX3_proves_62 (by decide) (fun c_62 => ?_) (fun c_62 => ?_)
      · refine lv_iconst (v := 0) hx hb dX3_proves_69 (by decide) ?_
        exact kx_top (v := (b2 ((!(decide ((bits ((g 63 i) &&& (g 81 j))) < (if (2 : Int32) ≤ (bits (g 63 i)) then (2 : Int32) else (bits (g 63 i)))))) && (!(decide ((1 : Int32) < (bits ((g 81 j) &&& ((g 63 i) ^^^ (-1 : Int32)))))))))) (by first | (simp only [bq, decide_eq_false c_40, if_neg c_40, decide_eq_true c_62, if_pos c_62]; done) | (simp only [bq, decide_eq_false c_40, if_neg c_40, decide_eq_true c_62, if_pos c_62]; rfl) | (simp [bq, decide_eq_false c_40, if_neg c_40, decide_eq_true c_62, if_pos c_62]; done)) (hj_70_1 _ _ _ hw hS hl)
      · refine lv_iconst (v := 1) hx hb dX3_proves_65 (by decide) ?_
        refine lv_goto (tgt := 70) hx hb dX3_proves_66 (by decide) ?_
        exact kx_top (v := (b2 ((!(decide ((bits ((g 63 i) &&& (g 81 j))) < (if (2 : Int32) ≤ (bits (g 63 i)) then (2 : Int32) else (bits (g 63 i)))))) && (!(decide ((1 : Int32) < (bits ((g 81 j) &&& ((g 63 i) ^^^ (-1 : Int32)))))))))) (by first | (simp only [bq, decide_eq_false c_40, if_neg c_40, decide_eq_false c_62, if_neg c_62]; done) | (simp only [bq, decide_eq_false c_40, if_neg c_40, decide_eq_false c_62, if_neg c_62]; rfl) | (simp [bq, decide_eq_false c_40, if_neg c_40, decide_eq_false c_62, if_neg c_62]; done)) (hj_70_1 _ _ _ hw hS hl)
  refine lv_icmp_ge (tgt := 39) hx hb dX3_proves_32 (by decide) (fun c_32 => ?_) (fun c_32 => ?_)
  · refine lv_iconst (v := 2) hx hb dX3_proves_39 (by decide) ?_
    exact kx_top (v := (if (2 : Int32) ≤ (bits (g 63 i)) then (2 : Int32) else (bits (g 63 i)))) (by first | (simp only [bq, decide_eq_true c_32, if_pos c_32]; done) | (simp only [bq, decide_eq_true c_32, if_pos c_32]; rfl) | (simp [bq, decide_eq_true c_32, if_pos c_32]; done)) (hj_40_0 _ _ _ hw hS hl)
  · refine lv_iload_n hx hb dX3_proves_35 rfl (lv_at hl 1 rfl) ?_
    refine lv_goto (tgt := 40) hx hb dX3_proves_36 (by decide) ?_
    exact kx_top (v := (if (2 : Int32) ≤ (bits (g 63 i)) then (2 : Int32) else (bits (g 63 i)))) (by first | (simp only [bq, decide_eq_false c_32, if_neg c_32]; done) | (simp only [bq, decide_eq_false c_32, if_neg c_32]; rfl) | (simp [bq, decide_eq_false c_32, if_neg c_32]; done)) (hj_40_0 _ _ _ hw hS hl)
theorem hd_X3_isBeaten : yX3_isBeaten.cls = RX3 ∧ yX3_isBeaten.cls ≠ "java/lang/invoke/MethodHandle" ∧ yX3_isBeaten.cls ≠ "java/lang/invoke/VarHandle" ∧ (parseMethodDescriptor yX3_isBeaten.desc).map (fun d => d.parameters.length) = some 2 := by decide +kernel
set_option maxHeartbeats 4000000 in
set_option maxRecDepth 100000 in
theorem c_X3_isBeaten (l : Launch) (hfl : l.stackTraces = false) (D : va_G) (cy : Nat → ClassId) (base : Nat) (ad : Nat → Nat) (n nc : Nat) (g : sg) (i : Nat) (j : Nat) (hcn : g 9 25 = nI nc) (hi : i < n) (hj : j < nc) (hR : mR n nc g) : kM l yX3_isBeaten wsX3_isBeaten (kR 2 0 0) D cy base ad n nc g [.ref (ad 9), .int (nI i), .int (nI j)] (kD True (some (.int (b2 (mBeaten g nc i j)))) ad n nc g) kNo 0 0 := by
  refine kx_meth (cc := cX3_isBeaten) (maxL := 7) (ret := (some .boolean)) (by decide) rfl (Nat.le_of_ble_eq_true rfl) ?_
  intro p e s m args below meth c ls hx hb hr hml hown hts hlk hT hG hw0 hS0 hl Q H locs hQ hw hS hH0 hlocs0
  have hl : lv_has ls 7 [(0, .ref (ad 9)), (1, .int (nI i)), (2, .int (nI j))] := hl
  have hown : s.vm.findClass RX3 = some m.cls := hown
  have hF : CallFix p m c cX3_isBeaten 7 s args wsX3_isBeaten RX3 := ⟨hx, hb, hml, hown, hts⟩
  have hn30 : n ≤ 30 := hw.2.2.1
  have hc20 : nc ≤ 20 := hw.2.2.2
  clear hw0 hS0 hH0 hlocs0
  have i3 : ∀ w ∈ wsX30, w ∈ wsX3_isBeaten := by decide +kernel
  have f_96 := hts (.fieldLink RX3 96 "LostroomModel" "claimState" "[I") (by decide +kernel)
  have f_116 := hts (.fieldLink RX3 116 "LostroomModel" "claims" "I") (by decide +kernel)
  refine lv_iconst (v := 0) hx hb dX3_isBeaten_0 (by decide) ?_
  refine lv_istore_n (lv' := [(3, .int (0 : Int32)), (0, .ref (ad 9)), (1, .int (nI i)), (2, .int (nI j))]) hx hb dX3_isBeaten_1 rfl hl (by decide) rfl (fun ls hl => ?_)
  refine lv_aload_n hx hb dX3_isBeaten_2 rfl (lv_at hl 1 rfl) ?_
  refine lv_iload_n hx hb dX3_isBeaten_3 rfl (lv_at hl 2 rfl) ?_
  refine lv_iload_n hx hb dX3_isBeaten_4 rfl (lv_at hl 3 rfl) ?_
  refine kx_do0 (st1 := [.int (mSc g i j)]) (kx_cv (As := [.int (nI i), .int (nI j)]) (rest := []) hF hG hw hS hl.1 kC_9 rfl (c_X3_scoreOf l hfl D cy base ad n nc g i j (by first | assumption | omega | exact mR_9 (by assumption) _ _ | simp [sU, hcn, hi, hj, hR]) (by first | assumption | omega | exact mR_9 (by assumption) _ _ | simp [sU, hcn, hi, hj, hR]) (by first | assumption | omega | exact mR_9 (by assumption) _ _ | simp [sU, hcn, hi, hj, hR])) gX3_isBeaten_X3_scoreOf rfl rfl rfl hd_X3_scoreOf ⟨Nat.le_of_ble_eq_true rfl, Nat.le_of_ble_eq_true rfl⟩ rfl rfl (Nat.le_of_ble_eq_true rfl) dX3_isBeaten_5 ⟨Nat.le_of_ble_eq_true rfl, Nat.le_of_ble_eq_true rfl⟩) hS rfl (fun H locs hw hS => ?_)
  refine lv_istore (lv' := [(4, .int (mSc g i j)), (3, .int (0 : Int32)), (0, .ref (ad 9)), (1, .int (nI i)), (2, .int (nI j))]) hx hb dX3_isBeaten_8 hl (by decide) rfl (fun ls hl => ?_)
  refine lv_iconst (v := 0) hx hb dX3_isBeaten_10 (by decide) ?_
  refine lv_istore (lv' := [(5, .int (0 : Int32)), (4, .int (mSc g i j)), (3, .int (0 : Int32)), (0, .ref (ad 9)), (1, .int (nI i)), (2, .int (nI j))]) hx hb dX3_isBeaten_11 hl (by decide) rfl (fun ls hl => ?_)
  have lp_13 : ∀ (nn k : Nat), k ≤ nc → nc < k + nn → ∀ (H : Heap) (locs : List Loc) (ls : Array Slot), kW D cy base ad n nc g H → va_S (kA base) s.heap H locs → lv_has ls 7 [(5, .int (nI k)), (4, .int (mSc g i j)), (3, .int (b2 (anyB (mBt g i j) k))), (0, .ref (ad 9)), (1, .int (nI i)), (2, .int (nI j))] → W p l e (kR 2 0 0) s m args below meth c H locs 0 0 Q (F0 m 13 ls []) := by
    intro nn
    induction nn with
    | zero => intro k h1 h2; exact absurd h2 (by omega)
    | succ nn ih_13 =>
      intro k hk_k hkn_k H locs ls hw hS hl
      refine lv_iload hx hb dX3_isBeaten_13 (lv_at hl 0 rfl) ?_
      refine lv_aload_n hx hb dX3_isBeaten_15 rfl (lv_at hl 3 rfl) ?_
      refine kx_getM (v := .int (nI nc)) hx hb hts hown hG hw i3 25 (by decide) f_116 (congrArg Value.int (hcn)) dX3_isBeaten_16 ?_
      refine lv_icmp_ge (tgt := 93) hx hb dX3_isBeaten_19 (by decide) (fun c_19 => ?_) (fun c_19 => ?_)
      · have e_k : k = nc := Nat.le_antisymm hk_k (le_nI (a := nc) (b := k) c_19 (by omega) (by omega))
        refine lv_iload_n hx hb dX3_isBeaten_93 rfl (lv_at hl 2 rfl) ?_
        exact kx_retZ hQ hx hb hr hlk hw hS (Nat.le_of_ble_eq_true rfl) (Nat.le_of_ble_eq_true rfl) dX3_isBeaten_94 (nar_b2 _) (kd_i (trivial) (by rw [e_k]; rfl) (rfl))
      · have hlt_k : k < nc := lt_nI (a := nc) (b := k) c_19 (by omega) (by omega)
        refine lv_aload_n hx hb dX3_isBeaten_22 rfl (lv_at hl 3 rfl) ?_
        refine lv_iload_n hx hb dX3_isBeaten_23 rfl (lv_at hl 4 rfl) ?_
        refine lv_iload hx hb dX3_isBeaten_24 (lv_at hl 0 rfl) ?_
        refine kx_do0 (st1 := [.int (mSc g i k)]) (kx_cv (As := [.int (nI i), .int (nI k)]) (rest := []) hF hG hw hS hl.1 kC_9 rfl (c_X3_scoreOf l hfl D cy base ad n nc g i k (by first | assumption | omega | exact mR_9 (by assumption) _ _ | simp [sU, hcn, hi, hj, hR]) (by first | assumption | omega | exact mR_9 (by assumption) _ _ | simp [sU, hcn, hi, hj, hR]) (by first | assumption | omega | exact mR_9 (by assumption) _ _ | simp [sU, hcn, hi, hj, hR])) gX3_isBeaten_X3_scoreOf rfl rfl rfl hd_X3_scoreOf ⟨Nat.le_of_ble_eq_true rfl, Nat.le_of_ble_eq_true rfl⟩ rfl rfl (Nat.le_of_ble_eq_true rfl) dX3_isBeaten_26 ⟨Nat.le_of_ble_eq_true rfl, Nat.le_of_ble_eq_true rfl⟩) hS rfl (fun H locs hw hS => ?_)
        refine lv_istore (lv' := [(6, .int (mSc g i k)), (5, .int (nI k)), (4, .int (mSc g i j)), (3, .int (b2 (anyB (mBt g i j) k))), (0, .ref (ad 9)), (1, .int (nI i)), (2, .int (nI j))]) hx hb dX3_isBeaten_29 hl (by decide) rfl (fun ls hl => ?_)
        refine lv_iload_n hx hb dX3_isBeaten_31 rfl (lv_at hl 3 rfl) ?_
        have hj_86_0 : ∀ (H : Heap) (locs : List Loc) (ls : Array Slot), kW D cy base ad n nc g H → va_S (kA base) s.heap H locs → lv_has ls 7 [(6, .int (mSc g i k)), (5, .int (nI k)), (4, .int (mSc g i j)), (3, .int (b2 (anyB (mBt g i j) k))), (0, .ref (ad 9)), (1, .int (nI i)), (2, .int (nI j))] → W p l e (kR 2 0 0) s m args below meth c H locs 0 0 Q (F0 m 86 ls [.int (b2 ((anyB (mBt g i j) k) || ((!(decide (nI k = nI j))) && ((decide ((g 82 k) = (0 : Int32))) && ((mPrv g i k) && ((decide ((mSc g i j) < (mSc g i k))) || ((decide ((mSc g i k) = (mSc g i j))) && (!(decide (nI j ≤ nI k))))))))))]) := by
          intro H locs ls hw hS hl
          refine lv_istore_n (lv' := [(3, .int (b2 ((anyB (mBt g i j) k) || ((!(decide (nI k = nI j))) && ((decide ((g 82 k) = (0 : Int32))) && ((mPrv g i k) && ((decide ((mSc g i j) < (mSc g i k))) || ((decide ((mSc g i k) = (mSc g i j))) && (!(decide (nI j ≤ nI k))))))))))), (6, .int (mSc g i k)), (5, .int (nI k)), (4, .int (mSc g i j)), (0, .ref (ad 9)), (1, .int (nI i)), (2, .int (nI j))]) hx hb dX3_isBeaten_86 rfl hl (by decide) rfl (fun ls hl => ?_)
          refine lv_iinc (v := (nI k + (1 : Int32))) (lv' := [(5, .int (nI k + (1 : Int32))), (3, .int (b2 ((anyB (mBt g i j) k) || ((!(decide (nI k = nI j))) && ((decide ((g 82 k) = (0 : Int32))) && ((mPrv g i k) && ((decide ((mSc g i j) < (mSc g i k))) || ((decide ((mSc g i k) = (mSc g i j))) && (!(decide (nI j ≤ nI k))))))))))), (6, .int (mSc g i k)), (4, .int (mSc g i j)), (0, .ref (ad 9)), (1, .int (nI i)), (2, .int (nI j))]) hx hb dX3_isBeaten_87 hl (k := 2) rfl rfl (by decide) rfl (fun ls hl => ?_)
          refine lv_goto (tgt := 13) hx hb dX3_isBeaten_90 (by decide) ?_
          exact ih_13 (k + 1) (by omega) (by omega) _ _ _ hw hS (kx_lv (l := [(5, .int (nI k + (1 : Int32))), (4, .int (mSc g i j)), (3, .int (b2 ((anyB (mBt g i j) k) || ((!(decide (nI k = nI j))) && ((decide ((g 82 k) = (0 : Int32))) && ((mPrv g i k) && ((decide ((mSc g i j) < (mSc g i k))) || ((decide ((mSc g i k) = (mSc g i j))) && (!(decide (nI j ≤ nI k))))))))))), (0, .ref (ad 9)), (1, .int (nI i)), (2, .int (nI j))]) (l' := [(5, .int (nI (k + 1))), (4, .int (mSc g i j)), (3, .int (b2 (anyB (mBt g i j) (k + 1)))), (0, .ref (ad 9)), (1, .int (nI i)), (2, .int (nI j))]) (lv_sub hl [0, 3, 1, 4, 5, 6] rfl) (by rw [nI_1]; rfl)) 
        refine kb_ne (tgt := 81) hx hb dX3_isBeaten_32 (by decide) (fun c_32 => ?_) (fun c_32 => ?_)
        · refine lv_iconst (v := 1) hx hb dX3_isBeaten_81 (by decide) ?_
          refine lv_goto (tgt := 86) hx hb dX3_isBeaten_82 (by decide) ?_
          exact kx_top (v := (b2 ((anyB (mBt g i j) k) || ((!(decide (nI k = nI j))) && ((decide ((g 82 k) = (0 : Int32))) && ((mPrv g i k) && ((decide ((mSc g i j) < (mSc g i k))) || ((decide ((mSc g i k) = (mSc g i j))) && (!(decide (nI j ≤ nI k))))))))))) (by first | (simp only [bq, c_32]; done) | (simp only [bq, c_32]; rfl) | (simp [bq, c_32]; done)) (hj_86_0 _ _ _ hw hS hl)
        · refine lv_iload hx hb dX3_isBeaten_35 (lv_at hl 1 rfl) ?_
          refine lv_iload_n hx hb dX3_isBeaten_37 rfl (lv_at hl 6 rfl) ?_
          refine lv_icmp_eq (tgt := 85) hx hb dX3_isBeaten_38 (by decide) (fun c_38 => ?_) (fun c_38 => ?_)
          · refine lv_iconst (v := 0) hx hb dX3_isBeaten_85 (by decide) ?_
            exact kx_top (v := (b2 ((anyB (mBt g i j) k) || ((!(decide (nI k = nI j))) && ((decide ((g 82 k) = (0 : Int32))) && ((mPrv g i k) && ((decide ((mSc g i j) < (mSc g i k))) || ((decide ((mSc g i k) = (mSc g i j))) && (!(decide (nI j ≤ nI k))))))))))) (by first | (simp only [bq, c_32, decide_eq_true c_38, if_pos c_38]; done) | (simp only [bq, c_32, decide_eq_true c_38, if_pos c_38]; rfl) | (simp [bq, c_32, decide_eq_true c_38, if_pos c_38]; done)) (hj_86_0 _ _ _ hw hS hl)
          · refine lv_aload_n hx hb dX3_isBeaten_41 rfl (lv_at hl 4 rfl) ?_
            refine kx_getM (v := .ref (ad 82)) hx hb hts hown hG hw i3 32 (by decide) f_96 rfl dX3_isBeaten_42 ?_
            refine lv_iload hx hb dX3_isBeaten_45 (lv_at hl 1 rfl) ?_
            refine kx_iald (v := (g 82 k)) hx hb hG hw (kC_I rfl) k (nI_clamp (by omega)) (vp_in_nI (by omega) (by decide)) rfl dX3_isBeaten_47 ?_
            refine lv_if_ne (tgt := 85) hx hb dX3_isBeaten_48 (by decide) (fun c_48 => ?_) (fun c_48 => ?_)
            · refine lv_iconst (v := 0) hx hb dX3_isBeaten_85 (by decide) ?_
              exact kx_top (v := (b2 ((anyB (mBt g i j) k) || ((!(decide (nI k = nI j))) && ((decide ((g 82 k) = (0 : Int32))) && ((mPrv g i k) && ((decide ((mSc g i j) < (mSc g i k))) || ((decide ((mSc g i k) = (mSc g i j))) && (!(decide (nI j ≤ nI k))))))))))) (by first | (simp only [bq, c_32, decide_eq_false c_38, if_neg c_38, decide_eq_false c_48, if_neg c_48]; done) | (simp only [bq, c_32, decide_eq_false c_38, if_neg c_38, decide_eq_false c_48, if_neg c_48]; rfl) | (simp [bq, c_32, decide_eq_false c_38, if_neg c_38, decide_eq_false c_48, if_neg c_48]; done)) (hj_86_0 _ _ _ hw hS hl)
            · refine lv_aload_n hx hb dX3_isBeaten_51 rfl (lv_at hl 4 rfl) ?_
              refine lv_iload_n hx hb dX3_isBeaten_52 rfl (lv_at hl 5 rfl) ?_
              refine lv_iload hx hb dX3_isBeaten_53 (lv_at hl 1 rfl) ?_
              refine kx_do0 (st1 := [.int (b2 (mPrv g i k))]) (kx_cv (As := [.int (nI i), .int (nI k)]) (rest := []) hF hG hw hS hl.1 kC_9 rfl (c_X3_proves l hfl D cy base ad n nc g i k (by first | assumption | omega | exact mR_9 (by assumption) _ _ | simp [sU, hcn, hi, hj, hR]) (by first | assumption | omega | exact mR_9 (by assumption) _ _ | simp [sU, hcn, hi, hj, hR])) gX3_isBeaten_X3_proves rfl rfl rfl hd_X3_proves ⟨Nat.le_of_ble_eq_true rfl, Nat.le_of_ble_eq_true rfl⟩ rfl rfl (Nat.le_of_ble_eq_true rfl) dX3_isBeaten_55 ⟨Nat.le_of_ble_eq_true rfl, Nat.le_of_ble_eq_true rfl⟩) hS rfl (fun H locs hw hS => ?_)
              refine kb_eq (tgt := 85) hx hb dX3_isBeaten_58 (by decide) (fun c_58 => ?_) (fun c_58 => ?_)
              · refine lv_iconst (v := 0) hx hb dX3_isBeaten_85 (by decide) ?_
                exact kx_top (v := (b2 ((anyB (mBt g i j) k) || ((!(decide (nI k = nI j))) && ((decide ((g 82 k) = (0 : Int32))) && ((mPrv g i k) && ((decide ((mSc g i j) < (mSc g i k))) || ((decide ((mSc g i k) = (mSc g i j))) && (!(decide (nI j ≤ nI k))))))))))) (by first | (simp only [bq, c_32, decide_eq_false c_38, if_neg c_38, decide_eq_true c_48, if_pos c_48, c_58]; done) | (simp only [bq, c_32, decide_eq_false c_38, if_neg c_38, decide_eq_true c_48, if_pos c_48, c_58]; rfl) | (simp [bq, c_32, decide_eq_false c_38, if_neg c_38, decide_eq_true c_48, if_pos c_48, c_58]; done)) (hj_86_0 _ _ _ hw hS hl)
              · refine lv_iload hx hb dX3_isBeaten_61 (lv_at hl 0 rfl) ?_
                refine lv_iload hx hb dX3_isBeaten_63 (lv_at hl 2 rfl) ?_
                refine lv_icmp_gt (tgt := 81) hx hb dX3_isBeaten_65 (by decide) (fun c_65 => ?_) (fun c_65 => ?_)
                · refine lv_iconst (v := 1) hx hb dX3_isBeaten_81 (by decide) ?_
                  refine lv_goto (tgt := 86) hx hb dX3_isBeaten_82 (by decide) ?_
                  exact kx_top (v := (b2 ((anyB (mBt g i j) k) || ((!(decide (nI k = nI j))) && ((decide ((g 82 k) = (0 : Int32))) && ((mPrv g i k) && ((decide ((mSc g i j) < (mSc g i k))) || ((decide ((mSc g i k) = (mSc g i j))) && (!(decide (nI j ≤ nI k))))))))))) (by first | (simp only [bq, c_32, decide_eq_false c_38, if_neg c_38, decide_eq_true c_48, if_pos c_48, c_58, decide_eq_true c_65, if_pos c_65]; done) | (simp only [bq, c_32, decide_eq_false c_38, if_neg c_38, decide_eq_true c_48, if_pos c_48, c_58, decide_eq_true c_65, if_pos c_65]; rfl) | (simp [bq, c_32, decide_eq_false c_38, if_neg c_38, decide_eq_true c_48, if_pos c_48, c_58, decide_eq_true c_65, if_pos c_65]; done)) (hj_86_0 _ _ _ hw hS hl)
                · refine lv_iload hx hb dX3_isBeaten_68 (lv_at hl 0 rfl) ?_
                  refine lv_iload hx hb dX3_isBeaten_70 (lv_at hl 2 rfl) ?_
                  refine lv_icmp_ne (tgt := 85) hx hb dX3_isBeaten_72 (by decide) (fun c_72 => ?_) (fun c_72 => ?_)
                  · refine lv_iconst (v := 0) hx hb dX3_isBeaten_85 (by decide) ?_
                    exact kx_top (v := (b2 ((anyB (mBt g i j) k) || ((!(decide (nI k = nI j))) && ((decide ((g 82 k) = (0 : Int32))) && ((mPrv g i k) && ((decide ((mSc g i j) < (mSc g i k))) || ((decide ((mSc g i k) = (mSc g i j))) && (!(decide (nI j ≤ nI k))))))))))) (by first | (simp only [bq, c_32, decide_eq_false c_38, if_neg c_38, decide_eq_true c_48, if_pos c_48, c_58, decide_eq_false c_65, if_neg c_65, decide_eq_false c_72, if_neg c_72]; done) | (simp only [bq, c_32, decide_eq_false c_38, if_neg c_38, decide_eq_true c_48, if_pos c_48, c_58, decide_eq_false c_65, if_neg c_65, decide_eq_false c_72, if_neg c_72]; rfl) | (simp [bq, c_32, decide_eq_false c_38, if_neg c_38, decide_eq_true c_48, if_pos c_48, c_58, decide_eq_false c_65, if_neg c_65, decide_eq_false c_72, if_neg c_72]; done)) (hj_86_0 _ _ _ hw hS hl)
                  · refine lv_iload hx hb dX3_isBeaten_75 (lv_at hl 1 rfl) ?_
                    refine lv_iload_n hx hb dX3_isBeaten_77 rfl (lv_at hl 6 rfl) ?_
                    refine lv_icmp_ge (tgt := 85) hx hb dX3_isBeaten_78 (by decide) (fun c_78 => ?_) (fun c_78 => ?_)
                    · refine lv_iconst (v := 0) hx hb dX3_isBeaten_85 (by decide) ?_
                      exact kx_top (v := (b2 ((anyB (mBt g i j) k) || ((!(decide (nI k = nI j))) && ((decide ((g 82 k) = (0 : Int32))) && ((mPrv g i k) && ((decide ((mSc g i j) < (mSc g i k))) || ((decide ((mSc g i k) = (mSc g i j))) && (!(decide (nI j ≤ nI k))))))))))) (by first | (simp only [bq, c_32, decide_eq_false c_38, if_neg c_38, decide_eq_true c_48, if_pos c_48, c_58, decide_eq_false c_65, if_neg c_65, decide_eq_true c_72, if_pos c_72, decide_eq_true c_78, if_pos c_78]; done) | (simp only [bq, c_32, decide_eq_false c_38, if_neg c_38, decide_eq_true c_48, if_pos c_48, c_58, decide_eq_false c_65, if_neg c_65, decide_eq_true c_72, if_pos c_72, decide_eq_true c_78, if_pos c_78]; rfl) | (simp [bq, c_32, decide_eq_false c_38, if_neg c_38, decide_eq_true c_48, if_pos c_48, c_58, decide_eq_false c_65, if_neg c_65, decide_eq_true c_72, if_pos c_72, decide_eq_true c_78, if_pos c_78]; done)) (hj_86_0 _ _ _ hw hS hl)
                    · refine lv_iconst (v := 1) hx hb dX3_isBeaten_81 (by decide) ?_
                      refine lv_goto (tgt := 86) hx hb dX3_isBeaten_82 (by decide) ?_
                      exact kx_top (v := (b2 ((anyB (mBt g i j) k) || ((!(decide (nI k = nI j))) && ((decide ((g 82 k) = (0 : Int32))) && ((mPrv g i k) && ((decide ((mSc g i j) < (mSc g i k))) || ((decide ((mSc g i k) = (mSc g i j))) && (!(decide (nI j ≤ nI k))))))))))) (by first | (simp only [bq, c_32, decide_eq_false c_38, if_neg c_38, decide_eq_true c_48, if_pos c_48, c_58, decide_eq_false c_65, if_neg c_65, decide_eq_true c_72, if_pos c_72, decide_eq_false c_78, if_neg c_78]; done) | (simp only [bq, c_32, decide_eq_false c_38, if_neg c_38, decide_eq_true c_48, if_pos c_48, c_58, decide_eq_false c_65, if_neg c_65, decide_eq_true c_72, if_pos c_72, decide_eq_false c_78, if_neg c_78]; rfl) | (simp [bq, c_32, decide_eq_false c_38, if_neg c_38, decide_eq_true c_48, if_pos c_48, c_58, decide_eq_false c_65, if_neg c_65, decide_eq_true c_72, if_pos c_72, decide_eq_false c_78, if_neg c_78]; done)) (hj_86_0 _ _ _ hw hS hl)
  exact lp_13 (nc + 1) 0 (by omega) (by omega) _ _ _ hw hS (kx_lv (l := [(5, .int (0 : Int32)), (4, .int (mSc g i j)), (3, .int (0 : Int32)), (0, .ref (ad 9)), (1, .int (nI i)), (2, .int (nI j))]) (l' := [(5, .int (nI 0)), (4, .int (mSc g i j)), (3, .int (b2 (anyB (mBt g i j) 0))), (0, .ref (ad 9)), (1, .int (nI i)), (2, .int (nI j))]) (lv_sub hl [0, 1, 2, 3, 4, 5] rfl) (rfl)) 
theorem hd_X3_canServe : yX3_canServe.cls = RX3 ∧ yX3_canServe.cls ≠ "java/lang/invoke/MethodHandle" ∧ yX3_canServe.cls ≠ "java/lang/invoke/VarHandle" ∧ (parseMethodDescriptor yX3_canServe.desc).map (fun d => d.parameters.length) = some 2 := by decide +kernel
set_option maxHeartbeats 4000000 in
set_option maxRecDepth 100000 in
theorem c_X3_canServe (l : Launch) (hfl : l.stackTraces = false) (D : va_G) (cy : Nat → ClassId) (base : Nat) (ad : Nat → Nat) (n nc : Nat) (g : sg) (i : Nat) (j : Nat) (hcn : g 9 25 = nI nc) (hi : i < n) (hj : j < nc) (hR : mR n nc g) : kM l yX3_canServe wsX3_canServe (kR 3 0 0) D cy base ad n nc g [.ref (ad 9), .int (nI i), .int (nI j)] (kD True (some (.int (b2 (mServe g nc i j)))) ad n nc g) kNo 0 0 := by
  refine kx_meth (cc := cX3_canServe) (maxL := 3) (ret := (some .boolean)) (by decide) rfl (Nat.le_of_ble_eq_true rfl) ?_
  intro p e s m args below meth c ls hx hb hr hml hown hts hlk hT hG hw0 hS0 hl Q H locs hQ hw hS hH0 hlocs0
  have hl : lv_has ls 3 [(0, .ref (ad 9)), (1, .int (nI i)), (2, .int (nI j))] := hl
  have hown : s.vm.findClass RX3 = some m.cls := hown
  have hF : CallFix p m c cX3_canServe 3 s args wsX3_canServe RX3 := ⟨hx, hb, hml, hown, hts⟩
  have hn30 : n ≤ 30 := hw.2.2.1
  have hc20 : nc ≤ 20 := hw.2.2.2
  clear hw0 hS0 hH0 hlocs0
  refine lv_aload_n hx hb dX3_canServe_0 rfl (lv_at hl 0 rfl) ?_
  refine lv_iload_n hx hb dX3_canServe_1 rfl (lv_at hl 1 rfl) ?_
  refine lv_iload_n hx hb dX3_canServe_2 rfl (lv_at hl 2 rfl) ?_
  refine kx_do0 (st1 := [.int (b2 (mCnd g i j))]) (kx_cv (As := [.int (nI i), .int (nI j)]) (rest := []) hF hG hw hS hl.1 kC_9 rfl (c_X3_isCandidate l hfl D cy base ad n nc g i j (by first | assumption | omega | exact mR_9 (by assumption) _ _ | simp [sU, hcn, hi, hj, hR]) (by first | assumption | omega | exact mR_9 (by assumption) _ _ | simp [sU, hcn, hi, hj, hR]) (by first | assumption | omega | exact mR_9 (by assumption) _ _ | simp [sU, hcn, hi, hj, hR])) gX3_canServe_X3_isCandidate rfl rfl rfl hd_X3_isCandidate ⟨Nat.le_of_ble_eq_true rfl, Nat.le_of_ble_eq_true rfl⟩ rfl rfl (Nat.le_of_ble_eq_true rfl) dX3_canServe_3 ⟨Nat.le_of_ble_eq_true rfl, Nat.le_of_ble_eq_true rfl⟩) hS rfl (fun H locs hw hS => ?_)
  have hj_32_0 : ∀ (H : Heap) (locs : List Loc) (ls : Array Slot), kW D cy base ad n nc g H → va_S (kA base) s.heap H locs → lv_has ls 3 [(0, .ref (ad 9)), (1, .int (nI i)), (2, .int (nI j))] → W p l e (kR 3 0 0) s m args below meth c H locs 0 0 Q (F0 m 32 ls [.int (b2 ((mCnd g i j) && ((mPrv g i j) && (!(mBeaten g nc i j)))))]) := by
    intro H locs ls hw hS hl
    exact kx_retZ hQ hx hb hr hlk hw hS (Nat.le_of_ble_eq_true rfl) (Nat.le_of_ble_eq_true rfl) dX3_canServe_32 (nar_b2 _) (kd_i (trivial) (rfl) (rfl))
  refine kb_eq (tgt := 31) hx hb dX3_canServe_6 (by decide) (fun c_6 => ?_) (fun c_6 => ?_)
  · refine lv_iconst (v := 0) hx hb dX3_canServe_31 (by decide) ?_
    exact kx_top (v := (b2 ((mCnd g i j) && ((mPrv g i j) && (!(mBeaten g nc i j)))))) (by first | (simp only [bq, c_6]; done) | (simp only [bq, c_6]; rfl) | (simp [bq, c_6]; done)) (hj_32_0 _ _ _ hw hS hl)
  · refine lv_aload_n hx hb dX3_canServe_9 rfl (lv_at hl 0 rfl) ?_
    refine lv_iload_n hx hb dX3_canServe_10 rfl (lv_at hl 1 rfl) ?_
    refine lv_iload_n hx hb dX3_canServe_11 rfl (lv_at hl 2 rfl) ?_
    refine kx_do0 (st1 := [.int (b2 (mPrv g i j))]) (kx_cv (As := [.int (nI i), .int (nI j)]) (rest := []) hF hG hw hS hl.1 kC_9 rfl (c_X3_proves l hfl D cy base ad n nc g i j (by first | assumption | omega | exact mR_9 (by assumption) _ _ | simp [sU, hcn, hi, hj, hR]) (by first | assumption | omega | exact mR_9 (by assumption) _ _ | simp [sU, hcn, hi, hj, hR])) gX3_canServe_X3_proves rfl rfl rfl hd_X3_proves ⟨Nat.le_of_ble_eq_true rfl, Nat.le_of_ble_eq_true rfl⟩ rfl rfl (Nat.le_of_ble_eq_true rfl) dX3_canServe_12 ⟨Nat.le_of_ble_eq_true rfl, Nat.le_of_ble_eq_true rfl⟩) hS rfl (fun H locs hw hS => ?_)
    refine kb_eq (tgt := 31) hx hb dX3_canServe_15 (by decide) (fun c_15 => ?_) (fun c_15 => ?_)
    · refine lv_iconst (v := 0) hx hb dX3_canServe_31 (by decide) ?_
      exact kx_top (v := (b2 ((mCnd g i j) && ((mPrv g i j) && (!(mBeaten g nc i j)))))) (by first | (simp only [bq, c_6, c_15]; done) | (simp only [bq, c_6, c_15]; rfl) | (simp [bq, c_6, c_15]; done)) (hj_32_0 _ _ _ hw hS hl)
    · refine lv_aload_n hx hb dX3_canServe_18 rfl (lv_at hl 0 rfl) ?_
      refine lv_iload_n hx hb dX3_canServe_19 rfl (lv_at hl 1 rfl) ?_
      refine lv_iload_n hx hb dX3_canServe_20 rfl (lv_at hl 2 rfl) ?_
      refine kx_do0 (st1 := [.int (b2 (mBeaten g nc i j))]) (kx_cv (As := [.int (nI i), .int (nI j)]) (rest := []) hF hG hw hS hl.1 kC_9 rfl (c_X3_isBeaten l hfl D cy base ad n nc g i j (by first | assumption | omega | exact mR_9 (by assumption) _ _ | simp [sU, hcn, hi, hj, hR]) (by first | assumption | omega | exact mR_9 (by assumption) _ _ | simp [sU, hcn, hi, hj, hR]) (by first | assumption | omega | exact mR_9 (by assumption) _ _ | simp [sU, hcn, hi, hj, hR]) (by first | assumption | omega | exact mR_9 (by assumption) _ _ | simp [sU, hcn, hi, hj, hR])) gX3_canServe_X3_isBeaten rfl rfl rfl hd_X3_isBeaten ⟨Nat.le_of_ble_eq_true rfl, Nat.le_of_ble_eq_true rfl⟩ rfl rfl (Nat.le_of_ble_eq_true rfl) dX3_canServe_21 ⟨Nat.le_of_ble_eq_true rfl, Nat.le_of_ble_eq_true rfl⟩) hS rfl (fun H locs hw hS => ?_)
      refine kb_ne (tgt := 31) hx hb dX3_canServe_24 (by decide) (fun c_24 => ?_) (fun c_24 => ?_)
      · refine lv_iconst (v := 0) hx hb dX3_canServe_31 (by decide) ?_
        exact kx_top (v := (b2 ((mCnd g i j) && ((mPrv g i j) && (!(mBeaten g nc i j)))))) (by first | (simp only [bq, c_6, c_15, c_24]; done) | (simp only [bq, c_6, c_15, c_24]; rfl) | (simp [bq, c_6, c_15, c_24]; done)) (hj_32_0 _ _ _ hw hS hl)
      · refine lv_iconst (v := 1) hx hb dX3_canServe_27 (by decide) ?_
        refine lv_goto (tgt := 32) hx hb dX3_canServe_28 (by decide) ?_
        exact kx_top (v := (b2 ((mCnd g i j) && ((mPrv g i j) && (!(mBeaten g nc i j)))))) (by first | (simp only [bq, c_6, c_15, c_24]; done) | (simp only [bq, c_6, c_15, c_24]; rfl) | (simp [bq, c_6, c_15, c_24]; done)) (hj_32_0 _ _ _ hw hS hl)
theorem hd_X3_isOver : yX3_isOver.cls = RX3 ∧ yX3_isOver.cls ≠ "java/lang/invoke/MethodHandle" ∧ yX3_isOver.cls ≠ "java/lang/invoke/VarHandle" ∧ (parseMethodDescriptor yX3_isOver.desc).map (fun d => d.parameters.length) = some 1 := by decide +kernel
set_option maxHeartbeats 4000000 in
set_option maxRecDepth 100000 in
theorem c_X3_isOver (l : Launch) (hfl : l.stackTraces = false) (D : va_G) (cy : Nat → ClassId) (base : Nat) (ad : Nat → Nat) (n nc : Nat) (g : sg) (i : Nat) (hcn : g 9 25 = nI nc) (hi : i < n) (hR : mR n nc g) : kM l yX3_isOver wsX3_isOver (kR 3 0 0) D cy base ad n nc g [.ref (ad 9), .int (nI i)] (kD True (some (.int (b2 (mOver g nc i)))) ad n nc g) kNo 0 0 := by
  refine kx_meth (cc := cX3_isOver) (maxL := 4) (ret := (some .boolean)) (by decide) rfl (Nat.le_of_ble_eq_true rfl) ?_
  intro p e s m args below meth c ls hx hb hr hml hown hts hlk hT hG hw0 hS0 hl Q H locs hQ hw hS hH0 hlocs0
  have hl : lv_has ls 4 [(0, .ref (ad 9)), (1, .int (nI i))] := hl
  have hown : s.vm.findClass RX3 = some m.cls := hown
  have hF : CallFix p m c cX3_isOver 4 s args wsX3_isOver RX3 := ⟨hx, hb, hml, hown, hts⟩
  have hn30 : n ≤ 30 := hw.2.2.1
  have hc20 : nc ≤ 20 := hw.2.2.2
  clear hw0 hS0 hH0 hlocs0
  have i3 : ∀ w ∈ wsX30, w ∈ wsX3_isOver := by decide +kernel
  have f_47 := hts (.fieldLink RX3 47 "LostroomModel" "states" "[I") (by decide +kernel)
  have f_56 := hts (.fieldLink RX3 56 "LostroomModel" "lasts" "[I") (by decide +kernel)
  have f_59 := hts (.fieldLink RX3 59 "LostroomModel" "areHeld" "[Z") (by decide +kernel)
  have f_116 := hts (.fieldLink RX3 116 "LostroomModel" "claims" "I") (by decide +kernel)
  have f_136 := hts (.fieldLink RX3 136 "LostroomModel" "today" "I") (by decide +kernel)
  refine lv_aload_n hx hb dX3_isOver_0 rfl (lv_at hl 0 rfl) ?_
  refine kx_getM (v := .ref (ad 65)) hx hb hts hown hG hw i3 15 (by decide) f_47 rfl dX3_isOver_1 ?_
  refine lv_iload_n hx hb dX3_isOver_4 rfl (lv_at hl 1 rfl) ?_
  refine kx_iald (v := (g 65 i)) hx hb hG hw (kC_I rfl) i (nI_clamp (by omega)) (vp_in_nI (by omega) (by decide)) rfl dX3_isOver_5 ?_
  have hj_36_0 : ∀ (H : Heap) (locs : List Loc) (ls : Array Slot), kW D cy base ad n nc g H → va_S (kA base) s.heap H locs → lv_has ls 4 [(0, .ref (ad 9)), (1, .int (nI i))] → W p l e (kR 3 0 0) s m args below meth c H locs 0 0 Q (F0 m 36 ls [.int (b2 ((decide ((g 65 i) = (0 : Int32))) && ((!(decide ((g 9 1) ≤ (g 68 i)))) && (decide ((g 69 i) = (0 : Int32))))))]) := by
    intro H locs ls hw hS hl
    refine lv_istore_n (lv' := [(2, .int (b2 ((decide ((g 65 i) = (0 : Int32))) && ((!(decide ((g 9 1) ≤ (g 68 i)))) && (decide ((g 69 i) = (0 : Int32))))))), (0, .ref (ad 9)), (1, .int (nI i))]) hx hb dX3_isOver_36 rfl hl (by decide) rfl (fun ls hl => ?_)
    refine lv_iconst (v := 0) hx hb dX3_isOver_37 (by decide) ?_
    refine lv_istore_n (lv' := [(3, .int (0 : Int32)), (2, .int (b2 ((decide ((g 65 i) = (0 : Int32))) && ((!(decide ((g 9 1) ≤ (g 68 i)))) && (decide ((g 69 i) = (0 : Int32))))))), (0, .ref (ad 9)), (1, .int (nI i))]) hx hb dX3_isOver_38 rfl hl (by decide) rfl (fun ls hl => ?_)
    have lp_39 : ∀ (nn k : Nat), k ≤ nc → nc < k + nn → ∀ (H : Heap) (locs : List Loc) (ls : Array Slot), kW D cy base ad n nc g H → va_S (kA base) s.heap H locs → lv_has ls 4 [(3, .int (nI k)), (2, .int (b2 (mOv0 g i && !anyB (fun j => mCnd g i j) k))), (0, .ref (ad 9)), (1, .int (nI i))] → W p l e (kR 3 0 0) s m args below meth c H locs 0 0 Q (F0 m 39 ls []) := by
      intro nn
      induction nn with
      | zero => intro k h1 h2; exact absurd h2 (by omega)
      | succ nn ih_39 =>
        intro k hk_k hkn_k H locs ls hw hS hl
        refine lv_iload_n hx hb dX3_isOver_39 rfl (lv_at hl 0 rfl) ?_
        refine lv_aload_n hx hb dX3_isOver_40 rfl (lv_at hl 2 rfl) ?_
        refine kx_getM (v := .int (nI nc)) hx hb hts hown hG hw i3 25 (by decide) f_116 (congrArg Value.int (hcn)) dX3_isOver_41 ?_
        refine lv_icmp_ge (tgt := 72) hx hb dX3_isOver_44 (by decide) (fun c_44 => ?_) (fun c_44 => ?_)
        · have e_k : k = nc := Nat.le_antisymm hk_k (le_nI (a := nc) (b := k) c_44 (by omega) (by omega))
          refine lv_iload_n hx hb dX3_isOver_72 rfl (lv_at hl 1 rfl) ?_
          exact kx_retZ hQ hx hb hr hlk hw hS (Nat.le_of_ble_eq_true rfl) (Nat.le_of_ble_eq_true rfl) dX3_isOver_73 (nar_b2 _) (kd_i (trivial) (by rw [e_k]; rfl) (rfl))
        · have hlt_k : k < nc := lt_nI (a := nc) (b := k) c_44 (by omega) (by omega)
          refine lv_iload_n hx hb dX3_isOver_47 rfl (lv_at hl 1 rfl) ?_
          have hj_65_1 : ∀ (H : Heap) (locs : List Loc) (ls : Array Slot), kW D cy base ad n nc g H → va_S (kA base) s.heap H locs → lv_has ls 4 [(3, .int (nI k)), (2, .int (b2 (mOv0 g i && !anyB (fun j => mCnd g i j) k))), (0, .ref (ad 9)), (1, .int (nI i))] → W p l e (kR 3 0 0) s m args below meth c H locs 0 0 Q (F0 m 65 ls [.int (b2 ((mOv0 g i && !anyB (fun j => mCnd g i j) k) && (!(mCnd g i k))))]) := by
            intro H locs ls hw hS hl
            refine lv_istore_n (lv' := [(2, .int (b2 ((mOv0 g i && !anyB (fun j => mCnd g i j) k) && (!(mCnd g i k))))), (3, .int (nI k)), (0, .ref (ad 9)), (1, .int (nI i))]) hx hb dX3_isOver_65 rfl hl (by decide) rfl (fun ls hl => ?_)
            refine lv_iinc (v := (nI k + (1 : Int32))) (lv' := [(3, .int (nI k + (1 : Int32))), (2, .int (b2 ((mOv0 g i && !anyB (fun j => mCnd g i j) k) && (!(mCnd g i k))))), (0, .ref (ad 9)), (1, .int (nI i))]) hx hb dX3_isOver_66 hl (k := 1) rfl rfl (by decide) rfl (fun ls hl => ?_)
            refine lv_goto (tgt := 39) hx hb dX3_isOver_69 (by decide) ?_
            exact ih_39 (k + 1) (by omega) (by omega) _ _ _ hw hS (kx_lv (l := [(3, .int (nI k + (1 : Int32))), (2, .int (b2 ((mOv0 g i && !anyB (fun j => mCnd g i j) k) && (!(mCnd g i k))))), (0, .ref (ad 9)), (1, .int (nI i))]) (l' := [(3, .int (nI (k + 1))), (2, .int (b2 (mOv0 g i && !anyB (fun j => mCnd g i j) (k + 1)))), (0, .ref (ad 9)), (1, .int (nI i))]) (lv_sub hl [0, 1, 2, 3] rfl) (by rw [nI_1]; simp [anyB]; try (cases mOv0 g i <;> cases anyB (fun j => mCnd g i j) k <;> cases mCnd g i k <;> rfl))) 
          refine kb_eq (tgt := 64) hx hb dX3_isOver_48 (by decide) (fun c_48 => ?_) (fun c_48 => ?_)
          · refine lv_iconst (v := 0) hx hb dX3_isOver_64 (by decide) ?_
            exact kx_top (v := (b2 ((mOv0 g i && !anyB (fun j => mCnd g i j) k) && (!(mCnd g i k))))) (by first | (simp only [bq, c_48]; done) | (simp only [bq, c_48]; rfl) | (simp [bq, c_48]; done)) (hj_65_1 _ _ _ hw hS hl)
          · refine lv_aload_n hx hb dX3_isOver_51 rfl (lv_at hl 2 rfl) ?_
            refine lv_iload_n hx hb dX3_isOver_52 rfl (lv_at hl 3 rfl) ?_
            refine lv_iload_n hx hb dX3_isOver_53 rfl (lv_at hl 0 rfl) ?_
            refine kx_do0 (st1 := [.int (b2 (mCnd g i k))]) (kx_cv (As := [.int (nI i), .int (nI k)]) (rest := []) hF hG hw hS hl.1 kC_9 rfl (c_X3_isCandidate l hfl D cy base ad n nc g i k (by first | assumption | omega | exact mR_9 (by assumption) _ _ | simp [sU, hcn, hi, hR]) (by first | assumption | omega | exact mR_9 (by assumption) _ _ | simp [sU, hcn, hi, hR]) (by first | assumption | omega | exact mR_9 (by assumption) _ _ | simp [sU, hcn, hi, hR])) gX3_isOver_X3_isCandidate rfl rfl rfl hd_X3_isCandidate ⟨Nat.le_of_ble_eq_true rfl, Nat.le_of_ble_eq_true rfl⟩ rfl rfl (Nat.le_of_ble_eq_true rfl) dX3_isOver_54 ⟨Nat.le_of_ble_eq_true rfl, Nat.le_of_ble_eq_true rfl⟩) hS rfl (fun H locs hw hS => ?_)
            refine kb_ne (tgt := 64) hx hb dX3_isOver_57 (by decide) (fun c_57 => ?_) (fun c_57 => ?_)
            · refine lv_iconst (v := 0) hx hb dX3_isOver_64 (by decide) ?_
              exact kx_top (v := (b2 ((mOv0 g i && !anyB (fun j => mCnd g i j) k) && (!(mCnd g i k))))) (by first | (simp only [bq, c_48, c_57]; done) | (simp only [bq, c_48, c_57]; rfl) | (simp [bq, c_48, c_57]; done)) (hj_65_1 _ _ _ hw hS hl)
            · refine lv_iconst (v := 1) hx hb dX3_isOver_60 (by decide) ?_
              refine lv_goto (tgt := 65) hx hb dX3_isOver_61 (by decide) ?_
              exact kx_top (v := (b2 ((mOv0 g i && !anyB (fun j => mCnd g i j) k) && (!(mCnd g i k))))) (by first | (simp only [bq, c_48, c_57]; done) | (simp only [bq, c_48, c_57]; rfl) | (simp [bq, c_48, c_57]; done)) (hj_65_1 _ _ _ hw hS hl)
    exact lp_39 (nc + 1) 0 (by omega) (by omega) _ _ _ hw hS (kx_lv (l := [(3, .int (0 : Int32)), (2, .int (b2 ((decide ((g 65 i) = (0 : Int32))) && ((!(decide ((g 9 1) ≤ (g 68 i)))) && (decide ((g 69 i) = (0 : Int32))))))), (0, .ref (ad 9)), (1, .int (nI i))]) (l' := [(3, .int (nI 0)), (2, .int (b2 (mOv0 g i && !anyB (fun j => mCnd g i j) 0))), (0, .ref (ad 9)), (1, .int (nI i))]) (lv_sub hl [0, 1, 2, 3] rfl) (by simp [anyB]; exact ⟨rfl, rfl⟩)) 
  refine lv_if_ne (tgt := 35) hx hb dX3_isOver_6 (by decide) (fun c_6 => ?_) (fun c_6 => ?_)
  · refine lv_iconst (v := 0) hx hb dX3_isOver_35 (by decide) ?_
    exact kx_top (v := (b2 ((decide ((g 65 i) = (0 : Int32))) && ((!(decide ((g 9 1) ≤ (g 68 i)))) && (decide ((g 69 i) = (0 : Int32))))))) (by first | (simp only [bq, decide_eq_false c_6, if_neg c_6]; done) | (simp only [bq, decide_eq_false c_6, if_neg c_6]; rfl) | (simp [bq, decide_eq_false c_6, if_neg c_6]; done)) (hj_36_0 _ _ _ hw hS hl)
  · refine lv_aload_n hx hb dX3_isOver_9 rfl (lv_at hl 0 rfl) ?_
    refine kx_getM (v := .ref (ad 68)) hx hb hts hown hG hw i3 18 (by decide) f_56 rfl dX3_isOver_10 ?_
    refine lv_iload_n hx hb dX3_isOver_13 rfl (lv_at hl 1 rfl) ?_
    refine kx_iald (v := (g 68 i)) hx hb hG hw (kC_I rfl) i (nI_clamp (by omega)) (vp_in_nI (by omega) (by decide)) rfl dX3_isOver_14 ?_
    refine lv_aload_n hx hb dX3_isOver_15 rfl (lv_at hl 0 rfl) ?_
    refine kx_getM (v := .int (g 9 1)) hx hb hts hown hG hw i3 1 (by decide) f_136 rfl dX3_isOver_16 ?_
    refine lv_icmp_ge (tgt := 35) hx hb dX3_isOver_19 (by decide) (fun c_19 => ?_) (fun c_19 => ?_)
    · refine lv_iconst (v := 0) hx hb dX3_isOver_35 (by decide) ?_
      exact kx_top (v := (b2 ((decide ((g 65 i) = (0 : Int32))) && ((!(decide ((g 9 1) ≤ (g 68 i)))) && (decide ((g 69 i) = (0 : Int32))))))) (by first | (simp only [bq, decide_eq_true c_6, if_pos c_6, decide_eq_true c_19, if_pos c_19]; done) | (simp only [bq, decide_eq_true c_6, if_pos c_6, decide_eq_true c_19, if_pos c_19]; rfl) | (simp [bq, decide_eq_true c_6, if_pos c_6, decide_eq_true c_19, if_pos c_19]; done)) (hj_36_0 _ _ _ hw hS hl)
    · refine lv_aload_n hx hb dX3_isOver_22 rfl (lv_at hl 0 rfl) ?_
      refine kx_getM (v := .ref (ad 69)) hx hb hts hown hG hw i3 19 (by decide) f_59 rfl dX3_isOver_23 ?_
      refine lv_iload_n hx hb dX3_isOver_26 rfl (lv_at hl 1 rfl) ?_
      refine kx_zald (v := (g 69 i)) hx hb hG hw i (nI_clamp (by omega)) (vp_in_nI (by omega) (by decide)) rfl dX3_isOver_27 ?_
      refine lv_if_ne (tgt := 35) hx hb dX3_isOver_28 (by decide) (fun c_28 => ?_) (fun c_28 => ?_)
      · refine lv_iconst (v := 0) hx hb dX3_isOver_35 (by decide) ?_
        exact kx_top (v := (b2 ((decide ((g 65 i) = (0 : Int32))) && ((!(decide ((g 9 1) ≤ (g 68 i)))) && (decide ((g 69 i) = (0 : Int32))))))) (by first | (simp only [bq, decide_eq_true c_6, if_pos c_6, decide_eq_false c_19, if_neg c_19, decide_eq_false c_28, if_neg c_28]; done) | (simp only [bq, decide_eq_true c_6, if_pos c_6, decide_eq_false c_19, if_neg c_19, decide_eq_false c_28, if_neg c_28]; rfl) | (simp [bq, decide_eq_true c_6, if_pos c_6, decide_eq_false c_19, if_neg c_19, decide_eq_false c_28, if_neg c_28]; done)) (hj_36_0 _ _ _ hw hS hl)
      · refine lv_iconst (v := 1) hx hb dX3_isOver_31 (by decide) ?_
        refine lv_goto (tgt := 36) hx hb dX3_isOver_32 (by decide) ?_
        exact kx_top (v := (b2 ((decide ((g 65 i) = (0 : Int32))) && ((!(decide ((g 9 1) ≤ (g 68 i)))) && (decide ((g 69 i) = (0 : Int32))))))) (by first | (simp only [bq, decide_eq_true c_6, if_pos c_6, decide_eq_false c_19, if_neg c_19, decide_eq_true c_28, if_pos c_28]; done) | (simp only [bq, decide_eq_true c_6, if_pos c_6, decide_eq_false c_19, if_neg c_19, decide_eq_true c_28, if_pos c_28]; rfl) | (simp [bq, decide_eq_true c_6, if_pos c_6, decide_eq_false c_19, if_neg c_19, decide_eq_true c_28, if_pos c_28]; done)) (hj_36_0 _ _ _ hw hS hl)
