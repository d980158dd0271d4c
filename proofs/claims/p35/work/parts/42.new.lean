/-! walks laid by wip/p35/kgen.py, kall.py -/
theorem hd_X2_find : yX2_find.cls = RX2 ∧ yX2_find.cls ≠ "java/lang/invoke/MethodHandle" ∧ yX2_find.cls ≠ "java/lang/invoke/VarHandle" ∧ (parseMethodDescriptor yX2_find.desc).map (fun d => d.parameters.length) = some 7 := by decide +kernel
set_option maxHeartbeats 4000000 in
set_option maxRecDepth 100000 in
theorem c_X2_find (l : Launch) (hfl : l.stackTraces = false) (D : va_G) (cy : Nat → ClassId) (base : Nat → Prop) (ad : Nat → Nat) (n nc : Nat) (g : sg) (kind : Int32) (place : Int32) (dago : Int32) (set : Int32) (secret : Int32) (value : Int32) (room : Int32) (hfj : ∀ j, g 6 j = if j < n then 1 else 0) (hfc : g 0 8 = nI n) : kM l yX2_find wsX2_find (kR 7 12 100) D cy base ad n nc g [.ref (ad 0), .int kind, .int place, .int dago, .int set, .int secret, .int value, .int room] (fun v u => kd3 (inn kind 0 7 && (inn place 0 9 && inn room 0 5)) (inn dago 0 (g 0 10) && (inn value 0 9999 && (inn set 0 16777215 && (inn secret 0 16777215 && decide ((set &&& secret) = 0))))) (!decide (nI n = 30)) = 0 ∧ v = some (.int (nI n)) ∧ ∃ ad2 : Nat → Nat, (∀ k, k < 100 → ad2 k = ad k) ∧ u = (ad2, n + 1, nc, cFind g n kind place dago set secret value room)) (kEx (kd3 (inn kind 0 7 && (inn place 0 9 && inn room 0 5)) (inn dago 0 (g 0 10) && (inn value 0 9999 && (inn set 0 16777215 && (inn secret 0 16777215 && decide ((set &&& secret) = 0))))) (!decide (nI n = 30)))) 12 100 := by
  refine kx_meth (cc := cX2_find) (maxL := 10) (ret := (some .int)) (by decide) rfl (Nat.le_of_ble_eq_true rfl) ?_
  intro p e s m args below meth c ls hx hb hr hml hown hts hlk hT hG hw0 hS0 hl Q H locs hQ hw hS hH0 hlocs0
  have hl : lv_has ls 10 [(0, .ref (ad 0)), (1, .int kind), (2, .int place), (3, .int dago), (4, .int set), (5, .int secret), (6, .int value), (7, .int room)] := hl
  have hown : s.vm.findClass RX2 = some m.cls := hown
  have hF : CallFix p m c cX2_find 10 s args wsX2_find RX2 := ⟨hx, hb, hml, hown, hts⟩
  have hn30 : n ≤ 30 := hw.2.2.1
  have hc20 : nc ≤ 20 := hw.2.2.2
  have hA : ∀ q : Nat, s.heap.size ≤ q → kA base q := hG.2.2.2.2.2.2.2
  clear hw0 hS0 hH0 hlocs0
  have i1 : ∀ w ∈ wsX10, w ∈ wsX2_find := by decide +kernel
  have i2 : ∀ w ∈ wsX20, w ∈ wsX2_find := by decide +kernel
  have f_27 := hts (.fieldLink RX2 27 "Lostroom" "finds" "[LLostroom$Found;") (by decide +kernel)
  have f_40 := hts (.fieldLink RX2 40 "Lostroom" "findCount" "I") (by decide +kernel)
  have f_47 := hts (.fieldLink RX2 47 "Lostroom" "day" "I") (by decide +kernel)
  have f_126 := hts (.fieldLink RX2 126 "Lostroom$Found" "lastDay" "I") (by decide +kernel)
  have xk_IA := hts (.classLink RX2 77 "java/lang/IllegalArgumentException") (by decide +kernel)
  have xi_IA := hts (.initialized "java/lang/IllegalArgumentException") (by decide +kernel)
  have xa_IA : ∀ w ∈ (vx_atS RX2 81 "java/lang/IllegalArgumentException" kNm).filter goodWord, w.before args s = true := fun w h => hts w ((by decide +kernel : ∀ w ∈ (vx_atS RX2 81 "java/lang/IllegalArgumentException" kNm).filter goodWord, w ∈ wsX2_find) w h)
  have xk_IS := hts (.classLink RX2 90 "java/lang/IllegalStateException") (by decide +kernel)
  have xi_IS := hts (.initialized "java/lang/IllegalStateException") (by decide +kernel)
  have xa_IS : ∀ w ∈ (vx_atS RX2 94 "java/lang/IllegalStateException" kNm).filter goodWord, w.before args s = true := fun w h => hts w ((by decide +kernel : ∀ w ∈ (vx_atS RX2 94 "java/lang/IllegalStateException" kNm).filter goodWord, w ∈ wsX2_find) w h)
  refine lv_iload_n hx hb dX2_find_0 rfl (lv_at hl 1 rfl) ?_
  refine kx_do (st1 := []) (kx_cs (As := [.int kind]) (rest := []) hF hG hw hS hl.1 (c_X2_requireKind l hfl D cy base ad n nc g kind ) gX2_find_X2_requireKind rfl rfl rfl hd_X2_requireKind ⟨Nat.le_of_ble_eq_true rfl, Nat.le_of_ble_eq_true rfl⟩ rfl rfl (Nat.le_of_ble_eq_true rfl) dX2_find_1 ⟨Nat.le_of_ble_eq_true rfl, Nat.le_of_ble_eq_true rfl⟩) hS rfl (fun E9 ce9 q9 H locs hX9 hw hS hc9 hv9 hcl9 => kx_out hQ hT hlk hw hS (kEx_to hX9 (by cases h9 : inn kind 0 7 <;> simp [rq, kd3, h9])) hc9 hv9 hcl9 (Nat.le_of_ble_eq_true rfl) (Nat.le_of_ble_eq_true rfl)) (fun ok_1 H locs hw hS => ?_)
  have v_kind : vp_in kind 8 := inn_vp (ok_1) (by decide)
  refine lv_iload_n hx hb dX2_find_4 rfl (lv_at hl 2 rfl) ?_
  refine kx_do (st1 := []) (kx_cs (As := [.int place]) (rest := []) hF hG hw hS hl.1 (c_X2_requirePlace l hfl D cy base ad n nc g place ) gX2_find_X2_requirePlace rfl rfl rfl hd_X2_requirePlace ⟨Nat.le_of_ble_eq_true rfl, Nat.le_of_ble_eq_true rfl⟩ rfl rfl (Nat.le_of_ble_eq_true rfl) dX2_find_5 ⟨Nat.le_of_ble_eq_true rfl, Nat.le_of_ble_eq_true rfl⟩) hS rfl (fun E9 ce9 q9 H locs hX9 hw hS hc9 hv9 hcl9 => kx_out hQ hT hlk hw hS (kEx_to hX9 (by cases h9 : inn place 0 9 <;> simp [rq, kd3, h9, ok_1])) hc9 hv9 hcl9 (Nat.le_of_ble_eq_true rfl) (Nat.le_of_ble_eq_true rfl)) (fun ok_5 H locs hw hS => ?_)
  have v_place : vp_in place 10 := inn_vp (ok_5) (by decide)
  refine lv_iload hx hb dX2_find_8 (lv_at hl 7 rfl) ?_
  refine kx_do (st1 := []) (kx_cs (As := [.int room]) (rest := []) hF hG hw hS hl.1 (c_X2_requireRoom l hfl D cy base ad n nc g room ) gX2_find_X2_requireRoom rfl rfl rfl hd_X2_requireRoom ⟨Nat.le_of_ble_eq_true rfl, Nat.le_of_ble_eq_true rfl⟩ rfl rfl (Nat.le_of_ble_eq_true rfl) dX2_find_10 ⟨Nat.le_of_ble_eq_true rfl, Nat.le_of_ble_eq_true rfl⟩) hS rfl (fun E9 ce9 q9 H locs hX9 hw hS hc9 hv9 hcl9 => kx_out hQ hT hlk hw hS (kEx_to hX9 (by cases h9 : inn room 0 5 <;> simp [rq, kd3, h9, ok_1, ok_5])) hc9 hv9 hcl9 (Nat.le_of_ble_eq_true rfl) (Nat.le_of_ble_eq_true rfl)) (fun ok_10 H locs hw hS => ?_)
  have v_room : vp_in room 6 := inn_vp (ok_10) (by decide)
  refine lv_iload_n hx hb dX2_find_13 rfl (lv_at hl 3 rfl) ?_
  refine lv_iconst (v := 0) hx hb dX2_find_14 (by decide) ?_
  refine lv_aload_n hx hb dX2_find_15 rfl (lv_at hl 0 rfl) ?_
  refine kx_getL (v := .int (g 0 10)) hx hb hts hown hG hw i2 10 (by decide) f_47 rfl dX2_find_16 ?_
  refine kx_do0 (st1 := [.int (b2 (inn dago (0 : Int32) (g 0 10)))]) (kx_cs (As := [.int dago, .int (0 : Int32), .int (g 0 10)]) (rest := []) hF hG hw hS hl.1 (c_X2_isWithin l hfl D cy base ad n nc g dago (0 : Int32) (g 0 10) ) gX2_find_X2_isWithin rfl rfl rfl hd_X2_isWithin ⟨Nat.le_of_ble_eq_true rfl, Nat.le_of_ble_eq_true rfl⟩ rfl rfl (Nat.le_of_ble_eq_true rfl) dX2_find_19 ⟨Nat.le_of_ble_eq_true rfl, Nat.le_of_ble_eq_true rfl⟩) hS rfl (fun H locs hw hS => ?_)
  refine kb_ne (tgt := 35) hx hb dX2_find_22 (by decide) (fun c_22 => ?_) (fun c_22 => ?_)
  · refine lv_iload hx hb dX2_find_35 (lv_at hl 6 rfl) ?_
    refine lv_iconst (v := 0) hx hb dX2_find_37 (by decide) ?_
    refine lv_sipush (v := 9999) hx hb dX2_find_38 (by decide) ?_
    refine kx_do0 (st1 := [.int (b2 (inn value (0 : Int32) (9999 : Int32)))]) (kx_cs (As := [.int value, .int (0 : Int32), .int (9999 : Int32)]) (rest := []) hF hG hw hS hl.1 (c_X2_isWithin l hfl D cy base ad n nc g value (0 : Int32) (9999 : Int32) ) gX2_find_X2_isWithin rfl rfl rfl hd_X2_isWithin ⟨Nat.le_of_ble_eq_true rfl, Nat.le_of_ble_eq_true rfl⟩ rfl rfl (Nat.le_of_ble_eq_true rfl) dX2_find_41 ⟨Nat.le_of_ble_eq_true rfl, Nat.le_of_ble_eq_true rfl⟩) hS rfl (fun H locs hw hS => ?_)
    refine kb_ne (tgt := 57) hx hb dX2_find_44 (by decide) (fun c_44 => ?_) (fun c_44 => ?_)
    · refine lv_iload hx hb dX2_find_57 (lv_at hl 4 rfl) ?_
      refine kx_do (st1 := []) (kx_cs (As := [.int set]) (rest := []) hF hG hw hS hl.1 (c_X2_requireWords l hfl D cy base ad n nc g set ) gX2_find_X2_requireWords rfl rfl rfl hd_X2_requireWords ⟨Nat.le_of_ble_eq_true rfl, Nat.le_of_ble_eq_true rfl⟩ rfl rfl (Nat.le_of_ble_eq_true rfl) dX2_find_59 ⟨Nat.le_of_ble_eq_true rfl, Nat.le_of_ble_eq_true rfl⟩) hS rfl (fun E9 ce9 q9 H locs hX9 hw hS hc9 hv9 hcl9 => kx_out hQ hT hlk hw hS (kEx_to hX9 (by cases h9 : inn set 0 16777215 <;> simp [rq, kd3, h9, ok_1, ok_5, ok_10, c_22, c_44])) hc9 hv9 hcl9 (Nat.le_of_ble_eq_true rfl) (Nat.le_of_ble_eq_true rfl)) (fun ok_59 H locs hw hS => ?_)
      refine lv_iload hx hb dX2_find_62 (lv_at hl 5 rfl) ?_
      refine kx_do (st1 := []) (kx_cs (As := [.int secret]) (rest := []) hF hG hw hS hl.1 (c_X2_requireWords l hfl D cy base ad n nc g secret ) gX2_find_X2_requireWords rfl rfl rfl hd_X2_requireWords ⟨Nat.le_of_ble_eq_true rfl, Nat.le_of_ble_eq_true rfl⟩ rfl rfl (Nat.le_of_ble_eq_true rfl) dX2_find_64 ⟨Nat.le_of_ble_eq_true rfl, Nat.le_of_ble_eq_true rfl⟩) hS rfl (fun E9 ce9 q9 H locs hX9 hw hS hc9 hv9 hcl9 => kx_out hQ hT hlk hw hS (kEx_to hX9 (by cases h9 : inn secret 0 16777215 <;> simp [rq, kd3, h9, ok_1, ok_5, ok_10, c_22, c_44, ok_59])) hc9 hv9 hcl9 (Nat.le_of_ble_eq_true rfl) (Nat.le_of_ble_eq_true rfl)) (fun ok_64 H locs hw hS => ?_)
      refine lv_iload hx hb dX2_find_67 (lv_at hl 4 rfl) ?_
      refine lv_iload hx hb dX2_find_69 (lv_at hl 5 rfl) ?_
      refine lv_iand hx hb dX2_find_71 ?_
      refine lv_if_eq (tgt := 85) hx hb dX2_find_72 (by decide) (fun c_72 => ?_) (fun c_72 => ?_)
      · refine lv_aload_n hx hb dX2_find_85 rfl (lv_at hl 0 rfl) ?_
        refine kx_getL (v := .int (nI n)) hx hb hts hown hG hw i2 8 (by decide) f_40 (congrArg Value.int (hfc)) dX2_find_86 ?_
        refine lv_istore (lv' := [(8, .int (nI n)), (0, .ref (ad 0)), (1, .int kind), (2, .int place), (3, .int dago), (4, .int set), (5, .int secret), (6, .int value), (7, .int room)]) hx hb dX2_find_89 hl (by decide) rfl (fun ls hl => ?_)
        refine lv_iload hx hb dX2_find_91 (lv_at hl 0 rfl) ?_
        refine lv_if_lt (tgt := 106) hx hb dX2_find_93 (by decide) (fun c_93 => ?_) (fun c_93 => ?_)
        · exact absurd c_93 (nI_pos (by omega))
        · refine lv_iload hx hb dX2_find_96 (lv_at hl 0 rfl) ?_
          refine lv_aload_n hx hb dX2_find_98 rfl (lv_at hl 1 rfl) ?_
          refine kx_getL (v := .ref (ad 6)) hx hb hts hown hG hw i2 5 (by decide) f_27 rfl dX2_find_99 ?_
          refine kx_alen (v := 30) hx hb hG hw kC_6 1 rfl rfl dX2_find_102 ?_
          refine lv_icmp_lt (tgt := 116) hx hb dX2_find_103 (by decide) (fun c_103 => ?_) (fun c_103 => ?_)
          · have hnl : n < 30 := by have h9 : ¬ (30 : Int32) ≤ nI n := Int32.not_le.mpr c_103; exact Nat.not_le.mp (fun q => h9 (nI_le (a := 30) (b := n) q (by omega)))
            have hne : (!decide (nI n = 30)) = true := by rw [decide_eq_false]; rfl; intro q; have := (nI_eq (a := n) (b := 30) (by omega) (by omega)).mp q; omega
            have hK : kd3 (inn kind 0 7 && (inn place 0 9 && inn room 0 5)) (inn dago 0 (g 0 10) && (inn value 0 9999 && (inn set 0 16777215 && (inn secret 0 16777215 && decide ((set &&& secret) = 0))))) (!decide (nI n = 30)) = 0 := by first | (simp only [kd3, hne, ok_1, ok_5, ok_10, c_22, c_44, ok_59, ok_64, decide_eq_true c_72, if_pos c_72, decide_eq_false c_93, if_neg c_93, decide_eq_true c_103, if_pos c_103]; done) | (simp only [kd3, hne, ok_1, ok_5, ok_10, c_22, c_44, ok_59, ok_64, decide_eq_true c_72, if_pos c_72, decide_eq_false c_93, if_neg c_93, decide_eq_true c_103, if_pos c_103]; rfl)
            have hbh : ∀ q : Nat, H.size ≤ q → base q := fun q h => hA q (Nat.le_trans hS.1 h)
            refine kx_new (own := RX2) (C := RX1) (T := TX1) (N := 15) (ci := 1) (fs := [.int 0, .int 0, .int 0, .int 0, .int 0, .null, .null, .int 0, .int 0, .int 0, .int 0, .int 0, .int 0, .int 0, .int 0]) hx hb hts i1 tyX1 tyX1_ok hown (hts (.classLink RX2 25 RX1) (by decide +kernel)) (hts (.instantiable RX1 15) (by decide +kernel)) (hts (.initialized RX1) (by decide +kernel)) hG rfl (fun j hj => by rcases (show j = 0 ∨ j = 1 ∨ j = 2 ∨ j = 3 ∨ j = 4 ∨ j = 5 ∨ j = 6 ∨ j = 7 ∨ j = 8 ∨ j = 9 ∨ j = 10 ∨ j = 11 ∨ j = 12 ∨ j = 13 ∨ j = 14 by omega) with rfl | rfl | rfl | rfl | rfl | rfl | rfl | rfl | rfl | rfl | rfl | rfl | rfl | rfl | rfl <;> rfl) (Nat.le_of_ble_eq_true rfl) (Nat.le_of_ble_eq_true rfl) hS dX2_find_116 (fun q H2 hq2 hP2 hz2 ho2 hS2 => ?_)
            have hw2 : kW D cy base ad n nc g H2 := hw.kept ho2
            refine lv_dup hx hb dX2_find_119 rfl ?_
            refine lv_iload_n hx hb dX2_find_120 rfl (lv_at hl 2 rfl) ?_
            refine lv_iload_n hx hb dX2_find_121 rfl (lv_at hl 3 rfl) ?_
            refine lv_aload_n hx hb dX2_find_122 rfl (lv_at hl 1 rfl) ?_
            refine kx_getL (v := .int (g 0 10)) hx hb hts hown hG hw2 i2 10 (by decide) f_47 rfl dX2_find_123 ?_
            refine lv_iload_n hx hb dX2_find_126 rfl (lv_at hl 4 rfl) ?_
            refine lv_isub hx hb dX2_find_127 ?_
            refine lv_iload hx hb dX2_find_128 (lv_at hl 5 rfl) ?_
            refine lv_iload hx hb dX2_find_130 (lv_at hl 6 rfl) ?_
            refine lv_iload hx hb dX2_find_132 (lv_at hl 7 rfl) ?_
            have hFc : ∀ x, va_A [(q, .inr (1, [.int 0, .int 0, .int 0, .int 0, .int 0, .null, .null, .int 0, .int 0, .int 0, .int 0, .int 0, .int 0, .int 0, .int 0]))] H2.size x → kA base x := fun x h => hA x (Nat.le_trans hS.1 (born_A (base := H.size) h (by omega) (by omega)))
            have hKc := hG.1.sub (tys' := []) [] rfl
            refine va_callv (va_runI (As := [.int kind, .int place, .int (g 0 10 - dago), .int set, .int secret, .int value]) (rest := [.ref q]) hF (c_X1_init l D q H2.size kind place (g 0 10 - dago) set secret value) (cwI 6 hts gX2_find_X1_init rfl rfl rfl (hts (.initialized RX1) (by decide +kernel)) (hts (.methodLink RX2 120 yX1_init) (by decide +kernel)) (hts (.instanceMethod yX1_init) (by decide +kernel)) rfl (by decide +kernel) ⟨Nat.le_of_ble_eq_true rfl, Nat.le_of_ble_eq_true rfl⟩) ⟨fun a U g mk q => by obtain ⟨q0, q1, qP, qK, qD⟩ := q; exact ⟨q0, q1, qP, va_K.moved (u := U) (U := U.calling g mk a) (Vm.Alike.refl U.vm) qK, qD⟩, fun U hU hW => ⟨rfl, by rw [hU], by rw [hU]; exact hP2, va_K.moved hW.alike hKc, va_D1 _ _⟩⟩ rfl rfl hl.1 rfl (lv_room (Nat.le_of_ble_eq_true rfl)) dX2_find_134 ⟨Nat.le_of_ble_eq_true rfl, Nat.le_of_ble_eq_true rfl⟩) hS2 (fun x _ h => hFc x h) hFc (fun u t H3 locs3 ht hvm hw9 hB hz3 hk3 hS3 => ?_)
            obtain ⟨q1, k1, q2, k2, hP3, hK3, hD3⟩ := hB
            rw [ht] at hP3
            have hK3 := va_K.moved hvm.symm hK3
            have e1 : k1 = cy 0 := hG.int hK3 (k := 0) rfl
            have e2 : k2 = cy 0 := hG.int hK3 (k := 1) rfl
            subst e1
            subst e2
            have hw3 := hw.bornF hnl (by rw [hfj]; rw [if_neg (Nat.lt_irrefl n)]; decide) hbh hq2 hz2 ho2 hk3 hP3 hD3
            clear hw hw2 hP2 hP3 hD3 hk3 hz3 ho2 hK3 hS hS2
            obtain ⟨ad2, e2⟩ : ∃ ad2, ad2 = ad3 ad n q q1 q2 := ⟨_, rfl⟩
            have hq9 : q = ad2 (100 + 3 * n) := by rw [e2]; exact (ad3_a ad n q q1 q2).symm
            have h09 : ad 0 = ad2 0 := by rw [e2]; exact (ad3_o (by omega)).symm
            rw [← e2] at hw3
            rw [hq9]
            have hl : lv_has ls 10 [(8, .int (nI n)), (0, .ref (ad2 0)), (1, .int kind), (2, .int place), (3, .int dago), (4, .int set), (5, .int secret), (6, .int value), (7, .int room)] := h09 ▸ hl
            refine lv_astore (lv' := [(9, .ref (ad2 (100 + 3 * n))), (8, .int (nI n)), (0, .ref (ad2 0)), (1, .int kind), (2, .int place), (3, .int dago), (4, .int set), (5, .int secret), (6, .int value), (7, .int room)]) hx hb dX2_find_137 hl (by decide) rfl (fun ls hl => ?_)
            refine lv_aload hx hb dX2_find_139 (lv_at hl 0 rfl) ?_
            refine lv_aload_n hx hb dX2_find_141 rfl (lv_at hl 2 rfl) ?_
            refine kx_getL (v := .int (g 0 10)) hx hb hts hown hG hw3 i2 10 (by decide) f_47 (congrArg Value.int (by rw [gF_o (by omega)])) dX2_find_142 ?_
            refine lv_aload_n hx hb dX2_find_145 rfl (lv_at hl 2 rfl) ?_
            refine lv_iload_n hx hb dX2_find_146 rfl (lv_at hl 3 rfl) ?_
            have hv8 : vp_in kind 8 := inn_vp ok_1 (by decide)
            refine kx_do0 (st1 := [.int (if kind = 7 then 1 else g 4 kind.toNatClampNeg), .int (g 0 10), .ref (ad2 (100 + 3 * n))]) (kx_cv (As := [.int kind]) (rest := [.int (g 0 10), .ref (ad2 (100 + 3 * n))]) hF hG hw3 hS3 hl.1 kC_0 rfl (c_X2_termOf l hfl D cy base ad2 (n + 1) nc (gF g n (rowF kind place (g 0 10 - dago) secret value set)) kind hv8) gX2_find_X2_termOf rfl rfl rfl hd_X2_termOf ⟨Nat.le_of_ble_eq_true rfl, Nat.le_of_ble_eq_true rfl⟩ rfl rfl (Nat.le_of_ble_eq_true rfl) dX2_find_147 ⟨Nat.le_of_ble_eq_true rfl, Nat.le_of_ble_eq_true rfl⟩) hS3 (by rw [gF_o (by omega)]; rfl) (fun H locs hw hS => ?_)
            refine lv_iadd hx hb dX2_find_150 ?_
            refine kx_putF (v := (g 0 10 + (if kind = 7 then 1 else g 4 kind.toNatClampNeg))) hx hb hts hown hG hw hS i1 n (by omega) 11 (by decide) f_126 (by decide) (by decide) rfl rfl rfl dX2_find_151 (fun H locs hw hS => ?_)
            refine lv_aload hx hb dX2_find_154 (lv_at hl 0 rfl) ?_
            refine lv_iload hx hb dX2_find_156 (lv_at hl 9 rfl) ?_
            refine lv_aload_n hx hb dX2_find_158 rfl (lv_at hl 2 rfl) ?_
            refine kx_getL (v := .int (g 0 10)) hx hb hts hown hG hw i2 10 (by decide) f_47 (congrArg Value.int (by rw [sU_ne (by omega), gF_o (by omega)])) dX2_find_159 ?_
            refine kx_do0 (st1 := []) (kx_cv (As := [.int room, .int (g 0 10)]) (rest := []) hF hG hw hS hl.1 (kC_F (by omega) hw.2.2.1) rfl (c_X1_comeTo l hfl D cy base ad2 (n + 1) nc (sU (gF g n (rowF kind place (g 0 10 - dago) secret value set)) (100 + 3 * n) 11 (g 0 10 + (if kind = 7 then 1 else g 4 kind.toNatClampNeg))) n room (g 0 10) (by omega) ⟨0, by decide, by rw [sU_ne (by omega), gF_n]; rfl⟩) gX2_find_X1_comeTo rfl rfl rfl hd_X1_comeTo ⟨Nat.le_of_ble_eq_true rfl, Nat.le_of_ble_eq_true rfl⟩ rfl rfl (Nat.le_of_ble_eq_true rfl) dX2_find_162 ⟨Nat.le_of_ble_eq_true rfl, Nat.le_of_ble_eq_true rfl⟩) hS rfl (fun H locs hw hS => ?_)
            refine lv_aload_n hx hb dX2_find_165 rfl (lv_at hl 2 rfl) ?_
            refine kx_getL (v := .ref (ad2 6)) hx hb hts hown hG hw i2 5 (by decide) f_27 rfl dX2_find_166 ?_
            refine lv_iload hx hb dX2_find_169 (lv_at hl 1 rfl) ?_
            refine lv_aload hx hb dX2_find_171 (lv_at hl 0 rfl) ?_
            refine kx_aastF hx hb hG hw hS n (cl_nI (by omega)) (vp_in_nI (by omega) (by decide)) (by omega) dX2_find_173 (fun H locs hw hS => ?_)
            refine lv_aload_n hx hb dX2_find_174 rfl (lv_at hl 2 rfl) ?_
            refine lv_iload hx hb dX2_find_175 (lv_at hl 1 rfl) ?_
            refine lv_iconst (v := 1) hx hb dX2_find_177 (by decide) ?_
            refine lv_iadd hx hb dX2_find_178 ?_
            refine kx_putL (v := (nI n + (1 : Int32))) hx hb hts hown hG hw hS i2 8 (by decide) f_40 (by decide) rfl rfl rfl dX2_find_179 (fun H locs hw hS => ?_)
            refine lv_iload hx hb dX2_find_182 (lv_at hl 1 rfl) ?_
            exact kx_retI hQ hx hb hr hlk hw hS (Nat.le_of_ble_eq_true rfl) (Nat.le_of_ble_eq_true rfl) dX2_find_184 ⟨hK, rfl, ad2, fun k hk => by rw [e2]; exact ad3_o (by omega), rfl⟩
          · exact kx_throwIS (text := "no more finds") (is := 118) hQ hx hb hfl hown hG hw hS false (by decide +kernel) xk_IS xi_IS xa_IS (kEx_3 (by have h9 : n = 30 := (by have h8 : (30 : Int32) ≤ nI n := Int32.not_lt.mp c_103; have h7 := (nI_leI (a := 30) (b := n) (by omega) (by omega)).mp h8; omega); first | (simp only [kd3, ok_1, ok_5, ok_10, c_22, c_44, ok_59, ok_64, decide_eq_true c_72, if_pos c_72, decide_eq_false c_93, if_neg c_93, decide_eq_false c_103, if_neg c_103, decide_eq_true (show nI n = 30 from by rw [h9]; rfl)]; done) | (simp only [kd3, ok_1, ok_5, ok_10, c_22, c_44, ok_59, ok_64, decide_eq_true c_72, if_pos c_72, decide_eq_false c_93, if_neg c_93, decide_eq_false c_103, if_neg c_103, decide_eq_true (show nI n = 30 from by rw [h9]; rfl)]; rfl))) (hl.1.trans hml.symm) hT rfl dX2_find_106 dX2_find_109 dX2_find_110 dX2_find_112 dX2_find_115 ⟨by decide, Nat.le_of_ble_eq_true rfl, Nat.le_of_ble_eq_true rfl, Nat.le_of_ble_eq_true rfl⟩ hlk (Nat.le_of_ble_eq_true rfl) (Nat.le_of_ble_eq_true rfl)
      · exact kx_throwIA (text := "a word is hidden and not") (is := 116) hQ hx hb hfl hown hG hw hS false (by decide +kernel) xk_IA xi_IA xa_IA (kEx_2 (by first | (simp only [kd3, ok_1, ok_5, ok_10, c_22, c_44, ok_59, ok_64, decide_eq_false c_72, if_neg c_72]; done) | (simp only [kd3, ok_1, ok_5, ok_10, c_22, c_44, ok_59, ok_64, decide_eq_false c_72, if_neg c_72]; rfl) | (simp [kd3, ok_1, ok_5, ok_10, c_22, c_44, ok_59, ok_64, decide_eq_false c_72, if_neg c_72]; done))) (hl.1.trans hml.symm) hT rfl dX2_find_75 dX2_find_78 dX2_find_79 dX2_find_81 dX2_find_84 ⟨by decide, Nat.le_of_ble_eq_true rfl, Nat.le_of_ble_eq_true rfl, Nat.le_of_ble_eq_true rfl⟩ hlk (Nat.le_of_ble_eq_true rfl) (Nat.le_of_ble_eq_true rfl)
    · exact kx_throwIA (text := "value out of range") (is := 111) hQ hx hb hfl hown hG hw hS false (by decide +kernel) xk_IA xi_IA xa_IA (kEx_2 (by first | (simp only [kd3, ok_1, ok_5, ok_10, c_22, c_44]; done) | (simp only [kd3, ok_1, ok_5, ok_10, c_22, c_44]; rfl) | (simp [kd3, ok_1, ok_5, ok_10, c_22, c_44]; done))) (hl.1.trans hml.symm) hT rfl dX2_find_47 dX2_find_50 dX2_find_51 dX2_find_53 dX2_find_56 ⟨by decide, Nat.le_of_ble_eq_true rfl, Nat.le_of_ble_eq_true rfl, Nat.le_of_ble_eq_true rfl⟩ hlk (Nat.le_of_ble_eq_true rfl) (Nat.le_of_ble_eq_true rfl)
  · exact kx_throwIA (text := "daysAgo out of range") (is := 109) hQ hx hb hfl hown hG hw hS false (by decide +kernel) xk_IA xi_IA xa_IA (kEx_2 (by first | (simp only [kd3, ok_1, ok_5, ok_10, c_22]; done) | (simp only [kd3, ok_1, ok_5, ok_10, c_22]; rfl) | (simp [kd3, ok_1, ok_5, ok_10, c_22]; done))) (hl.1.trans hml.symm) hT rfl dX2_find_25 dX2_find_28 dX2_find_29 dX2_find_31 dX2_find_34 ⟨by decide, Nat.le_of_ble_eq_true rfl, Nat.le_of_ble_eq_true rfl, Nat.le_of_ble_eq_true rfl⟩ hlk (Nat.le_of_ble_eq_true rfl) (Nat.le_of_ble_eq_true rfl)
theorem hd_X2_claim : yX2_claim.cls = RX2 ∧ yX2_claim.cls ≠ "java/lang/invoke/MethodHandle" ∧ yX2_claim.cls ≠ "java/lang/invoke/VarHandle" ∧ (parseMethodDescriptor yX2_claim.desc).map (fun d => d.parameters.length) = some 5 := by decide +kernel
set_option maxHeartbeats 4000000 in
set_option maxRecDepth 100000 in
theorem c_X2_claim (l : Launch) (hfl : l.stackTraces = false) (D : va_G) (cy : Nat → ClassId) (base : Nat → Prop) (ad : Nat → Nat) (n nc : Nat) (g : sg) (kind : Int32) (place : Int32) (fr : Int32) (to : Int32) (set : Int32) (hcj : ∀ j, g 7 j = if j < nc then 1 else 0) (hfj6 : ∀ j, g 6 j = 1 → j < 30) (hcc : g 0 9 = nI nc) : kM l yX2_claim wsX2_claim (kR 7 12 100) D cy base ad n nc g [.ref (ad 0), .int kind, .int place, .int fr, .int to, .int set] (fun v u => kd3 (inn kind 0 7 && inn place 0 9) (inn fr 0 (g 0 10) && (inn to fr (g 0 10) && inn set 0 16777215)) (!decide (nI nc = 20)) = 0 ∧ v = some (.int (nI nc)) ∧ ∃ ad2 : Nat → Nat, (∀ k, k < 100 → ad2 k = ad k) ∧ u = (ad2, n, nc + 1, cClaim g nc kind place fr to set)) (kEx (kd3 (inn kind 0 7 && inn place 0 9) (inn fr 0 (g 0 10) && (inn to fr (g 0 10) && inn set 0 16777215)) (!decide (nI nc = 20)))) 12 100 := by
  refine kx_meth (cc := cX2_claim) (maxL := 7) (ret := (some .int)) (by decide) rfl (Nat.le_of_ble_eq_true rfl) ?_
  intro p e s m args below meth c ls hx hb hr hml hown hts hlk hT hG hw0 hS0 hl Q H locs hQ hw hS hH0 hlocs0
  have hl : lv_has ls 7 [(0, .ref (ad 0)), (1, .int kind), (2, .int place), (3, .int fr), (4, .int to), (5, .int set)] := hl
  have hown : s.vm.findClass RX2 = some m.cls := hown
  have hF : CallFix p m c cX2_claim 7 s args wsX2_claim RX2 := ⟨hx, hb, hml, hown, hts⟩
  have hn30 : n ≤ 30 := hw.2.2.1
  have hc20 : nc ≤ 20 := hw.2.2.2
  have hA : ∀ q : Nat, s.heap.size ≤ q → kA base q := hG.2.2.2.2.2.2.2
  clear hw0 hS0 hH0 hlocs0
  have i0 : ∀ w ∈ wsX00, w ∈ wsX2_claim := by decide +kernel
  have i2 : ∀ w ∈ wsX20, w ∈ wsX2_claim := by decide +kernel
  have f_33 := hts (.fieldLink RX2 33 "Lostroom" "claims" "[LLostroom$Claim;") (by decide +kernel)
  have f_44 := hts (.fieldLink RX2 44 "Lostroom" "claimCount" "I") (by decide +kernel)
  have f_47 := hts (.fieldLink RX2 47 "Lostroom" "day" "I") (by decide +kernel)
  have xk_IA := hts (.classLink RX2 77 "java/lang/IllegalArgumentException") (by decide +kernel)
  have xi_IA := hts (.initialized "java/lang/IllegalArgumentException") (by decide +kernel)
  have xa_IA : ∀ w ∈ (vx_atS RX2 81 "java/lang/IllegalArgumentException" kNm).filter goodWord, w.before args s = true := fun w h => hts w ((by decide +kernel : ∀ w ∈ (vx_atS RX2 81 "java/lang/IllegalArgumentException" kNm).filter goodWord, w ∈ wsX2_claim) w h)
  have xk_IS := hts (.classLink RX2 90 "java/lang/IllegalStateException") (by decide +kernel)
  have xi_IS := hts (.initialized "java/lang/IllegalStateException") (by decide +kernel)
  have xa_IS : ∀ w ∈ (vx_atS RX2 94 "java/lang/IllegalStateException" kNm).filter goodWord, w.before args s = true := fun w h => hts w ((by decide +kernel : ∀ w ∈ (vx_atS RX2 94 "java/lang/IllegalStateException" kNm).filter goodWord, w ∈ wsX2_claim) w h)
  refine lv_iload_n hx hb dX2_claim_0 rfl (lv_at hl 1 rfl) ?_
  refine kx_do (st1 := []) (kx_cs (As := [.int kind]) (rest := []) hF hG hw hS hl.1 (c_X2_requireKind l hfl D cy base ad n nc g kind ) gX2_claim_X2_requireKind rfl rfl rfl hd_X2_requireKind ⟨Nat.le_of_ble_eq_true rfl, Nat.le_of_ble_eq_true rfl⟩ rfl rfl (Nat.le_of_ble_eq_true rfl) dX2_claim_1 ⟨Nat.le_of_ble_eq_true rfl, Nat.le_of_ble_eq_true rfl⟩) hS rfl (fun E9 ce9 q9 H locs hX9 hw hS hc9 hv9 hcl9 => kx_out hQ hT hlk hw hS (kEx_to hX9 (by cases h9 : inn kind 0 7 <;> simp [rq, kd3, h9])) hc9 hv9 hcl9 (Nat.le_of_ble_eq_true rfl) (Nat.le_of_ble_eq_true rfl)) (fun ok_1 H locs hw hS => ?_)
  have v_kind : vp_in kind 8 := inn_vp (ok_1) (by decide)
  refine lv_iload_n hx hb dX2_claim_4 rfl (lv_at hl 2 rfl) ?_
  refine kx_do (st1 := []) (kx_cs (As := [.int place]) (rest := []) hF hG hw hS hl.1 (c_X2_requirePlace l hfl D cy base ad n nc g place ) gX2_claim_X2_requirePlace rfl rfl rfl hd_X2_requirePlace ⟨Nat.le_of_ble_eq_true rfl, Nat.le_of_ble_eq_true rfl⟩ rfl rfl (Nat.le_of_ble_eq_true rfl) dX2_claim_5 ⟨Nat.le_of_ble_eq_true rfl, Nat.le_of_ble_eq_true rfl⟩) hS rfl (fun E9 ce9 q9 H locs hX9 hw hS hc9 hv9 hcl9 => kx_out hQ hT hlk hw hS (kEx_to hX9 (by cases h9 : inn place 0 9 <;> simp [rq, kd3, h9, ok_1])) hc9 hv9 hcl9 (Nat.le_of_ble_eq_true rfl) (Nat.le_of_ble_eq_true rfl)) (fun ok_5 H locs hw hS => ?_)
  have v_place : vp_in place 10 := inn_vp (ok_5) (by decide)
  refine lv_iload_n hx hb dX2_claim_8 rfl (lv_at hl 3 rfl) ?_
  refine lv_iconst (v := 0) hx hb dX2_claim_9 (by decide) ?_
  refine lv_aload_n hx hb dX2_claim_10 rfl (lv_at hl 0 rfl) ?_
  refine kx_getL (v := .int (g 0 10)) hx hb hts hown hG hw i2 10 (by decide) f_47 rfl dX2_claim_11 ?_
  refine kx_do0 (st1 := [.int (b2 (inn fr (0 : Int32) (g 0 10)))]) (kx_cs (As := [.int fr, .int (0 : Int32), .int (g 0 10)]) (rest := []) hF hG hw hS hl.1 (c_X2_isWithin l hfl D cy base ad n nc g fr (0 : Int32) (g 0 10) ) gX2_claim_X2_isWithin rfl rfl rfl hd_X2_isWithin ⟨Nat.le_of_ble_eq_true rfl, Nat.le_of_ble_eq_true rfl⟩ rfl rfl (Nat.le_of_ble_eq_true rfl) dX2_claim_14 ⟨Nat.le_of_ble_eq_true rfl, Nat.le_of_ble_eq_true rfl⟩) hS rfl (fun H locs hw hS => ?_)
  refine kb_ne (tgt := 30) hx hb dX2_claim_17 (by decide) (fun c_17 => ?_) (fun c_17 => ?_)
  · refine lv_iload hx hb dX2_claim_30 (lv_at hl 4 rfl) ?_
    refine lv_iload_n hx hb dX2_claim_32 rfl (lv_at hl 3 rfl) ?_
    refine lv_aload_n hx hb dX2_claim_33 rfl (lv_at hl 0 rfl) ?_
    refine kx_getL (v := .int (g 0 10)) hx hb hts hown hG hw i2 10 (by decide) f_47 rfl dX2_claim_34 ?_
    refine kx_do0 (st1 := [.int (b2 (inn to fr (g 0 10)))]) (kx_cs (As := [.int to, .int fr, .int (g 0 10)]) (rest := []) hF hG hw hS hl.1 (c_X2_isWithin l hfl D cy base ad n nc g to fr (g 0 10) ) gX2_claim_X2_isWithin rfl rfl rfl hd_X2_isWithin ⟨Nat.le_of_ble_eq_true rfl, Nat.le_of_ble_eq_true rfl⟩ rfl rfl (Nat.le_of_ble_eq_true rfl) dX2_claim_37 ⟨Nat.le_of_ble_eq_true rfl, Nat.le_of_ble_eq_true rfl⟩) hS rfl (fun H locs hw hS => ?_)
    refine kb_ne (tgt := 53) hx hb dX2_claim_40 (by decide) (fun c_40 => ?_) (fun c_40 => ?_)
    · refine lv_iload hx hb dX2_claim_53 (lv_at hl 5 rfl) ?_
      refine kx_do (st1 := []) (kx_cs (As := [.int set]) (rest := []) hF hG hw hS hl.1 (c_X2_requireWords l hfl D cy base ad n nc g set ) gX2_claim_X2_requireWords rfl rfl rfl hd_X2_requireWords ⟨Nat.le_of_ble_eq_true rfl, Nat.le_of_ble_eq_true rfl⟩ rfl rfl (Nat.le_of_ble_eq_true rfl) dX2_claim_55 ⟨Nat.le_of_ble_eq_true rfl, Nat.le_of_ble_eq_true rfl⟩) hS rfl (fun E9 ce9 q9 H locs hX9 hw hS hc9 hv9 hcl9 => kx_out hQ hT hlk hw hS (kEx_to hX9 (by cases h9 : inn set 0 16777215 <;> simp [rq, kd3, h9, ok_1, ok_5, c_17, c_40])) hc9 hv9 hcl9 (Nat.le_of_ble_eq_true rfl) (Nat.le_of_ble_eq_true rfl)) (fun ok_55 H locs hw hS => ?_)
      refine lv_aload_n hx hb dX2_claim_58 rfl (lv_at hl 0 rfl) ?_
      refine kx_getL (v := .int (nI nc)) hx hb hts hown hG hw i2 9 (by decide) f_44 (congrArg Value.int (hcc)) dX2_claim_59 ?_
      refine lv_istore (lv' := [(6, .int (nI nc)), (0, .ref (ad 0)), (1, .int kind), (2, .int place), (3, .int fr), (4, .int to), (5, .int set)]) hx hb dX2_claim_62 hl (by decide) rfl (fun ls hl => ?_)
      refine lv_iload hx hb dX2_claim_64 (lv_at hl 0 rfl) ?_
      refine lv_if_lt (tgt := 79) hx hb dX2_claim_66 (by decide) (fun c_66 => ?_) (fun c_66 => ?_)
      · exact absurd c_66 (nI_pos (by omega))
      · refine lv_iload hx hb dX2_claim_69 (lv_at hl 0 rfl) ?_
        refine lv_aload_n hx hb dX2_claim_71 rfl (lv_at hl 1 rfl) ?_
        refine kx_getL (v := .ref (ad 7)) hx hb hts hown hG hw i2 6 (by decide) f_33 rfl dX2_claim_72 ?_
        refine kx_alen (v := 20) hx hb hG hw kC_7 2 rfl rfl dX2_claim_75 ?_
        refine lv_icmp_lt (tgt := 89) hx hb dX2_claim_76 (by decide) (fun c_76 => ?_) (fun c_76 => ?_)
        · have hnl : nc < 20 := by have h9 : ¬ (20 : Int32) ≤ nI nc := Int32.not_le.mpr c_76; exact Nat.not_le.mp (fun q => h9 (nI_le (a := 20) (b := nc) q (by omega)))
          have hne : (!decide (nI nc = 20)) = true := by rw [decide_eq_false]; rfl; intro q; have := (nI_eq (a := nc) (b := 20) (by omega) (by omega)).mp q; omega
          have hK : kd3 (inn kind 0 7 && inn place 0 9) (inn fr 0 (g 0 10) && (inn to fr (g 0 10) && inn set 0 16777215)) (!decide (nI nc = 20)) = 0 := by first | (simp only [kd3, hne, ok_1, ok_5, c_17, c_40, ok_55, decide_eq_false c_66, if_neg c_66, decide_eq_true c_76, if_pos c_76]; done) | (simp only [kd3, hne, ok_1, ok_5, c_17, c_40, ok_55, decide_eq_false c_66, if_neg c_66, decide_eq_true c_76, if_pos c_76]; rfl)
          have hbh : ∀ q : Nat, H.size ≤ q → base q := fun q h => hA q (Nat.le_trans hS.1 h)
          refine lv_aload_n hx hb dX2_claim_89 rfl (lv_at hl 1 rfl) ?_
          refine kx_getL (v := .ref (ad 7)) hx hb hts hown hG hw i2 6 (by decide) f_33 rfl dX2_claim_90 ?_
          refine lv_iload hx hb dX2_claim_93 (lv_at hl 0 rfl) ?_
          refine kx_new (own := RX2) (C := RX0) (T := TX0) (N := 10) (ci := 0) (fs := [.int 0, .int 0, .int 0, .int 0, .int 0, .int 0, .int 0, .int 0, .int 0, .int 0]) hx hb hts i0 tyX0 tyX0_ok hown (hts (.classLink RX2 31 RX0) (by decide +kernel)) (hts (.instantiable RX0 10) (by decide +kernel)) (hts (.initialized RX0) (by decide +kernel)) hG rfl (fun j hj => by rcases (show j = 0 ∨ j = 1 ∨ j = 2 ∨ j = 3 ∨ j = 4 ∨ j = 5 ∨ j = 6 ∨ j = 7 ∨ j = 8 ∨ j = 9 by omega) with rfl | rfl | rfl | rfl | rfl | rfl | rfl | rfl | rfl | rfl <;> rfl) (Nat.le_of_ble_eq_true rfl) (Nat.le_of_ble_eq_true rfl) hS dX2_claim_95 (fun q H2 hq2 hP2 hz2 ho2 hS2 => ?_)
          have hw2 : kW D cy base ad n nc g H2 := hw.kept ho2
          refine lv_dup hx hb dX2_claim_98 rfl ?_
          refine lv_iload hx hb dX2_claim_99 (lv_at hl 0 rfl) ?_
          refine lv_iload_n hx hb dX2_claim_101 rfl (lv_at hl 2 rfl) ?_
          refine lv_iload_n hx hb dX2_claim_102 rfl (lv_at hl 3 rfl) ?_
          refine lv_iload_n hx hb dX2_claim_103 rfl (lv_at hl 4 rfl) ?_
          refine lv_iload hx hb dX2_claim_104 (lv_at hl 5 rfl) ?_
          refine lv_iload hx hb dX2_claim_106 (lv_at hl 6 rfl) ?_
          have hFc : ∀ x, va_A [(q, .inr (0, [.int 0, .int 0, .int 0, .int 0, .int 0, .int 0, .int 0, .int 0, .int 0, .int 0]))] H2.size x → kA base x := fun x h => hA x (Nat.le_trans hS.1 (born_A (base := H.size) h (by omega) (by omega)))
          have hKc := hG.1.sub (tys' := []) [] rfl
          refine va_callv (va_runI (As := [.int (nI nc), .int kind, .int place, .int fr, .int to, .int set]) (rest := [.ref q, .int (nI nc), .ref (ad 7)]) hF (c_X0_init l D q H2.size (nI nc) kind place fr to set) (cwI 6 hts gX2_claim_X0_init rfl rfl rfl (hts (.initialized RX0) (by decide +kernel)) (hts (.methodLink RX2 176 yX0_init) (by decide +kernel)) (hts (.instanceMethod yX0_init) (by decide +kernel)) rfl (by decide +kernel) ⟨Nat.le_of_ble_eq_true rfl, Nat.le_of_ble_eq_true rfl⟩) ⟨fun a U g mk q => by obtain ⟨q0, q1, qP, qK, qD⟩ := q; exact ⟨q0, q1, qP, va_K.moved (u := U) (U := U.calling g mk a) (Vm.Alike.refl U.vm) qK, qD⟩, fun U hU hW => ⟨rfl, by rw [hU], by rw [hU]; exact hP2, va_K.moved hW.alike hKc, va_D1 _ _⟩⟩ rfl rfl hl.1 rfl (lv_room (Nat.le_of_ble_eq_true rfl)) dX2_claim_108 ⟨Nat.le_of_ble_eq_true rfl, Nat.le_of_ble_eq_true rfl⟩) hS2 (fun x _ h => hFc x h) hFc (fun u t H3 locs3 ht hvm hw9 hB hz3 hk3 hS3 => ?_)
          obtain ⟨hP3, hK3, hD3⟩ := hB
          rw [ht] at hP3
          have hw3 := hw.bornC hnl hfj6 (by rw [hcj]; rw [if_neg (Nat.lt_irrefl nc)]; decide) hbh hq2 hz2 ho2 hk3 hP3
          clear hw hw2 hP2 hP3 hD3 hk3 hz3 ho2 hK3 hS hS2
          obtain ⟨ad2, e2⟩ : ∃ ad2, ad2 = ad1 ad nc q := ⟨_, rfl⟩
          have hq9 : q = ad2 (200 + nc) := by rw [e2]; exact (if_pos rfl : ad1 ad nc q (200 + nc) = q).symm
          have h09 : ad 0 = ad2 0 := by rw [e2]; exact (ad1_o (by omega)).symm
          have h79 : ad 7 = ad2 7 := by rw [e2]; exact (ad1_o (by omega)).symm
          rw [← e2] at hw3
          rw [hq9, h79]
          have hl : lv_has ls 7 [(6, .int (nI nc)), (0, .ref (ad2 0)), (1, .int kind), (2, .int place), (3, .int fr), (4, .int to), (5, .int set)] := h09 ▸ hl
          refine kx_aastC hx hb hG hw3 hS3 nc (cl_nI (by omega)) (vp_in_nI (by omega) (by decide)) (by omega) dX2_claim_111 (fun H locs hw hS => ?_)
          refine lv_aload_n hx hb dX2_claim_112 rfl (lv_at hl 1 rfl) ?_
          refine lv_iload hx hb dX2_claim_113 (lv_at hl 0 rfl) ?_
          refine lv_iconst (v := 1) hx hb dX2_claim_115 (by decide) ?_
          refine lv_iadd hx hb dX2_claim_116 ?_
          refine kx_putL (v := (nI nc + (1 : Int32))) hx hb hts hown hG hw hS i2 9 (by decide) f_44 (by decide) rfl rfl rfl dX2_claim_117 (fun H locs hw hS => ?_)
          refine lv_iload hx hb dX2_claim_120 (lv_at hl 0 rfl) ?_
          exact kx_retI hQ hx hb hr hlk hw hS (Nat.le_of_ble_eq_true rfl) (Nat.le_of_ble_eq_true rfl) dX2_claim_122 ⟨hK, rfl, ad2, fun k hk => by rw [e2]; exact ad1_o (by omega), rfl⟩
        · exact kx_throwIS (text := "no more claims") (is := 174) hQ hx hb hfl hown hG hw hS false (by decide +kernel) xk_IS xi_IS xa_IS (kEx_3 (by have h9 : nc = 20 := (by have h8 : (20 : Int32) ≤ nI nc := Int32.not_lt.mp c_76; have h7 := (nI_leI (a := 20) (b := nc) (by omega) (by omega)).mp h8; omega); first | (simp only [kd3, ok_1, ok_5, c_17, c_40, ok_55, decide_eq_false c_66, if_neg c_66, decide_eq_false c_76, if_neg c_76, decide_eq_true (show nI nc = 20 from by rw [h9]; rfl)]; done) | (simp only [kd3, ok_1, ok_5, c_17, c_40, ok_55, decide_eq_false c_66, if_neg c_66, decide_eq_false c_76, if_neg c_76, decide_eq_true (show nI nc = 20 from by rw [h9]; rfl)]; rfl))) (hl.1.trans hml.symm) hT rfl dX2_claim_79 dX2_claim_82 dX2_claim_83 dX2_claim_85 dX2_claim_88 ⟨by decide, Nat.le_of_ble_eq_true rfl, Nat.le_of_ble_eq_true rfl, Nat.le_of_ble_eq_true rfl⟩ hlk (Nat.le_of_ble_eq_true rfl) (Nat.le_of_ble_eq_true rfl)
    · exact kx_throwIA (text := "to out of range") (is := 172) hQ hx hb hfl hown hG hw hS false (by decide +kernel) xk_IA xi_IA xa_IA (kEx_2 (by first | (simp only [kd3, ok_1, ok_5, c_17, c_40]; done) | (simp only [kd3, ok_1, ok_5, c_17, c_40]; rfl) | (simp [kd3, ok_1, ok_5, c_17, c_40]; done))) (hl.1.trans hml.symm) hT rfl dX2_claim_43 dX2_claim_46 dX2_claim_47 dX2_claim_49 dX2_claim_52 ⟨by decide, Nat.le_of_ble_eq_true rfl, Nat.le_of_ble_eq_true rfl, Nat.le_of_ble_eq_true rfl⟩ hlk (Nat.le_of_ble_eq_true rfl) (Nat.le_of_ble_eq_true rfl)
  · exact kx_throwIA (text := "from out of range") (is := 170) hQ hx hb hfl hown hG hw hS false (by decide +kernel) xk_IA xi_IA xa_IA (kEx_2 (by first | (simp only [kd3, ok_1, ok_5, c_17]; done) | (simp only [kd3, ok_1, ok_5, c_17]; rfl) | (simp [kd3, ok_1, ok_5, c_17]; done))) (hl.1.trans hml.symm) hT rfl dX2_claim_20 dX2_claim_23 dX2_claim_24 dX2_claim_26 dX2_claim_29 ⟨by decide, Nat.le_of_ble_eq_true rfl, Nat.le_of_ble_eq_true rfl, Nat.le_of_ble_eq_true rfl⟩ hlk (Nat.le_of_ble_eq_true rfl) (Nat.le_of_ble_eq_true rfl)
