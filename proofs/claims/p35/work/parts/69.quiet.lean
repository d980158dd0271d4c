/-! walks laid by wip/p35/kgen.py, kall.py -/
theorem hd_L_isQuiet : yL_isQuiet.cls ≠ "java/lang/invoke/MethodHandle" ∧ yL_isQuiet.cls ≠ "java/lang/invoke/VarHandle" ∧ (parseMethodDescriptor yL_isQuiet.desc).map (fun d => d.parameters.length) = some 2 := by decide +kernel
set_option maxHeartbeats 4000000 in
set_option maxRecDepth 100000 in
theorem c_L_isQuiet (l : Launch) (hfl : l.stackTraces = false) (D : va_G) (cy : Nat → ClassId) (base : Nat → Prop) (ad : Nat → Nat) (n nc : Nat) (g : sg) (v1 : Int32) (hI : Inv n nc g) : kM l yL_isQuiet wsL_isQuiet (kR 10 40 300) D cy base ad n nc g [.ref (ad 0), .int v1] (kD True (some (.int (b2 true))) ad n nc g) kNo 40 300 := by
  refine kx_meth (cc := cL_isQuiet) (maxL := 13) (ret := (some .boolean)) (by decide) rfl (Nat.le_of_ble_eq_true rfl) ?_
  intro p e s m args below meth c ls hx hb hr hml hown hts hlk hT hG hw0 hS0 hl Q H locs hQ hw hS hH0 hlocs0
  have hl : lv_has ls 13 [(0, .ref (ad 0)), (1, .int v1)] := hl
  have hown : s.vm.findClass RL = some m.cls := hown
  have hF : CallFix p m c cL_isQuiet 13 s args wsL_isQuiet RL := ⟨hx, hb, hml, hown, hts⟩
  have hn30 : n ≤ 30 := hw.2.2.1
  have hc20 : nc ≤ 20 := hw.2.2.2
  clear hw0 hS0 hH0 hlocs0
  have k_80 := hts (.constant RL 80 (-2100000000)) (by decide +kernel)
  have hfr := hI.fr
  have hcr := hI.cr
  have hR := hI.R
  have hh := hI.hh
  have hz := hI.hz
  refine lv_iload_n hx hb dL_isQuiet_0 rfl (lv_at hl 1 rfl) ?_
  refine lv_bipush (v := 8) hx hb dL_isQuiet_1 (by decide) ?_
  refine kx_do0 (st1 := [.int (lowF v1 (8 : Int32))]) (kx_cs (As := [.int v1, .int (8 : Int32)]) (rest := []) hF hG hw hS hl.1 (c_L_low l hfl D cy base ad n nc g v1 (8 : Int32) (by decide +kernel)) gL_isQuiet_L_low rfl rfl rfl hd_L_low ⟨Nat.le_of_ble_eq_true rfl, Nat.le_of_ble_eq_true rfl⟩ rfl rfl (Nat.le_of_ble_eq_true rfl) dL_isQuiet_3 ⟨Nat.le_of_ble_eq_true rfl, Nat.le_of_ble_eq_true rfl⟩) hS rfl (fun H locs hw hS => ?_)
  refine lv_istore_n (lv' := [(2, .int (lowF v1 (8 : Int32))), (0, .ref (ad 0)), (1, .int v1)]) hx hb dL_isQuiet_6 rfl hl (by decide) rfl (fun ls hl => ?_)
  refine lv_iload_n hx hb dL_isQuiet_7 rfl (lv_at hl 2 rfl) ?_
  refine lv_iconst (v := 3) hx hb dL_isQuiet_8 (by decide) ?_
  refine lv_ishr hx hb dL_isQuiet_9 ?_
  refine lv_bipush (v := 10) hx hb dL_isQuiet_10 (by decide) ?_
  refine kx_do0 (st1 := [.int (lowF (v1 >>> ((3 : Int32) &&& 31)) (10 : Int32))]) (kx_cs (As := [.int (v1 >>> ((3 : Int32) &&& 31)), .int (10 : Int32)]) (rest := []) hF hG hw hS hl.1 (c_L_low l hfl D cy base ad n nc g (v1 >>> ((3 : Int32) &&& 31)) (10 : Int32) (by decide +kernel)) gL_isQuiet_L_low rfl rfl rfl hd_L_low ⟨Nat.le_of_ble_eq_true rfl, Nat.le_of_ble_eq_true rfl⟩ rfl rfl (Nat.le_of_ble_eq_true rfl) dL_isQuiet_12 ⟨Nat.le_of_ble_eq_true rfl, Nat.le_of_ble_eq_true rfl⟩) hS rfl (fun H locs hw hS => ?_)
  refine lv_istore_n (lv' := [(3, .int (lowF (v1 >>> ((3 : Int32) &&& 31)) (10 : Int32))), (2, .int (lowF v1 (8 : Int32))), (0, .ref (ad 0)), (1, .int v1)]) hx hb dL_isQuiet_15 rfl hl (by decide) rfl (fun ls hl => ?_)
  refine lv_iload_n hx hb dL_isQuiet_16 rfl (lv_at hl 3 rfl) ?_
  refine lv_iconst (v := 4) hx hb dL_isQuiet_17 (by decide) ?_
  refine lv_ishr hx hb dL_isQuiet_18 ?_
  refine lv_bipush (v := 24) hx hb dL_isQuiet_19 (by decide) ?_
  refine kx_do0 (st1 := [.int (lowF (v1 >>> ((4 : Int32) &&& 31)) (24 : Int32))]) (kx_cs (As := [.int (v1 >>> ((4 : Int32) &&& 31)), .int (24 : Int32)]) (rest := []) hF hG hw hS hl.1 (c_L_low l hfl D cy base ad n nc g (v1 >>> ((4 : Int32) &&& 31)) (24 : Int32) (by decide +kernel)) gL_isQuiet_L_low rfl rfl rfl hd_L_low ⟨Nat.le_of_ble_eq_true rfl, Nat.le_of_ble_eq_true rfl⟩ rfl rfl (Nat.le_of_ble_eq_true rfl) dL_isQuiet_21 ⟨Nat.le_of_ble_eq_true rfl, Nat.le_of_ble_eq_true rfl⟩) hS rfl (fun H locs hw hS => ?_)
  refine lv_istore (lv' := [(4, .int (lowF (v1 >>> ((4 : Int32) &&& 31)) (24 : Int32))), (3, .int (lowF (v1 >>> ((3 : Int32) &&& 31)) (10 : Int32))), (2, .int (lowF v1 (8 : Int32))), (0, .ref (ad 0)), (1, .int v1)]) hx hb dL_isQuiet_24 hl (by decide) rfl (fun ls hl => ?_)
  refine lv_iload hx hb dL_isQuiet_26 (lv_at hl 0 rfl) ?_
  refine lv_iconst (v := 1) hx hb dL_isQuiet_28 (by decide) ?_
  refine lv_iadd hx hb dL_isQuiet_29 ?_
  refine lv_iload_n hx hb dL_isQuiet_30 rfl (lv_at hl 4 rfl) ?_
  refine lv_bipush (v := 6) hx hb dL_isQuiet_31 (by decide) ?_
  refine lv_ishr hx hb dL_isQuiet_33 ?_
  refine lv_bipush (v := 23) hx hb dL_isQuiet_34 (by decide) ?_
  refine kx_do0 (st1 := [.int (lowF (v1 >>> ((6 : Int32) &&& 31)) (23 : Int32)), .int ((lowF (v1 >>> ((4 : Int32) &&& 31)) (24 : Int32)) + (1 : Int32))]) (kx_cs (As := [.int (v1 >>> ((6 : Int32) &&& 31)), .int (23 : Int32)]) (rest := [.int ((lowF (v1 >>> ((4 : Int32) &&& 31)) (24 : Int32)) + (1 : Int32))]) hF hG hw hS hl.1 (c_L_low l hfl D cy base ad n nc g (v1 >>> ((6 : Int32) &&& 31)) (23 : Int32) (by decide +kernel)) gL_isQuiet_L_low rfl rfl rfl hd_L_low ⟨Nat.le_of_ble_eq_true rfl, Nat.le_of_ble_eq_true rfl⟩ rfl rfl (Nat.le_of_ble_eq_true rfl) dL_isQuiet_36 ⟨Nat.le_of_ble_eq_true rfl, Nat.le_of_ble_eq_true rfl⟩) hS rfl (fun H locs hw hS => ?_)
  refine lv_iadd hx hb dL_isQuiet_39 ?_
  refine lv_bipush (v := 24) hx hb dL_isQuiet_40 (by decide) ?_
  refine lv_irem hx hb dL_isQuiet_42 (by decide +kernel) ?_
  refine lv_istore (lv' := [(5, .int ((((lowF (v1 >>> ((4 : Int32) &&& 31)) (24 : Int32)) + (1 : Int32)) + (lowF (v1 >>> ((6 : Int32) &&& 31)) (23 : Int32))) - (((lowF (v1 >>> ((4 : Int32) &&& 31)) (24 : Int32)) + (1 : Int32)) + (lowF (v1 >>> ((6 : Int32) &&& 31)) (23 : Int32))) / (24 : Int32) * (24 : Int32))), (4, .int (lowF (v1 >>> ((4 : Int32) &&& 31)) (24 : Int32))), (3, .int (lowF (v1 >>> ((3 : Int32) &&& 31)) (10 : Int32))), (2, .int (lowF v1 (8 : Int32))), (0, .ref (ad 0)), (1, .int v1)]) hx hb dL_isQuiet_43 hl (by decide) rfl (fun ls hl => ?_)
  obtain ⟨a, b, ha24, hb24, hab, ea, eb⟩ := two_w (v1 >>> ((4 : Int32) &&& 31)) (v1 >>> ((6 : Int32) &&& 31))
  obtain ⟨i9, e_i⟩ : ∃ i9 : Int32, i9 = (lowF v1 (8 : Int32)) := ⟨_, rfl⟩
  obtain ⟨k9, e_k⟩ : ∃ k9 : Int32, k9 = (lowF (v1 >>> ((3 : Int32) &&& 31)) (10 : Int32)) := ⟨_, rfl⟩
  have hl : lv_has ls 13 [(5, .int (nI b)), (4, .int (nI a)), (3, .int k9), (2, .int i9), (0, .ref (ad 0)), (1, .int v1)] := by rw [← eb, ← ea, e_i, e_k]; exact (lv_sub hl [0, 1, 2, 3, 4, 5] rfl)
  clear ea eb e_i e_k
  refine lv_aload_n hx hb dL_isQuiet_45 rfl (lv_at hl 4 rfl) ?_
  refine lv_bipush (v := 19) hx hb dL_isQuiet_46 (by decide) ?_
  refine lv_iload_n hx hb dL_isQuiet_48 rfl (lv_at hl 2 rfl) ?_
  refine lv_iload_n hx hb dL_isQuiet_49 rfl (lv_at hl 3 rfl) ?_
  refine lv_iconst (v := 0) hx hb dL_isQuiet_50 (by decide) ?_
  refine kx_do (st1 := [.int ((dF_19 n nc g k9 i9).1)]) (kx_csH (As := [.ref (ad 0), .int (19 : Int32), .int k9, .int i9, .int (0 : Int32)]) (rest := []) hF hG hw hS hl.1 (c_L_does_19 l hfl D cy base ad n nc g k9 i9 (0 : Int32) (by first | assumption | omega | exact mR_9 (by assumption) _ _ | simp [sU, hI]) (by first | assumption | omega | exact mR_9 (by assumption) _ _ | simp [sU, hI]) (by first | assumption | omega | exact mR_9 (by assumption) _ _ | simp [sU, hI])) gL_isQuiet_L_does rfl rfl rfl hd_L_does ⟨Nat.le_of_ble_eq_true rfl, Nat.le_of_ble_eq_true rfl⟩ rfl rfl (Nat.le_of_ble_eq_true rfl) dL_isQuiet_51 ⟨Nat.le_of_ble_eq_true rfl, Nat.le_of_ble_eq_true rfl⟩) hS rfl (fun _ _ _ _ _ h => h.elim) (fun _ H locs hw hS => ?_)
  refine lv_istore (lv' := [(6, .int ((dF_19 n nc g k9 i9).1)), (5, .int (nI b)), (4, .int (nI a)), (3, .int k9), (2, .int i9), (0, .ref (ad 0)), (1, .int v1)]) hx hb dL_isQuiet_54 hl (by decide) rfl (fun ls hl => ?_)
  refine lv_aload_n hx hb dL_isQuiet_56 rfl (lv_at hl 5 rfl) ?_
  refine lv_bipush (v := 26) hx hb dL_isQuiet_57 (by decide) ?_
  refine lv_iload_n hx hb dL_isQuiet_59 rfl (lv_at hl 4 rfl) ?_
  refine lv_iconst (v := 2) hx hb dL_isQuiet_60 (by decide) ?_
  refine lv_iconst (v := 0) hx hb dL_isQuiet_61 (by decide) ?_
  refine kx_do (st1 := [.int ((dF_26 n nc g i9 (2 : Int32)).1)]) (kx_csH (As := [.ref (ad 0), .int (26 : Int32), .int i9, .int (2 : Int32), .int (0 : Int32)]) (rest := []) hF hG hw hS hl.1 (c_L_does_26 l hfl D cy base ad n nc g i9 (2 : Int32) (0 : Int32) (by first | assumption | omega | exact mR_9 (by assumption) _ _ | simp [sU, hI])) gL_isQuiet_L_does rfl rfl rfl hd_L_does ⟨Nat.le_of_ble_eq_true rfl, Nat.le_of_ble_eq_true rfl⟩ rfl rfl (Nat.le_of_ble_eq_true rfl) dL_isQuiet_62 ⟨Nat.le_of_ble_eq_true rfl, Nat.le_of_ble_eq_true rfl⟩) hS rfl (fun _ _ _ _ _ h => h.elim) (fun _ H locs hw hS => ?_)
  refine lv_istore (lv' := [(7, .int ((dF_26 n nc g i9 (2 : Int32)).1)), (6, .int ((dF_19 n nc g k9 i9).1)), (5, .int (nI b)), (4, .int (nI a)), (3, .int k9), (2, .int i9), (0, .ref (ad 0)), (1, .int v1)]) hx hb dL_isQuiet_65 hl (by decide) rfl (fun ls hl => ?_)
  refine lv_iload hx hb dL_isQuiet_67 (lv_at hl 0 rfl) ?_
  refine lv_if_ge (tgt := 77) hx hb dL_isQuiet_69 (by decide) (fun c_69 => ?_) (fun c_69 => ?_)
  · refine lv_aload_n hx hb dL_isQuiet_77 rfl (lv_at hl 6 rfl) ?_
    refine lv_bipush (v := 11) hx hb dL_isQuiet_78 (by decide) ?_
    refine lv_iload_n hx hb dL_isQuiet_80 rfl (lv_at hl 5 rfl) ?_
    refine lv_iload hx hb dL_isQuiet_81 (lv_at hl 0 rfl) ?_
    refine lv_iconst (v := 0) hx hb dL_isQuiet_83 (by decide) ?_
    refine kx_do (st1 := [.int ((dF_11 n nc g i9 ((dF_26 n nc g i9 (2 : Int32)).1)).1)]) (kx_csH (As := [.ref (ad 0), .int (11 : Int32), .int i9, .int ((dF_26 n nc g i9 (2 : Int32)).1), .int (0 : Int32)]) (rest := []) hF hG hw hS hl.1 (c_L_does_11 l hfl D cy base ad n nc g i9 ((dF_26 n nc g i9 (2 : Int32)).1) (0 : Int32) (by first | assumption | omega | exact mR_9 (by assumption) _ _ | simp [sU, hI]) (by first | assumption | omega | exact mR_9 (by assumption) _ _ | simp [sU, hI])) gL_isQuiet_L_does rfl rfl rfl hd_L_does ⟨Nat.le_of_ble_eq_true rfl, Nat.le_of_ble_eq_true rfl⟩ rfl rfl (Nat.le_of_ble_eq_true rfl) dL_isQuiet_84 ⟨Nat.le_of_ble_eq_true rfl, Nat.le_of_ble_eq_true rfl⟩) hS rfl (fun _ _ _ _ _ h => h.elim) (fun _ H locs hw hS => ?_)
    have q9 := tell_q hI i9 (Int32.not_lt.mpr c_69)
    have hw : kW D cy base ad n nc (told2 n nc g i9).2 H := hw
    rw [q9.1] at hw
    have q9 := q9.2
    refine lv_istore (lv' := [(8, .int ((dF_11 n nc g i9 ((dF_26 n nc g i9 (2 : Int32)).1)).1)), (7, .int ((dF_26 n nc g i9 (2 : Int32)).1)), (6, .int ((dF_19 n nc g k9 i9).1)), (5, .int (nI b)), (4, .int (nI a)), (3, .int k9), (2, .int i9), (0, .ref (ad 0)), (1, .int v1)]) hx hb dL_isQuiet_87 hl (by decide) rfl (fun ls hl => ?_)
    refine lv_aload_n hx hb dL_isQuiet_89 rfl (lv_at hl 7 rfl) ?_
    refine lv_bipush (v := 9) hx hb dL_isQuiet_90 (by decide) ?_
    refine lv_iload_n hx hb dL_isQuiet_92 rfl (lv_at hl 5 rfl) ?_
    refine lv_iconst (v := 1) hx hb dL_isQuiet_93 (by decide) ?_
    refine lv_iconst (v := 0) hx hb dL_isQuiet_94 (by decide) ?_
    refine kx_do (st1 := [.int ((dF_9 n nc g k9 (1 : Int32)).1)]) (kx_csH (As := [.ref (ad 0), .int (9 : Int32), .int k9, .int (1 : Int32), .int (0 : Int32)]) (rest := []) hF hG hw hS hl.1 (c_L_does_9 l hfl D cy base ad n nc g k9 (1 : Int32) (0 : Int32) (by first | assumption | omega | exact mR_9 (by assumption) _ _ | simp [sU, hI]) (by first | assumption | omega | exact mR_9 (by assumption) _ _ | simp [sU, hI])) gL_isQuiet_L_does rfl rfl rfl hd_L_does ⟨Nat.le_of_ble_eq_true rfl, Nat.le_of_ble_eq_true rfl⟩ rfl rfl (Nat.le_of_ble_eq_true rfl) dL_isQuiet_95 ⟨Nat.le_of_ble_eq_true rfl, Nat.le_of_ble_eq_true rfl⟩) hS rfl (fun _ _ _ _ _ h => h.elim) (fun _ H locs hw hS => ?_)
    refine lv_iconst (v := 1) hx hb dL_isQuiet_98 (by decide) ?_
    have hj_107_0 : ∀ (H : Heap) (locs : List Loc) (ls : Array Slot), kW D cy base ad n nc ((dF_9 n nc g k9 (1 : Int32)).2) H → va_S (kA base) s.heap H locs → lv_has ls 13 [(8, .int ((dF_11 n nc g i9 ((dF_26 n nc g i9 (2 : Int32)).1)).1)), (7, .int ((dF_26 n nc g i9 (2 : Int32)).1)), (6, .int ((dF_19 n nc g k9 i9).1)), (5, .int (nI b)), (4, .int (nI a)), (3, .int k9), (2, .int i9), (0, .ref (ad 0)), (1, .int v1)] → W p l e (kR 10 40 300) s m args below meth c H locs 9 54 Q (F0 m 107 ls [.int (b2 (decide (((dF_9 n nc g k9 (1 : Int32)).1) = (1 : Int32))))]) := by
      intro H locs ls hw hS hl
      refine lv_istore (lv' := [(9, .int (b2 (decide (((dF_9 n nc g k9 (1 : Int32)).1) = (1 : Int32))))), (8, .int ((dF_11 n nc g i9 ((dF_26 n nc g i9 (2 : Int32)).1)).1)), (7, .int ((dF_26 n nc g i9 (2 : Int32)).1)), (6, .int ((dF_19 n nc g k9 i9).1)), (5, .int (nI b)), (4, .int (nI a)), (3, .int k9), (2, .int i9), (0, .ref (ad 0)), (1, .int v1)]) hx hb dL_isQuiet_107 hl (by decide) rfl (fun ls hl => ?_)
      have hI3 : Inv n nc ((dF_9 n nc g k9 (1 : Int32)).2) := (di_9 hI _ _).1
      have hfr := hI3.fr
      have hcr := hI3.cr
      have hR := hI3.R
      have hh := hI3.hh
      have hz := hI3.hz
      refine lv_aload_n hx hb dL_isQuiet_109 rfl (lv_at hl 8 rfl) ?_
      refine lv_bipush (v := 9) hx hb dL_isQuiet_110 (by decide) ?_
      refine lv_iload_n hx hb dL_isQuiet_112 rfl (lv_at hl 6 rfl) ?_
      refine lv_iload hx hb dL_isQuiet_113 (lv_at hl 0 rfl) ?_
      have hj_123_1 : ∀ (H : Heap) (locs : List Loc) (ls : Array Slot), kW D cy base ad n nc ((dF_9 n nc g k9 (1 : Int32)).2) H → va_S (kA base) s.heap H locs → lv_has ls 13 [(9, .int (b2 (decide (((dF_9 n nc g k9 (1 : Int32)).1) = (1 : Int32))))), (8, .int ((dF_11 n nc g i9 ((dF_26 n nc g i9 (2 : Int32)).1)).1)), (7, .int ((dF_26 n nc g i9 (2 : Int32)).1)), (6, .int ((dF_19 n nc g k9 i9).1)), (5, .int (nI b)), (4, .int (nI a)), (3, .int k9), (2, .int i9), (0, .ref (ad 0)), (1, .int v1)] → W p l e (kR 10 40 300) s m args below meth c H locs 9 54 Q (F0 m 123 ls [.int (b2 (decide (((dF_9 n nc g k9 (1 : Int32)).1) = (1 : Int32)))), .int k9, .int (9 : Int32), .ref (ad 0)]) := by
        intro H locs ls hw hS hl
        refine lv_iconst (v := 0) hx hb dL_isQuiet_123 (by decide) ?_
        refine kx_do (st1 := [.int ((dF_9 n nc ((dF_9 n nc g k9 (1 : Int32)).2) k9 (b2 (decide (((dF_9 n nc g k9 (1 : Int32)).1) = (1 : Int32))))).1)]) (kx_csH (As := [.ref (ad 0), .int (9 : Int32), .int k9, .int (b2 (decide (((dF_9 n nc g k9 (1 : Int32)).1) = (1 : Int32)))), .int (0 : Int32)]) (rest := []) hF hG hw hS hl.1 (c_L_does_9 l hfl D cy base ad n nc ((dF_9 n nc g k9 (1 : Int32)).2) k9 (b2 (decide (((dF_9 n nc g k9 (1 : Int32)).1) = (1 : Int32)))) (0 : Int32) (by first | assumption | omega | exact mR_9 (by assumption) _ _ | simp [sU, hI]) (by first | assumption | omega | exact mR_9 (by assumption) _ _ | simp [sU, hI])) gL_isQuiet_L_does rfl rfl rfl hd_L_does ⟨Nat.le_of_ble_eq_true rfl, Nat.le_of_ble_eq_true rfl⟩ rfl rfl (Nat.le_of_ble_eq_true rfl) dL_isQuiet_124 ⟨Nat.le_of_ble_eq_true rfl, Nat.le_of_ble_eq_true rfl⟩) hS rfl (fun _ _ _ _ _ h => h.elim) (fun _ H locs hw hS => ?_)
        have hw : kW D cy base ad n nc (hd2 n nc g k9).2 H := hw
        rw [(hold_q hI k9).1] at hw
        have hfr := hI.fr
        have hcr := hI.cr
        have hR := hI.R
        have hh := hI.hh
        have hz := hI.hz
        refine kx_top (v := (hd2 n nc g k9).1) (rfl) ?_
        refine lv_istore (lv' := [(10, .int ((hd2 n nc g k9).1)), (9, .int (b2 (decide (((dF_9 n nc g k9 (1 : Int32)).1) = (1 : Int32))))), (8, .int ((dF_11 n nc g i9 ((dF_26 n nc g i9 (2 : Int32)).1)).1)), (7, .int ((dF_26 n nc g i9 (2 : Int32)).1)), (6, .int ((dF_19 n nc g k9 i9).1)), (5, .int (nI b)), (4, .int (nI a)), (3, .int k9), (2, .int i9), (0, .ref (ad 0)), (1, .int v1)]) hx hb dL_isQuiet_127 hl (by decide) rfl (fun ls hl => ?_)
        refine lv_aload_n hx hb dL_isQuiet_129 rfl (lv_at hl 9 rfl) ?_
        refine lv_iload hx hb dL_isQuiet_130 (lv_at hl 6 rfl) ?_
        refine lv_iload hx hb dL_isQuiet_132 (lv_at hl 5 rfl) ?_
        refine kx_sure (v1 := (b2 (tb g 1 (nI a) (nI b)))) (g2 := (tg g 1 (nI a) (nI b))) (kx_cv (As := [.int (nI a), .int (nI b)]) (rest := []) hF hG hw hS hl.1 kC_0 rfl (c_X2_near l hfl D cy base ad n nc g (nI a) (nI b) ) gL_isQuiet_X2_near rfl rfl rfl hd_X2_near ⟨Nat.le_of_ble_eq_true rfl, Nat.le_of_ble_eq_true rfl⟩ rfl rfl (Nat.le_of_ble_eq_true rfl) dL_isQuiet_134 ⟨Nat.le_of_ble_eq_true rfl, Nat.le_of_ble_eq_true rfl⟩) hS (fun E9 hE9 => kEx_no hE9 (near_K ha24 hb24 hab)) (rfl) (rfl) (fun H locs hw hS => ?_)
        refine lv_istore (lv' := [(11, .int (b2 (tb g 1 (nI a) (nI b)))), (10, .int ((hd2 n nc g k9).1)), (9, .int (b2 (decide (((dF_9 n nc g k9 (1 : Int32)).1) = (1 : Int32))))), (8, .int ((dF_11 n nc g i9 ((dF_26 n nc g i9 (2 : Int32)).1)).1)), (7, .int ((dF_26 n nc g i9 (2 : Int32)).1)), (6, .int ((dF_19 n nc g k9 i9).1)), (5, .int (nI b)), (4, .int (nI a)), (3, .int k9), (2, .int i9), (0, .ref (ad 0)), (1, .int v1)]) hx hb dL_isQuiet_137 hl (by decide) rfl (fun ls hl => ?_)
        refine lv_aload_n hx hb dL_isQuiet_139 rfl (lv_at hl 10 rfl) ?_
        refine lv_iload hx hb dL_isQuiet_140 (lv_at hl 6 rfl) ?_
        refine lv_iload hx hb dL_isQuiet_142 (lv_at hl 7 rfl) ?_
        refine kx_sure (v1 := (b2 (tb (tg g 1 (nI a) (nI b)) 1 (nI b) (nI a)))) (g2 := (tg (tg g 1 (nI a) (nI b)) 1 (nI b) (nI a))) (kx_cv (As := [.int (nI b), .int (nI a)]) (rest := []) hF hG hw hS hl.1 kC_0 rfl (c_X2_near l hfl D cy base ad n nc (tg g 1 (nI a) (nI b)) (nI b) (nI a) ) gL_isQuiet_X2_near rfl rfl rfl hd_X2_near ⟨Nat.le_of_ble_eq_true rfl, Nat.le_of_ble_eq_true rfl⟩ rfl rfl (Nat.le_of_ble_eq_true rfl) dL_isQuiet_144 ⟨Nat.le_of_ble_eq_true rfl, Nat.le_of_ble_eq_true rfl⟩) hS (fun E9 hE9 => kEx_no hE9 (near_K hb24 ha24 (Ne.symm hab))) (rfl) (rfl) (fun H locs hw hS => ?_)
        rw [near_bk ha24 hb24 hab] at hw
        refine lv_istore (lv' := [(12, .int (b2 (tb (tg g 1 (nI a) (nI b)) 1 (nI b) (nI a)))), (11, .int (b2 (tb g 1 (nI a) (nI b)))), (10, .int ((hd2 n nc g k9).1)), (9, .int (b2 (decide (((dF_9 n nc g k9 (1 : Int32)).1) = (1 : Int32))))), (8, .int ((dF_11 n nc g i9 ((dF_26 n nc g i9 (2 : Int32)).1)).1)), (7, .int ((dF_26 n nc g i9 (2 : Int32)).1)), (6, .int ((dF_19 n nc g k9 i9).1)), (5, .int (nI b)), (4, .int (nI a)), (3, .int k9), (2, .int i9), (0, .ref (ad 0)), (1, .int v1)]) hx hb dL_isQuiet_147 hl (by decide) rfl (fun ls hl => ?_)
        refine lv_iload hx hb dL_isQuiet_149 (lv_at hl 1 rfl) ?_
        refine lv_iload hx hb dL_isQuiet_151 (lv_at hl 0 rfl) ?_
        refine lv_icmp_eq (tgt := 200) hx hb dL_isQuiet_153 (by decide) (fun c_153 => ?_) (fun c_153 => ?_)
        · exact absurd c_153 (near_ne hI.1.2.2.2.2.2.2.1 ha24 hb24 hab)
        · refine lv_iload hx hb dL_isQuiet_156 (lv_at hl 4 rfl) ?_
          refine lv_if_lt (tgt := 171) hx hb dL_isQuiet_158 (by decide) (fun c_158 => ?_) (fun c_158 => ?_)
          · refine lv_aload_n hx hb dL_isQuiet_171 rfl (lv_at hl 11 rfl) ?_
            refine lv_bipush (v := 19) hx hb dL_isQuiet_172 (by decide) ?_
            refine lv_iload_n hx hb dL_isQuiet_174 rfl (lv_at hl 9 rfl) ?_
            refine lv_iload_n hx hb dL_isQuiet_175 rfl (lv_at hl 10 rfl) ?_
            refine lv_iconst (v := 0) hx hb dL_isQuiet_176 (by decide) ?_
            refine kx_do (st1 := [.int ((dF_19 n nc g k9 i9).1)]) (kx_csH (As := [.ref (ad 0), .int (19 : Int32), .int k9, .int i9, .int (0 : Int32)]) (rest := []) hF hG hw hS hl.1 (c_L_does_19 l hfl D cy base ad n nc g k9 i9 (0 : Int32) (by first | assumption | omega | exact mR_9 (by assumption) _ _ | simp [sU, hI]) (by first | assumption | omega | exact mR_9 (by assumption) _ _ | simp [sU, hI]) (by first | assumption | omega | exact mR_9 (by assumption) _ _ | simp [sU, hI])) gL_isQuiet_L_does rfl rfl rfl hd_L_does ⟨Nat.le_of_ble_eq_true rfl, Nat.le_of_ble_eq_true rfl⟩ rfl rfl (Nat.le_of_ble_eq_true rfl) dL_isQuiet_177 ⟨Nat.le_of_ble_eq_true rfl, Nat.le_of_ble_eq_true rfl⟩) hS rfl (fun _ _ _ _ _ h => h.elim) (fun _ H locs hw hS => ?_)
            refine lv_iload hx hb dL_isQuiet_180 (lv_at hl 6 rfl) ?_
            refine lv_icmp_ne (tgt := 200) hx hb dL_isQuiet_182 (by decide) (fun c_182 => ?_) (fun c_182 => ?_)
            · exact absurd rfl c_182
            · refine lv_iload hx hb dL_isQuiet_185 (lv_at hl 2 rfl) ?_
              refine lv_if_lt (tgt := 196) hx hb dL_isQuiet_187 (by decide) (fun c_187 => ?_) (fun c_187 => ?_)
              · refine lv_iconst (v := 1) hx hb dL_isQuiet_196 (by decide) ?_
                refine lv_goto (tgt := 201) hx hb dL_isQuiet_197 (by decide) ?_
                exact kx_retZ hQ hx hb hr hlk hw hS (Nat.le_of_ble_eq_true rfl) (Nat.le_of_ble_eq_true rfl) dL_isQuiet_201 rfl (kd_i (trivial) (rfl) (rfl))
              · refine lv_iload hx hb dL_isQuiet_190 (lv_at hl 2 rfl) ?_
                refine lv_iconst (v := 1) hx hb dL_isQuiet_192 (by decide) ?_
                refine lv_icmp_ne (tgt := 200) hx hb dL_isQuiet_193 (by decide) (fun c_193 => ?_) (fun c_193 => ?_)
                · exact absurd ((hold_q hI k9).2 c_187) c_193
                · refine lv_iconst (v := 1) hx hb dL_isQuiet_196 (by decide) ?_
                  refine lv_goto (tgt := 201) hx hb dL_isQuiet_197 (by decide) ?_
                  exact kx_retZ hQ hx hb hr hlk hw hS (Nat.le_of_ble_eq_true rfl) (Nat.le_of_ble_eq_true rfl) dL_isQuiet_201 rfl (kd_i (trivial) (rfl) (rfl))
          · refine lv_iload hx hb dL_isQuiet_161 (lv_at hl 4 rfl) ?_
            refine lv_iload hx hb dL_isQuiet_163 (lv_at hl 5 rfl) ?_
            refine kx_do0 (st1 := [.int (bsum ((dF_26 n nc g i9 (2 : Int32)).1) 31), .int ((dF_11 n nc g i9 ((dF_26 n nc g i9 (2 : Int32)).1)).1)]) (kx_cs (As := [.int ((dF_26 n nc g i9 (2 : Int32)).1)]) (rest := [.int ((dF_11 n nc g i9 ((dF_26 n nc g i9 (2 : Int32)).1)).1)]) hF hG hw hS hl.1 (c_L_count l hfl D cy base ad n nc g ((dF_26 n nc g i9 (2 : Int32)).1) ) gL_isQuiet_L_count rfl rfl rfl hd_L_count ⟨Nat.le_of_ble_eq_true rfl, Nat.le_of_ble_eq_true rfl⟩ rfl rfl (Nat.le_of_ble_eq_true rfl) dL_isQuiet_165 ⟨Nat.le_of_ble_eq_true rfl, Nat.le_of_ble_eq_true rfl⟩) hS rfl (fun H locs hw hS => ?_)
            refine lv_icmp_ne (tgt := 200) hx hb dL_isQuiet_168 (by decide) (fun c_168 => ?_) (fun c_168 => ?_)
            · exact absurd (q9 c_158) c_168
            · refine lv_aload_n hx hb dL_isQuiet_171 rfl (lv_at hl 11 rfl) ?_
              refine lv_bipush (v := 19) hx hb dL_isQuiet_172 (by decide) ?_
              refine lv_iload_n hx hb dL_isQuiet_174 rfl (lv_at hl 9 rfl) ?_
              refine lv_iload_n hx hb dL_isQuiet_175 rfl (lv_at hl 10 rfl) ?_
              refine lv_iconst (v := 0) hx hb dL_isQuiet_176 (by decide) ?_
              refine kx_do (st1 := [.int ((dF_19 n nc g k9 i9).1)]) (kx_csH (As := [.ref (ad 0), .int (19 : Int32), .int k9, .int i9, .int (0 : Int32)]) (rest := []) hF hG hw hS hl.1 (c_L_does_19 l hfl D cy base ad n nc g k9 i9 (0 : Int32) (by first | assumption | omega | exact mR_9 (by assumption) _ _ | simp [sU, hI]) (by first | assumption | omega | exact mR_9 (by assumption) _ _ | simp [sU, hI]) (by first | assumption | omega | exact mR_9 (by assumption) _ _ | simp [sU, hI])) gL_isQuiet_L_does rfl rfl rfl hd_L_does ⟨Nat.le_of_ble_eq_true rfl, Nat.le_of_ble_eq_true rfl⟩ rfl rfl (Nat.le_of_ble_eq_true rfl) dL_isQuiet_177 ⟨Nat.le_of_ble_eq_true rfl, Nat.le_of_ble_eq_true rfl⟩) hS rfl (fun _ _ _ _ _ h => h.elim) (fun _ H locs hw hS => ?_)
              refine lv_iload hx hb dL_isQuiet_180 (lv_at hl 6 rfl) ?_
              refine lv_icmp_ne (tgt := 200) hx hb dL_isQuiet_182 (by decide) (fun c_182 => ?_) (fun c_182 => ?_)
              · exact absurd rfl c_182
              · refine lv_iload hx hb dL_isQuiet_185 (lv_at hl 2 rfl) ?_
                refine lv_if_lt (tgt := 196) hx hb dL_isQuiet_187 (by decide) (fun c_187 => ?_) (fun c_187 => ?_)
                · refine lv_iconst (v := 1) hx hb dL_isQuiet_196 (by decide) ?_
                  refine lv_goto (tgt := 201) hx hb dL_isQuiet_197 (by decide) ?_
                  exact kx_retZ hQ hx hb hr hlk hw hS (Nat.le_of_ble_eq_true rfl) (Nat.le_of_ble_eq_true rfl) dL_isQuiet_201 rfl (kd_i (trivial) (rfl) (rfl))
                · refine lv_iload hx hb dL_isQuiet_190 (lv_at hl 2 rfl) ?_
                  refine lv_iconst (v := 1) hx hb dL_isQuiet_192 (by decide) ?_
                  refine lv_icmp_ne (tgt := 200) hx hb dL_isQuiet_193 (by decide) (fun c_193 => ?_) (fun c_193 => ?_)
                  · exact absurd ((hold_q hI k9).2 c_187) c_193
                  · refine lv_iconst (v := 1) hx hb dL_isQuiet_196 (by decide) ?_
                    refine lv_goto (tgt := 201) hx hb dL_isQuiet_197 (by decide) ?_
                    exact kx_retZ hQ hx hb hr hlk hw hS (Nat.le_of_ble_eq_true rfl) (Nat.le_of_ble_eq_true rfl) dL_isQuiet_201 rfl (kd_i (trivial) (rfl) (rfl))
      refine kb_eq (tgt := 122) hx hb dL_isQuiet_115 (by decide) (fun c_115 => ?_) (fun c_115 => ?_)
      · refine lv_iconst (v := 0) hx hb dL_isQuiet_122 (by decide) ?_
        exact kx_top (v := (b2 (decide (((dF_9 n nc g k9 (1 : Int32)).1) = (1 : Int32))))) (by first | (simp only [bq, c_115]; done) | (simp only [bq, c_115]; rfl) | (simp [bq, c_115]; done)) (hj_123_1 _ _ _ hw hS hl)
      · refine lv_iconst (v := 1) hx hb dL_isQuiet_118 (by decide) ?_
        refine lv_goto (tgt := 123) hx hb dL_isQuiet_119 (by decide) ?_
        exact kx_top (v := (b2 (decide (((dF_9 n nc g k9 (1 : Int32)).1) = (1 : Int32))))) (by first | (simp only [bq, c_115]; done) | (simp only [bq, c_115]; rfl) | (simp [bq, c_115]; done)) (hj_123_1 _ _ _ hw hS hl)
    refine lv_icmp_ne (tgt := 106) hx hb dL_isQuiet_99 (by decide) (fun c_99 => ?_) (fun c_99 => ?_)
    · refine lv_iconst (v := 0) hx hb dL_isQuiet_106 (by decide) ?_
      exact kx_top (v := (b2 (decide (((dF_9 n nc g k9 (1 : Int32)).1) = (1 : Int32))))) (by first | (simp only [bq, decide_eq_false c_99, if_neg c_99]; done) | (simp only [bq, decide_eq_false c_99, if_neg c_99]; rfl) | (simp [bq, decide_eq_false c_99, if_neg c_99]; done)) (hj_107_0 _ _ _ hw hS hl)
    · refine lv_iconst (v := 1) hx hb dL_isQuiet_102 (by decide) ?_
      refine lv_goto (tgt := 107) hx hb dL_isQuiet_103 (by decide) ?_
      exact kx_top (v := (b2 (decide (((dF_9 n nc g k9 (1 : Int32)).1) = (1 : Int32))))) (by first | (simp only [bq, decide_eq_true c_99, if_pos c_99]; done) | (simp only [bq, decide_eq_true c_99, if_pos c_99]; rfl) | (simp [bq, decide_eq_true c_99, if_pos c_99]; done)) (hj_107_0 _ _ _ hw hS hl)
  · refine lv_ldc hx hb hown k_80 dL_isQuiet_72 ?_
    refine lv_goto (tgt := 87) hx hb dL_isQuiet_74 (by decide) ?_
    refine lv_istore (lv' := [(8, .int (-2100000000 : Int32)), (7, .int ((dF_26 n nc g i9 (2 : Int32)).1)), (6, .int ((dF_19 n nc g k9 i9).1)), (5, .int (nI b)), (4, .int (nI a)), (3, .int k9), (2, .int i9), (0, .ref (ad 0)), (1, .int v1)]) hx hb dL_isQuiet_87 hl (by decide) rfl (fun ls hl => ?_)
    refine lv_aload_n hx hb dL_isQuiet_89 rfl (lv_at hl 7 rfl) ?_
    refine lv_bipush (v := 9) hx hb dL_isQuiet_90 (by decide) ?_
    refine lv_iload_n hx hb dL_isQuiet_92 rfl (lv_at hl 5 rfl) ?_
    refine lv_iconst (v := 1) hx hb dL_isQuiet_93 (by decide) ?_
    refine lv_iconst (v := 0) hx hb dL_isQuiet_94 (by decide) ?_
    refine kx_do (st1 := [.int ((dF_9 n nc g k9 (1 : Int32)).1)]) (kx_csH (As := [.ref (ad 0), .int (9 : Int32), .int k9, .int (1 : Int32), .int (0 : Int32)]) (rest := []) hF hG hw hS hl.1 (c_L_does_9 l hfl D cy base ad n nc g k9 (1 : Int32) (0 : Int32) (by first | assumption | omega | exact mR_9 (by assumption) _ _ | simp [sU, hI]) (by first | assumption | omega | exact mR_9 (by assumption) _ _ | simp [sU, hI])) gL_isQuiet_L_does rfl rfl rfl hd_L_does ⟨Nat.le_of_ble_eq_true rfl, Nat.le_of_ble_eq_true rfl⟩ rfl rfl (Nat.le_of_ble_eq_true rfl) dL_isQuiet_95 ⟨Nat.le_of_ble_eq_true rfl, Nat.le_of_ble_eq_true rfl⟩) hS rfl (fun _ _ _ _ _ h => h.elim) (fun _ H locs hw hS => ?_)
    refine lv_iconst (v := 1) hx hb dL_isQuiet_98 (by decide) ?_
    have hj_107_2 : ∀ (H : Heap) (locs : List Loc) (ls : Array Slot), kW D cy base ad n nc ((dF_9 n nc g k9 (1 : Int32)).2) H → va_S (kA base) s.heap H locs → lv_has ls 13 [(8, .int (-2100000000 : Int32)), (7, .int ((dF_26 n nc g i9 (2 : Int32)).1)), (6, .int ((dF_19 n nc g k9 i9).1)), (5, .int (nI b)), (4, .int (nI a)), (3, .int k9), (2, .int i9), (0, .ref (ad 0)), (1, .int v1)] → W p l e (kR 10 40 300) s m args below meth c H locs 6 36 Q (F0 m 107 ls [.int (b2 (decide (((dF_9 n nc g k9 (1 : Int32)).1) = (1 : Int32))))]) := by
      intro H locs ls hw hS hl
      refine lv_istore (lv' := [(9, .int (b2 (decide (((dF_9 n nc g k9 (1 : Int32)).1) = (1 : Int32))))), (8, .int (-2100000000 : Int32)), (7, .int ((dF_26 n nc g i9 (2 : Int32)).1)), (6, .int ((dF_19 n nc g k9 i9).1)), (5, .int (nI b)), (4, .int (nI a)), (3, .int k9), (2, .int i9), (0, .ref (ad 0)), (1, .int v1)]) hx hb dL_isQuiet_107 hl (by decide) rfl (fun ls hl => ?_)
      have hI3 : Inv n nc ((dF_9 n nc g k9 (1 : Int32)).2) := (di_9 hI _ _).1
      have hfr := hI3.fr
      have hcr := hI3.cr
      have hR := hI3.R
      have hh := hI3.hh
      have hz := hI3.hz
      refine lv_aload_n hx hb dL_isQuiet_109 rfl (lv_at hl 8 rfl) ?_
      refine lv_bipush (v := 9) hx hb dL_isQuiet_110 (by decide) ?_
      refine lv_iload_n hx hb dL_isQuiet_112 rfl (lv_at hl 6 rfl) ?_
      refine lv_iload hx hb dL_isQuiet_113 (lv_at hl 0 rfl) ?_
      have hj_123_3 : ∀ (H : Heap) (locs : List Loc) (ls : Array Slot), kW D cy base ad n nc ((dF_9 n nc g k9 (1 : Int32)).2) H → va_S (kA base) s.heap H locs → lv_has ls 13 [(9, .int (b2 (decide (((dF_9 n nc g k9 (1 : Int32)).1) = (1 : Int32))))), (8, .int (-2100000000 : Int32)), (7, .int ((dF_26 n nc g i9 (2 : Int32)).1)), (6, .int ((dF_19 n nc g k9 i9).1)), (5, .int (nI b)), (4, .int (nI a)), (3, .int k9), (2, .int i9), (0, .ref (ad 0)), (1, .int v1)] → W p l e (kR 10 40 300) s m args below meth c H locs 6 36 Q (F0 m 123 ls [.int (b2 (decide (((dF_9 n nc g k9 (1 : Int32)).1) = (1 : Int32)))), .int k9, .int (9 : Int32), .ref (ad 0)]) := by
        intro H locs ls hw hS hl
        refine lv_iconst (v := 0) hx hb dL_isQuiet_123 (by decide) ?_
        refine kx_do (st1 := [.int ((dF_9 n nc ((dF_9 n nc g k9 (1 : Int32)).2) k9 (b2 (decide (((dF_9 n nc g k9 (1 : Int32)).1) = (1 : Int32))))).1)]) (kx_csH (As := [.ref (ad 0), .int (9 : Int32), .int k9, .int (b2 (decide (((dF_9 n nc g k9 (1 : Int32)).1) = (1 : Int32)))), .int (0 : Int32)]) (rest := []) hF hG hw hS hl.1 (c_L_does_9 l hfl D cy base ad n nc ((dF_9 n nc g k9 (1 : Int32)).2) k9 (b2 (decide (((dF_9 n nc g k9 (1 : Int32)).1) = (1 : Int32)))) (0 : Int32) (by first | assumption | omega | exact mR_9 (by assumption) _ _ | simp [sU, hI]) (by first | assumption | omega | exact mR_9 (by assumption) _ _ | simp [sU, hI])) gL_isQuiet_L_does rfl rfl rfl hd_L_does ⟨Nat.le_of_ble_eq_true rfl, Nat.le_of_ble_eq_true rfl⟩ rfl rfl (Nat.le_of_ble_eq_true rfl) dL_isQuiet_124 ⟨Nat.le_of_ble_eq_true rfl, Nat.le_of_ble_eq_true rfl⟩) hS rfl (fun _ _ _ _ _ h => h.elim) (fun _ H locs hw hS => ?_)
        have hw : kW D cy base ad n nc (hd2 n nc g k9).2 H := hw
        rw [(hold_q hI k9).1] at hw
        have hfr := hI.fr
        have hcr := hI.cr
        have hR := hI.R
        have hh := hI.hh
        have hz := hI.hz
        refine kx_top (v := (hd2 n nc g k9).1) (rfl) ?_
        refine lv_istore (lv' := [(10, .int ((hd2 n nc g k9).1)), (9, .int (b2 (decide (((dF_9 n nc g k9 (1 : Int32)).1) = (1 : Int32))))), (8, .int (-2100000000 : Int32)), (7, .int ((dF_26 n nc g i9 (2 : Int32)).1)), (6, .int ((dF_19 n nc g k9 i9).1)), (5, .int (nI b)), (4, .int (nI a)), (3, .int k9), (2, .int i9), (0, .ref (ad 0)), (1, .int v1)]) hx hb dL_isQuiet_127 hl (by decide) rfl (fun ls hl => ?_)
        refine lv_aload_n hx hb dL_isQuiet_129 rfl (lv_at hl 9 rfl) ?_
        refine lv_iload hx hb dL_isQuiet_130 (lv_at hl 6 rfl) ?_
        refine lv_iload hx hb dL_isQuiet_132 (lv_at hl 5 rfl) ?_
        refine kx_sure (v1 := (b2 (tb g 1 (nI a) (nI b)))) (g2 := (tg g 1 (nI a) (nI b))) (kx_cv (As := [.int (nI a), .int (nI b)]) (rest := []) hF hG hw hS hl.1 kC_0 rfl (c_X2_near l hfl D cy base ad n nc g (nI a) (nI b) ) gL_isQuiet_X2_near rfl rfl rfl hd_X2_near ⟨Nat.le_of_ble_eq_true rfl, Nat.le_of_ble_eq_true rfl⟩ rfl rfl (Nat.le_of_ble_eq_true rfl) dL_isQuiet_134 ⟨Nat.le_of_ble_eq_true rfl, Nat.le_of_ble_eq_true rfl⟩) hS (fun E9 hE9 => kEx_no hE9 (near_K ha24 hb24 hab)) (rfl) (rfl) (fun H locs hw hS => ?_)
        refine lv_istore (lv' := [(11, .int (b2 (tb g 1 (nI a) (nI b)))), (10, .int ((hd2 n nc g k9).1)), (9, .int (b2 (decide (((dF_9 n nc g k9 (1 : Int32)).1) = (1 : Int32))))), (8, .int (-2100000000 : Int32)), (7, .int ((dF_26 n nc g i9 (2 : Int32)).1)), (6, .int ((dF_19 n nc g k9 i9).1)), (5, .int (nI b)), (4, .int (nI a)), (3, .int k9), (2, .int i9), (0, .ref (ad 0)), (1, .int v1)]) hx hb dL_isQuiet_137 hl (by decide) rfl (fun ls hl => ?_)
        refine lv_aload_n hx hb dL_isQuiet_139 rfl (lv_at hl 10 rfl) ?_
        refine lv_iload hx hb dL_isQuiet_140 (lv_at hl 6 rfl) ?_
        refine lv_iload hx hb dL_isQuiet_142 (lv_at hl 7 rfl) ?_
        refine kx_sure (v1 := (b2 (tb (tg g 1 (nI a) (nI b)) 1 (nI b) (nI a)))) (g2 := (tg (tg g 1 (nI a) (nI b)) 1 (nI b) (nI a))) (kx_cv (As := [.int (nI b), .int (nI a)]) (rest := []) hF hG hw hS hl.1 kC_0 rfl (c_X2_near l hfl D cy base ad n nc (tg g 1 (nI a) (nI b)) (nI b) (nI a) ) gL_isQuiet_X2_near rfl rfl rfl hd_X2_near ⟨Nat.le_of_ble_eq_true rfl, Nat.le_of_ble_eq_true rfl⟩ rfl rfl (Nat.le_of_ble_eq_true rfl) dL_isQuiet_144 ⟨Nat.le_of_ble_eq_true rfl, Nat.le_of_ble_eq_true rfl⟩) hS (fun E9 hE9 => kEx_no hE9 (near_K hb24 ha24 (Ne.symm hab))) (rfl) (rfl) (fun H locs hw hS => ?_)
        rw [near_bk ha24 hb24 hab] at hw
        refine lv_istore (lv' := [(12, .int (b2 (tb (tg g 1 (nI a) (nI b)) 1 (nI b) (nI a)))), (11, .int (b2 (tb g 1 (nI a) (nI b)))), (10, .int ((hd2 n nc g k9).1)), (9, .int (b2 (decide (((dF_9 n nc g k9 (1 : Int32)).1) = (1 : Int32))))), (8, .int (-2100000000 : Int32)), (7, .int ((dF_26 n nc g i9 (2 : Int32)).1)), (6, .int ((dF_19 n nc g k9 i9).1)), (5, .int (nI b)), (4, .int (nI a)), (3, .int k9), (2, .int i9), (0, .ref (ad 0)), (1, .int v1)]) hx hb dL_isQuiet_147 hl (by decide) rfl (fun ls hl => ?_)
        refine lv_iload hx hb dL_isQuiet_149 (lv_at hl 1 rfl) ?_
        refine lv_iload hx hb dL_isQuiet_151 (lv_at hl 0 rfl) ?_
        refine lv_icmp_eq (tgt := 200) hx hb dL_isQuiet_153 (by decide) (fun c_153 => ?_) (fun c_153 => ?_)
        · exact absurd c_153 (near_ne hI.1.2.2.2.2.2.2.1 ha24 hb24 hab)
        · refine lv_iload hx hb dL_isQuiet_156 (lv_at hl 4 rfl) ?_
          refine lv_if_lt (tgt := 171) hx hb dL_isQuiet_158 (by decide) (fun _ => ?_) (fun c => absurd (by decide +kernel) c)
          refine lv_aload_n hx hb dL_isQuiet_171 rfl (lv_at hl 11 rfl) ?_
          refine lv_bipush (v := 19) hx hb dL_isQuiet_172 (by decide) ?_
          refine lv_iload_n hx hb dL_isQuiet_174 rfl (lv_at hl 9 rfl) ?_
          refine lv_iload_n hx hb dL_isQuiet_175 rfl (lv_at hl 10 rfl) ?_
          refine lv_iconst (v := 0) hx hb dL_isQuiet_176 (by decide) ?_
          refine kx_do (st1 := [.int ((dF_19 n nc g k9 i9).1)]) (kx_csH (As := [.ref (ad 0), .int (19 : Int32), .int k9, .int i9, .int (0 : Int32)]) (rest := []) hF hG hw hS hl.1 (c_L_does_19 l hfl D cy base ad n nc g k9 i9 (0 : Int32) (by first | assumption | omega | exact mR_9 (by assumption) _ _ | simp [sU, hI]) (by first | assumption | omega | exact mR_9 (by assumption) _ _ | simp [sU, hI]) (by first | assumption | omega | exact mR_9 (by assumption) _ _ | simp [sU, hI])) gL_isQuiet_L_does rfl rfl rfl hd_L_does ⟨Nat.le_of_ble_eq_true rfl, Nat.le_of_ble_eq_true rfl⟩ rfl rfl (Nat.le_of_ble_eq_true rfl) dL_isQuiet_177 ⟨Nat.le_of_ble_eq_true rfl, Nat.le_of_ble_eq_true rfl⟩) hS rfl (fun _ _ _ _ _ h => h.elim) (fun _ H locs hw hS => ?_)
          refine lv_iload hx hb dL_isQuiet_180 (lv_at hl 6 rfl) ?_
          refine lv_icmp_ne (tgt := 200) hx hb dL_isQuiet_182 (by decide) (fun c_182 => ?_) (fun c_182 => ?_)
          · exact absurd rfl c_182
          · refine lv_iload hx hb dL_isQuiet_185 (lv_at hl 2 rfl) ?_
            refine lv_if_lt (tgt := 196) hx hb dL_isQuiet_187 (by decide) (fun c_187 => ?_) (fun c_187 => ?_)
            · refine lv_iconst (v := 1) hx hb dL_isQuiet_196 (by decide) ?_
              refine lv_goto (tgt := 201) hx hb dL_isQuiet_197 (by decide) ?_
              exact kx_retZ hQ hx hb hr hlk hw hS (Nat.le_of_ble_eq_true rfl) (Nat.le_of_ble_eq_true rfl) dL_isQuiet_201 rfl (kd_i (trivial) (rfl) (rfl))
            · refine lv_iload hx hb dL_isQuiet_190 (lv_at hl 2 rfl) ?_
              refine lv_iconst (v := 1) hx hb dL_isQuiet_192 (by decide) ?_
              refine lv_icmp_ne (tgt := 200) hx hb dL_isQuiet_193 (by decide) (fun c_193 => ?_) (fun c_193 => ?_)
              · exact absurd ((hold_q hI k9).2 c_187) c_193
              · refine lv_iconst (v := 1) hx hb dL_isQuiet_196 (by decide) ?_
                refine lv_goto (tgt := 201) hx hb dL_isQuiet_197 (by decide) ?_
                exact kx_retZ hQ hx hb hr hlk hw hS (Nat.le_of_ble_eq_true rfl) (Nat.le_of_ble_eq_true rfl) dL_isQuiet_201 rfl (kd_i (trivial) (rfl) (rfl))
      refine kb_eq (tgt := 122) hx hb dL_isQuiet_115 (by decide) (fun c_115 => ?_) (fun c_115 => ?_)
      · refine lv_iconst (v := 0) hx hb dL_isQuiet_122 (by decide) ?_
        exact kx_top (v := (b2 (decide (((dF_9 n nc g k9 (1 : Int32)).1) = (1 : Int32))))) (by first | (simp only [bq, c_115]; done) | (simp only [bq, c_115]; rfl) | (simp [bq, c_115]; done)) (hj_123_3 _ _ _ hw hS hl)
      · refine lv_iconst (v := 1) hx hb dL_isQuiet_118 (by decide) ?_
        refine lv_goto (tgt := 123) hx hb dL_isQuiet_119 (by decide) ?_
        exact kx_top (v := (b2 (decide (((dF_9 n nc g k9 (1 : Int32)).1) = (1 : Int32))))) (by first | (simp only [bq, c_115]; done) | (simp only [bq, c_115]; rfl) | (simp [bq, c_115]; done)) (hj_123_3 _ _ _ hw hS hl)
    refine lv_icmp_ne (tgt := 106) hx hb dL_isQuiet_99 (by decide) (fun c_99 => ?_) (fun c_99 => ?_)
    · refine lv_iconst (v := 0) hx hb dL_isQuiet_106 (by decide) ?_
      exact kx_top (v := (b2 (decide (((dF_9 n nc g k9 (1 : Int32)).1) = (1 : Int32))))) (by first | (simp only [bq, decide_eq_false c_99, if_neg c_99]; done) | (simp only [bq, decide_eq_false c_99, if_neg c_99]; rfl) | (simp [bq, decide_eq_false c_99, if_neg c_99]; done)) (hj_107_2 _ _ _ hw hS hl)
    · refine lv_iconst (v := 1) hx hb dL_isQuiet_102 (by decide) ?_
      refine lv_goto (tgt := 107) hx hb dL_isQuiet_103 (by decide) ?_
      exact kx_top (v := (b2 (decide (((dF_9 n nc g k9 (1 : Int32)).1) = (1 : Int32))))) (by first | (simp only [bq, decide_eq_true c_99, if_pos c_99]; done) | (simp only [bq, decide_eq_true c_99, if_pos c_99]; rfl) | (simp [bq, decide_eq_true c_99, if_pos c_99]; done)) (hj_107_2 _ _ _ hw hS hl)
