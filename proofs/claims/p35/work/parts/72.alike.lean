/-! walks laid by wip/p35/kgen.py, kall.py -/
/-! A question leaves the store as it was, but for the scores' row. -/
theorem dq_20 {n nc : Nat} (g : sg) (a b : Int32) : E8 g (dF_20 n nc g a b).2 := by
  unfold dF_20 oR
  split
  · exact (cNS_o _ _ _).sy
  · exact E8.rf g
theorem dq_21 {n nc : Nat} (g : sg) (a : Int32) : E8 g (dF_21 n nc g a).2 := by
  unfold dF_21 oR
  split
  · exact (cNS_o _ _ _).sy
  · exact E8.rf g
theorem hd_L_areAlike : yL_areAlike.cls ≠ "java/lang/invoke/MethodHandle" ∧ yL_areAlike.cls ≠ "java/lang/invoke/VarHandle" ∧ (parseMethodDescriptor yL_areAlike.desc).map (fun d => d.parameters.length) = some 3 := by decide +kernel
set_option maxHeartbeats 4000000 in
set_option maxRecDepth 100000 in
theorem c_L_areAlike (l : Launch) (hfl : l.stackTraces = false) (D : va_G) (cy : Nat → ClassId) (base : Nat → Prop) (ad ae : Nat → Nat) (n nc : Nat) (g : sg) (v1 : Int32) (hI : Inv n nc g) : k2M l yL_areAlike wsL_areAlike (kR 10 2700 16200) D cy base ad n nc g ae n nc g [.ref (ad 0), .ref (ae 0), .int v1] (some (.int 1)) 2700 16200 := by
  refine k2_meth (cc := cL_areAlike) (maxL := 6) (ret := (some .boolean)) (by decide) rfl (Nat.le_of_ble_eq_true rfl) ?_
  intro p e s m args below meth c ls hx hb hr hml hown hts hlk hG hl Q H locs hQ hw hS
  have hl : lv_has ls 6 [(0, .ref (ad 0)), (1, .ref (ae 0)), (2, .int v1)] := hl
  have hown : s.vm.findClass RL = some m.cls := hown
  have hF : CallFix p m c cL_areAlike 6 s args wsL_areAlike RL := ⟨hx, hb, hml, hown, hts⟩
  refine lv_aload_n hx hb dL_areAlike_0 rfl (lv_at hl 0 rfl) ?_
  refine k2_ask (V := fun gx => (gx 0 10)) (G := fun gx => gx) (v1 := (g 0 10)) hG hS hw (k2_v (As := []) (rest := []) hF hG hl.1 (fun b9 gx he => c_X2_today l hfl D cy b9 ad n nc gx  ) gL_areAlike_X2_today rfl rfl rfl hd_X2_today ⟨Nat.le_of_ble_eq_true rfl, Nat.le_of_ble_eq_true rfl⟩ rfl rfl (Nat.le_of_ble_eq_true rfl) dL_areAlike_1 ⟨(show 0 + 0 ≤ 2700 from by omega), (show 0 + 0 ≤ 16200 from by omega)⟩) (fun gx he => ⟨by rw [he 0 (by decide)], he⟩) (fun H locs hw hS => ?_)
  refine lv_aload_n hx hb dL_areAlike_4 rfl (lv_at hl 1 rfl) ?_
  refine k2_ask2 (V := fun gx => (gx 0 10)) (G := fun gx => gx) (v1 := (g 0 10)) hG hS hw (k2_v (As := []) (rest := [.int (g 0 10)]) hF hG hl.1 (fun b9 gx he => c_X2_today l hfl D cy b9 ae n nc gx  ) gL_areAlike_X2_today rfl rfl rfl hd_X2_today ⟨Nat.le_of_ble_eq_true rfl, Nat.le_of_ble_eq_true rfl⟩ rfl rfl (Nat.le_of_ble_eq_true rfl) dL_areAlike_5 ⟨(show 0 + 0 ≤ 2700 from by omega), (show 0 + 0 ≤ 16200 from by omega)⟩) (fun gx he => ⟨by rw [he 0 (by decide)], he⟩) (fun H locs hw hS => ?_)
  refine lv_icmp_ne (tgt := 15) hx hb dL_areAlike_8 (by decide) (fun c => absurd rfl c) (fun _ => ?_)
  refine lv_iconst (v := 1) hx hb dL_areAlike_11 (by decide) ?_
  refine lv_goto (tgt := 16) hx hb dL_areAlike_12 (by decide) ?_
  refine lv_istore_n (lv' := [(3, .int (1 : Int32)), (0, .ref (ad 0)), (1, .ref (ae 0)), (2, .int v1)]) hx hb dL_areAlike_16 rfl hl (by decide) rfl (fun ls hl => ?_)
  refine lv_iconst (v := 0) hx hb dL_areAlike_17 (by decide) ?_
  refine lv_istore (lv' := [(4, .int (0 : Int32)), (3, .int (1 : Int32)), (0, .ref (ad 0)), (1, .ref (ae 0)), (2, .int v1)]) hx hb dL_areAlike_18 hl (by decide) rfl (fun ls hl => ?_)
  have lp_20 : ∀ (nn k : Nat), k ≤ 16 → 16 < k + nn → ∀ (H : Heap) (locs : List Loc) (ls : Array Slot), k2 D cy base ad n nc g ae n nc g H → va_S (kA base) s.heap H locs → lv_has ls 6 [(4, .int (nI k)), (3, .int (1 : Int32)), (0, .ref (ad 0)), (1, .ref (ae 0)), (2, .int v1)] → W p l e (kR 10 2700 16200) s m args below meth c H locs (0 + k * 168 + 0) (0 + k * 1008 + 0) Q (F0 m 20 ls []) := by
    intro nn
    induction nn with
    | zero => intro k h1 h2; exact absurd h2 (by omega)
    | succ nn ih_20 =>
      intro k hk_k hkn_k H locs ls hw hS hl
      refine lv_iload hx hb dL_areAlike_20 (lv_at hl 0 rfl) ?_
      refine lv_bipush (v := 16) hx hb dL_areAlike_22 (by decide) ?_
      refine lv_icmp_ge (tgt := 290) hx hb dL_areAlike_24 (by decide) (fun c_24 => ?_) (fun c_24 => ?_)
      · have e_k : k = 16 := Nat.le_antisymm hk_k (le_nI (a := 16) (b := k) c_24 (by omega) (by omega))
        refine W.widen (k := 2688) (n := 16128) (by omega) (by omega) ?_
        refine lv_iload_n hx hb dL_areAlike_290 rfl (lv_at hl 1 rfl) ?_
        exact k2_retZ hQ hx hb hr hlk hw hS (Nat.le_of_ble_eq_true rfl) (Nat.le_of_ble_eq_true rfl) dL_areAlike_291 rfl
      · have hlt_k : k < 16 := lt_nI (a := 16) (b := k) c_24 (by omega) (by omega)
        refine lv_iload_n hx hb dL_areAlike_27 rfl (lv_at hl 1 rfl) ?_
        refine lv_if_eq (tgt := 290) hx hb dL_areAlike_28 (by decide) (fun c => absurd c (by decide)) (fun _ => ?_)
        refine lv_aload_n hx hb dL_areAlike_31 rfl (lv_at hl 2 rfl) ?_
        refine lv_bipush (v := 23) hx hb dL_areAlike_32 (by decide) ?_
        refine lv_iload hx hb dL_areAlike_34 (lv_at hl 0 rfl) ?_
        refine lv_iconst (v := 0) hx hb dL_areAlike_36 (by decide) ?_
        refine lv_iconst (v := 0) hx hb dL_areAlike_37 (by decide) ?_
        refine k2_ask (V := fun gx => (dF_23 n nc gx (nI k)).1) (G := fun gx => gx) (v1 := ((dF_23 n nc g (nI k)).1)) hG hS hw (k2_sT (As := [.ref (ad 0), .int (23 : Int32), .int (nI k), .int (0 : Int32), .int (0 : Int32)]) (rest := []) hF hl.1 (fun b9 gx he => c_L_does_23 l hfl D cy b9 ad n nc gx (nI k) (0 : Int32) (0 : Int32) (hI.e8 he).fr (hI.e8 he).cr (hI.e8 he).R) gL_areAlike_L_does rfl rfl rfl hd_L_does ⟨Nat.le_of_ble_eq_true rfl, Nat.le_of_ble_eq_true rfl⟩ rfl rfl (Nat.le_of_ble_eq_true rfl) dL_areAlike_38 ⟨(show (0 + k * 168 + 0) + 1 ≤ 2700 from by omega), (show (0 + k * 1008 + 0) + 6 ≤ 16200 from by omega)⟩) (fun gx he => ⟨(de_23 he _).1.symm, he⟩) (fun H locs hw hS => ?_)
        refine lv_aload_n hx hb dL_areAlike_41 rfl (lv_at hl 3 rfl) ?_
        refine lv_bipush (v := 23) hx hb dL_areAlike_42 (by decide) ?_
        refine lv_iload hx hb dL_areAlike_44 (lv_at hl 0 rfl) ?_
        refine lv_iconst (v := 0) hx hb dL_areAlike_46 (by decide) ?_
        refine lv_iconst (v := 0) hx hb dL_areAlike_47 (by decide) ?_
        refine k2_ask2 (V := fun gx => (dF_23 n nc gx (nI k)).1) (G := fun gx => gx) (v1 := ((dF_23 n nc g (nI k)).1)) hG hS hw (k2_sT (As := [.ref (ae 0), .int (23 : Int32), .int (nI k), .int (0 : Int32), .int (0 : Int32)]) (rest := [.int ((dF_23 n nc g (nI k)).1)]) hF hl.1 (fun b9 gx he => c_L_does_23 l hfl D cy b9 ae n nc gx (nI k) (0 : Int32) (0 : Int32) (hI.e8 he).fr (hI.e8 he).cr (hI.e8 he).R) gL_areAlike_L_does rfl rfl rfl hd_L_does ⟨Nat.le_of_ble_eq_true rfl, Nat.le_of_ble_eq_true rfl⟩ rfl rfl (Nat.le_of_ble_eq_true rfl) dL_areAlike_48 ⟨(show (0 + k * 168 + 1) + 1 ≤ 2700 from by omega), (show (0 + k * 1008 + 6) + 6 ≤ 16200 from by omega)⟩) (fun gx he => ⟨(de_23 he _).1.symm, he⟩) (fun H locs hw hS => ?_)
        refine lv_icmp_ne (tgt := 127) hx hb dL_areAlike_51 (by decide) (fun c => absurd rfl c) (fun _ => ?_)
        refine lv_aload_n hx hb dL_areAlike_54 rfl (lv_at hl 2 rfl) ?_
        refine lv_bipush (v := 21) hx hb dL_areAlike_55 (by decide) ?_
        refine lv_iload hx hb dL_areAlike_57 (lv_at hl 0 rfl) ?_
        refine lv_iconst (v := 0) hx hb dL_areAlike_59 (by decide) ?_
        refine lv_iconst (v := 0) hx hb dL_areAlike_60 (by decide) ?_
        refine k2_ask (V := fun gx => (dF_21 n nc gx (nI k)).1) (G := fun gx => (dF_21 n nc gx (nI k)).2) (v1 := ((dF_21 n nc g (nI k)).1)) hG hS hw (k2_sT (As := [.ref (ad 0), .int (21 : Int32), .int (nI k), .int (0 : Int32), .int (0 : Int32)]) (rest := []) hF hl.1 (fun b9 gx he => c_L_does_21 l hfl D cy b9 ad n nc gx (nI k) (0 : Int32) (0 : Int32) (hI.e8 he).fr (hI.e8 he).cr (hI.e8 he).R) gL_areAlike_L_does rfl rfl rfl hd_L_does ⟨Nat.le_of_ble_eq_true rfl, Nat.le_of_ble_eq_true rfl⟩ rfl rfl (Nat.le_of_ble_eq_true rfl) dL_areAlike_61 ⟨(show (0 + k * 168 + 2) + 1 ≤ 2700 from by omega), (show (0 + k * 1008 + 12) + 6 ≤ 16200 from by omega)⟩) (fun gx he => ⟨(de_21 he _).1.symm, he.tr (dq_21 _ _)⟩) (fun H locs hw hS => ?_)
        refine lv_aload_n hx hb dL_areAlike_64 rfl (lv_at hl 3 rfl) ?_
        refine lv_bipush (v := 21) hx hb dL_areAlike_65 (by decide) ?_
        refine lv_iload hx hb dL_areAlike_67 (lv_at hl 0 rfl) ?_
        refine lv_iconst (v := 0) hx hb dL_areAlike_69 (by decide) ?_
        refine lv_iconst (v := 0) hx hb dL_areAlike_70 (by decide) ?_
        refine k2_ask2 (V := fun gx => (dF_21 n nc gx (nI k)).1) (G := fun gx => (dF_21 n nc gx (nI k)).2) (v1 := ((dF_21 n nc g (nI k)).1)) hG hS hw (k2_sT (As := [.ref (ae 0), .int (21 : Int32), .int (nI k), .int (0 : Int32), .int (0 : Int32)]) (rest := [.int ((dF_21 n nc g (nI k)).1)]) hF hl.1 (fun b9 gx he => c_L_does_21 l hfl D cy b9 ae n nc gx (nI k) (0 : Int32) (0 : Int32) (hI.e8 he).fr (hI.e8 he).cr (hI.e8 he).R) gL_areAlike_L_does rfl rfl rfl hd_L_does ⟨Nat.le_of_ble_eq_true rfl, Nat.le_of_ble_eq_true rfl⟩ rfl rfl (Nat.le_of_ble_eq_true rfl) dL_areAlike_71 ⟨(show (0 + k * 168 + 3) + 1 ≤ 2700 from by omega), (show (0 + k * 1008 + 18) + 6 ≤ 16200 from by omega)⟩) (fun gx he => ⟨(de_21 he _).1.symm, he.tr (dq_21 _ _)⟩) (fun H locs hw hS => ?_)
        refine lv_icmp_ne (tgt := 127) hx hb dL_areAlike_74 (by decide) (fun c => absurd rfl c) (fun _ => ?_)
        refine lv_aload_n hx hb dL_areAlike_77 rfl (lv_at hl 2 rfl) ?_
        refine lv_bipush (v := 28) hx hb dL_areAlike_78 (by decide) ?_
        refine lv_iload hx hb dL_areAlike_80 (lv_at hl 0 rfl) ?_
        refine lv_iconst (v := 0) hx hb dL_areAlike_82 (by decide) ?_
        refine lv_iconst (v := 0) hx hb dL_areAlike_83 (by decide) ?_
        refine k2_ask (V := fun gx => (dF_28 n nc gx (nI k)).1) (G := fun gx => gx) (v1 := ((dF_28 n nc g (nI k)).1)) hG hS hw (k2_sT (As := [.ref (ad 0), .int (28 : Int32), .int (nI k), .int (0 : Int32), .int (0 : Int32)]) (rest := []) hF hl.1 (fun b9 gx he => c_L_does_28 l hfl D cy b9 ad n nc gx (nI k) (0 : Int32) (0 : Int32) (hI.e8 he).fr) gL_areAlike_L_does rfl rfl rfl hd_L_does ⟨Nat.le_of_ble_eq_true rfl, Nat.le_of_ble_eq_true rfl⟩ rfl rfl (Nat.le_of_ble_eq_true rfl) dL_areAlike_84 ⟨(show (0 + k * 168 + 4) + 1 ≤ 2700 from by omega), (show (0 + k * 1008 + 24) + 6 ≤ 16200 from by omega)⟩) (fun gx he => ⟨(de_28 he _).1.symm, he⟩) (fun H locs hw hS => ?_)
        refine lv_aload_n hx hb dL_areAlike_87 rfl (lv_at hl 3 rfl) ?_
        refine lv_bipush (v := 28) hx hb dL_areAlike_88 (by decide) ?_
        refine lv_iload hx hb dL_areAlike_90 (lv_at hl 0 rfl) ?_
        refine lv_iconst (v := 0) hx hb dL_areAlike_92 (by decide) ?_
        refine lv_iconst (v := 0) hx hb dL_areAlike_93 (by decide) ?_
        refine k2_ask2 (V := fun gx => (dF_28 n nc gx (nI k)).1) (G := fun gx => gx) (v1 := ((dF_28 n nc g (nI k)).1)) hG hS hw (k2_sT (As := [.ref (ae 0), .int (28 : Int32), .int (nI k), .int (0 : Int32), .int (0 : Int32)]) (rest := [.int ((dF_28 n nc g (nI k)).1)]) hF hl.1 (fun b9 gx he => c_L_does_28 l hfl D cy b9 ae n nc gx (nI k) (0 : Int32) (0 : Int32) (hI.e8 he).fr) gL_areAlike_L_does rfl rfl rfl hd_L_does ⟨Nat.le_of_ble_eq_true rfl, Nat.le_of_ble_eq_true rfl⟩ rfl rfl (Nat.le_of_ble_eq_true rfl) dL_areAlike_94 ⟨(show (0 + k * 168 + 5) + 1 ≤ 2700 from by omega), (show (0 + k * 1008 + 30) + 6 ≤ 16200 from by omega)⟩) (fun gx he => ⟨(de_28 he _).1.symm, he⟩) (fun H locs hw hS => ?_)
        refine lv_icmp_ne (tgt := 127) hx hb dL_areAlike_97 (by decide) (fun c => absurd rfl c) (fun _ => ?_)
        refine lv_aload_n hx hb dL_areAlike_100 rfl (lv_at hl 2 rfl) ?_
        refine lv_bipush (v := 27) hx hb dL_areAlike_101 (by decide) ?_
        refine lv_iload hx hb dL_areAlike_103 (lv_at hl 0 rfl) ?_
        refine lv_iconst (v := 0) hx hb dL_areAlike_105 (by decide) ?_
        refine lv_iconst (v := 0) hx hb dL_areAlike_106 (by decide) ?_
        refine k2_ask (V := fun gx => (dF_27 n nc gx (nI k)).1) (G := fun gx => gx) (v1 := ((dF_27 n nc g (nI k)).1)) hG hS hw (k2_sT (As := [.ref (ad 0), .int (27 : Int32), .int (nI k), .int (0 : Int32), .int (0 : Int32)]) (rest := []) hF hl.1 (fun b9 gx he => c_L_does_27 l hfl D cy b9 ad n nc gx (nI k) (0 : Int32) (0 : Int32) ) gL_areAlike_L_does rfl rfl rfl hd_L_does ⟨Nat.le_of_ble_eq_true rfl, Nat.le_of_ble_eq_true rfl⟩ rfl rfl (Nat.le_of_ble_eq_true rfl) dL_areAlike_107 ⟨(show (0 + k * 168 + 6) + 1 ≤ 2700 from by omega), (show (0 + k * 1008 + 36) + 6 ≤ 16200 from by omega)⟩) (fun gx he => ⟨(de_27 he _).1.symm, he⟩) (fun H locs hw hS => ?_)
        refine lv_aload_n hx hb dL_areAlike_110 rfl (lv_at hl 3 rfl) ?_
        refine lv_bipush (v := 27) hx hb dL_areAlike_111 (by decide) ?_
        refine lv_iload hx hb dL_areAlike_113 (lv_at hl 0 rfl) ?_
        refine lv_iconst (v := 0) hx hb dL_areAlike_115 (by decide) ?_
        refine lv_iconst (v := 0) hx hb dL_areAlike_116 (by decide) ?_
        refine k2_ask2 (V := fun gx => (dF_27 n nc gx (nI k)).1) (G := fun gx => gx) (v1 := ((dF_27 n nc g (nI k)).1)) hG hS hw (k2_sT (As := [.ref (ae 0), .int (27 : Int32), .int (nI k), .int (0 : Int32), .int (0 : Int32)]) (rest := [.int ((dF_27 n nc g (nI k)).1)]) hF hl.1 (fun b9 gx he => c_L_does_27 l hfl D cy b9 ae n nc gx (nI k) (0 : Int32) (0 : Int32) ) gL_areAlike_L_does rfl rfl rfl hd_L_does ⟨Nat.le_of_ble_eq_true rfl, Nat.le_of_ble_eq_true rfl⟩ rfl rfl (Nat.le_of_ble_eq_true rfl) dL_areAlike_117 ⟨(show (0 + k * 168 + 7) + 1 ≤ 2700 from by omega), (show (0 + k * 1008 + 42) + 6 ≤ 16200 from by omega)⟩) (fun gx he => ⟨(de_27 he _).1.symm, he⟩) (fun H locs hw hS => ?_)
        refine lv_icmp_ne (tgt := 127) hx hb dL_areAlike_120 (by decide) (fun c => absurd rfl c) (fun _ => ?_)
        refine lv_iconst (v := 1) hx hb dL_areAlike_123 (by decide) ?_
        refine lv_goto (tgt := 128) hx hb dL_areAlike_124 (by decide) ?_
        refine lv_istore_n (lv' := [(3, .int (1 : Int32)), (4, .int (nI k)), (0, .ref (ad 0)), (1, .ref (ae 0)), (2, .int v1)]) hx hb dL_areAlike_128 rfl hl (by decide) rfl (fun ls hl => ?_)
        refine lv_iconst (v := 0) hx hb dL_areAlike_129 (by decide) ?_
        refine lv_istore (lv' := [(5, .int (0 : Int32)), (3, .int (1 : Int32)), (4, .int (nI k)), (0, .ref (ad 0)), (1, .ref (ae 0)), (2, .int v1)]) hx hb dL_areAlike_130 hl (by decide) rfl (fun ls hl => ?_)
        have lp_132 : ∀ (nn q : Nat), q ≤ 8 → 8 < q + nn → ∀ (H : Heap) (locs : List Loc) (ls : Array Slot), k2 D cy base ad n nc g ae n nc g H → va_S (kA base) s.heap H locs → lv_has ls 6 [(5, .int (nI q)), (3, .int (1 : Int32)), (4, .int (nI k)), (0, .ref (ad 0)), (1, .ref (ae 0)), (2, .int v1)] → W p l e (kR 10 2700 16200) s m args below meth c H locs ((0 + k * 168 + 8) + q * 20 + 0) ((0 + k * 1008 + 48) + q * 120 + 0) Q (F0 m 132 ls []) := by
          intro nn
          induction nn with
          | zero => intro q h1 h2; exact absurd h2 (by omega)
          | succ nn ih_132 =>
            intro q hk_q hkn_q H locs ls hw hS hl
            refine lv_iload hx hb dL_areAlike_132 (lv_at hl 0 rfl) ?_
            refine lv_bipush (v := 8) hx hb dL_areAlike_134 (by decide) ?_
            refine lv_icmp_ge (tgt := 284) hx hb dL_areAlike_136 (by decide) (fun c_136 => ?_) (fun c_136 => ?_)
            · have e_q : q = 8 := Nat.le_antisymm hk_q (le_nI (a := 8) (b := q) c_136 (by omega) (by omega))
              refine W.widen (k := (0 + k * 168 + 168)) (n := (0 + k * 1008 + 1008)) (by omega) (by omega) ?_
              refine lv_iinc (v := (nI k + (1 : Int32))) (lv' := [(4, .int (nI k + (1 : Int32))), (5, .int (nI q)), (3, .int (1 : Int32)), (0, .ref (ad 0)), (1, .ref (ae 0)), (2, .int v1)]) hx hb dL_areAlike_284 hl (k := 2) rfl rfl (by decide) rfl (fun ls hl => ?_)
              refine lv_goto (tgt := 20) hx hb dL_areAlike_287 (by decide) ?_
              refine W.widen (k := (0 + (k + 1) * 168 + 0)) (n := (0 + (k + 1) * 1008 + 0)) (by omega) (by omega) ?_
              exact ih_20 (k + 1) (by omega) (by omega) _ _ _ hw hS (kx_lv (l := [(4, .int (nI k + (1 : Int32))), (3, .int (1 : Int32)), (0, .ref (ad 0)), (1, .ref (ae 0)), (2, .int v1)]) (l' := [(4, .int (nI (k + 1))), (3, .int (1 : Int32)), (0, .ref (ad 0)), (1, .ref (ae 0)), (2, .int v1)]) (lv_sub hl [0, 2, 3, 4, 5] rfl) (by rw [nI_1])) 
            · have hlt_q : q < 8 := lt_nI (a := 8) (b := q) c_136 (by omega) (by omega)
              refine lv_iload_n hx hb dL_areAlike_139 rfl (lv_at hl 1 rfl) ?_
              refine lv_if_eq (tgt := 284) hx hb dL_areAlike_140 (by decide) (fun c => absurd c (by decide)) (fun _ => ?_)
              refine lv_aload_n hx hb dL_areAlike_143 rfl (lv_at hl 3 rfl) ?_
              refine lv_bipush (v := 19) hx hb dL_areAlike_144 (by decide) ?_
              refine lv_iload hx hb dL_areAlike_146 (lv_at hl 2 rfl) ?_
              refine lv_iload hx hb dL_areAlike_148 (lv_at hl 0 rfl) ?_
              refine lv_iconst (v := 0) hx hb dL_areAlike_150 (by decide) ?_
              refine k2_ask (V := fun gx => (dF_19 n nc gx (nI k) (nI q)).1) (G := fun gx => gx) (v1 := ((dF_19 n nc g (nI k) (nI q)).1)) hG hS hw (k2_sT (As := [.ref (ad 0), .int (19 : Int32), .int (nI k), .int (nI q), .int (0 : Int32)]) (rest := []) hF hl.1 (fun b9 gx he => c_L_does_19 l hfl D cy b9 ad n nc gx (nI k) (nI q) (0 : Int32) (hI.e8 he).fr (hI.e8 he).cr (hI.e8 he).R) gL_areAlike_L_does rfl rfl rfl hd_L_does ⟨Nat.le_of_ble_eq_true rfl, Nat.le_of_ble_eq_true rfl⟩ rfl rfl (Nat.le_of_ble_eq_true rfl) dL_areAlike_151 ⟨(show ((0 + k * 168 + 8) + q * 20 + 0) + 2 ≤ 2700 from by omega), (show ((0 + k * 1008 + 48) + q * 120 + 0) + 12 ≤ 16200 from by omega)⟩) (fun gx he => ⟨(de_19 he _ _).1.symm, he⟩) (fun H locs hw hS => ?_)
              refine lv_aload_n hx hb dL_areAlike_154 rfl (lv_at hl 4 rfl) ?_
              refine lv_bipush (v := 19) hx hb dL_areAlike_155 (by decide) ?_
              refine lv_iload hx hb dL_areAlike_157 (lv_at hl 2 rfl) ?_
              refine lv_iload hx hb dL_areAlike_159 (lv_at hl 0 rfl) ?_
              refine lv_iconst (v := 0) hx hb dL_areAlike_161 (by decide) ?_
              refine k2_ask2 (V := fun gx => (dF_19 n nc gx (nI k) (nI q)).1) (G := fun gx => gx) (v1 := ((dF_19 n nc g (nI k) (nI q)).1)) hG hS hw (k2_sT (As := [.ref (ae 0), .int (19 : Int32), .int (nI k), .int (nI q), .int (0 : Int32)]) (rest := [.int ((dF_19 n nc g (nI k) (nI q)).1)]) hF hl.1 (fun b9 gx he => c_L_does_19 l hfl D cy b9 ae n nc gx (nI k) (nI q) (0 : Int32) (hI.e8 he).fr (hI.e8 he).cr (hI.e8 he).R) gL_areAlike_L_does rfl rfl rfl hd_L_does ⟨Nat.le_of_ble_eq_true rfl, Nat.le_of_ble_eq_true rfl⟩ rfl rfl (Nat.le_of_ble_eq_true rfl) dL_areAlike_162 ⟨(show ((0 + k * 168 + 8) + q * 20 + 2) + 2 ≤ 2700 from by omega), (show ((0 + k * 1008 + 48) + q * 120 + 12) + 12 ≤ 16200 from by omega)⟩) (fun gx he => ⟨(de_19 he _ _).1.symm, he⟩) (fun H locs hw hS => ?_)
              refine lv_icmp_ne (tgt := 276) hx hb dL_areAlike_165 (by decide) (fun c => absurd rfl c) (fun _ => ?_)
              refine lv_aload_n hx hb dL_areAlike_168 rfl (lv_at hl 3 rfl) ?_
              refine lv_bipush (v := 20) hx hb dL_areAlike_169 (by decide) ?_
              refine lv_iload hx hb dL_areAlike_171 (lv_at hl 0 rfl) ?_
              refine lv_iload hx hb dL_areAlike_173 (lv_at hl 2 rfl) ?_
              refine lv_iconst (v := 0) hx hb dL_areAlike_175 (by decide) ?_
              refine k2_ask (V := fun gx => (dF_20 n nc gx (nI q) (nI k)).1) (G := fun gx => (dF_20 n nc gx (nI q) (nI k)).2) (v1 := ((dF_20 n nc g (nI q) (nI k)).1)) hG hS hw (k2_sT (As := [.ref (ad 0), .int (20 : Int32), .int (nI q), .int (nI k), .int (0 : Int32)]) (rest := []) hF hl.1 (fun b9 gx he => c_L_does_20 l hfl D cy b9 ad n nc gx (nI q) (nI k) (0 : Int32) (hI.e8 he).fr (hI.e8 he).cr (hI.e8 he).R) gL_areAlike_L_does rfl rfl rfl hd_L_does ⟨Nat.le_of_ble_eq_true rfl, Nat.le_of_ble_eq_true rfl⟩ rfl rfl (Nat.le_of_ble_eq_true rfl) dL_areAlike_176 ⟨(show ((0 + k * 168 + 8) + q * 20 + 4) + 2 ≤ 2700 from by omega), (show ((0 + k * 1008 + 48) + q * 120 + 24) + 12 ≤ 16200 from by omega)⟩) (fun gx he => ⟨(de_20 he _ _).1.symm, he.tr (dq_20 _ _ _)⟩) (fun H locs hw hS => ?_)
              refine lv_aload_n hx hb dL_areAlike_179 rfl (lv_at hl 4 rfl) ?_
              refine lv_bipush (v := 20) hx hb dL_areAlike_180 (by decide) ?_
              refine lv_iload hx hb dL_areAlike_182 (lv_at hl 0 rfl) ?_
              refine lv_iload hx hb dL_areAlike_184 (lv_at hl 2 rfl) ?_
              refine lv_iconst (v := 0) hx hb dL_areAlike_186 (by decide) ?_
              refine k2_ask2 (V := fun gx => (dF_20 n nc gx (nI q) (nI k)).1) (G := fun gx => (dF_20 n nc gx (nI q) (nI k)).2) (v1 := ((dF_20 n nc g (nI q) (nI k)).1)) hG hS hw (k2_sT (As := [.ref (ae 0), .int (20 : Int32), .int (nI q), .int (nI k), .int (0 : Int32)]) (rest := [.int ((dF_20 n nc g (nI q) (nI k)).1)]) hF hl.1 (fun b9 gx he => c_L_does_20 l hfl D cy b9 ae n nc gx (nI q) (nI k) (0 : Int32) (hI.e8 he).fr (hI.e8 he).cr (hI.e8 he).R) gL_areAlike_L_does rfl rfl rfl hd_L_does ⟨Nat.le_of_ble_eq_true rfl, Nat.le_of_ble_eq_true rfl⟩ rfl rfl (Nat.le_of_ble_eq_true rfl) dL_areAlike_187 ⟨(show ((0 + k * 168 + 8) + q * 20 + 6) + 2 ≤ 2700 from by omega), (show ((0 + k * 1008 + 48) + q * 120 + 36) + 12 ≤ 16200 from by omega)⟩) (fun gx he => ⟨(de_20 he _ _).1.symm, he.tr (dq_20 _ _ _)⟩) (fun H locs hw hS => ?_)
              refine lv_icmp_ne (tgt := 276) hx hb dL_areAlike_190 (by decide) (fun c => absurd rfl c) (fun _ => ?_)
              refine lv_aload_n hx hb dL_areAlike_193 rfl (lv_at hl 3 rfl) ?_
              refine lv_bipush (v := 24) hx hb dL_areAlike_194 (by decide) ?_
              refine lv_iload hx hb dL_areAlike_196 (lv_at hl 2 rfl) ?_
              refine lv_iload hx hb dL_areAlike_198 (lv_at hl 0 rfl) ?_
              refine lv_iconst (v := 0) hx hb dL_areAlike_200 (by decide) ?_
              refine k2_ask (V := fun gx => (dF_24 n nc gx (nI k) (nI q)).1) (G := fun gx => gx) (v1 := ((dF_24 n nc g (nI k) (nI q)).1)) hG hS hw (k2_sT (As := [.ref (ad 0), .int (24 : Int32), .int (nI k), .int (nI q), .int (0 : Int32)]) (rest := []) hF hl.1 (fun b9 gx he => c_L_does_24 l hfl D cy b9 ad n nc gx (nI k) (nI q) (0 : Int32) (hI.e8 he).fr) gL_areAlike_L_does rfl rfl rfl hd_L_does ⟨Nat.le_of_ble_eq_true rfl, Nat.le_of_ble_eq_true rfl⟩ rfl rfl (Nat.le_of_ble_eq_true rfl) dL_areAlike_201 ⟨(show ((0 + k * 168 + 8) + q * 20 + 8) + 2 ≤ 2700 from by omega), (show ((0 + k * 1008 + 48) + q * 120 + 48) + 12 ≤ 16200 from by omega)⟩) (fun gx he => ⟨(de_24 he _ _).1.symm, he⟩) (fun H locs hw hS => ?_)
              refine lv_aload_n hx hb dL_areAlike_204 rfl (lv_at hl 4 rfl) ?_
              refine lv_bipush (v := 24) hx hb dL_areAlike_205 (by decide) ?_
              refine lv_iload hx hb dL_areAlike_207 (lv_at hl 2 rfl) ?_
              refine lv_iload hx hb dL_areAlike_209 (lv_at hl 0 rfl) ?_
              refine lv_iconst (v := 0) hx hb dL_areAlike_211 (by decide) ?_
              refine k2_ask2 (V := fun gx => (dF_24 n nc gx (nI k) (nI q)).1) (G := fun gx => gx) (v1 := ((dF_24 n nc g (nI k) (nI q)).1)) hG hS hw (k2_sT (As := [.ref (ae 0), .int (24 : Int32), .int (nI k), .int (nI q), .int (0 : Int32)]) (rest := [.int ((dF_24 n nc g (nI k) (nI q)).1)]) hF hl.1 (fun b9 gx he => c_L_does_24 l hfl D cy b9 ae n nc gx (nI k) (nI q) (0 : Int32) (hI.e8 he).fr) gL_areAlike_L_does rfl rfl rfl hd_L_does ⟨Nat.le_of_ble_eq_true rfl, Nat.le_of_ble_eq_true rfl⟩ rfl rfl (Nat.le_of_ble_eq_true rfl) dL_areAlike_212 ⟨(show ((0 + k * 168 + 8) + q * 20 + 10) + 2 ≤ 2700 from by omega), (show ((0 + k * 1008 + 48) + q * 120 + 60) + 12 ≤ 16200 from by omega)⟩) (fun gx he => ⟨(de_24 he _ _).1.symm, he⟩) (fun H locs hw hS => ?_)
              refine lv_icmp_ne (tgt := 276) hx hb dL_areAlike_215 (by decide) (fun c => absurd rfl c) (fun _ => ?_)
              refine lv_aload_n hx hb dL_areAlike_218 rfl (lv_at hl 3 rfl) ?_
              refine lv_bipush (v := 26) hx hb dL_areAlike_219 (by decide) ?_
              refine lv_iload hx hb dL_areAlike_221 (lv_at hl 2 rfl) ?_
              refine lv_iload hx hb dL_areAlike_223 (lv_at hl 0 rfl) ?_
              refine lv_iconst (v := 0) hx hb dL_areAlike_225 (by decide) ?_
              refine k2_ask (V := fun gx => (dF_26 n nc gx (nI k) (nI q)).1) (G := fun gx => gx) (v1 := ((dF_26 n nc g (nI k) (nI q)).1)) hG hS hw (k2_sT (As := [.ref (ad 0), .int (26 : Int32), .int (nI k), .int (nI q), .int (0 : Int32)]) (rest := []) hF hl.1 (fun b9 gx he => c_L_does_26 l hfl D cy b9 ad n nc gx (nI k) (nI q) (0 : Int32) (hI.e8 he).cr) gL_areAlike_L_does rfl rfl rfl hd_L_does ⟨Nat.le_of_ble_eq_true rfl, Nat.le_of_ble_eq_true rfl⟩ rfl rfl (Nat.le_of_ble_eq_true rfl) dL_areAlike_226 ⟨(show ((0 + k * 168 + 8) + q * 20 + 12) + 2 ≤ 2700 from by omega), (show ((0 + k * 1008 + 48) + q * 120 + 72) + 12 ≤ 16200 from by omega)⟩) (fun gx he => ⟨(de_26 he _ _).1.symm, he⟩) (fun H locs hw hS => ?_)
              refine lv_aload_n hx hb dL_areAlike_229 rfl (lv_at hl 4 rfl) ?_
              refine lv_bipush (v := 26) hx hb dL_areAlike_230 (by decide) ?_
              refine lv_iload hx hb dL_areAlike_232 (lv_at hl 2 rfl) ?_
              refine lv_iload hx hb dL_areAlike_234 (lv_at hl 0 rfl) ?_
              refine lv_iconst (v := 0) hx hb dL_areAlike_236 (by decide) ?_
              refine k2_ask2 (V := fun gx => (dF_26 n nc gx (nI k) (nI q)).1) (G := fun gx => gx) (v1 := ((dF_26 n nc g (nI k) (nI q)).1)) hG hS hw (k2_sT (As := [.ref (ae 0), .int (26 : Int32), .int (nI k), .int (nI q), .int (0 : Int32)]) (rest := [.int ((dF_26 n nc g (nI k) (nI q)).1)]) hF hl.1 (fun b9 gx he => c_L_does_26 l hfl D cy b9 ae n nc gx (nI k) (nI q) (0 : Int32) (hI.e8 he).cr) gL_areAlike_L_does rfl rfl rfl hd_L_does ⟨Nat.le_of_ble_eq_true rfl, Nat.le_of_ble_eq_true rfl⟩ rfl rfl (Nat.le_of_ble_eq_true rfl) dL_areAlike_237 ⟨(show ((0 + k * 168 + 8) + q * 20 + 14) + 2 ≤ 2700 from by omega), (show ((0 + k * 1008 + 48) + q * 120 + 84) + 12 ≤ 16200 from by omega)⟩) (fun gx he => ⟨(de_26 he _ _).1.symm, he⟩) (fun H locs hw hS => ?_)
              refine lv_icmp_ne (tgt := 276) hx hb dL_areAlike_240 (by decide) (fun c => absurd rfl c) (fun _ => ?_)
              refine lv_aload_n hx hb dL_areAlike_243 rfl (lv_at hl 3 rfl) ?_
              refine lv_bipush (v := 25) hx hb dL_areAlike_244 (by decide) ?_
              refine lv_iload hx hb dL_areAlike_246 (lv_at hl 2 rfl) ?_
              refine lv_iload hx hb dL_areAlike_248 (lv_at hl 0 rfl) ?_
              refine lv_iload_n hx hb dL_areAlike_250 rfl (lv_at hl 5 rfl) ?_
              refine lv_iconst (v := 1) hx hb dL_areAlike_251 (by decide) ?_
              refine lv_iand hx hb dL_areAlike_252 ?_
              refine k2_ask (V := fun gx => (dF_25 n nc gx (nI k) (nI q) (v1 &&& (1 : Int32))).1) (G := fun gx => gx) (v1 := ((dF_25 n nc g (nI k) (nI q) (v1 &&& (1 : Int32))).1)) hG hS hw (k2_sT (As := [.ref (ad 0), .int (25 : Int32), .int (nI k), .int (nI q), .int (v1 &&& (1 : Int32))]) (rest := []) hF hl.1 (fun b9 gx he => c_L_does_25 l hfl D cy b9 ad n nc gx (nI k) (nI q) (v1 &&& (1 : Int32)) (hI.e8 he).fr (hI.e8 he).hh) gL_areAlike_L_does rfl rfl rfl hd_L_does ⟨Nat.le_of_ble_eq_true rfl, Nat.le_of_ble_eq_true rfl⟩ rfl rfl (Nat.le_of_ble_eq_true rfl) dL_areAlike_253 ⟨(show ((0 + k * 168 + 8) + q * 20 + 16) + 2 ≤ 2700 from by omega), (show ((0 + k * 1008 + 48) + q * 120 + 96) + 12 ≤ 16200 from by omega)⟩) (fun gx he => ⟨(de_25 he _ _ _).1.symm, he⟩) (fun H locs hw hS => ?_)
              refine lv_aload_n hx hb dL_areAlike_256 rfl (lv_at hl 4 rfl) ?_
              refine lv_bipush (v := 25) hx hb dL_areAlike_257 (by decide) ?_
              refine lv_iload hx hb dL_areAlike_259 (lv_at hl 2 rfl) ?_
              refine lv_iload hx hb dL_areAlike_261 (lv_at hl 0 rfl) ?_
              refine lv_iload_n hx hb dL_areAlike_263 rfl (lv_at hl 5 rfl) ?_
              refine lv_iconst (v := 1) hx hb dL_areAlike_264 (by decide) ?_
              refine lv_iand hx hb dL_areAlike_265 ?_
              refine k2_ask2 (V := fun gx => (dF_25 n nc gx (nI k) (nI q) (v1 &&& (1 : Int32))).1) (G := fun gx => gx) (v1 := ((dF_25 n nc g (nI k) (nI q) (v1 &&& (1 : Int32))).1)) hG hS hw (k2_sT (As := [.ref (ae 0), .int (25 : Int32), .int (nI k), .int (nI q), .int (v1 &&& (1 : Int32))]) (rest := [.int ((dF_25 n nc g (nI k) (nI q) (v1 &&& (1 : Int32))).1)]) hF hl.1 (fun b9 gx he => c_L_does_25 l hfl D cy b9 ae n nc gx (nI k) (nI q) (v1 &&& (1 : Int32)) (hI.e8 he).fr (hI.e8 he).hh) gL_areAlike_L_does rfl rfl rfl hd_L_does ⟨Nat.le_of_ble_eq_true rfl, Nat.le_of_ble_eq_true rfl⟩ rfl rfl (Nat.le_of_ble_eq_true rfl) dL_areAlike_266 ⟨(show ((0 + k * 168 + 8) + q * 20 + 18) + 2 ≤ 2700 from by omega), (show ((0 + k * 1008 + 48) + q * 120 + 108) + 12 ≤ 16200 from by omega)⟩) (fun gx he => ⟨(de_25 he _ _ _).1.symm, he⟩) (fun H locs hw hS => ?_)
              refine lv_icmp_ne (tgt := 276) hx hb dL_areAlike_269 (by decide) (fun c => absurd rfl c) (fun _ => ?_)
              refine lv_iconst (v := 1) hx hb dL_areAlike_272 (by decide) ?_
              refine lv_goto (tgt := 277) hx hb dL_areAlike_273 (by decide) ?_
              refine lv_istore_n (lv' := [(3, .int (1 : Int32)), (5, .int (nI q)), (4, .int (nI k)), (0, .ref (ad 0)), (1, .ref (ae 0)), (2, .int v1)]) hx hb dL_areAlike_277 rfl hl (by decide) rfl (fun ls hl => ?_)
              refine lv_iinc (v := (nI q + (1 : Int32))) (lv' := [(5, .int (nI q + (1 : Int32))), (3, .int (1 : Int32)), (4, .int (nI k)), (0, .ref (ad 0)), (1, .ref (ae 0)), (2, .int v1)]) hx hb dL_areAlike_278 hl (k := 1) rfl rfl (by decide) rfl (fun ls hl => ?_)
              refine lv_goto (tgt := 132) hx hb dL_areAlike_281 (by decide) ?_
              refine W.widen (k := ((0 + k * 168 + 8) + (q + 1) * 20 + 0)) (n := ((0 + k * 1008 + 48) + (q + 1) * 120 + 0)) (by omega) (by omega) ?_
              exact ih_132 (q + 1) (by omega) (by omega) _ _ _ hw hS (kx_lv (l := [(5, .int (nI q + (1 : Int32))), (3, .int (1 : Int32)), (4, .int (nI k)), (0, .ref (ad 0)), (1, .ref (ae 0)), (2, .int v1)]) (l' := [(5, .int (nI (q + 1))), (3, .int (1 : Int32)), (4, .int (nI k)), (0, .ref (ad 0)), (1, .ref (ae 0)), (2, .int v1)]) (lv_sub hl [0, 1, 2, 3, 4, 5] rfl) (by rw [nI_1])) 
        refine W.widen (k := ((0 + k * 168 + 8) + 0 * 20 + 0)) (n := ((0 + k * 1008 + 48) + 0 * 120 + 0)) (by omega) (by omega) ?_
        exact lp_132 (8 + 1) 0 (by omega) (by omega) _ _ _ hw hS (kx_lv (l := [(5, .int (0 : Int32)), (3, .int (1 : Int32)), (4, .int (nI k)), (0, .ref (ad 0)), (1, .ref (ae 0)), (2, .int v1)]) (l' := [(5, .int (nI 0)), (3, .int (1 : Int32)), (4, .int (nI k)), (0, .ref (ad 0)), (1, .ref (ae 0)), (2, .int v1)]) (lv_sub hl [0, 1, 2, 3, 4, 5] rfl) (rfl)) 
  refine W.widen (k := (0 + 0 * 168 + 0)) (n := (0 + 0 * 1008 + 0)) (by omega) (by omega) ?_
  exact lp_20 (16 + 1) 0 (by omega) (by omega) _ _ _ hw hS (kx_lv (l := [(4, .int (0 : Int32)), (3, .int (1 : Int32)), (0, .ref (ad 0)), (1, .ref (ae 0)), (2, .int v1)]) (l' := [(4, .int (nI 0)), (3, .int (1 : Int32)), (0, .ref (ad 0)), (1, .ref (ae 0)), (2, .int v1)]) (lv_sub hl [0, 1, 2, 3, 4] rfl) (rfl)) 
