/-! walks laid by wip/p35/kgen.py, kall.py -/
theorem hd_L_areFinds : yL_areFinds.cls ≠ "java/lang/invoke/MethodHandle" ∧ yL_areFinds.cls ≠ "java/lang/invoke/VarHandle" ∧ (parseMethodDescriptor yL_areFinds.desc).map (fun d => d.parameters.length) = some 1 := by decide +kernel
set_option maxHeartbeats 4000000 in
set_option maxRecDepth 100000 in
theorem c_L_areFinds (l : Launch) (hfl : l.stackTraces = false) (D : va_G) (cy : Nat → ClassId) (base : Nat → Prop) (ad : Nat → Nat) (n nc : Nat) (g : sg) (hI : Inv n nc g) : kM l yL_areFinds wsL_areFinds (kR 10 2800 16800) D cy base ad n nc g [.ref (ad 0)] (kD True (some (.int (b2 true))) ad n nc g) kNo 2800 16800 := by
  refine kx_meth (cc := cL_areFinds) (maxL := 8) (ret := (some .boolean)) (by decide) rfl (Nat.le_of_ble_eq_true rfl) ?_
  intro p e s m args below meth c ls hx hb hr hml hown hts hlk hT hG hw0 hS0 hl Q H locs hQ hw hS hH0 hlocs0
  have hl : lv_has ls 8 [(0, .ref (ad 0))] := hl
  have hown : s.vm.findClass RL = some m.cls := hown
  have hF : CallFix p m c cL_areFinds 8 s args wsL_areFinds RL := ⟨hx, hb, hml, hown, hts⟩
  have hn30 : n ≤ 30 := hw.2.2.1
  have hc20 : nc ≤ 20 := hw.2.2.2
  clear hw0 hS0 hH0 hlocs0
  have k_80 := hts (.constant RL 80 (-2100000000)) (by decide +kernel)
  have hfr := hI.fr
  have hcr := hI.cr
  have hR := hI.R
  have hh := hI.hh
  refine lv_iconst (v := 1) hx hb dL_areFinds_0 (by decide) ?_
  refine lv_istore_n (lv' := [(1, .int (1 : Int32)), (0, .ref (ad 0))]) hx hb dL_areFinds_1 rfl hl (by decide) rfl (fun ls hl => ?_)
  refine lv_iconst (v := 0) hx hb dL_areFinds_2 (by decide) ?_
  refine lv_istore_n (lv' := [(2, .int (0 : Int32)), (1, .int (1 : Int32)), (0, .ref (ad 0))]) hx hb dL_areFinds_3 rfl hl (by decide) rfl (fun ls hl => ?_)
  refine lv_iconst (v := 0) hx hb dL_areFinds_4 (by decide) ?_
  refine lv_istore_n (lv' := [(3, .int (0 : Int32)), (2, .int (0 : Int32)), (1, .int (1 : Int32)), (0, .ref (ad 0))]) hx hb dL_areFinds_5 rfl hl (by decide) rfl (fun ls hl => ?_)
  refine lv_iconst (v := 0) hx hb dL_areFinds_6 (by decide) ?_
  refine lv_istore (lv' := [(4, .int (0 : Int32)), (3, .int (0 : Int32)), (2, .int (0 : Int32)), (1, .int (1 : Int32)), (0, .ref (ad 0))]) hx hb dL_areFinds_7 hl (by decide) rfl (fun ls hl => ?_)
  have lp_9 : ∀ (nn r9 : Nat), r9 ≤ 6 → 6 < r9 + nn → ∀ (H : Heap) (locs : List Loc) (ls : Array Slot), kW D cy base ad n nc g H → va_S (kA base) s.heap H locs → lv_has ls 8 [(4, .int (nI r9)), (3, .int (0 : Int32)), (2, .int (auA g n r9)), (1, .int (1 : Int32)), (0, .ref (ad 0))] → W p l e (kR 10 2800 16800) s m args below meth c H locs (0 + r9 * 2 + 0) (0 + r9 * 12 + 0) Q (F0 m 9 ls []) := by
    intro nn
    induction nn with
    | zero => intro r9 h1 h2; exact absurd h2 (by omega)
    | succ nn ih_9 =>
      intro r9 hk_r9 hkn_r9 H locs ls hw hS hl
      refine lv_iload hx hb dL_areFinds_9 (lv_at hl 0 rfl) ?_
      refine lv_bipush (v := 6) hx hb dL_areFinds_11 (by decide) ?_
      refine lv_icmp_ge (tgt := 52) hx hb dL_areFinds_13 (by decide) (fun c_13 => ?_) (fun c_13 => ?_)
      · have e_r9 : r9 = 6 := Nat.le_antisymm hk_r9 (le_nI (a := 6) (b := r9) c_13 (by omega) (by omega))
        refine W.widen (k := 12) (n := 72) (by omega) (by omega) ?_
        rw [e_r9] at hl
        refine lv_iconst (v := 0) hx hb dL_areFinds_52 (by decide) ?_
        refine lv_istore (lv' := [(4, .int (0 : Int32)), (3, .int (0 : Int32)), (2, .int (auA g n 6)), (1, .int (1 : Int32)), (0, .ref (ad 0))]) hx hb dL_areFinds_53 hl (by decide) rfl (fun ls hl => ?_)
        have lp_55 : ∀ (nn k : Nat), k ≤ n → n < k + nn → ∀ (H : Heap) (locs : List Loc) (ls : Array Slot), kW D cy base ad n nc g H → va_S (kA base) s.heap H locs → lv_has ls 8 [(4, .int (nI k)), (3, .int (kpA g k)), (2, .int (auA g n 6)), (1, .int (1 : Int32)), (0, .ref (ad 0))] → W p l e (kR 10 2800 16800) s m args below meth c H locs (12 + k * 87 + 0) (72 + k * 522 + 0) Q (F0 m 55 ls []) := by
          intro nn
          induction nn with
          | zero => intro k h1 h2; exact absurd h2 (by omega)
          | succ nn ih_55 =>
            intro k hk_k hkn_k H locs ls hw hS hl
            refine lv_aload_n hx hb dL_areFinds_55 rfl (lv_at hl 4 rfl) ?_
            refine lv_bipush (v := 24) hx hb dL_areFinds_56 (by decide) ?_
            refine lv_iload hx hb dL_areFinds_58 (lv_at hl 0 rfl) ?_
            refine lv_iconst (v := 0) hx hb dL_areFinds_60 (by decide) ?_
            refine lv_iconst (v := 0) hx hb dL_areFinds_61 (by decide) ?_
            refine kx_do (st1 := [.int ((dF_24 n nc g (nI k) (0 : Int32)).1)]) (kx_csH (As := [.ref (ad 0), .int (24 : Int32), .int (nI k), .int (0 : Int32), .int (0 : Int32)]) (rest := []) hF hG hw hS hl.1 (c_L_does_24 l hfl D cy base ad n nc g (nI k) (0 : Int32) (0 : Int32) (by first | assumption | omega | exact mR_9 (by assumption) _ _ | simp [sU, hI])) gL_areFinds_L_does rfl rfl rfl hd_L_does ⟨Nat.le_of_ble_eq_true rfl, Nat.le_of_ble_eq_true rfl⟩ rfl rfl (Nat.le_of_ble_eq_true rfl) dL_areFinds_62 ⟨(show (12 + k * 87 + 0) + 2 ≤ 2800 from by omega), (show (72 + k * 522 + 0) + 12 ≤ 16800 from by omega)⟩) hS rfl (fun _ _ _ _ _ h => h.elim) (fun _ H locs hw hS => ?_)
            refine lv_if_lt (tgt := 265) hx hb dL_areFinds_65 (by decide) (fun c_65 => ?_) (fun c_65 => ?_)
            · have e_k : k = n := d24_T hI hk_k c_65
              refine W.widen (k := 2624) (n := 15744) (by omega) (by omega) ?_
              rw [e_k] at hl
              refine lv_iload_n hx hb dL_areFinds_265 rfl (lv_at hl 3 rfl) ?_
              refine lv_if_eq (tgt := 302) hx hb dL_areFinds_266 (by decide) (fun c => absurd c (by decide)) (fun _ => ?_)
              refine lv_iload_n hx hb dL_areFinds_269 rfl (lv_at hl 1 rfl) ?_
              refine lv_iload_n hx hb dL_areFinds_270 rfl (lv_at hl 2 rfl) ?_
              refine lv_icmp_ne (tgt := 302) hx hb dL_areFinds_271 (by decide) (fun c_271 => ?_) (fun c_271 => ?_)
              · exact absurd (fin2 hI) c_271
              · refine lv_aload_n hx hb dL_areFinds_274 rfl (lv_at hl 4 rfl) ?_
                refine lv_iconst (v := 0) hx hb dL_areFinds_275 (by decide) ?_
                refine kx_sure (v1 := (g 0 12)) (g2 := g) (kx_cv (As := [.int (0 : Int32)]) (rest := []) hF hG hw hS hl.1 kC_0 rfl (c_X2_money l hfl D cy base ad n nc g (0 : Int32) ) gL_areFinds_X2_money rfl rfl rfl hd_X2_money ⟨Nat.le_of_ble_eq_true rfl, Nat.le_of_ble_eq_true rfl⟩ rfl rfl (Nat.le_of_ble_eq_true rfl) dL_areFinds_276 ⟨Nat.le_of_ble_eq_true rfl, Nat.le_of_ble_eq_true rfl⟩) hS (fun E9 hE9 => kEx_no hE9 (by decide +kernel)) (mo0) (rfl) (fun H locs hw hS => ?_)
                refine lv_if_lt (tgt := 302) hx hb dL_areFinds_279 (by decide) (fun c_279 => ?_) (fun c_279 => ?_)
                · exact absurd c_279 (gv_nlt (mon hI).1)
                · refine lv_aload_n hx hb dL_areFinds_282 rfl (lv_at hl 4 rfl) ?_
                  refine lv_iconst (v := 1) hx hb dL_areFinds_283 (by decide) ?_
                  refine kx_sure (v1 := (g 0 13)) (g2 := g) (kx_cv (As := [.int (1 : Int32)]) (rest := []) hF hG hw hS hl.1 kC_0 rfl (c_X2_money l hfl D cy base ad n nc g (1 : Int32) ) gL_areFinds_X2_money rfl rfl rfl hd_X2_money ⟨Nat.le_of_ble_eq_true rfl, Nat.le_of_ble_eq_true rfl⟩ rfl rfl (Nat.le_of_ble_eq_true rfl) dL_areFinds_284 ⟨Nat.le_of_ble_eq_true rfl, Nat.le_of_ble_eq_true rfl⟩) hS (fun E9 hE9 => kEx_no hE9 (by decide +kernel)) (mo1) (rfl) (fun H locs hw hS => ?_)
                  refine lv_if_lt (tgt := 302) hx hb dL_areFinds_287 (by decide) (fun c_287 => ?_) (fun c_287 => ?_)
                  · exact absurd c_287 (gv_nlt (mon hI).2.1)
                  · refine lv_aload_n hx hb dL_areFinds_290 rfl (lv_at hl 4 rfl) ?_
                    refine lv_iconst (v := 2) hx hb dL_areFinds_291 (by decide) ?_
                    refine kx_sure (v1 := (g 0 14)) (g2 := g) (kx_cv (As := [.int (2 : Int32)]) (rest := []) hF hG hw hS hl.1 kC_0 rfl (c_X2_money l hfl D cy base ad n nc g (2 : Int32) ) gL_areFinds_X2_money rfl rfl rfl hd_X2_money ⟨Nat.le_of_ble_eq_true rfl, Nat.le_of_ble_eq_true rfl⟩ rfl rfl (Nat.le_of_ble_eq_true rfl) dL_areFinds_292 ⟨Nat.le_of_ble_eq_true rfl, Nat.le_of_ble_eq_true rfl⟩) hS (fun E9 hE9 => kEx_no hE9 (by decide +kernel)) (mo2) (rfl) (fun H locs hw hS => ?_)
                    refine lv_if_lt (tgt := 302) hx hb dL_areFinds_295 (by decide) (fun c_295 => ?_) (fun c_295 => ?_)
                    · exact absurd c_295 (gv_nlt (mon hI).2.2)
                    · refine lv_iconst (v := 1) hx hb dL_areFinds_298 (by decide) ?_
                      refine lv_goto (tgt := 303) hx hb dL_areFinds_299 (by decide) ?_
                      exact kx_retZ hQ hx hb hr hlk hw hS (Nat.le_of_ble_eq_true rfl) (Nat.le_of_ble_eq_true rfl) dL_areFinds_303 rfl (kd_i (trivial) (rfl) (rfl))
            · have hlt_k : k < n := d24_F hI hk_k c_65
              obtain ⟨h, hh1, hh2, hh3, hh4, hh5, hh6⟩ := fI_h hI hlt_k
              refine lv_iload_n hx hb dL_areFinds_68 rfl (lv_at hl 3 rfl) ?_
              refine lv_if_eq (tgt := 265) hx hb dL_areFinds_69 (by decide) (fun c => absurd c (by decide)) (fun _ => ?_)
              refine lv_aload_n hx hb dL_areFinds_72 rfl (lv_at hl 4 rfl) ?_
              refine lv_iload hx hb dL_areFinds_73 (lv_at hl 0 rfl) ?_
              refine lv_iconst (v := 0) hx hb dL_areFinds_75 (by decide) ?_
              refine kx_sure (v1 := (g (100 + 3 * k) 9)) (g2 := g) (kx_cv (As := [.int (nI k), .int (0 : Int32)]) (rest := []) hF hG hw hS hl.1 kC_0 rfl (c_X2_ofFind l hfl D cy base ad n nc g (nI k) (0 : Int32) (by first | assumption | omega | exact mR_9 (by assumption) _ _ | simp [sU, hI])) gL_areFinds_X2_ofFind rfl rfl rfl hd_X2_ofFind ⟨Nat.le_of_ble_eq_true rfl, Nat.le_of_ble_eq_true rfl⟩ rfl rfl (Nat.le_of_ble_eq_true rfl) dL_areFinds_76 ⟨(show (12 + k * 87 + 2) + 2 ≤ 2800 from by omega), (show (72 + k * 522 + 12) + 12 ≤ 16800 from by omega)⟩) hS (fun E9 hE9 => kEx_no hE9 (kd2_0.mpr ⟨isF_of hlt_k hn30, by decide +kernel⟩)) (of0 (by omega)) (rfl) (fun H locs hw hS => ?_)
              refine lv_istore (lv' := [(5, .int (g (100 + 3 * k) 9)), (4, .int (nI k)), (3, .int (kpA g k)), (2, .int (auA g n 6)), (1, .int (1 : Int32)), (0, .ref (ad 0))]) hx hb dL_areFinds_79 hl (by decide) rfl (fun ls hl => ?_)
              refine lv_aload_n hx hb dL_areFinds_81 rfl (lv_at hl 5 rfl) ?_
              refine lv_iload hx hb dL_areFinds_82 (lv_at hl 1 rfl) ?_
              refine lv_iconst (v := 4) hx hb dL_areFinds_84 (by decide) ?_
              refine kx_sure (v1 := (nI h)) (g2 := g) (kx_cv (As := [.int (nI k), .int (4 : Int32)]) (rest := []) hF hG hw hS hl.1 kC_0 rfl (c_X2_ofFind l hfl D cy base ad n nc g (nI k) (4 : Int32) (by first | assumption | omega | exact mR_9 (by assumption) _ _ | simp [sU, hI])) gL_areFinds_X2_ofFind rfl rfl rfl hd_X2_ofFind ⟨Nat.le_of_ble_eq_true rfl, Nat.le_of_ble_eq_true rfl⟩ rfl rfl (Nat.le_of_ble_eq_true rfl) dL_areFinds_85 ⟨(show (12 + k * 87 + 4) + 2 ≤ 2800 from by omega), (show (72 + k * 522 + 24) + 12 ≤ 16800 from by omega)⟩) hS (fun E9 hE9 => kEx_no hE9 (kd2_0.mpr ⟨isF_of hlt_k hn30, by decide +kernel⟩)) ((of4 (by omega)).trans hh3) (rfl) (fun H locs hw hS => ?_)
              refine lv_istore (lv' := [(6, .int (nI h)), (5, .int (g (100 + 3 * k) 9)), (4, .int (nI k)), (3, .int (kpA g k)), (2, .int (auA g n 6)), (1, .int (1 : Int32)), (0, .ref (ad 0))]) hx hb dL_areFinds_88 hl (by decide) rfl (fun ls hl => ?_)
              refine lv_iload_n hx hb dL_areFinds_90 rfl (lv_at hl 3 rfl) ?_
              refine lv_iload hx hb dL_areFinds_91 (lv_at hl 1 rfl) ?_
              have hj_104_0 : ∀ (H : Heap) (locs : List Loc) (ls : Array Slot), kW D cy base ad n nc g H → va_S (kA base) s.heap H locs → lv_has ls 8 [(6, .int (nI h)), (5, .int (g (100 + 3 * k) 9)), (4, .int (nI k)), (3, .int (kpA g k)), (2, .int (auA g n 6)), (1, .int (1 : Int32)), (0, .ref (ad 0))] → W p l e (kR 10 2800 16800) s m args below meth c H locs (12 + k * 87 + 6) (72 + k * 522 + 36) Q (F0 m 104 ls [.int (if (g (100 + 3 * k) 9) = (0 : Int32) then ((1 : Int32) <<< (nI k &&& 31)) else (0 : Int32)), .int (kpA g k)]) := by
                intro H locs ls hw hS hl
                refine lv_ior hx hb dL_areFinds_104 ?_
                refine lv_istore_n (lv' := [(3, .int (kpA g k ||| (if (g (100 + 3 * k) 9) = (0 : Int32) then ((1 : Int32) <<< (nI k &&& 31)) else (0 : Int32)))), (6, .int (nI h)), (5, .int (g (100 + 3 * k) 9)), (4, .int (nI k)), (2, .int (auA g n 6)), (1, .int (1 : Int32)), (0, .ref (ad 0))]) hx hb dL_areFinds_105 rfl hl (by decide) rfl (fun ls hl => ?_)
                refine lv_iload hx hb dL_areFinds_106 (lv_at hl 1 rfl) ?_
                refine lv_if_le (tgt := 192) hx hb dL_areFinds_108 (by decide) (fun c_108 => ?_) (fun c_108 => ?_)
                · exact absurd c_108 (nI_nle (by omega) (by omega))
                · refine lv_iload hx hb dL_areFinds_111 (lv_at hl 1 rfl) ?_
                  refine lv_bipush (v := 13) hx hb dL_areFinds_113 (by decide) ?_
                  refine lv_icmp_ge (tgt := 192) hx hb dL_areFinds_115 (by decide) (fun c_115 => ?_) (fun c_115 => ?_)
                  · exact absurd c_115 (nI_ge (a := h) (b := 13) (by omega) (by decide))
                  · refine lv_aload_n hx hb dL_areFinds_118 rfl (lv_at hl 6 rfl) ?_
                    refine lv_bipush (v := 25) hx hb dL_areFinds_119 (by decide) ?_
                    refine lv_iload hx hb dL_areFinds_121 (lv_at hl 3 rfl) ?_
                    refine lv_iload hx hb dL_areFinds_123 (lv_at hl 1 rfl) ?_
                    refine lv_iconst (v := 0) hx hb dL_areFinds_125 (by decide) ?_
                    refine kx_do (st1 := [.int ((dF_25 n nc g (nI k) (nI h) (0 : Int32)).1)]) (kx_csH (As := [.ref (ad 0), .int (25 : Int32), .int (nI k), .int (nI h), .int (0 : Int32)]) (rest := []) hF hG hw hS hl.1 (c_L_does_25 l hfl D cy base ad n nc g (nI k) (nI h) (0 : Int32) (by first | assumption | omega | exact mR_9 (by assumption) _ _ | simp [sU, hI]) (by first | assumption | omega | exact mR_9 (by assumption) _ _ | simp [sU, hI])) gL_areFinds_L_does rfl rfl rfl hd_L_does ⟨Nat.le_of_ble_eq_true rfl, Nat.le_of_ble_eq_true rfl⟩ rfl rfl (Nat.le_of_ble_eq_true rfl) dL_areFinds_126 ⟨(show (12 + k * 87 + 6) + 2 ≤ 2800 from by omega), (show (72 + k * 522 + 36) + 12 ≤ 16800 from by omega)⟩) hS rfl (fun _ _ _ _ _ h => h.elim) (fun _ H locs hw hS => ?_)
                    refine lv_ldc hx hb hown k_80 dL_areFinds_129 ?_
                    refine lv_icmp_ne (tgt := 192) hx hb dL_areFinds_131 (by decide) (fun c_131 => ?_) (fun c_131 => ?_)
                    · exact absurd (d25_no hn30 hlt_k hh3 hh2) c_131
                    · refine lv_iload hx hb dL_areFinds_134 (lv_at hl 2 rfl) ?_
                      have hj_160_1 : ∀ (H : Heap) (locs : List Loc) (ls : Array Slot), kW D cy base ad n nc g H → va_S (kA base) s.heap H locs → lv_has ls 8 [(3, .int (kpA g k ||| (if (g (100 + 3 * k) 9) = (0 : Int32) then ((1 : Int32) <<< (nI k &&& 31)) else (0 : Int32)))), (6, .int (nI h)), (5, .int (g (100 + 3 * k) 9)), (4, .int (nI k)), (2, .int (auA g n 6)), (1, .int (1 : Int32)), (0, .ref (ad 0))] → W p l e (kR 10 2800 16800) s m args below meth c H locs (12 + k * 87 + 12) (72 + k * 522 + 72) Q (F0 m 160 ls []) := by
                        intro H locs ls hw hS hl
                        refine lv_aload_n hx hb dL_areFinds_160 rfl (lv_at hl 6 rfl) ?_
                        refine lv_iload hx hb dL_areFinds_161 (lv_at hl 3 rfl) ?_
                        refine kx_sure (v1 := (b2 (cOver g nc k))) (g2 := g) (kx_cv (As := [.int (nI k)]) (rest := []) hF hG hw hS hl.1 kC_0 rfl (c_X2_isDue l hfl D cy base ad n nc g (nI k) (by first | assumption | omega | exact mR_9 (by assumption) _ _ | simp [sU, hI]) (by first | assumption | omega | exact mR_9 (by assumption) _ _ | simp [sU, hI]) (by first | assumption | omega | exact mR_9 (by assumption) _ _ | simp [sU, hI])) gL_areFinds_X2_isDue rfl rfl rfl hd_X2_isDue ⟨Nat.le_of_ble_eq_true rfl, Nat.le_of_ble_eq_true rfl⟩ rfl rfl (Nat.le_of_ble_eq_true rfl) dL_areFinds_163 ⟨(show (12 + k * 87 + 12) + 1 ≤ 2800 from by omega), (show (72 + k * 522 + 72) + 6 ≤ 16800 from by omega)⟩) hS (fun E9 hE9 => kEx_no hE9 (kd1_0.mpr (isF_of hlt_k hn30))) (by rw [cl_nI (by omega)]) (rfl) (fun H locs hw hS => ?_)
                        have hj_188_2 : ∀ (H : Heap) (locs : List Loc) (ls : Array Slot), kW D cy base ad n nc g H → va_S (kA base) s.heap H locs → lv_has ls 8 [(3, .int (kpA g k ||| (if (g (100 + 3 * k) 9) = (0 : Int32) then ((1 : Int32) <<< (nI k &&& 31)) else (0 : Int32)))), (6, .int (nI h)), (5, .int (g (100 + 3 * k) 9)), (4, .int (nI k)), (2, .int (auA g n 6)), (1, .int (1 : Int32)), (0, .ref (ad 0))] → W p l e (kR 10 2800 16800) s m args below meth c H locs (12 + k * 87 + 15) (72 + k * 522 + 90) Q (F0 m 188 ls []) := by
                          intro H locs ls hw hS hl
                          refine lv_iconst (v := 1) hx hb dL_areFinds_188 (by decide) ?_
                          refine lv_goto (tgt := 193) hx hb dL_areFinds_189 (by decide) ?_
                          refine lv_istore_n (lv' := [(1, .int (1 : Int32)), (3, .int (kpA g k ||| (if (g (100 + 3 * k) 9) = (0 : Int32) then ((1 : Int32) <<< (nI k &&& 31)) else (0 : Int32)))), (6, .int (nI h)), (5, .int (g (100 + 3 * k) 9)), (4, .int (nI k)), (2, .int (auA g n 6)), (0, .ref (ad 0))]) hx hb dL_areFinds_193 rfl hl (by decide) rfl (fun ls hl => ?_)
                          refine lv_iconst (v := 1) hx hb dL_areFinds_194 (by decide) ?_
                          refine lv_istore (lv' := [(7, .int (1 : Int32)), (1, .int (1 : Int32)), (3, .int (kpA g k ||| (if (g (100 + 3 * k) 9) = (0 : Int32) then ((1 : Int32) <<< (nI k &&& 31)) else (0 : Int32)))), (6, .int (nI h)), (5, .int (g (100 + 3 * k) 9)), (4, .int (nI k)), (2, .int (auA g n 6)), (0, .ref (ad 0))]) hx hb dL_areFinds_195 hl (by decide) rfl (fun ls hl => ?_)
                          have lp_197 : ∀ (nn q : Nat), q ≤ h → h < q + nn → ∀ (H : Heap) (locs : List Loc) (ls : Array Slot), kW D cy base ad n nc g H → va_S (kA base) s.heap H locs → lv_has ls 8 [(7, .int (nI q)), (1, .int (1 : Int32)), (3, .int (kpA g k ||| (if (g (100 + 3 * k) 9) = (0 : Int32) then ((1 : Int32) <<< (nI k &&& 31)) else (0 : Int32)))), (6, .int (nI h)), (5, .int (g (100 + 3 * k) 9)), (4, .int (nI k)), (2, .int (auA g n 6)), (0, .ref (ad 0))] → (1 ≤ q) → W p l e (kR 10 2800 16800) s m args below meth c H locs ((12 + k * 87 + 15) + q * 6 + 0) ((72 + k * 522 + 90) + q * 36 + 0) Q (F0 m 197 ls []) := by
                            intro nn
                            induction nn with
                            | zero => intro q h1 h2; exact absurd h2 (by omega)
                            | succ nn ih_197 =>
                              intro q hk_q hkn_q H locs ls hw hS hl hq0
                              refine lv_iload hx hb dL_areFinds_197 (lv_at hl 0 rfl) ?_
                              refine lv_iload hx hb dL_areFinds_199 (lv_at hl 3 rfl) ?_
                              refine lv_icmp_ge (tgt := 259) hx hb dL_areFinds_201 (by decide) (fun c_201 => ?_) (fun c_201 => ?_)
                              · have e_q : q = h := Nat.le_antisymm hk_q (le_nI (a := h) (b := q) c_201 (by omega) (by omega))
                                refine W.widen (k := (12 + k * 87 + 87)) (n := (72 + k * 522 + 522)) (by omega) (by omega) ?_
                                refine lv_iinc (v := (nI k + (1 : Int32))) (lv' := [(4, .int (nI k + (1 : Int32))), (7, .int (nI q)), (1, .int (1 : Int32)), (3, .int (kpA g k ||| (if (g (100 + 3 * k) 9) = (0 : Int32) then ((1 : Int32) <<< (nI k &&& 31)) else (0 : Int32)))), (6, .int (nI h)), (5, .int (g (100 + 3 * k) 9)), (2, .int (auA g n 6)), (0, .ref (ad 0))]) hx hb dL_areFinds_259 hl (k := 5) rfl rfl (by decide) rfl (fun ls hl => ?_)
                                refine lv_goto (tgt := 55) hx hb dL_areFinds_262 (by decide) ?_
                                refine W.widen (k := (12 + (k + 1) * 87 + 0)) (n := (72 + (k + 1) * 522 + 0)) (by omega) (by omega) ?_
                                exact ih_55 (k + 1) (by omega) (by omega) _ _ _ hw hS (kx_lv (l := [(4, .int (nI k + (1 : Int32))), (3, .int (kpA g k ||| (if (g (100 + 3 * k) 9) = (0 : Int32) then ((1 : Int32) <<< (nI k &&& 31)) else (0 : Int32)))), (2, .int (auA g n 6)), (1, .int (1 : Int32)), (0, .ref (ad 0))]) (l' := [(4, .int (nI (k + 1))), (3, .int (kpA g (k + 1))), (2, .int (auA g n 6)), (1, .int (1 : Int32)), (0, .ref (ad 0))]) (lv_sub hl [0, 3, 6, 2, 7] rfl) (by rw [nI_1]; rfl)) 
                              · have hlt_q : q < h := lt_nI (a := h) (b := q) c_201 (by omega) (by omega)
                                refine lv_iload_n hx hb dL_areFinds_204 rfl (lv_at hl 1 rfl) ?_
                                refine lv_if_eq (tgt := 259) hx hb dL_areFinds_205 (by decide) (fun c => absurd c (by decide)) (fun _ => ?_)
                                refine lv_aload_n hx hb dL_areFinds_208 rfl (lv_at hl 7 rfl) ?_
                                refine lv_iload hx hb dL_areFinds_209 (lv_at hl 5 rfl) ?_
                                refine lv_iload hx hb dL_areFinds_211 (lv_at hl 0 rfl) ?_
                                refine lv_iconst (v := 1) hx hb dL_areFinds_213 (by decide) ?_
                                refine kx_sure (v1 := (g (100 + 3 * k + 2) q)) (g2 := g) (kx_cv (As := [.int (nI k), .int (nI q), .int (1 : Int32)]) (rest := []) hF hG hw hS hl.1 kC_0 rfl (c_X2_hand l hfl D cy base ad n nc g (nI k) (nI q) true (by first | assumption | omega | exact mR_9 (by assumption) _ _ | simp [sU, hI]) (by first | assumption | omega | exact mR_9 (by assumption) _ _ | simp [sU, hI])) gL_areFinds_X2_hand rfl rfl rfl hd_X2_hand ⟨Nat.le_of_ble_eq_true rfl, Nat.le_of_ble_eq_true rfl⟩ rfl rfl (Nat.le_of_ble_eq_true rfl) dL_areFinds_214 ⟨(show ((12 + k * 87 + 15) + q * 6 + 0) + 2 ≤ 2800 from by omega), (show ((72 + k * 522 + 90) + q * 36 + 0) + 12 ≤ 16800 from by omega)⟩) hS (fun E9 hE9 => kEx_no hE9 (hand_K hn30 hlt_k hh3 hh2 (by omega))) (hand_1 (by omega) (by omega)) (rfl) (fun H locs hw hS => ?_)
                                refine lv_aload_n hx hb dL_areFinds_217 rfl (lv_at hl 7 rfl) ?_
                                refine lv_iload hx hb dL_areFinds_218 (lv_at hl 5 rfl) ?_
                                refine lv_iload hx hb dL_areFinds_220 (lv_at hl 0 rfl) ?_
                                refine lv_iconst (v := 1) hx hb dL_areFinds_222 (by decide) ?_
                                refine lv_isub hx hb dL_areFinds_223 ?_
                                refine kx_top (v := nI (q - 1)) ((pk_sub (a := q) (b := 1) (by omega)).symm) ?_
                                refine lv_iconst (v := 1) hx hb dL_areFinds_224 (by decide) ?_
                                refine kx_sure (v1 := (g (100 + 3 * k + 2) (q - 1))) (g2 := g) (kx_cv (As := [.int (nI k), .int (nI (q - 1)), .int (1 : Int32)]) (rest := [.int (g (100 + 3 * k + 2) q)]) hF hG hw hS hl.1 kC_0 rfl (c_X2_hand l hfl D cy base ad n nc g (nI k) (nI (q - 1)) true (by first | assumption | omega | exact mR_9 (by assumption) _ _ | simp [sU, hI]) (by first | assumption | omega | exact mR_9 (by assumption) _ _ | simp [sU, hI])) gL_areFinds_X2_hand rfl rfl rfl hd_X2_hand ⟨Nat.le_of_ble_eq_true rfl, Nat.le_of_ble_eq_true rfl⟩ rfl rfl (Nat.le_of_ble_eq_true rfl) dL_areFinds_225 ⟨(show ((12 + k * 87 + 15) + q * 6 + 2) + 2 ≤ 2800 from by omega), (show ((72 + k * 522 + 90) + q * 36 + 12) + 12 ≤ 16800 from by omega)⟩) hS (fun E9 hE9 => kEx_no hE9 (hand_K hn30 hlt_k hh3 hh2 (by omega))) (hand_1 (by omega) (by omega)) (rfl) (fun H locs hw hS => ?_)
                                refine lv_icmp_lt (tgt := 251) hx hb dL_areFinds_228 (by decide) (fun c_228 => ?_) (fun c_228 => ?_)
                                · exact absurd c_228 (Int32.not_lt.mpr (by have h9 := hh6 (q - 1) (by omega); rwa [show q - 1 + 1 = q by omega] at h9))
                                · refine lv_aload_n hx hb dL_areFinds_231 rfl (lv_at hl 7 rfl) ?_
                                  refine lv_iload hx hb dL_areFinds_232 (lv_at hl 5 rfl) ?_
                                  refine lv_iload hx hb dL_areFinds_234 (lv_at hl 0 rfl) ?_
                                  refine lv_iconst (v := 1) hx hb dL_areFinds_236 (by decide) ?_
                                  refine kx_sure (v1 := (g (100 + 3 * k + 2) q)) (g2 := g) (kx_cv (As := [.int (nI k), .int (nI q), .int (1 : Int32)]) (rest := []) hF hG hw hS hl.1 kC_0 rfl (c_X2_hand l hfl D cy base ad n nc g (nI k) (nI q) true (by first | assumption | omega | exact mR_9 (by assumption) _ _ | simp [sU, hI]) (by first | assumption | omega | exact mR_9 (by assumption) _ _ | simp [sU, hI])) gL_areFinds_X2_hand rfl rfl rfl hd_X2_hand ⟨Nat.le_of_ble_eq_true rfl, Nat.le_of_ble_eq_true rfl⟩ rfl rfl (Nat.le_of_ble_eq_true rfl) dL_areFinds_237 ⟨(show ((12 + k * 87 + 15) + q * 6 + 4) + 2 ≤ 2800 from by omega), (show ((72 + k * 522 + 90) + q * 36 + 24) + 12 ≤ 16800 from by omega)⟩) hS (fun E9 hE9 => kEx_no hE9 (hand_K hn30 hlt_k hh3 hh2 (by omega))) (hand_1 (by omega) (by omega)) (rfl) (fun H locs hw hS => ?_)
                                  refine lv_aload_n hx hb dL_areFinds_240 rfl (lv_at hl 7 rfl) ?_
                                  refine kx_do0 (st1 := [.int (g 0 10), .int (g (100 + 3 * k + 2) q)]) (kx_cv (As := []) (rest := [.int (g (100 + 3 * k + 2) q)]) hF hG hw hS hl.1 kC_0 rfl (c_X2_today l hfl D cy base ad n nc g  ) gL_areFinds_X2_today rfl rfl rfl hd_X2_today ⟨Nat.le_of_ble_eq_true rfl, Nat.le_of_ble_eq_true rfl⟩ rfl rfl (Nat.le_of_ble_eq_true rfl) dL_areFinds_241 ⟨(show ((12 + k * 87 + 15) + q * 6 + 6) + 0 ≤ 2800 from by omega), (show ((72 + k * 522 + 90) + q * 36 + 36) + 0 ≤ 16800 from by omega)⟩) hS rfl (fun H locs hw hS => ?_)
                                  refine lv_icmp_gt (tgt := 251) hx hb dL_areFinds_244 (by decide) (fun c_244 => ?_) (fun c_244 => ?_)
                                  · exact absurd c_244 (Int32.not_lt.mpr (hh5 q (by omega)))
                                  · refine lv_iconst (v := 1) hx hb dL_areFinds_247 (by decide) ?_
                                    refine lv_goto (tgt := 252) hx hb dL_areFinds_248 (by decide) ?_
                                    refine lv_istore_n (lv' := [(1, .int (1 : Int32)), (7, .int (nI q)), (3, .int (kpA g k ||| (if (g (100 + 3 * k) 9) = (0 : Int32) then ((1 : Int32) <<< (nI k &&& 31)) else (0 : Int32)))), (6, .int (nI h)), (5, .int (g (100 + 3 * k) 9)), (4, .int (nI k)), (2, .int (auA g n 6)), (0, .ref (ad 0))]) hx hb dL_areFinds_252 rfl hl (by decide) rfl (fun ls hl => ?_)
                                    refine lv_iinc (v := (nI q + (1 : Int32))) (lv' := [(7, .int (nI q + (1 : Int32))), (1, .int (1 : Int32)), (3, .int (kpA g k ||| (if (g (100 + 3 * k) 9) = (0 : Int32) then ((1 : Int32) <<< (nI k &&& 31)) else (0 : Int32)))), (6, .int (nI h)), (5, .int (g (100 + 3 * k) 9)), (4, .int (nI k)), (2, .int (auA g n 6)), (0, .ref (ad 0))]) hx hb dL_areFinds_253 hl (k := 1) rfl rfl (by decide) rfl (fun ls hl => ?_)
                                    refine lv_goto (tgt := 197) hx hb dL_areFinds_256 (by decide) ?_
                                    refine W.widen (k := ((12 + k * 87 + 15) + (q + 1) * 6 + 0)) (n := ((72 + k * 522 + 90) + (q + 1) * 36 + 0)) (by omega) (by omega) ?_
                                    exact ih_197 (q + 1) (by omega) (by omega) _ _ _ hw hS (kx_lv (l := [(7, .int (nI q + (1 : Int32))), (1, .int (1 : Int32)), (3, .int (kpA g k ||| (if (g (100 + 3 * k) 9) = (0 : Int32) then ((1 : Int32) <<< (nI k &&& 31)) else (0 : Int32)))), (6, .int (nI h)), (5, .int (g (100 + 3 * k) 9)), (4, .int (nI k)), (2, .int (auA g n 6)), (0, .ref (ad 0))]) (l' := [(7, .int (nI (q + 1))), (1, .int (1 : Int32)), (3, .int (kpA g k ||| (if (g (100 + 3 * k) 9) = (0 : Int32) then ((1 : Int32) <<< (nI k &&& 31)) else (0 : Int32)))), (6, .int (nI h)), (5, .int (g (100 + 3 * k) 9)), (4, .int (nI k)), (2, .int (auA g n 6)), (0, .ref (ad 0))]) (lv_sub hl [0, 1, 2, 3, 4, 5, 6, 7] rfl) (by rw [nI_1])) (by omega)
                          refine W.widen (k := ((12 + k * 87 + 15) + 1 * 6 + 0)) (n := ((72 + k * 522 + 90) + 1 * 36 + 0)) (by omega) (by omega) ?_
                          exact lp_197 (h + 1) 1 (by omega) (by omega) _ _ _ hw hS (kx_lv (l := [(7, .int (1 : Int32)), (1, .int (1 : Int32)), (3, .int (kpA g k ||| (if (g (100 + 3 * k) 9) = (0 : Int32) then ((1 : Int32) <<< (nI k &&& 31)) else (0 : Int32)))), (6, .int (nI h)), (5, .int (g (100 + 3 * k) 9)), (4, .int (nI k)), (2, .int (auA g n 6)), (0, .ref (ad 0))]) (l' := [(7, .int (nI 1)), (1, .int (1 : Int32)), (3, .int (kpA g k ||| (if (g (100 + 3 * k) 9) = (0 : Int32) then ((1 : Int32) <<< (nI k &&& 31)) else (0 : Int32)))), (6, .int (nI h)), (5, .int (g (100 + 3 * k) 9)), (4, .int (nI k)), (2, .int (auA g n 6)), (0, .ref (ad 0))]) (lv_sub hl [0, 1, 2, 3, 4, 5, 6, 7] rfl) (rfl)) (Nat.le_refl _)
                        refine kb_eq (tgt := 188) hx hb dL_areFinds_166 (by decide) (fun c_166 => ?_) (fun c_166 => ?_)
                        · refine W.widen (k := (12 + k * 87 + 15)) (n := (72 + k * 522 + 90)) (by omega) (by omega) ?_
                          exact hj_188_2 _ _ _ hw hS hl
                        · refine lv_iload hx hb dL_areFinds_169 (lv_at hl 2 rfl) ?_
                          refine lv_if_ne (tgt := 192) hx hb dL_areFinds_171 (by decide) (fun c_171 => ?_) (fun c_171 => ?_)
                          · exact absurd (cov_0 c_166) c_171
                          · refine lv_aload_n hx hb dL_areFinds_174 rfl (lv_at hl 6 rfl) ?_
                            refine lv_iload hx hb dL_areFinds_175 (lv_at hl 3 rfl) ?_
                            refine lv_iconst (v := 2) hx hb dL_areFinds_177 (by decide) ?_
                            refine kx_sure (v1 := (g (100 + 3 * k) 11)) (g2 := g) (kx_cv (As := [.int (nI k), .int (2 : Int32)]) (rest := []) hF hG hw hS hl.1 kC_0 rfl (c_X2_ofFind l hfl D cy base ad n nc g (nI k) (2 : Int32) (by first | assumption | omega | exact mR_9 (by assumption) _ _ | simp [sU, hI])) gL_areFinds_X2_ofFind rfl rfl rfl hd_X2_ofFind ⟨Nat.le_of_ble_eq_true rfl, Nat.le_of_ble_eq_true rfl⟩ rfl rfl (Nat.le_of_ble_eq_true rfl) dL_areFinds_178 ⟨(show (12 + k * 87 + 13) + 2 ≤ 2800 from by omega), (show (72 + k * 522 + 78) + 12 ≤ 16800 from by omega)⟩) hS (fun E9 hE9 => kEx_no hE9 (kd2_0.mpr ⟨isF_of hlt_k hn30, by decide +kernel⟩)) (of2 (by omega)) (rfl) (fun H locs hw hS => ?_)
                            refine lv_aload_n hx hb dL_areFinds_181 rfl (lv_at hl 6 rfl) ?_
                            refine kx_do0 (st1 := [.int (g 0 10), .int (g (100 + 3 * k) 11)]) (kx_cv (As := []) (rest := [.int (g (100 + 3 * k) 11)]) hF hG hw hS hl.1 kC_0 rfl (c_X2_today l hfl D cy base ad n nc g  ) gL_areFinds_X2_today rfl rfl rfl hd_X2_today ⟨Nat.le_of_ble_eq_true rfl, Nat.le_of_ble_eq_true rfl⟩ rfl rfl (Nat.le_of_ble_eq_true rfl) dL_areFinds_182 ⟨(show (12 + k * 87 + 15) + 0 ≤ 2800 from by omega), (show (72 + k * 522 + 90) + 0 ≤ 16800 from by omega)⟩) hS rfl (fun H locs hw hS => ?_)
                            refine lv_icmp_ge (tgt := 192) hx hb dL_areFinds_185 (by decide) (fun c_185 => ?_) (fun c_185 => ?_)
                            · exact absurd c_185 (cov_d c_166)
                            · exact hj_188_2 _ _ _ hw hS hl
                      refine lv_if_ne (tgt := 160) hx hb dL_areFinds_136 (by decide) (fun c_136 => ?_) (fun c_136 => ?_)
                      · refine W.widen (k := (12 + k * 87 + 12)) (n := (72 + k * 522 + 72)) (by omega) (by omega) ?_
                        exact hj_160_1 _ _ _ hw hS hl
                      · refine lv_aload_n hx hb dL_areFinds_139 rfl (lv_at hl 6 rfl) ?_
                        refine lv_iload hx hb dL_areFinds_140 (lv_at hl 3 rfl) ?_
                        refine lv_iload hx hb dL_areFinds_142 (lv_at hl 1 rfl) ?_
                        refine lv_iconst (v := 1) hx hb dL_areFinds_144 (by decide) ?_
                        refine lv_isub hx hb dL_areFinds_145 ?_
                        refine kx_top (v := nI (h - 1)) ((pk_sub (a := h) (b := 1) (by omega)).symm) ?_
                        refine lv_iconst (v := 0) hx hb dL_areFinds_146 (by decide) ?_
                        refine kx_sure (v1 := (g (100 + 3 * k + 1) (h - 1))) (g2 := g) (kx_cv (As := [.int (nI k), .int (nI (h - 1)), .int (0 : Int32)]) (rest := []) hF hG hw hS hl.1 kC_0 rfl (c_X2_hand l hfl D cy base ad n nc g (nI k) (nI (h - 1)) false (by first | assumption | omega | exact mR_9 (by assumption) _ _ | simp [sU, hI]) (by first | assumption | omega | exact mR_9 (by assumption) _ _ | simp [sU, hI])) gL_areFinds_X2_hand rfl rfl rfl hd_X2_hand ⟨Nat.le_of_ble_eq_true rfl, Nat.le_of_ble_eq_true rfl⟩ rfl rfl (Nat.le_of_ble_eq_true rfl) dL_areFinds_147 ⟨(show (12 + k * 87 + 8) + 2 ≤ 2800 from by omega), (show (72 + k * 522 + 48) + 12 ≤ 16800 from by omega)⟩) hS (fun E9 hE9 => kEx_no hE9 (hand_K hn30 hlt_k hh3 hh2 (by omega))) (hand_0 (by omega) (by omega)) (rfl) (fun H locs hw hS => ?_)
                        refine lv_aload_n hx hb dL_areFinds_150 rfl (lv_at hl 6 rfl) ?_
                        refine lv_iload hx hb dL_areFinds_151 (lv_at hl 3 rfl) ?_
                        refine lv_iconst (v := 1) hx hb dL_areFinds_153 (by decide) ?_
                        refine kx_sure (v1 := (g (100 + 3 * k) 10)) (g2 := g) (kx_cv (As := [.int (nI k), .int (1 : Int32)]) (rest := [.int (g (100 + 3 * k + 1) (h - 1))]) hF hG hw hS hl.1 kC_0 rfl (c_X2_ofFind l hfl D cy base ad n nc g (nI k) (1 : Int32) (by first | assumption | omega | exact mR_9 (by assumption) _ _ | simp [sU, hI])) gL_areFinds_X2_ofFind rfl rfl rfl hd_X2_ofFind ⟨Nat.le_of_ble_eq_true rfl, Nat.le_of_ble_eq_true rfl⟩ rfl rfl (Nat.le_of_ble_eq_true rfl) dL_areFinds_154 ⟨(show (12 + k * 87 + 10) + 2 ≤ 2800 from by omega), (show (72 + k * 522 + 60) + 12 ≤ 16800 from by omega)⟩) hS (fun E9 hE9 => kEx_no hE9 (kd2_0.mpr ⟨isF_of hlt_k hn30, by decide +kernel⟩)) (of1 (by omega)) (rfl) (fun H locs hw hS => ?_)
                        refine lv_icmp_ne (tgt := 192) hx hb dL_areFinds_157 (by decide) (fun c_157 => ?_) (fun c_157 => ?_)
                        · exact absurd (hh4 c_136) c_157
                        · exact hj_160_1 _ _ _ hw hS hl
              refine lv_if_ne (tgt := 103) hx hb dL_areFinds_93 (by decide) (fun c_93 => ?_) (fun c_93 => ?_)
              · refine lv_iconst (v := 0) hx hb dL_areFinds_103 (by decide) ?_
                exact kx_top (v := (if (g (100 + 3 * k) 9) = (0 : Int32) then ((1 : Int32) <<< (nI k &&& 31)) else (0 : Int32))) (by first | (simp only [bq, decide_eq_false c_93, if_neg c_93]; done) | (simp only [bq, decide_eq_false c_93, if_neg c_93]; rfl) | (simp [bq, decide_eq_false c_93, if_neg c_93]; done)) (hj_104_0 _ _ _ hw hS hl)
              · refine lv_iconst (v := 1) hx hb dL_areFinds_96 (by decide) ?_
                refine lv_iload hx hb dL_areFinds_97 (lv_at hl 2 rfl) ?_
                refine lv_ishl hx hb dL_areFinds_99 ?_
                refine lv_goto (tgt := 104) hx hb dL_areFinds_100 (by decide) ?_
                exact kx_top (v := (if (g (100 + 3 * k) 9) = (0 : Int32) then ((1 : Int32) <<< (nI k &&& 31)) else (0 : Int32))) (by first | (simp only [bq, decide_eq_true c_93, if_pos c_93]; done) | (simp only [bq, decide_eq_true c_93, if_pos c_93]; rfl) | (simp [bq, decide_eq_true c_93, if_pos c_93]; done)) (hj_104_0 _ _ _ hw hS hl)
        refine W.widen (k := (12 + 0 * 87 + 0)) (n := (72 + 0 * 522 + 0)) (by omega) (by omega) ?_
        exact lp_55 (n + 1) 0 (by omega) (by omega) _ _ _ hw hS (kx_lv (l := [(4, .int (0 : Int32)), (3, .int (0 : Int32)), (2, .int (auA g n 6)), (1, .int (1 : Int32)), (0, .ref (ad 0))]) (l' := [(4, .int (nI 0)), (3, .int (kpA g 0)), (2, .int (auA g n 6)), (1, .int (1 : Int32)), (0, .ref (ad 0))]) (lv_sub hl [0, 1, 2, 3, 4] rfl) (rfl)) 
      · have hlt_r9 : r9 < 6 := lt_nI (a := 6) (b := r9) c_13 (by omega) (by omega)
        refine lv_iload_n hx hb dL_areFinds_16 rfl (lv_at hl 3 rfl) ?_
        refine lv_if_eq (tgt := 35) hx hb dL_areFinds_17 (by decide) (fun c => absurd c (by decide)) (fun _ => ?_)
        refine lv_iload_n hx hb dL_areFinds_20 rfl (lv_at hl 2 rfl) ?_
        refine lv_aload_n hx hb dL_areFinds_21 rfl (lv_at hl 4 rfl) ?_
        refine lv_iload hx hb dL_areFinds_22 (lv_at hl 0 rfl) ?_
        refine kx_sure (v1 := (auC g (nI r9) n 30)) (g2 := g) (kx_cv (As := [.int (nI r9)]) (rest := [.int (auA g n r9)]) hF hG hw hS hl.1 kC_0 rfl (c_X2_audit l hfl D cy base ad n nc g (nI r9) (by first | assumption | omega | exact mR_9 (by assumption) _ _ | simp [sU, hI])) gL_areFinds_X2_audit rfl rfl rfl hd_X2_audit ⟨Nat.le_of_ble_eq_true rfl, Nat.le_of_ble_eq_true rfl⟩ rfl rfl (Nat.le_of_ble_eq_true rfl) dL_areFinds_24 ⟨(show (0 + r9 * 2 + 0) + 1 ≤ 2800 from by omega), (show (0 + r9 * 12 + 0) + 6 ≤ 16800 from by omega)⟩) hS (fun E9 hE9 => kEx_no hE9 (kd1_0.mpr (isF_of (n := 6) hlt_r9 (by decide)))) (rfl) (rfl) (fun H locs hw hS => ?_)
        refine lv_iand hx hb dL_areFinds_27 ?_
        refine lv_if_ne (tgt := 35) hx hb dL_areFinds_28 (by decide) (fun c_28 => ?_) (fun c_28 => ?_)
        · exact absurd (fin1 hI hlt_r9) c_28
        · refine lv_iconst (v := 1) hx hb dL_areFinds_31 (by decide) ?_
          refine lv_goto (tgt := 36) hx hb dL_areFinds_32 (by decide) ?_
          refine lv_istore_n (lv' := [(1, .int (1 : Int32)), (4, .int (nI r9)), (3, .int (0 : Int32)), (2, .int (auA g n r9)), (0, .ref (ad 0))]) hx hb dL_areFinds_36 rfl hl (by decide) rfl (fun ls hl => ?_)
          refine lv_iload_n hx hb dL_areFinds_37 rfl (lv_at hl 3 rfl) ?_
          refine lv_aload_n hx hb dL_areFinds_38 rfl (lv_at hl 4 rfl) ?_
          refine lv_iload hx hb dL_areFinds_39 (lv_at hl 1 rfl) ?_
          refine kx_sure (v1 := (auC g (nI r9) n 30)) (g2 := g) (kx_cv (As := [.int (nI r9)]) (rest := [.int (auA g n r9)]) hF hG hw hS hl.1 kC_0 rfl (c_X2_audit l hfl D cy base ad n nc g (nI r9) (by first | assumption | omega | exact mR_9 (by assumption) _ _ | simp [sU, hI])) gL_areFinds_X2_audit rfl rfl rfl hd_X2_audit ⟨Nat.le_of_ble_eq_true rfl, Nat.le_of_ble_eq_true rfl⟩ rfl rfl (Nat.le_of_ble_eq_true rfl) dL_areFinds_41 ⟨(show (0 + r9 * 2 + 1) + 1 ≤ 2800 from by omega), (show (0 + r9 * 12 + 6) + 6 ≤ 16800 from by omega)⟩) hS (fun E9 hE9 => kEx_no hE9 (kd1_0.mpr (isF_of (n := 6) hlt_r9 (by decide)))) (rfl) (rfl) (fun H locs hw hS => ?_)
          refine lv_ior hx hb dL_areFinds_44 ?_
          refine lv_istore_n (lv' := [(2, .int (auA g n r9 ||| (auC g (nI r9) n 30))), (1, .int (1 : Int32)), (4, .int (nI r9)), (3, .int (0 : Int32)), (0, .ref (ad 0))]) hx hb dL_areFinds_45 rfl hl (by decide) rfl (fun ls hl => ?_)
          refine lv_iinc (v := (nI r9 + (1 : Int32))) (lv' := [(4, .int (nI r9 + (1 : Int32))), (2, .int (auA g n r9 ||| (auC g (nI r9) n 30))), (1, .int (1 : Int32)), (3, .int (0 : Int32)), (0, .ref (ad 0))]) hx hb dL_areFinds_46 hl (k := 2) rfl rfl (by decide) rfl (fun ls hl => ?_)
          refine lv_goto (tgt := 9) hx hb dL_areFinds_49 (by decide) ?_
          refine W.widen (k := (0 + (r9 + 1) * 2 + 0)) (n := (0 + (r9 + 1) * 12 + 0)) (by omega) (by omega) ?_
          exact ih_9 (r9 + 1) (by omega) (by omega) _ _ _ hw hS (kx_lv (l := [(4, .int (nI r9 + (1 : Int32))), (3, .int (0 : Int32)), (2, .int (auA g n r9 ||| (auC g (nI r9) n 30))), (1, .int (1 : Int32)), (0, .ref (ad 0))]) (l' := [(4, .int (nI (r9 + 1))), (3, .int (0 : Int32)), (2, .int (auA g n (r9 + 1))), (1, .int (1 : Int32)), (0, .ref (ad 0))]) (lv_sub hl [0, 3, 1, 2, 4] rfl) (by rw [nI_1]; rfl)) 
  refine W.widen (k := (0 + 0 * 2 + 0)) (n := (0 + 0 * 12 + 0)) (by omega) (by omega) ?_
  exact lp_9 (6 + 1) 0 (by omega) (by omega) _ _ _ hw hS (kx_lv (l := [(4, .int (0 : Int32)), (3, .int (0 : Int32)), (2, .int (0 : Int32)), (1, .int (1 : Int32)), (0, .ref (ad 0))]) (l' := [(4, .int (nI 0)), (3, .int (0 : Int32)), (2, .int (auA g n 0)), (1, .int (1 : Int32)), (0, .ref (ad 0))]) (lv_sub hl [0, 1, 2, 3, 4] rfl) (rfl)) 
