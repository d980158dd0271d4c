/-! walks laid by wip/p35/kgen.py, kall.py -/
theorem hd_L_areClaims : yL_areClaims.cls ≠ "java/lang/invoke/MethodHandle" ∧ yL_areClaims.cls ≠ "java/lang/invoke/VarHandle" ∧ (parseMethodDescriptor yL_areClaims.desc).map (fun d => d.parameters.length) = some 1 := by decide +kernel
set_option maxHeartbeats 4000000 in
set_option maxRecDepth 100000 in
theorem c_L_areClaims (l : Launch) (hfl : l.stackTraces = false) (D : va_G) (cy : Nat → ClassId) (base : Nat → Prop) (ad : Nat → Nat) (n nc : Nat) (g : sg) (hI : Inv n nc g) : kM l yL_areClaims wsL_areClaims (kR 10 7400 44400) D cy base ad n nc g [.ref (ad 0)] (fun v u => v = some (.int 1) ∧ ∃ gy, E8 g gy ∧ u = (ad, n, nc, gy)) kNo 7400 44400 := by
  refine kx_meth (cc := cL_areClaims) (maxL := 12) (ret := (some .boolean)) (by decide) rfl (Nat.le_of_ble_eq_true rfl) ?_
  intro p e s m args below meth c ls hx hb hr hml hown hts hlk hT hG hw0 hS0 hl Q H locs hQ hw hS hH0 hlocs0
  have hl : lv_has ls 12 [(0, .ref (ad 0))] := hl
  have hown : s.vm.findClass RL = some m.cls := hown
  have hF : CallFix p m c cL_areClaims 12 s args wsL_areClaims RL := ⟨hx, hb, hml, hown, hts⟩
  have hn30 : n ≤ 30 := hw.2.2.1
  have hc20 : nc ≤ 20 := hw.2.2.2
  clear hw0 hS0 hH0 hlocs0
  obtain ⟨gx, he, hw⟩ : ∃ gy, E8 g gy ∧ kW D cy base ad n nc gy H := ⟨g, E8.rf g, hw⟩
  have hI2 := hI.e8 he
  have hfr := hI2.fr
  have hcr := hI2.cr
  have hR := hI2.R
  have hh := hI2.hh
  refine lv_iconst (v := 1) hx hb dL_areClaims_0 (by decide) ?_
  refine lv_istore_n (lv' := [(1, .int (1 : Int32)), (0, .ref (ad 0))]) hx hb dL_areClaims_1 rfl hl (by decide) rfl (fun ls hl => ?_)
  refine lv_iconst (v := 0) hx hb dL_areClaims_2 (by decide) ?_
  refine lv_istore_n (lv' := [(2, .int (0 : Int32)), (1, .int (1 : Int32)), (0, .ref (ad 0))]) hx hb dL_areClaims_3 rfl hl (by decide) rfl (fun ls hl => ?_)
  refine lv_iconst (v := 0) hx hb dL_areClaims_4 (by decide) ?_
  refine lv_istore_n (lv' := [(3, .int (0 : Int32)), (2, .int (0 : Int32)), (1, .int (1 : Int32)), (0, .ref (ad 0))]) hx hb dL_areClaims_5 rfl hl (by decide) rfl (fun ls hl => ?_)
  refine lv_iconst (v := 0) hx hb dL_areClaims_6 (by decide) ?_
  refine lv_istore (lv' := [(4, .int (0 : Int32)), (3, .int (0 : Int32)), (2, .int (0 : Int32)), (1, .int (1 : Int32)), (0, .ref (ad 0))]) hx hb dL_areClaims_7 hl (by decide) rfl (fun ls hl => ?_)
  have lp_9 : ∀ (nn i : Nat), i ≤ nc → nc < i + nn → ∀ (H : Heap) (locs : List Loc) (ls : Array Slot) (gx : sg), E8 g gx → kW D cy base ad n nc gx H → va_S (kA base) s.heap H locs → lv_has ls 12 [(4, .int (nI i)), (3, .int (0 : Int32)), (2, .int (nI (ksum (sv g) i))), (1, .int (1 : Int32)), (0, .ref (ad 0))] → W p l e (kR 10 7400 44400) s m args below meth c H locs (0 + i * 351 + 0) (0 + i * 2106 + 0) Q (F0 m 9 ls []) := by
    intro nn
    induction nn with
    | zero => intro i h1 h2; exact absurd h2 (by omega)
    | succ nn ih_9 =>
      intro i hk_i hkn_i H locs ls gx he hw hS hl
      have hI2 := hI.e8 he
      have hfr := hI2.fr
      have hcr := hI2.cr
      have hR := hI2.R
      have hh := hI2.hh
      refine lv_aload_n hx hb dL_areClaims_9 rfl (lv_at hl 4 rfl) ?_
      refine lv_bipush (v := 26) hx hb dL_areClaims_10 (by decide) ?_
      refine lv_iload hx hb dL_areClaims_12 (lv_at hl 0 rfl) ?_
      refine lv_iconst (v := 0) hx hb dL_areClaims_14 (by decide) ?_
      refine lv_iconst (v := 0) hx hb dL_areClaims_15 (by decide) ?_
      refine kx_do (st1 := [.int ((dF_26 n nc gx (nI i) (0 : Int32)).1)]) (kx_csH (As := [.ref (ad 0), .int (26 : Int32), .int (nI i), .int (0 : Int32), .int (0 : Int32)]) (rest := []) hF hG hw hS hl.1 (c_L_does_26 l hfl D cy base ad n nc gx (nI i) (0 : Int32) (0 : Int32) (by first | assumption | omega | exact mR_9 (by assumption) _ _ | simp [sU, hI])) gL_areClaims_L_does rfl rfl rfl hd_L_does ⟨Nat.le_of_ble_eq_true rfl, Nat.le_of_ble_eq_true rfl⟩ rfl rfl (Nat.le_of_ble_eq_true rfl) dL_areClaims_16 ⟨(show (0 + i * 351 + 0) + 2 ≤ 7400 from by omega), (show (0 + i * 2106 + 0) + 12 ≤ 44400 from by omega)⟩) hS rfl (fun _ _ _ _ _ h => h.elim) (fun _ H locs hw hS => ?_)
      refine lv_if_lt (tgt := 325) hx hb dL_areClaims_19 (by decide) (fun c_19 => ?_) (fun c_19 => ?_)
      · have e_i : i = nc := d26_T hI2 hk_i c_19
        refine W.widen (k := 7022) (n := 42132) (by omega) (by omega) ?_
        rw [e_i] at hl
        refine lv_iconst (v := 0) hx hb dL_areClaims_325 (by decide) ?_
        refine lv_istore (lv' := [(4, .int (0 : Int32)), (3, .int (0 : Int32)), (2, .int (nI (ksum (sv g) nc))), (1, .int (1 : Int32)), (0, .ref (ad 0))]) hx hb dL_areClaims_326 hl (by decide) rfl (fun ls hl => ?_)
        have lp_328 : ∀ (nn k : Nat), k ≤ n → n < k + nn → ∀ (H : Heap) (locs : List Loc) (ls : Array Slot) (gx : sg), E8 g gx → kW D cy base ad n nc gx H → va_S (kA base) s.heap H locs → lv_has ls 12 [(4, .int (nI k)), (3, .int (nI (ksum (gn g) k))), (2, .int (nI (ksum (sv g) nc))), (1, .int (1 : Int32)), (0, .ref (ad 0))] → W p l e (kR 10 7400 44400) s m args below meth c H locs (7022 + k * 6 + 0) (42132 + k * 36 + 0) Q (F0 m 328 ls []) := by
          intro nn
          induction nn with
          | zero => intro k h1 h2; exact absurd h2 (by omega)
          | succ nn ih_328 =>
            intro k hk_k hkn_k H locs ls gx he hw hS hl
            have hI2 := hI.e8 he
            have hfr := hI2.fr
            have hcr := hI2.cr
            have hR := hI2.R
            have hh := hI2.hh
            refine lv_aload_n hx hb dL_areClaims_328 rfl (lv_at hl 4 rfl) ?_
            refine lv_bipush (v := 24) hx hb dL_areClaims_329 (by decide) ?_
            refine lv_iload hx hb dL_areClaims_331 (lv_at hl 0 rfl) ?_
            refine lv_iconst (v := 0) hx hb dL_areClaims_333 (by decide) ?_
            refine lv_iconst (v := 0) hx hb dL_areClaims_334 (by decide) ?_
            refine kx_do (st1 := [.int ((dF_24 n nc gx (nI k) (0 : Int32)).1)]) (kx_csH (As := [.ref (ad 0), .int (24 : Int32), .int (nI k), .int (0 : Int32), .int (0 : Int32)]) (rest := []) hF hG hw hS hl.1 (c_L_does_24 l hfl D cy base ad n nc gx (nI k) (0 : Int32) (0 : Int32) (by first | assumption | omega | exact mR_9 (by assumption) _ _ | simp [sU, hI])) gL_areClaims_L_does rfl rfl rfl hd_L_does ⟨Nat.le_of_ble_eq_true rfl, Nat.le_of_ble_eq_true rfl⟩ rfl rfl (Nat.le_of_ble_eq_true rfl) dL_areClaims_335 ⟨(show (7022 + k * 6 + 0) + 2 ≤ 7400 from by omega), (show (42132 + k * 36 + 0) + 12 ≤ 44400 from by omega)⟩) hS rfl (fun _ _ _ _ _ h => h.elim) (fun _ H locs hw hS => ?_)
            refine lv_if_lt (tgt := 378) hx hb dL_areClaims_338 (by decide) (fun c_338 => ?_) (fun c_338 => ?_)
            · have e_k : k = n := d24_T hI2 hk_k c_338
              refine W.widen (k := 7204) (n := 43224) (by omega) (by omega) ?_
              rw [e_k] at hl
              refine lv_iload_n hx hb dL_areClaims_378 rfl (lv_at hl 3 rfl) ?_
              refine lv_if_eq (tgt := 391) hx hb dL_areClaims_379 (by decide) (fun c => absurd c (by decide)) (fun _ => ?_)
              refine lv_iload_n hx hb dL_areClaims_382 rfl (lv_at hl 2 rfl) ?_
              refine lv_iload_n hx hb dL_areClaims_383 rfl (lv_at hl 1 rfl) ?_
              refine lv_icmp_ne (tgt := 391) hx hb dL_areClaims_384 (by decide) (fun c_384 => ?_) (fun c_384 => ?_)
              · exact absurd (congrArg nI hI.2.2.2.1.symm) c_384
              · refine lv_iconst (v := 1) hx hb dL_areClaims_387 (by decide) ?_
                refine lv_goto (tgt := 392) hx hb dL_areClaims_388 (by decide) ?_
                exact kx_retZ hQ hx hb hr hlk hw hS (Nat.le_of_ble_eq_true rfl) (Nat.le_of_ble_eq_true rfl) dL_areClaims_392 (rfl) (⟨rfl, gx, he, rfl⟩)
            · have hlt_k : k < n := d24_F hI2 hk_k c_338
              refine lv_iload_n hx hb dL_areClaims_341 rfl (lv_at hl 1 rfl) ?_
              refine lv_aload_n hx hb dL_areClaims_342 rfl (lv_at hl 4 rfl) ?_
              refine lv_iload hx hb dL_areClaims_343 (lv_at hl 0 rfl) ?_
              refine lv_iconst (v := 0) hx hb dL_areClaims_345 (by decide) ?_
              refine kx_sure (v1 := (g (100 + 3 * k) 9)) (g2 := gx) (kx_cv (As := [.int (nI k), .int (0 : Int32)]) (rest := [.int (nI (ksum (gn g) k))]) hF hG hw hS hl.1 kC_0 rfl (c_X2_ofFind l hfl D cy base ad n nc gx (nI k) (0 : Int32) (by first | assumption | omega | exact mR_9 (by assumption) _ _ | simp [sU, hI])) gL_areClaims_X2_ofFind rfl rfl rfl hd_X2_ofFind ⟨Nat.le_of_ble_eq_true rfl, Nat.le_of_ble_eq_true rfl⟩ rfl rfl (Nat.le_of_ble_eq_true rfl) dL_areClaims_346 ⟨(show (7022 + k * 6 + 2) + 2 ≤ 7400 from by omega), (show (42132 + k * 36 + 12) + 12 ≤ 44400 from by omega)⟩) hS (fun E9 hE9 => kEx_no hE9 (kd2_0.mpr ⟨isF_of hlt_k hn30, by decide +kernel⟩)) ((of0 (by omega)).trans (congrFun (he.F k).symm 9)) (rfl) (fun H locs hw hS => ?_)
              refine lv_iconst (v := 3) hx hb dL_areClaims_349 (by decide) ?_
              have hj_370_0 : ∀ (H : Heap) (locs : List Loc) (ls : Array Slot), kW D cy base ad n nc gx H → va_S (kA base) s.heap H locs → lv_has ls 12 [(4, .int (nI k)), (3, .int (nI (ksum (gn g) k))), (2, .int (nI (ksum (sv g) nc))), (1, .int (1 : Int32)), (0, .ref (ad 0))] → W p l e (kR 10 7400 44400) s m args below meth c H locs (7022 + k * 6 + 6) (42132 + k * 36 + 36) Q (F0 m 370 ls [.int (b2 ((decide ((g (100 + 3 * k) 9) = (3 : Int32))) || (decide ((g (100 + 3 * k) 9) = (6 : Int32))))), .int (nI (ksum (gn g) k))]) := by
                intro H locs ls hw hS hl
                refine lv_iadd hx hb dL_areClaims_370 ?_
                refine kx_top (v := nI (ksum (gn g) (k + 1))) ((gn_s k).symm) ?_
                refine lv_istore_n (lv' := [(3, .int (nI (ksum (gn g) (k + 1)))), (4, .int (nI k)), (2, .int (nI (ksum (sv g) nc))), (1, .int (1 : Int32)), (0, .ref (ad 0))]) hx hb dL_areClaims_371 rfl hl (by decide) rfl (fun ls hl => ?_)
                refine lv_iinc (v := (nI k + (1 : Int32))) (lv' := [(4, .int (nI k + (1 : Int32))), (3, .int (nI (ksum (gn g) (k + 1)))), (2, .int (nI (ksum (sv g) nc))), (1, .int (1 : Int32)), (0, .ref (ad 0))]) hx hb dL_areClaims_372 hl (k := 1) rfl rfl (by decide) rfl (fun ls hl => ?_)
                refine lv_goto (tgt := 328) hx hb dL_areClaims_375 (by decide) ?_
                refine W.widen (k := (7022 + (k + 1) * 6 + 0)) (n := (42132 + (k + 1) * 36 + 0)) (by omega) (by omega) ?_
                exact ih_328 (k + 1) (by omega) (by omega) _ _ _ _ he hw hS (kx_lv (l := [(4, .int (nI k + (1 : Int32))), (3, .int (nI (ksum (gn g) (k + 1)))), (2, .int (nI (ksum (sv g) nc))), (1, .int (1 : Int32)), (0, .ref (ad 0))]) (l' := [(4, .int (nI (k + 1))), (3, .int (nI (ksum (gn g) (k + 1)))), (2, .int (nI (ksum (sv g) nc))), (1, .int (1 : Int32)), (0, .ref (ad 0))]) (lv_sub hl [0, 1, 2, 3, 4] rfl) (by rw [nI_1])) 
              refine lv_icmp_eq (tgt := 365) hx hb dL_areClaims_350 (by decide) (fun c_350 => ?_) (fun c_350 => ?_)
              · refine lv_iconst (v := 1) hx hb dL_areClaims_365 (by decide) ?_
                refine lv_goto (tgt := 370) hx hb dL_areClaims_366 (by decide) ?_
                refine W.widen (k := (7022 + k * 6 + 6)) (n := (42132 + k * 36 + 36)) (by omega) (by omega) ?_
                exact kx_top (v := (b2 ((decide ((g (100 + 3 * k) 9) = (3 : Int32))) || (decide ((g (100 + 3 * k) 9) = (6 : Int32)))))) (by first | (simp only [bq, decide_eq_true c_350, if_pos c_350]; done) | (simp only [bq, decide_eq_true c_350, if_pos c_350]; rfl) | (simp [bq, decide_eq_true c_350, if_pos c_350]; done)) (hj_370_0 _ _ _ hw hS hl)
              · refine lv_aload_n hx hb dL_areClaims_353 rfl (lv_at hl 4 rfl) ?_
                refine lv_iload hx hb dL_areClaims_354 (lv_at hl 0 rfl) ?_
                refine lv_iconst (v := 0) hx hb dL_areClaims_356 (by decide) ?_
                refine kx_sure (v1 := (g (100 + 3 * k) 9)) (g2 := gx) (kx_cv (As := [.int (nI k), .int (0 : Int32)]) (rest := [.int (nI (ksum (gn g) k))]) hF hG hw hS hl.1 kC_0 rfl (c_X2_ofFind l hfl D cy base ad n nc gx (nI k) (0 : Int32) (by first | assumption | omega | exact mR_9 (by assumption) _ _ | simp [sU, hI])) gL_areClaims_X2_ofFind rfl rfl rfl hd_X2_ofFind ⟨Nat.le_of_ble_eq_true rfl, Nat.le_of_ble_eq_true rfl⟩ rfl rfl (Nat.le_of_ble_eq_true rfl) dL_areClaims_357 ⟨(show (7022 + k * 6 + 4) + 2 ≤ 7400 from by omega), (show (42132 + k * 36 + 24) + 12 ≤ 44400 from by omega)⟩) hS (fun E9 hE9 => kEx_no hE9 (kd2_0.mpr ⟨isF_of hlt_k hn30, by decide +kernel⟩)) ((of0 (by omega)).trans (congrFun (he.F k).symm 9)) (rfl) (fun H locs hw hS => ?_)
                refine lv_bipush (v := 6) hx hb dL_areClaims_360 (by decide) ?_
                refine lv_icmp_ne (tgt := 369) hx hb dL_areClaims_362 (by decide) (fun c_362 => ?_) (fun c_362 => ?_)
                · refine lv_iconst (v := 0) hx hb dL_areClaims_369 (by decide) ?_
                  exact kx_top (v := (b2 ((decide ((g (100 + 3 * k) 9) = (3 : Int32))) || (decide ((g (100 + 3 * k) 9) = (6 : Int32)))))) (by first | (simp only [bq, decide_eq_false c_350, if_neg c_350, decide_eq_false c_362, if_neg c_362]; done) | (simp only [bq, decide_eq_false c_350, if_neg c_350, decide_eq_false c_362, if_neg c_362]; rfl) | (simp [bq, decide_eq_false c_350, if_neg c_350, decide_eq_false c_362, if_neg c_362]; done)) (hj_370_0 _ _ _ hw hS hl)
                · refine lv_iconst (v := 1) hx hb dL_areClaims_365 (by decide) ?_
                  refine lv_goto (tgt := 370) hx hb dL_areClaims_366 (by decide) ?_
                  exact kx_top (v := (b2 ((decide ((g (100 + 3 * k) 9) = (3 : Int32))) || (decide ((g (100 + 3 * k) 9) = (6 : Int32)))))) (by first | (simp only [bq, decide_eq_false c_350, if_neg c_350, decide_eq_true c_362, if_pos c_362]; done) | (simp only [bq, decide_eq_false c_350, if_neg c_350, decide_eq_true c_362, if_pos c_362]; rfl) | (simp [bq, decide_eq_false c_350, if_neg c_350, decide_eq_true c_362, if_pos c_362]; done)) (hj_370_0 _ _ _ hw hS hl)
        refine W.widen (k := (7022 + 0 * 6 + 0)) (n := (42132 + 0 * 36 + 0)) (by omega) (by omega) ?_
        exact lp_328 (n + 1) 0 (by omega) (by omega) _ _ _ _ he hw hS (kx_lv (l := [(4, .int (0 : Int32)), (3, .int (0 : Int32)), (2, .int (nI (ksum (sv g) nc))), (1, .int (1 : Int32)), (0, .ref (ad 0))]) (l' := [(4, .int (nI 0)), (3, .int (nI (ksum (gn g) 0))), (2, .int (nI (ksum (sv g) nc))), (1, .int (1 : Int32)), (0, .ref (ad 0))]) (lv_sub hl [0, 1, 2, 3, 4] rfl) (rfl)) 
      · have hlt_i : i < nc := d26_F hI2 hk_i c_19
        have hC := hI.2.2.1 i hlt_i
        refine lv_iload_n hx hb dL_areClaims_22 rfl (lv_at hl 3 rfl) ?_
        refine lv_if_eq (tgt := 325) hx hb dL_areClaims_23 (by decide) (fun c => absurd c (by decide)) (fun _ => ?_)
        refine lv_aload_n hx hb dL_areClaims_26 rfl (lv_at hl 4 rfl) ?_
        refine lv_iload hx hb dL_areClaims_27 (lv_at hl 0 rfl) ?_
        refine lv_iconst (v := 0) hx hb dL_areClaims_29 (by decide) ?_
        refine kx_sure (v1 := (g (200 + i) 7)) (g2 := gx) (kx_cv (As := [.int (nI i), .int (0 : Int32)]) (rest := []) hF hG hw hS hl.1 kC_0 rfl (c_X2_ofClaim l hfl D cy base ad n nc gx (nI i) (0 : Int32) (by first | assumption | omega | exact mR_9 (by assumption) _ _ | simp [sU, hI])) gL_areClaims_X2_ofClaim rfl rfl rfl hd_X2_ofClaim ⟨Nat.le_of_ble_eq_true rfl, Nat.le_of_ble_eq_true rfl⟩ rfl rfl (Nat.le_of_ble_eq_true rfl) dL_areClaims_30 ⟨(show (0 + i * 351 + 2) + 2 ≤ 7400 from by omega), (show (0 + i * 2106 + 12) + 12 ≤ 44400 from by omega)⟩) hS (fun E9 hE9 => kEx_no hE9 (kd2_0.mpr ⟨isF_of hlt_i (by omega), by decide +kernel⟩)) ((oc0 (by omega)).trans (congrFun (he.C i).symm 7)) (rfl) (fun H locs hw hS => ?_)
        refine lv_istore (lv' := [(5, .int (g (200 + i) 7)), (4, .int (nI i)), (3, .int (0 : Int32)), (2, .int (nI (ksum (sv g) i))), (1, .int (1 : Int32)), (0, .ref (ad 0))]) hx hb dL_areClaims_33 hl (by decide) rfl (fun ls hl => ?_)
        refine lv_aload_n hx hb dL_areClaims_35 rfl (lv_at hl 5 rfl) ?_
        refine lv_iload hx hb dL_areClaims_36 (lv_at hl 1 rfl) ?_
        refine lv_iconst (v := 3) hx hb dL_areClaims_38 (by decide) ?_
        refine kx_sure (v1 := (g (200 + i) 8)) (g2 := gx) (kx_cv (As := [.int (nI i), .int (3 : Int32)]) (rest := []) hF hG hw hS hl.1 kC_0 rfl (c_X2_ofClaim l hfl D cy base ad n nc gx (nI i) (3 : Int32) (by first | assumption | omega | exact mR_9 (by assumption) _ _ | simp [sU, hI])) gL_areClaims_X2_ofClaim rfl rfl rfl hd_X2_ofClaim ⟨Nat.le_of_ble_eq_true rfl, Nat.le_of_ble_eq_true rfl⟩ rfl rfl (Nat.le_of_ble_eq_true rfl) dL_areClaims_39 ⟨(show (0 + i * 351 + 4) + 2 ≤ 7400 from by omega), (show (0 + i * 2106 + 24) + 12 ≤ 44400 from by omega)⟩) hS (fun E9 hE9 => kEx_no hE9 (kd2_0.mpr ⟨isF_of hlt_i (by omega), by decide +kernel⟩)) ((oc3 (by omega)).trans (congrFun (he.C i).symm 8)) (rfl) (fun H locs hw hS => ?_)
        refine lv_istore (lv' := [(6, .int (g (200 + i) 8)), (5, .int (g (200 + i) 7)), (4, .int (nI i)), (3, .int (0 : Int32)), (2, .int (nI (ksum (sv g) i))), (1, .int (1 : Int32)), (0, .ref (ad 0))]) hx hb dL_areClaims_42 hl (by decide) rfl (fun ls hl => ?_)
        refine lv_aload_n hx hb dL_areClaims_44 rfl (lv_at hl 6 rfl) ?_
        refine lv_iload hx hb dL_areClaims_45 (lv_at hl 2 rfl) ?_
        refine lv_iconst (v := 2) hx hb dL_areClaims_47 (by decide) ?_
        refine kx_sure (v1 := (g (200 + i) 6)) (g2 := gx) (kx_cv (As := [.int (nI i), .int (2 : Int32)]) (rest := []) hF hG hw hS hl.1 kC_0 rfl (c_X2_ofClaim l hfl D cy base ad n nc gx (nI i) (2 : Int32) (by first | assumption | omega | exact mR_9 (by assumption) _ _ | simp [sU, hI])) gL_areClaims_X2_ofClaim rfl rfl rfl hd_X2_ofClaim ⟨Nat.le_of_ble_eq_true rfl, Nat.le_of_ble_eq_true rfl⟩ rfl rfl (Nat.le_of_ble_eq_true rfl) dL_areClaims_48 ⟨(show (0 + i * 351 + 6) + 2 ≤ 7400 from by omega), (show (0 + i * 2106 + 36) + 12 ≤ 44400 from by omega)⟩) hS (fun E9 hE9 => kEx_no hE9 (kd2_0.mpr ⟨isF_of hlt_i (by omega), by decide +kernel⟩)) ((oc2 (by omega)).trans (congrFun (he.C i).symm 6)) (rfl) (fun H locs hw hS => ?_)
        refine lv_aload_n hx hb dL_areClaims_51 rfl (lv_at hl 6 rfl) ?_
        refine lv_iload hx hb dL_areClaims_52 (lv_at hl 2 rfl) ?_
        refine lv_iconst (v := 1) hx hb dL_areClaims_54 (by decide) ?_
        refine kx_sure (v1 := (g (200 + i) 5)) (g2 := gx) (kx_cv (As := [.int (nI i), .int (1 : Int32)]) (rest := [.int (g (200 + i) 6)]) hF hG hw hS hl.1 kC_0 rfl (c_X2_ofClaim l hfl D cy base ad n nc gx (nI i) (1 : Int32) (by first | assumption | omega | exact mR_9 (by assumption) _ _ | simp [sU, hI])) gL_areClaims_X2_ofClaim rfl rfl rfl hd_X2_ofClaim ⟨Nat.le_of_ble_eq_true rfl, Nat.le_of_ble_eq_true rfl⟩ rfl rfl (Nat.le_of_ble_eq_true rfl) dL_areClaims_55 ⟨(show (0 + i * 351 + 8) + 2 ≤ 7400 from by omega), (show (0 + i * 2106 + 48) + 12 ≤ 44400 from by omega)⟩) hS (fun E9 hE9 => kEx_no hE9 (kd2_0.mpr ⟨isF_of hlt_i (by omega), by decide +kernel⟩)) ((oc1 (by omega)).trans (congrFun (he.C i).symm 5)) (rfl) (fun H locs hw hS => ?_)
        refine lv_iconst (v := -1) hx hb dL_areClaims_58 (by decide) ?_
        refine lv_ixor hx hb dL_areClaims_59 ?_
        refine lv_iand hx hb dL_areClaims_60 ?_
        refine lv_if_ne (tgt := 123) hx hb dL_areClaims_61 (by decide) (fun c_61 => ?_) (fun c_61 => ?_)
        · exact absurd (told_sub hC) c_61
        · refine lv_iload hx hb dL_areClaims_64 (lv_at hl 1 rfl) ?_
          refine lv_iconst (v := 3) hx hb dL_areClaims_66 (by decide) ?_
          have hj_80_1 : ∀ (H : Heap) (locs : List Loc) (ls : Array Slot), kW D cy base ad n nc gx H → va_S (kA base) s.heap H locs → lv_has ls 12 [(6, .int (g (200 + i) 8)), (5, .int (g (200 + i) 7)), (4, .int (nI i)), (3, .int (0 : Int32)), (2, .int (nI (ksum (sv g) i))), (1, .int (1 : Int32)), (0, .ref (ad 0))] → W p l e (kR 10 7400 44400) s m args below meth c H locs (0 + i * 351 + 12) (0 + i * 2106 + 72) Q (F0 m 80 ls []) := by
            intro H locs ls hw hS hl
            refine lv_iload hx hb dL_areClaims_80 (lv_at hl 1 rfl) ?_
            refine lv_iconst (v := 1) hx hb dL_areClaims_82 (by decide) ?_
            have hj_91_2 : ∀ (H : Heap) (locs : List Loc) (ls : Array Slot), kW D cy base ad n nc gx H → va_S (kA base) s.heap H locs → lv_has ls 12 [(6, .int (g (200 + i) 8)), (5, .int (g (200 + i) 7)), (4, .int (nI i)), (3, .int (0 : Int32)), (2, .int (nI (ksum (sv g) i))), (1, .int (1 : Int32)), (0, .ref (ad 0))] → W p l e (kR 10 7400 44400) s m args below meth c H locs (0 + i * 351 + 12) (0 + i * 2106 + 72) Q (F0 m 91 ls []) := by
              intro H locs ls hw hS hl
              refine lv_iload hx hb dL_areClaims_91 (lv_at hl 0 rfl) ?_
              have hj_119_3 : ∀ (H : Heap) (locs : List Loc) (ls : Array Slot), kW D cy base ad n nc gx H → va_S (kA base) s.heap H locs → lv_has ls 12 [(6, .int (g (200 + i) 8)), (5, .int (g (200 + i) 7)), (4, .int (nI i)), (3, .int (0 : Int32)), (2, .int (nI (ksum (sv g) i))), (1, .int (1 : Int32)), (0, .ref (ad 0))] → W p l e (kR 10 7400 44400) s m args below meth c H locs (0 + i * 351 + 16) (0 + i * 2106 + 96) Q (F0 m 119 ls []) := by
                intro H locs ls hw hS hl
                refine lv_iconst (v := 1) hx hb dL_areClaims_119 (by decide) ?_
                refine lv_goto (tgt := 124) hx hb dL_areClaims_120 (by decide) ?_
                refine lv_istore_n (lv' := [(1, .int (1 : Int32)), (6, .int (g (200 + i) 8)), (5, .int (g (200 + i) 7)), (4, .int (nI i)), (3, .int (0 : Int32)), (2, .int (nI (ksum (sv g) i))), (0, .ref (ad 0))]) hx hb dL_areClaims_124 rfl hl (by decide) rfl (fun ls hl => ?_)
                refine lv_iload_n hx hb dL_areClaims_125 rfl (lv_at hl 5 rfl) ?_
                refine lv_iload hx hb dL_areClaims_126 (lv_at hl 1 rfl) ?_
                have hj_136_4 : ∀ (H : Heap) (locs : List Loc) (ls : Array Slot), kW D cy base ad n nc gx H → va_S (kA base) s.heap H locs → lv_has ls 12 [(1, .int (1 : Int32)), (6, .int (g (200 + i) 8)), (5, .int (g (200 + i) 7)), (4, .int (nI i)), (3, .int (0 : Int32)), (2, .int (nI (ksum (sv g) i))), (0, .ref (ad 0))] → W p l e (kR 10 7400 44400) s m args below meth c H locs (0 + i * 351 + 16) (0 + i * 2106 + 96) Q (F0 m 136 ls [.int (b2 (!(decide ((g (200 + i) 8) < (0 : Int32))))), .int (nI (ksum (sv g) i))]) := by
                  intro H locs ls hw hS hl
                  refine lv_iadd hx hb dL_areClaims_136 ?_
                  refine kx_top (v := nI (ksum (sv g) (i + 1))) ((sv_s hC hn30).symm) ?_
                  refine lv_istore_n (lv' := [(2, .int (nI (ksum (sv g) (i + 1)))), (1, .int (1 : Int32)), (6, .int (g (200 + i) 8)), (5, .int (g (200 + i) 7)), (4, .int (nI i)), (3, .int (0 : Int32)), (0, .ref (ad 0))]) hx hb dL_areClaims_137 rfl hl (by decide) rfl (fun ls hl => ?_)
                  refine lv_iconst (v := 0) hx hb dL_areClaims_138 (by decide) ?_
                  refine lv_istore (lv' := [(7, .int (0 : Int32)), (2, .int (nI (ksum (sv g) (i + 1)))), (1, .int (1 : Int32)), (6, .int (g (200 + i) 8)), (5, .int (g (200 + i) 7)), (4, .int (nI i)), (3, .int (0 : Int32)), (0, .ref (ad 0))]) hx hb dL_areClaims_139 hl (by decide) rfl (fun ls hl => ?_)
                  refine lv_iconst (v := 0) hx hb dL_areClaims_141 (by decide) ?_
                  refine lv_istore (lv' := [(8, .int (0 : Int32)), (7, .int (0 : Int32)), (2, .int (nI (ksum (sv g) (i + 1)))), (1, .int (1 : Int32)), (6, .int (g (200 + i) 8)), (5, .int (g (200 + i) 7)), (4, .int (nI i)), (3, .int (0 : Int32)), (0, .ref (ad 0))]) hx hb dL_areClaims_142 hl (by decide) rfl (fun ls hl => ?_)
                  refine lv_aload_n hx hb dL_areClaims_144 rfl (lv_at hl 8 rfl) ?_
                  refine lv_iload hx hb dL_areClaims_145 (lv_at hl 6 rfl) ?_
                  refine kx_sure (v1 := (qnF g n i)) (g2 := (cNS gx n (nI i).toNatClampNeg 30)) (kx_cv (As := [.int (nI i)]) (rest := []) hF hG hw hS hl.1 kC_0 rfl (c_X2_question l hfl D cy base ad n nc gx (nI i) (by first | assumption | omega | exact mR_9 (by assumption) _ _ | simp [sU, hI]) (by first | assumption | omega | exact mR_9 (by assumption) _ _ | simp [sU, hI]) (by first | assumption | omega | exact mR_9 (by assumption) _ _ | simp [sU, hI])) gL_areClaims_X2_question rfl rfl rfl hd_X2_question ⟨Nat.le_of_ble_eq_true rfl, Nat.le_of_ble_eq_true rfl⟩ rfl rfl (Nat.le_of_ble_eq_true rfl) dL_areClaims_147 ⟨(show (0 + i * 351 + 16) + 1 ≤ 7400 from by omega), (show (0 + i * 2106 + 96) + 6 ≤ 44400 from by omega)⟩) hS (fun E9 hE9 => kEx_no hE9 (kd1_0.mpr (isF_of hlt_i (by omega)))) (by rw [cl_nI (i := i) (by omega), ← he.C i, ← askN_e he, ← cQ_e he]; rfl) (rfl) (fun H locs hw hS => ?_)
                  obtain ⟨gx, he, hw⟩ : ∃ gy, E8 g gy ∧ kW D cy base ad n nc gy H := ⟨_, he.tr (cNS_o _ _ _).sy, hw⟩
                  have hI2 := hI.e8 he
                  have hfr := hI2.fr
                  have hcr := hI2.cr
                  have hR := hI2.R
                  have hh := hI2.hh
                  refine lv_istore (lv' := [(9, .int (qnF g n i)), (8, .int (0 : Int32)), (7, .int (0 : Int32)), (2, .int (nI (ksum (sv g) (i + 1)))), (1, .int (1 : Int32)), (6, .int (g (200 + i) 8)), (5, .int (g (200 + i) 7)), (4, .int (nI i)), (3, .int (0 : Int32)), (0, .ref (ad 0))]) hx hb dL_areClaims_150 hl (by decide) rfl (fun ls hl => ?_)
                  refine lv_sipush (v := 1000) hx hb dL_areClaims_152 (by decide) ?_
                  refine lv_istore (lv' := [(10, .int (1000 : Int32)), (9, .int (qnF g n i)), (8, .int (0 : Int32)), (7, .int (0 : Int32)), (2, .int (nI (ksum (sv g) (i + 1)))), (1, .int (1 : Int32)), (6, .int (g (200 + i) 8)), (5, .int (g (200 + i) 7)), (4, .int (nI i)), (3, .int (0 : Int32)), (0, .ref (ad 0))]) hx hb dL_areClaims_155 hl (by decide) rfl (fun ls hl => ?_)
                  refine lv_aload_n hx hb dL_areClaims_157 rfl (lv_at hl 10 rfl) ?_
                  refine lv_iload hx hb dL_areClaims_158 (lv_at hl 8 rfl) ?_
                  refine lv_iconst (v := 0) hx hb dL_areClaims_160 (by decide) ?_
                  refine kx_sure (v1 := (cand g n i 0)) (g2 := (cNS gx n (nI i).toNatClampNeg 30)) (kx_cv (As := [.int (nI i), .int (0 : Int32)]) (rest := []) hF hG hw hS hl.1 kC_0 rfl (c_X2_candidate l hfl D cy base ad n nc gx (nI i) (0 : Int32) (by first | assumption | omega | exact mR_9 (by assumption) _ _ | simp [sU, hI]) (by first | assumption | omega | exact mR_9 (by assumption) _ _ | simp [sU, hI]) (by first | assumption | omega | exact mR_9 (by assumption) _ _ | simp [sU, hI])) gL_areClaims_X2_candidate rfl rfl rfl hd_X2_candidate ⟨Nat.le_of_ble_eq_true rfl, Nat.le_of_ble_eq_true rfl⟩ rfl rfl (Nat.le_of_ble_eq_true rfl) dL_areClaims_161 ⟨(show (0 + i * 351 + 17) + 2 ≤ 7400 from by omega), (show (0 + i * 2106 + 102) + 12 ≤ 44400 from by omega)⟩) hS (fun E9 hE9 => kEx_no hE9 (kd1_0.mpr (by rw [isF_of hlt_i (by omega)]; decide +kernel))) (by rw [cl_nI (i := i) (by omega)]; exact (cand_e he n i _).symm) (rfl) (fun H locs hw hS => ?_)
                  obtain ⟨gx, he, hw⟩ : ∃ gy, E8 g gy ∧ kW D cy base ad n nc gy H := ⟨_, he.tr (cNS_o _ _ _).sy, hw⟩
                  have hI2 := hI.e8 he
                  have hfr := hI2.fr
                  have hcr := hI2.cr
                  have hR := hI2.R
                  have hh := hI2.hh
                  refine lv_istore (lv' := [(11, .int (cand g n i 0)), (10, .int (1000 : Int32)), (9, .int (qnF g n i)), (8, .int (0 : Int32)), (7, .int (0 : Int32)), (2, .int (nI (ksum (sv g) (i + 1)))), (1, .int (1 : Int32)), (6, .int (g (200 + i) 8)), (5, .int (g (200 + i) 7)), (4, .int (nI i)), (3, .int (0 : Int32)), (0, .ref (ad 0))]) hx hb dL_areClaims_164 hl (by decide) rfl (fun ls hl => ?_)
                  have lp_166 : ∀ (nn q : Nat), q ≤ 30 → 30 < q + nn → ∀ (H : Heap) (locs : List Loc) (ls : Array Slot) (gx : sg), E8 g gx → kW D cy base ad n nc gx H → va_S (kA base) s.heap H locs → lv_has ls 12 [(11, .int (cand g n i q)), (10, .int (bfF g n i q)), (9, .int (qnF g n i)), (8, .int (nI (wF g n i (qnF g n i) q))), (7, .int (nI q)), (2, .int (nI (ksum (sv g) (i + 1)))), (1, .int (1 : Int32)), (6, .int (g (200 + i) 8)), (5, .int (g (200 + i) 7)), (4, .int (nI i)), (3, .int (0 : Int32)), (0, .ref (ad 0))] → (∀ t, t < q → ¬ cand g n i t < 0) → W p l e (kR 10 7400 44400) s m args below meth c H locs ((0 + i * 351 + 19) + q * 11 + 0) ((0 + i * 2106 + 114) + q * 66 + 0) Q (F0 m 166 ls []) := by
                    intro nn
                    induction nn with
                    | zero => intro q h1 h2; exact absurd h2 (by omega)
                    | succ nn ih_166 =>
                      intro q hk_q hkn_q H locs ls gx he hw hS hl hqq
                      have hI2 := hI.e8 he
                      have hfr := hI2.fr
                      have hcr := hI2.cr
                      have hR := hI2.R
                      have hh := hI2.hh
                      refine lv_iload hx hb dL_areClaims_166 (lv_at hl 0 rfl) ?_
                      refine lv_if_lt (tgt := 276) hx hb dL_areClaims_168 (by decide) (fun c_168 => ?_) (fun c_168 => ?_)
                      · have hT9 := cand_T (by omega) c_168
                        refine W.widen (k := (0 + i * 351 + 349)) (n := (0 + i * 2106 + 2094)) (by omega) (by omega) ?_
                        refine lv_iload_n hx hb dL_areClaims_276 rfl (lv_at hl 6 rfl) ?_
                        refine lv_if_eq (tgt := 317) hx hb dL_areClaims_277 (by decide) (fun c => absurd c (by decide)) (fun _ => ?_)
                        refine lv_iload hx hb dL_areClaims_280 (lv_at hl 2 rfl) ?_
                        refine lv_if_lt (tgt := 313) hx hb dL_areClaims_282 (by decide) (fun c_282 => ?_) (fun c_282 => ?_)
                        · refine lv_iconst (v := 1) hx hb dL_areClaims_313 (by decide) ?_
                          refine lv_goto (tgt := 318) hx hb dL_areClaims_314 (by decide) ?_
                          refine lv_istore_n (lv' := [(1, .int (1 : Int32)), (11, .int (cand g n i q)), (10, .int (bfF g n i q)), (9, .int (qnF g n i)), (8, .int (nI (wF g n i (qnF g n i) q))), (7, .int (nI q)), (2, .int (nI (ksum (sv g) (i + 1)))), (6, .int (g (200 + i) 8)), (5, .int (g (200 + i) 7)), (4, .int (nI i)), (3, .int (0 : Int32)), (0, .ref (ad 0))]) hx hb dL_areClaims_318 rfl hl (by decide) rfl (fun ls hl => ?_)
                          refine lv_iinc (v := (nI i + (1 : Int32))) (lv' := [(4, .int (nI i + (1 : Int32))), (1, .int (1 : Int32)), (11, .int (cand g n i q)), (10, .int (bfF g n i q)), (9, .int (qnF g n i)), (8, .int (nI (wF g n i (qnF g n i) q))), (7, .int (nI q)), (2, .int (nI (ksum (sv g) (i + 1)))), (6, .int (g (200 + i) 8)), (5, .int (g (200 + i) 7)), (3, .int (0 : Int32)), (0, .ref (ad 0))]) hx hb dL_areClaims_319 hl (k := 9) rfl rfl (by decide) rfl (fun ls hl => ?_)
                          refine lv_goto (tgt := 9) hx hb dL_areClaims_322 (by decide) ?_
                          refine W.widen (k := (0 + (i + 1) * 351 + 0)) (n := (0 + (i + 1) * 2106 + 0)) (by omega) (by omega) ?_
                          exact ih_9 (i + 1) (by omega) (by omega) _ _ _ _ he hw hS (kx_lv (l := [(4, .int (nI i + (1 : Int32))), (3, .int (0 : Int32)), (2, .int (nI (ksum (sv g) (i + 1)))), (1, .int (1 : Int32)), (0, .ref (ad 0))]) (l' := [(4, .int (nI (i + 1))), (3, .int (0 : Int32)), (2, .int (nI (ksum (sv g) (i + 1)))), (1, .int (1 : Int32)), (0, .ref (ad 0))]) (lv_sub hl [0, 10, 7, 1, 11] rfl) (by rw [nI_1])) 
                        · refine lv_iload hx hb dL_areClaims_285 (lv_at hl 4 rfl) ?_
                          refine lv_iconst (v := 1) hx hb dL_areClaims_287 (by decide) ?_
                          refine lv_icmp_le (tgt := 317) hx hb dL_areClaims_288 (by decide) (fun c_288 => ?_) (fun c_288 => ?_)
                          · exact absurd c_288 (qn_p hI hk_q hqq hT9 c_282).1
                          · refine lv_iload hx hb dL_areClaims_291 (lv_at hl 3 rfl) ?_
                            refine lv_iload hx hb dL_areClaims_293 (lv_at hl 4 rfl) ?_
                            refine lv_icmp_ge (tgt := 317) hx hb dL_areClaims_295 (by decide) (fun c_295 => ?_) (fun c_295 => ?_)
                            · exact absurd c_295 (qn_p hI hk_q hqq hT9 c_282).2.1
                            · refine lv_aload_n hx hb dL_areClaims_298 rfl (lv_at hl 11 rfl) ?_
                              refine lv_iload hx hb dL_areClaims_299 (lv_at hl 9 rfl) ?_
                              refine lv_iconst (v := 1) hx hb dL_areClaims_301 (by decide) ?_
                              refine kx_sure (v1 := (g (200 + i) 5)) (g2 := gx) (kx_cv (As := [.int (nI i), .int (1 : Int32)]) (rest := []) hF hG hw hS hl.1 kC_0 rfl (c_X2_ofClaim l hfl D cy base ad n nc gx (nI i) (1 : Int32) (by first | assumption | omega | exact mR_9 (by assumption) _ _ | simp [sU, hI])) gL_areClaims_X2_ofClaim rfl rfl rfl hd_X2_ofClaim ⟨Nat.le_of_ble_eq_true rfl, Nat.le_of_ble_eq_true rfl⟩ rfl rfl (Nat.le_of_ble_eq_true rfl) dL_areClaims_302 ⟨(show (0 + i * 351 + 349) + 2 ≤ 7400 from by omega), (show (0 + i * 2106 + 2094) + 12 ≤ 44400 from by omega)⟩) hS (fun E9 hE9 => kEx_no hE9 (kd2_0.mpr ⟨isF_of hlt_i (by omega), by decide +kernel⟩)) ((oc1 (by omega)).trans (congrFun (he.C i).symm 5)) (rfl) (fun H locs hw hS => ?_)
                              refine lv_iload hx hb dL_areClaims_305 (lv_at hl 2 rfl) ?_
                              refine lv_ishr hx hb dL_areClaims_307 ?_
                              refine lv_iconst (v := 1) hx hb dL_areClaims_308 (by decide) ?_
                              refine lv_iand hx hb dL_areClaims_309 ?_
                              refine lv_if_ne (tgt := 317) hx hb dL_areClaims_310 (by decide) (fun c_310 => ?_) (fun c_310 => ?_)
                              · exact absurd (qn_p hI hk_q hqq hT9 c_282).2.2 c_310
                              · refine lv_iconst (v := 1) hx hb dL_areClaims_313 (by decide) ?_
                                refine lv_goto (tgt := 318) hx hb dL_areClaims_314 (by decide) ?_
                                refine lv_istore_n (lv' := [(1, .int (1 : Int32)), (11, .int (cand g n i q)), (10, .int (bfF g n i q)), (9, .int (qnF g n i)), (8, .int (nI (wF g n i (qnF g n i) q))), (7, .int (nI q)), (2, .int (nI (ksum (sv g) (i + 1)))), (6, .int (g (200 + i) 8)), (5, .int (g (200 + i) 7)), (4, .int (nI i)), (3, .int (0 : Int32)), (0, .ref (ad 0))]) hx hb dL_areClaims_318 rfl hl (by decide) rfl (fun ls hl => ?_)
                                refine lv_iinc (v := (nI i + (1 : Int32))) (lv' := [(4, .int (nI i + (1 : Int32))), (1, .int (1 : Int32)), (11, .int (cand g n i q)), (10, .int (bfF g n i q)), (9, .int (qnF g n i)), (8, .int (nI (wF g n i (qnF g n i) q))), (7, .int (nI q)), (2, .int (nI (ksum (sv g) (i + 1)))), (6, .int (g (200 + i) 8)), (5, .int (g (200 + i) 7)), (3, .int (0 : Int32)), (0, .ref (ad 0))]) hx hb dL_areClaims_319 hl (k := 9) rfl rfl (by decide) rfl (fun ls hl => ?_)
                                refine lv_goto (tgt := 9) hx hb dL_areClaims_322 (by decide) ?_
                                refine W.widen (k := (0 + (i + 1) * 351 + 0)) (n := (0 + (i + 1) * 2106 + 0)) (by omega) (by omega) ?_
                                exact ih_9 (i + 1) (by omega) (by omega) _ _ _ _ he hw hS (kx_lv (l := [(4, .int (nI i + (1 : Int32))), (3, .int (0 : Int32)), (2, .int (nI (ksum (sv g) (i + 1)))), (1, .int (1 : Int32)), (0, .ref (ad 0))]) (l' := [(4, .int (nI (i + 1))), (3, .int (0 : Int32)), (2, .int (nI (ksum (sv g) (i + 1)))), (1, .int (1 : Int32)), (0, .ref (ad 0))]) (lv_sub hl [0, 10, 7, 1, 11] rfl) (by rw [nI_1])) 
                      · have hq30 : q < 30 := by rcases Nat.lt_or_ge q 30 with z | z; exact z; exact absurd (cand_30 (by omega)) c_168
                        obtain ⟨k, hkn, hk30, hkc, hks, hkr⟩ := cand_F (by omega) c_168
                        rw [hkc] at hl
                        refine lv_iload_n hx hb dL_areClaims_171 rfl (lv_at hl 6 rfl) ?_
                        refine lv_if_eq (tgt := 276) hx hb dL_areClaims_172 (by decide) (fun c => absurd c (by decide)) (fun _ => ?_)
                        refine lv_iload hx hb dL_areClaims_175 (lv_at hl 8 rfl) ?_
                        refine lv_if_ne (tgt := 217) hx hb dL_areClaims_177 (by decide) (fun c_177 => ?_) (fun c_177 => ?_)
                        · exact absurd (ask_open hks) c_177
                        · refine lv_aload_n hx hb dL_areClaims_180 rfl (lv_at hl 11 rfl) ?_
                          refine lv_iload hx hb dL_areClaims_181 (lv_at hl 0 rfl) ?_
                          refine lv_iconst (v := 0) hx hb dL_areClaims_183 (by decide) ?_
                          refine kx_sure (v1 := (g (100 + 3 * k) 9)) (g2 := gx) (kx_cv (As := [.int (nI k), .int (0 : Int32)]) (rest := []) hF hG hw hS hl.1 kC_0 rfl (c_X2_ofFind l hfl D cy base ad n nc gx (nI k) (0 : Int32) (by first | assumption | omega | exact mR_9 (by assumption) _ _ | simp [sU, hI])) gL_areClaims_X2_ofFind rfl rfl rfl hd_X2_ofFind ⟨Nat.le_of_ble_eq_true rfl, Nat.le_of_ble_eq_true rfl⟩ rfl rfl (Nat.le_of_ble_eq_true rfl) dL_areClaims_184 ⟨(show ((0 + i * 351 + 19) + q * 11 + 0) + 2 ≤ 7400 from by omega), (show ((0 + i * 2106 + 114) + q * 66 + 0) + 12 ≤ 44400 from by omega)⟩) hS (fun E9 hE9 => kEx_no hE9 (kd2_0.mpr ⟨isF_of hkn hn30, by decide +kernel⟩)) ((of0 (by omega)).trans (congrFun (he.F k).symm 9)) (rfl) (fun H locs hw hS => ?_)
                          refine lv_iconst (v := 3) hx hb dL_areClaims_187 (by decide) ?_
                          refine lv_icmp_ge (tgt := 217) hx hb dL_areClaims_188 (by decide) (fun c_188 => ?_) (fun c_188 => ?_)
                          · exact absurd c_188 (ask_here hks)
                          · refine lv_aload_n hx hb dL_areClaims_191 rfl (lv_at hl 11 rfl) ?_
                            refine lv_iload hx hb dL_areClaims_192 (lv_at hl 0 rfl) ?_
                            refine lv_iload hx hb dL_areClaims_194 (lv_at hl 9 rfl) ?_
                            refine kx_sure (v1 := (cSc g k i)) (g2 := gx) (kx_cv (As := [.int (nI k), .int (nI i)]) (rest := []) hF hG hw hS hl.1 kC_0 rfl (c_X2_fit l hfl D cy base ad n nc gx (nI k) (nI i) (by first | assumption | omega | exact mR_9 (by assumption) _ _ | simp [sU, hI]) (by first | assumption | omega | exact mR_9 (by assumption) _ _ | simp [sU, hI]) (by first | assumption | omega | exact mR_9 (by assumption) _ _ | simp [sU, hI])) gL_areClaims_X2_fit rfl rfl rfl hd_X2_fit ⟨Nat.le_of_ble_eq_true rfl, Nat.le_of_ble_eq_true rfl⟩ rfl rfl (Nat.le_of_ble_eq_true rfl) dL_areClaims_196 ⟨(show ((0 + i * 351 + 19) + q * 11 + 2) + 2 ≤ 7400 from by omega), (show ((0 + i * 2106 + 114) + q * 66 + 12) + 12 ≤ 44400 from by omega)⟩) hS (fun E9 hE9 => kEx_no hE9 (kd1_0.mpr (by rw [isF_of hkn hn30, isF_of hlt_i (by omega)]; rfl))) (by rw [cl_nI (by omega), cl_nI (by omega)]; exact (cSc_e he _ _).symm) (rfl) (fun H locs hw hS => ?_)
                            refine lv_iload hx hb dL_areClaims_199 (lv_at hl 1 rfl) ?_
                            refine lv_icmp_gt (tgt := 217) hx hb dL_areClaims_201 (by decide) (fun c_201 => ?_) (fun c_201 => ?_)
                            · exact absurd c_201 (Int32.not_lt.mpr (bf_ok hq30 hqq hk30 hks hkr))
                            · refine lv_aload_n hx hb dL_areClaims_204 rfl (lv_at hl 11 rfl) ?_
                              refine lv_iload hx hb dL_areClaims_205 (lv_at hl 0 rfl) ?_
                              refine kx_sure (v1 := (b2 (cOver g nc k))) (g2 := gx) (kx_cv (As := [.int (nI k)]) (rest := []) hF hG hw hS hl.1 kC_0 rfl (c_X2_isDue l hfl D cy base ad n nc gx (nI k) (by first | assumption | omega | exact mR_9 (by assumption) _ _ | simp [sU, hI]) (by first | assumption | omega | exact mR_9 (by assumption) _ _ | simp [sU, hI]) (by first | assumption | omega | exact mR_9 (by assumption) _ _ | simp [sU, hI])) gL_areClaims_X2_isDue rfl rfl rfl hd_X2_isDue ⟨Nat.le_of_ble_eq_true rfl, Nat.le_of_ble_eq_true rfl⟩ rfl rfl (Nat.le_of_ble_eq_true rfl) dL_areClaims_207 ⟨(show ((0 + i * 351 + 19) + q * 11 + 4) + 1 ≤ 7400 from by omega), (show ((0 + i * 2106 + 114) + q * 66 + 24) + 6 ≤ 44400 from by omega)⟩) hS (fun E9 hE9 => kEx_no hE9 (kd1_0.mpr (isF_of hkn hn30))) (by rw [cl_nI (i := k) (by omega), ← cOver_e he]) (rfl) (fun H locs hw hS => ?_)
                              refine kb_ne (tgt := 217) hx hb dL_areClaims_210 (by decide) (fun c_210 => ?_) (fun c_210 => ?_)
                              · exact absurd c_210 (ask_due hlt_i hks)
                              · refine lv_iconst (v := 1) hx hb dL_areClaims_213 (by decide) ?_
                                refine lv_goto (tgt := 218) hx hb dL_areClaims_214 (by decide) ?_
                                refine lv_istore_n (lv' := [(1, .int (1 : Int32)), (11, .int (nI k)), (10, .int (bfF g n i q)), (9, .int (qnF g n i)), (8, .int (nI (wF g n i (qnF g n i) q))), (7, .int (nI q)), (2, .int (nI (ksum (sv g) (i + 1)))), (6, .int (g (200 + i) 8)), (5, .int (g (200 + i) 7)), (4, .int (nI i)), (3, .int (0 : Int32)), (0, .ref (ad 0))]) hx hb dL_areClaims_218 rfl hl (by decide) rfl (fun ls hl => ?_)
                                refine lv_aload_n hx hb dL_areClaims_219 rfl (lv_at hl 11 rfl) ?_
                                refine lv_iload hx hb dL_areClaims_220 (lv_at hl 1 rfl) ?_
                                refine lv_iload hx hb dL_areClaims_222 (lv_at hl 9 rfl) ?_
                                refine kx_sure (v1 := (cSc g k i)) (g2 := gx) (kx_cv (As := [.int (nI k), .int (nI i)]) (rest := []) hF hG hw hS hl.1 kC_0 rfl (c_X2_fit l hfl D cy base ad n nc gx (nI k) (nI i) (by first | assumption | omega | exact mR_9 (by assumption) _ _ | simp [sU, hI]) (by first | assumption | omega | exact mR_9 (by assumption) _ _ | simp [sU, hI]) (by first | assumption | omega | exact mR_9 (by assumption) _ _ | simp [sU, hI])) gL_areClaims_X2_fit rfl rfl rfl hd_X2_fit ⟨Nat.le_of_ble_eq_true rfl, Nat.le_of_ble_eq_true rfl⟩ rfl rfl (Nat.le_of_ble_eq_true rfl) dL_areClaims_224 ⟨(show ((0 + i * 351 + 19) + q * 11 + 5) + 2 ≤ 7400 from by omega), (show ((0 + i * 2106 + 114) + q * 66 + 30) + 12 ≤ 44400 from by omega)⟩) hS (fun E9 hE9 => kEx_no hE9 (kd1_0.mpr (by rw [isF_of hkn hn30, isF_of hlt_i (by omega)]; rfl))) (by rw [cl_nI (by omega), cl_nI (by omega)]; exact (cSc_e he _ _).symm) (rfl) (fun H locs hw hS => ?_)
                                refine kx_top (v := (bfF g n i (q + 1))) (by show cSc g (cand g n i q).toNatClampNeg i = _; rw [hkc, cl_nI (by omega)]) ?_
                                refine lv_istore (lv' := [(10, .int (bfF g n i (q + 1))), (1, .int (1 : Int32)), (11, .int (nI k)), (9, .int (qnF g n i)), (8, .int (nI (wF g n i (qnF g n i) q))), (7, .int (nI q)), (2, .int (nI (ksum (sv g) (i + 1)))), (6, .int (g (200 + i) 8)), (5, .int (g (200 + i) 7)), (4, .int (nI i)), (3, .int (0 : Int32)), (0, .ref (ad 0))]) hx hb dL_areClaims_227 hl (by decide) rfl (fun ls hl => ?_)
                                refine lv_iload hx hb dL_areClaims_229 (lv_at hl 4 rfl) ?_
                                refine lv_iload hx hb dL_areClaims_231 (lv_at hl 3 rfl) ?_
                                have hj_257_5 : ∀ (H : Heap) (locs : List Loc) (ls : Array Slot), kW D cy base ad n nc gx H → va_S (kA base) s.heap H locs → lv_has ls 12 [(10, .int (bfF g n i (q + 1))), (1, .int (1 : Int32)), (11, .int (nI k)), (9, .int (qnF g n i)), (8, .int (nI (wF g n i (qnF g n i) q))), (7, .int (nI q)), (2, .int (nI (ksum (sv g) (i + 1)))), (6, .int (g (200 + i) 8)), (5, .int (g (200 + i) 7)), (4, .int (nI i)), (3, .int (0 : Int32)), (0, .ref (ad 0))] → W p l e (kR 10 7400 44400) s m args below meth c H locs ((0 + i * 351 + 19) + q * 11 + 9) ((0 + i * 2106 + 114) + q * 66 + 54) Q (F0 m 257 ls [.int (b2 ((!(decide ((qnF g n i) < (0 : Int32)))) && (decide ((((g (100 + 3 * k) 8) >>> ((qnF g n i) &&& 31)) &&& (1 : Int32)) = (1 : Int32))))), .int (nI (wF g n i (qnF g n i) q))]) := by
                                  intro H locs ls hw hS hl
                                  refine lv_iadd hx hb dL_areClaims_257 ?_
                                  refine kx_top (v := nI (wF g n i (qnF g n i) (q + 1))) ((wF_s hkc hk30).symm) ?_
                                  refine lv_istore (lv' := [(8, .int (nI (wF g n i (qnF g n i) (q + 1)))), (10, .int (bfF g n i (q + 1))), (1, .int (1 : Int32)), (11, .int (nI k)), (9, .int (qnF g n i)), (7, .int (nI q)), (2, .int (nI (ksum (sv g) (i + 1)))), (6, .int (g (200 + i) 8)), (5, .int (g (200 + i) 7)), (4, .int (nI i)), (3, .int (0 : Int32)), (0, .ref (ad 0))]) hx hb dL_areClaims_258 hl (by decide) rfl (fun ls hl => ?_)
                                  refine lv_iinc (v := (nI q + (1 : Int32))) (lv' := [(7, .int (nI q + (1 : Int32))), (8, .int (nI (wF g n i (qnF g n i) (q + 1)))), (10, .int (bfF g n i (q + 1))), (1, .int (1 : Int32)), (11, .int (nI k)), (9, .int (qnF g n i)), (2, .int (nI (ksum (sv g) (i + 1)))), (6, .int (g (200 + i) 8)), (5, .int (g (200 + i) 7)), (4, .int (nI i)), (3, .int (0 : Int32)), (0, .ref (ad 0))]) hx hb dL_areClaims_260 hl (k := 5) rfl rfl (by decide) rfl (fun ls hl => ?_)
                                  refine lv_aload_n hx hb dL_areClaims_263 rfl (lv_at hl 11 rfl) ?_
                                  refine lv_iload hx hb dL_areClaims_264 (lv_at hl 9 rfl) ?_
                                  refine lv_iload hx hb dL_areClaims_266 (lv_at hl 0 rfl) ?_
                                  refine kx_top (v := nI (q + 1)) ((nI_1 q).symm) ?_
                                  refine kx_sure (v1 := (cand g n i (q + 1))) (g2 := (cNS gx n (nI i).toNatClampNeg 30)) (kx_cv (As := [.int (nI i), .int (nI (q + 1))]) (rest := []) hF hG hw hS hl.1 kC_0 rfl (c_X2_candidate l hfl D cy base ad n nc gx (nI i) (nI (q + 1)) (by first | assumption | omega | exact mR_9 (by assumption) _ _ | simp [sU, hI]) (by first | assumption | omega | exact mR_9 (by assumption) _ _ | simp [sU, hI]) (by first | assumption | omega | exact mR_9 (by assumption) _ _ | simp [sU, hI])) gL_areClaims_X2_candidate rfl rfl rfl hd_X2_candidate ⟨Nat.le_of_ble_eq_true rfl, Nat.le_of_ble_eq_true rfl⟩ rfl rfl (Nat.le_of_ble_eq_true rfl) dL_areClaims_268 ⟨(show ((0 + i * 351 + 19) + q * 11 + 9) + 2 ≤ 7400 from by omega), (show ((0 + i * 2106 + 114) + q * 66 + 54) + 12 ≤ 44400 from by omega)⟩) hS (fun E9 hE9 => kEx_no hE9 (kd1_0.mpr (by rw [isF_of hlt_i (by omega), decide_eq_false (nI_pos (by omega))]; rfl))) (by rw [cl_nI (i := i) (by omega)]; exact (cand_e he n i _).symm) (rfl) (fun H locs hw hS => ?_)
                                  obtain ⟨gx, he, hw⟩ : ∃ gy, E8 g gy ∧ kW D cy base ad n nc gy H := ⟨_, he.tr (cNS_o _ _ _).sy, hw⟩
                                  have hI2 := hI.e8 he
                                  have hfr := hI2.fr
                                  have hcr := hI2.cr
                                  have hR := hI2.R
                                  have hh := hI2.hh
                                  refine lv_istore (lv' := [(11, .int (cand g n i (q + 1))), (7, .int (nI q + (1 : Int32))), (8, .int (nI (wF g n i (qnF g n i) (q + 1)))), (10, .int (bfF g n i (q + 1))), (1, .int (1 : Int32)), (9, .int (qnF g n i)), (2, .int (nI (ksum (sv g) (i + 1)))), (6, .int (g (200 + i) 8)), (5, .int (g (200 + i) 7)), (4, .int (nI i)), (3, .int (0 : Int32)), (0, .ref (ad 0))]) hx hb dL_areClaims_271 hl (by decide) rfl (fun ls hl => ?_)
                                  refine lv_goto (tgt := 166) hx hb dL_areClaims_273 (by decide) ?_
                                  refine W.widen (k := ((0 + i * 351 + 19) + (q + 1) * 11 + 0)) (n := ((0 + i * 2106 + 114) + (q + 1) * 66 + 0)) (by omega) (by omega) ?_
                                  exact ih_166 (q + 1) (by omega) (by omega) _ _ _ _ he hw hS (kx_lv (l := [(11, .int (cand g n i (q + 1))), (10, .int (bfF g n i (q + 1))), (9, .int (qnF g n i)), (8, .int (nI (wF g n i (qnF g n i) (q + 1)))), (7, .int (nI q + (1 : Int32))), (2, .int (nI (ksum (sv g) (i + 1)))), (1, .int (1 : Int32)), (6, .int (g (200 + i) 8)), (5, .int (g (200 + i) 7)), (4, .int (nI i)), (3, .int (0 : Int32)), (0, .ref (ad 0))]) (l' := [(11, .int (cand g n i (q + 1))), (10, .int (bfF g n i (q + 1))), (9, .int (qnF g n i)), (8, .int (nI (wF g n i (qnF g n i) (q + 1)))), (7, .int (nI (q + 1))), (2, .int (nI (ksum (sv g) (i + 1)))), (1, .int (1 : Int32)), (6, .int (g (200 + i) 8)), (5, .int (g (200 + i) 7)), (4, .int (nI i)), (3, .int (0 : Int32)), (0, .ref (ad 0))]) (lv_sub hl [0, 3, 5, 2, 1, 6, 4, 7, 8, 9, 10, 11] rfl) (by rw [nI_1])) (fun t ht => by rcases lt_su ht with z | z; exact hqq t z; subst z; exact c_168)
                                refine lv_if_lt (tgt := 256) hx hb dL_areClaims_233 (by decide) (fun c_233 => ?_) (fun c_233 => ?_)
                                · refine lv_iconst (v := 0) hx hb dL_areClaims_256 (by decide) ?_
                                  refine W.widen (k := ((0 + i * 351 + 19) + q * 11 + 9)) (n := ((0 + i * 2106 + 114) + q * 66 + 54)) (by omega) (by omega) ?_
                                  exact kx_top (v := (b2 ((!(decide ((qnF g n i) < (0 : Int32)))) && (decide ((((g (100 + 3 * k) 8) >>> ((qnF g n i) &&& 31)) &&& (1 : Int32)) = (1 : Int32)))))) (by first | (simp only [bq, decide_eq_true c_233, if_pos c_233]; done) | (simp only [bq, decide_eq_true c_233, if_pos c_233]; rfl) | (simp [bq, decide_eq_true c_233, if_pos c_233]; done)) (hj_257_5 _ _ _ hw hS hl)
                                · refine lv_aload_n hx hb dL_areClaims_236 rfl (lv_at hl 11 rfl) ?_
                                  refine lv_iload hx hb dL_areClaims_237 (lv_at hl 2 rfl) ?_
                                  refine lv_iconst (v := 3) hx hb dL_areClaims_239 (by decide) ?_
                                  refine kx_sure (v1 := (g (100 + 3 * k) 8)) (g2 := gx) (kx_cv (As := [.int (nI k), .int (3 : Int32)]) (rest := [.int (nI (wF g n i (qnF g n i) q))]) hF hG hw hS hl.1 kC_0 rfl (c_X2_ofFind l hfl D cy base ad n nc gx (nI k) (3 : Int32) (by first | assumption | omega | exact mR_9 (by assumption) _ _ | simp [sU, hI])) gL_areClaims_X2_ofFind rfl rfl rfl hd_X2_ofFind ⟨Nat.le_of_ble_eq_true rfl, Nat.le_of_ble_eq_true rfl⟩ rfl rfl (Nat.le_of_ble_eq_true rfl) dL_areClaims_240 ⟨(show ((0 + i * 351 + 19) + q * 11 + 7) + 2 ≤ 7400 from by omega), (show ((0 + i * 2106 + 114) + q * 66 + 42) + 12 ≤ 44400 from by omega)⟩) hS (fun E9 hE9 => kEx_no hE9 (kd2_0.mpr ⟨isF_of hkn hn30, by decide +kernel⟩)) ((of3 (by omega)).trans (congrFun (he.F k).symm 8)) (rfl) (fun H locs hw hS => ?_)
                                  refine lv_iload hx hb dL_areClaims_243 (lv_at hl 3 rfl) ?_
                                  refine lv_ishr hx hb dL_areClaims_245 ?_
                                  refine lv_iconst (v := 1) hx hb dL_areClaims_246 (by decide) ?_
                                  refine lv_iand hx hb dL_areClaims_247 ?_
                                  refine lv_iconst (v := 1) hx hb dL_areClaims_248 (by decide) ?_
                                  refine lv_icmp_ne (tgt := 256) hx hb dL_areClaims_249 (by decide) (fun c_249 => ?_) (fun c_249 => ?_)
                                  · refine lv_iconst (v := 0) hx hb dL_areClaims_256 (by decide) ?_
                                    exact kx_top (v := (b2 ((!(decide ((qnF g n i) < (0 : Int32)))) && (decide ((((g (100 + 3 * k) 8) >>> ((qnF g n i) &&& 31)) &&& (1 : Int32)) = (1 : Int32)))))) (by first | (simp only [bq, decide_eq_false c_233, if_neg c_233, decide_eq_false c_249, if_neg c_249]; done) | (simp only [bq, decide_eq_false c_233, if_neg c_233, decide_eq_false c_249, if_neg c_249]; rfl) | (simp [bq, decide_eq_false c_233, if_neg c_233, decide_eq_false c_249, if_neg c_249]; done)) (hj_257_5 _ _ _ hw hS hl)
                                  · refine lv_iconst (v := 1) hx hb dL_areClaims_252 (by decide) ?_
                                    refine lv_goto (tgt := 257) hx hb dL_areClaims_253 (by decide) ?_
                                    exact kx_top (v := (b2 ((!(decide ((qnF g n i) < (0 : Int32)))) && (decide ((((g (100 + 3 * k) 8) >>> ((qnF g n i) &&& 31)) &&& (1 : Int32)) = (1 : Int32)))))) (by first | (simp only [bq, decide_eq_false c_233, if_neg c_233, decide_eq_true c_249, if_pos c_249]; done) | (simp only [bq, decide_eq_false c_233, if_neg c_233, decide_eq_true c_249, if_pos c_249]; rfl) | (simp [bq, decide_eq_false c_233, if_neg c_233, decide_eq_true c_249, if_pos c_249]; done)) (hj_257_5 _ _ _ hw hS hl)
                  refine W.widen (k := ((0 + i * 351 + 19) + 0 * 11 + 0)) (n := ((0 + i * 2106 + 114) + 0 * 66 + 0)) (by omega) (by omega) ?_
                  exact lp_166 (30 + 1) 0 (by omega) (by omega) _ _ _ _ he hw hS (kx_lv (l := [(11, .int (cand g n i 0)), (10, .int (1000 : Int32)), (9, .int (qnF g n i)), (8, .int (0 : Int32)), (7, .int (0 : Int32)), (2, .int (nI (ksum (sv g) (i + 1)))), (1, .int (1 : Int32)), (6, .int (g (200 + i) 8)), (5, .int (g (200 + i) 7)), (4, .int (nI i)), (3, .int (0 : Int32)), (0, .ref (ad 0))]) (l' := [(11, .int (cand g n i 0)), (10, .int (bfF g n i 0)), (9, .int (qnF g n i)), (8, .int (nI (wF g n i (qnF g n i) 0))), (7, .int (nI 0)), (2, .int (nI (ksum (sv g) (i + 1)))), (1, .int (1 : Int32)), (6, .int (g (200 + i) 8)), (5, .int (g (200 + i) 7)), (4, .int (nI i)), (3, .int (0 : Int32)), (0, .ref (ad 0))]) (lv_sub hl [0, 1, 2, 3, 4, 5, 6, 7, 8, 9, 10, 11] rfl) (rfl)) (fun t ht => absurd ht (by omega))
                refine lv_if_lt (tgt := 135) hx hb dL_areClaims_128 (by decide) (fun c_128 => ?_) (fun c_128 => ?_)
                · refine lv_iconst (v := 0) hx hb dL_areClaims_135 (by decide) ?_
                  exact kx_top (v := (b2 (!(decide ((g (200 + i) 8) < (0 : Int32)))))) (by first | (simp only [bq, decide_eq_true c_128, if_pos c_128]; done) | (simp only [bq, decide_eq_true c_128, if_pos c_128]; rfl) | (simp [bq, decide_eq_true c_128, if_pos c_128]; done)) (hj_136_4 _ _ _ hw hS hl)
                · refine lv_iconst (v := 1) hx hb dL_areClaims_131 (by decide) ?_
                  refine lv_goto (tgt := 136) hx hb dL_areClaims_132 (by decide) ?_
                  exact kx_top (v := (b2 (!(decide ((g (200 + i) 8) < (0 : Int32)))))) (by first | (simp only [bq, decide_eq_false c_128, if_neg c_128]; done) | (simp only [bq, decide_eq_false c_128, if_neg c_128]; rfl) | (simp [bq, decide_eq_false c_128, if_neg c_128]; done)) (hj_136_4 _ _ _ hw hS hl)
              refine lv_if_lt (tgt := 119) hx hb dL_areClaims_93 (by decide) (fun c_93 => ?_) (fun c_93 => ?_)
              · refine W.widen (k := (0 + i * 351 + 16)) (n := (0 + i * 2106 + 96)) (by omega) (by omega) ?_
                exact hj_119_3 _ _ _ hw hS hl
              · obtain ⟨x, hxn, hx8, hxg⟩ := srv_x hC c_93
                refine lv_aload_n hx hb dL_areClaims_96 rfl (lv_at hl 6 rfl) ?_
                refine lv_iload hx hb dL_areClaims_97 (lv_at hl 0 rfl) ?_
                refine kx_top (v := nI x) (hx8.symm) ?_
                refine lv_iconst (v := 0) hx hb dL_areClaims_99 (by decide) ?_
                refine kx_sure (v1 := (g (100 + 3 * x) 9)) (g2 := gx) (kx_cv (As := [.int (nI x), .int (0 : Int32)]) (rest := []) hF hG hw hS hl.1 kC_0 rfl (c_X2_ofFind l hfl D cy base ad n nc gx (nI x) (0 : Int32) (by first | assumption | omega | exact mR_9 (by assumption) _ _ | simp [sU, hI])) gL_areClaims_X2_ofFind rfl rfl rfl hd_X2_ofFind ⟨Nat.le_of_ble_eq_true rfl, Nat.le_of_ble_eq_true rfl⟩ rfl rfl (Nat.le_of_ble_eq_true rfl) dL_areClaims_100 ⟨(show (0 + i * 351 + 12) + 2 ≤ 7400 from by omega), (show (0 + i * 2106 + 72) + 12 ≤ 44400 from by omega)⟩) hS (fun E9 hE9 => kEx_no hE9 (kd2_0.mpr ⟨isF_of hxn hn30, by decide +kernel⟩)) ((of0 (by omega)).trans (congrFun (he.F x).symm 9)) (rfl) (fun H locs hw hS => ?_)
                refine lv_iconst (v := 3) hx hb dL_areClaims_103 (by decide) ?_
                refine lv_icmp_eq (tgt := 119) hx hb dL_areClaims_104 (by decide) (fun c_104 => ?_) (fun c_104 => ?_)
                · refine W.widen (k := (0 + i * 351 + 16)) (n := (0 + i * 2106 + 96)) (by omega) (by omega) ?_
                  exact hj_119_3 _ _ _ hw hS hl
                · refine lv_aload_n hx hb dL_areClaims_107 rfl (lv_at hl 6 rfl) ?_
                  refine lv_iload hx hb dL_areClaims_108 (lv_at hl 0 rfl) ?_
                  refine kx_top (v := nI x) (hx8.symm) ?_
                  refine lv_iconst (v := 0) hx hb dL_areClaims_110 (by decide) ?_
                  refine kx_sure (v1 := (g (100 + 3 * x) 9)) (g2 := gx) (kx_cv (As := [.int (nI x), .int (0 : Int32)]) (rest := []) hF hG hw hS hl.1 kC_0 rfl (c_X2_ofFind l hfl D cy base ad n nc gx (nI x) (0 : Int32) (by first | assumption | omega | exact mR_9 (by assumption) _ _ | simp [sU, hI])) gL_areClaims_X2_ofFind rfl rfl rfl hd_X2_ofFind ⟨Nat.le_of_ble_eq_true rfl, Nat.le_of_ble_eq_true rfl⟩ rfl rfl (Nat.le_of_ble_eq_true rfl) dL_areClaims_111 ⟨(show (0 + i * 351 + 14) + 2 ≤ 7400 from by omega), (show (0 + i * 2106 + 84) + 12 ≤ 44400 from by omega)⟩) hS (fun E9 hE9 => kEx_no hE9 (kd2_0.mpr ⟨isF_of hxn hn30, by decide +kernel⟩)) ((of0 (by omega)).trans (congrFun (he.F x).symm 9)) (rfl) (fun H locs hw hS => ?_)
                  refine lv_bipush (v := 6) hx hb dL_areClaims_114 (by decide) ?_
                  refine lv_icmp_ne (tgt := 123) hx hb dL_areClaims_116 (by decide) (fun c_116 => ?_) (fun c_116 => ?_)
                  · exact absurd (gone_6 hxg c_104) c_116
                  · exact hj_119_3 _ _ _ hw hS hl
            refine lv_icmp_ne (tgt := 91) hx hb dL_areClaims_83 (by decide) (fun c_83 => ?_) (fun c_83 => ?_)
            · exact hj_91_2 _ _ _ hw hS hl
            · refine lv_iload hx hb dL_areClaims_86 (lv_at hl 0 rfl) ?_
              refine lv_if_lt (tgt := 123) hx hb dL_areClaims_88 (by decide) (fun c_88 => ?_) (fun c_88 => ?_)
              · exact absurd c_88 (srv_0 hC hn30 c_83)
              · exact hj_91_2 _ _ _ hw hS hl
          refine lv_icmp_lt (tgt := 80) hx hb dL_areClaims_67 (by decide) (fun c_67 => ?_) (fun c_67 => ?_)
          · refine W.widen (k := (0 + i * 351 + 12)) (n := (0 + i * 2106 + 72)) (by omega) (by omega) ?_
            exact hj_80_1 _ _ _ hw hS hl
          · refine lv_aload_n hx hb dL_areClaims_70 rfl (lv_at hl 6 rfl) ?_
            refine lv_iload hx hb dL_areClaims_71 (lv_at hl 2 rfl) ?_
            refine lv_iconst (v := 1) hx hb dL_areClaims_73 (by decide) ?_
            refine kx_sure (v1 := (g (200 + i) 5)) (g2 := gx) (kx_cv (As := [.int (nI i), .int (1 : Int32)]) (rest := []) hF hG hw hS hl.1 kC_0 rfl (c_X2_ofClaim l hfl D cy base ad n nc gx (nI i) (1 : Int32) (by first | assumption | omega | exact mR_9 (by assumption) _ _ | simp [sU, hI])) gL_areClaims_X2_ofClaim rfl rfl rfl hd_X2_ofClaim ⟨Nat.le_of_ble_eq_true rfl, Nat.le_of_ble_eq_true rfl⟩ rfl rfl (Nat.le_of_ble_eq_true rfl) dL_areClaims_74 ⟨(show (0 + i * 351 + 10) + 2 ≤ 7400 from by omega), (show (0 + i * 2106 + 60) + 12 ≤ 44400 from by omega)⟩) hS (fun E9 hE9 => kEx_no hE9 (kd2_0.mpr ⟨isF_of hlt_i (by omega), by decide +kernel⟩)) ((oc1 (by omega)).trans (congrFun (he.C i).symm 5)) (rfl) (fun H locs hw hS => ?_)
            refine lv_if_ne (tgt := 123) hx hb dL_areClaims_77 (by decide) (fun c_77 => ?_) (fun c_77 => ?_)
            · exact absurd (er_0 hC c_67) c_77
            · exact hj_80_1 _ _ _ hw hS hl
  refine W.widen (k := (0 + 0 * 351 + 0)) (n := (0 + 0 * 2106 + 0)) (by omega) (by omega) ?_
  exact lp_9 (nc + 1) 0 (by omega) (by omega) _ _ _ _ he hw hS (kx_lv (l := [(4, .int (0 : Int32)), (3, .int (0 : Int32)), (2, .int (0 : Int32)), (1, .int (1 : Int32)), (0, .ref (ad 0))]) (l' := [(4, .int (nI 0)), (3, .int (0 : Int32)), (2, .int (nI (ksum (sv g) 0))), (1, .int (1 : Int32)), (0, .ref (ad 0))]) (lv_sub hl [0, 1, 2, 3, 4] rfl) (rfl)) 
