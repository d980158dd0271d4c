/-! walks laid by wip/p35/kgen.py, kall.py -/
theorem hd_L_act : yL_act.cls ≠ "java/lang/invoke/MethodHandle" ∧ yL_act.cls ≠ "java/lang/invoke/VarHandle" ∧ (parseMethodDescriptor yL_act.desc).map (fun d => d.parameters.length) = some 2 := by decide +kernel
set_option maxHeartbeats 4000000 in
set_option maxRecDepth 100000 in
theorem c_L_act (l : Launch) (hfl : l.stackTraces = false) (D : va_G) (cy : Nat → ClassId) (base : Nat → Prop) (ad : Nat → Nat) (n nc : Nat) (g : sg) (v1 : Int32) (hI : Inv n nc g) : kM l yL_act wsL_act (kR 10 12 100) D cy base ad n nc g [.ref (ad 0), .int v1] (kLP (ad 0) (actF n nc g v1)) kNo 12 100 := by
  refine kx_meth (cc := cL_act) (maxL := 8) (ret := (some .int)) (by decide) rfl (Nat.le_of_ble_eq_true rfl) ?_
  intro p e s m args below meth c ls hx hb hr hml hown hts hlk hT hG hw0 hS0 hl Q H locs hQ hw hS hH0 hlocs0
  have hl : lv_has ls 8 [(0, .ref (ad 0)), (1, .int v1)] := hl
  have hown : s.vm.findClass RL = some m.cls := hown
  have hF : CallFix p m c cL_act 8 s args wsL_act RL := ⟨hx, hb, hml, hown, hts⟩
  have hn30 : n ≤ 30 := hw.2.2.1
  have hc20 : nc ≤ 20 := hw.2.2.2
  clear hw0 hS0 hH0 hlocs0
  have hfr := hI.fr
  have hcr := hI.cr
  have hR := hI.R
  have hh := hI.hh
  have hz := hI.hz
  have hs := hI.hs
  have hfj := hI.fj
  have hfc := hI.fc
  have hcj := hI.cj
  have hfj6 := hI.fj6
  have hcc := hI.cc
  refine lv_iload_n hx hb dL_act_0 rfl (lv_at hl 1 rfl) ?_
  refine lv_bipush (v := 18) hx hb dL_act_1 (by decide) ?_
  refine lv_ishr hx hb dL_act_3 ?_
  refine lv_bipush (v := 7) hx hb dL_act_4 (by decide) ?_
  refine lv_iand hx hb dL_act_6 ?_
  refine lv_bipush (v := 7) hx hb dL_act_7 (by decide) ?_
  have hj_17_0 : ∀ (H : Heap) (locs : List Loc) (ls : Array Slot), kW D cy base ad n nc g H → va_S (kA base) s.heap H locs → lv_has ls 8 [(0, .ref (ad 0)), (1, .int v1)] → W p l e (kR 10 12 100) s m args below meth c H locs 0 0 Q (F0 m 17 ls [.int (b2 (decide (((v1 >>> ((18 : Int32) &&& 31)) &&& (7 : Int32)) = (7 : Int32))))]) := by
    intro H locs ls hw hS hl
    refine lv_istore_n (lv' := [(2, .int (b2 (decide (((v1 >>> ((18 : Int32) &&& 31)) &&& (7 : Int32)) = (7 : Int32))))), (0, .ref (ad 0)), (1, .int v1)]) hx hb dL_act_17 rfl hl (by decide) rfl (fun ls hl => ?_)
    refine lv_iload_n hx hb dL_act_18 rfl (lv_at hl 2 rfl) ?_
    refine lv_bipush (v := 52) hx hb dL_act_19 (by decide) ?_
    refine kx_do0 (st1 := [.int (lowF v1 (52 : Int32))]) (kx_cs (As := [.int v1, .int (52 : Int32)]) (rest := []) hF hG hw hS hl.1 (c_L_low l hfl D cy base ad n nc g v1 (52 : Int32) (by first | decide +kernel | (cases odd <;> decide +kernel) | (split <;> decide +kernel))) gL_act_L_low rfl rfl rfl hd_L_low ⟨Nat.le_of_ble_eq_true rfl, Nat.le_of_ble_eq_true rfl⟩ rfl rfl (Nat.le_of_ble_eq_true rfl) dL_act_21 ⟨Nat.le_of_ble_eq_true rfl, Nat.le_of_ble_eq_true rfl⟩) hS rfl (fun H locs hw hS => ?_)
    refine lv_istore_n (lv' := [(3, .int (lowF v1 (52 : Int32))), (2, .int (b2 (decide (((v1 >>> ((18 : Int32) &&& 31)) &&& (7 : Int32)) = (7 : Int32))))), (0, .ref (ad 0)), (1, .int v1)]) hx hb dL_act_24 rfl hl (by decide) rfl (fun ls hl => ?_)
    refine lv_iload_n hx hb dL_act_25 rfl (lv_at hl 3 rfl) ?_
    refine lv_bipush (v := 6) hx hb dL_act_26 (by decide) ?_
    refine lv_ishr hx hb dL_act_28 ?_
    refine lv_istore (lv' := [(4, .int (v1 >>> ((6 : Int32) &&& 31))), (3, .int (lowF v1 (52 : Int32))), (2, .int (b2 (decide (((v1 >>> ((18 : Int32) &&& 31)) &&& (7 : Int32)) = (7 : Int32))))), (0, .ref (ad 0)), (1, .int v1)]) hx hb dL_act_29 hl (by decide) rfl (fun ls hl => ?_)
    refine lv_iload hx hb dL_act_31 (lv_at hl 0 rfl) ?_
    refine lv_iconst (v := 3) hx hb dL_act_33 (by decide) ?_
    refine lv_iand hx hb dL_act_34 ?_
    have hj_65_1 : ∀ (H : Heap) (locs : List Loc) (ls : Array Slot), kW D cy base ad n nc g H → va_S (kA base) s.heap H locs → lv_has ls 8 [(4, .int (v1 >>> ((6 : Int32) &&& 31))), (3, .int (lowF v1 (52 : Int32))), (2, .int (b2 (decide (((v1 >>> ((18 : Int32) &&& 31)) &&& (7 : Int32)) = (7 : Int32))))), (0, .ref (ad 0)), (1, .int v1)] → W p l e (kR 10 12 100) s m args below meth c H locs 0 0 Q (F0 m 65 ls [.int (if ((v1 >>> ((6 : Int32) &&& 31)) &&& (3 : Int32)) = (0 : Int32) then (if (decide (((v1 >>> ((18 : Int32) &&& 31)) &&& (7 : Int32)) = (7 : Int32))) = true then (lowF ((v1 >>> ((6 : Int32) &&& 31)) >>> ((2 : Int32) &&& 31)) (10 : Int32)) else (lowF ((v1 >>> ((6 : Int32) &&& 31)) >>> ((2 : Int32) &&& 31)) (8 : Int32))) else (((v1 >>> ((6 : Int32) &&& 31)) >>> ((2 : Int32) &&& 31)) &&& (1 : Int32)))]) := by
      intro H locs ls hw hS hl
      refine lv_istore (lv' := [(5, .int (if ((v1 >>> ((6 : Int32) &&& 31)) &&& (3 : Int32)) = (0 : Int32) then (if (decide (((v1 >>> ((18 : Int32) &&& 31)) &&& (7 : Int32)) = (7 : Int32))) = true then (lowF ((v1 >>> ((6 : Int32) &&& 31)) >>> ((2 : Int32) &&& 31)) (10 : Int32)) else (lowF ((v1 >>> ((6 : Int32) &&& 31)) >>> ((2 : Int32) &&& 31)) (8 : Int32))) else (((v1 >>> ((6 : Int32) &&& 31)) >>> ((2 : Int32) &&& 31)) &&& (1 : Int32)))), (4, .int (v1 >>> ((6 : Int32) &&& 31))), (3, .int (lowF v1 (52 : Int32))), (2, .int (b2 (decide (((v1 >>> ((18 : Int32) &&& 31)) &&& (7 : Int32)) = (7 : Int32))))), (0, .ref (ad 0)), (1, .int v1)]) hx hb dL_act_65 hl (by decide) rfl (fun ls hl => ?_)
      obtain ⟨odd, e_o⟩ : ∃ odd : Bool, odd = oddF v1 := ⟨_, rfl⟩
      obtain ⟨how, e_h⟩ : ∃ how : Int32, how = lowF v1 (52 : Int32) := ⟨_, rfl⟩
      obtain ⟨x, e_x⟩ : ∃ x : Int32, x = v1 >>> ((6 : Int32) &&& 31) := ⟨_, rfl⟩
      obtain ⟨its, e_i⟩ : ∃ its : Int32, its = itsF odd x := ⟨_, rfl⟩
      have hl : lv_has ls 8 [(5, .int its), (4, .int x), (3, .int how), (2, .int (b2 odd)), (0, .ref (ad 0)), (1, .int v1)] := by rw [e_i, e_h, e_x, e_o]; exact (lv_sub hl [0, 1, 2, 3, 4, 5] rfl)
      have e_A : actF n nc g v1 = actG n nc g odd how x its := by rw [e_i, e_h, e_x, e_o]; rfl
      clear e_i e_h e_x e_o
      refine lv_iload_n hx hb dL_act_67 rfl (lv_at hl 2 rfl) ?_
      refine lv_bipush (v := 7) hx hb dL_act_68 (by decide) ?_
      refine lv_icmp_ge (tgt := 273) hx hb dL_act_70 (by decide) (fun c_70 => ?_) (fun c_70 => ?_)
      · refine lv_iload_n hx hb dL_act_273 rfl (lv_at hl 2 rfl) ?_
        refine lv_bipush (v := 15) hx hb dL_act_274 (by decide) ?_
        refine lv_icmp_ge (tgt := 451) hx hb dL_act_276 (by decide) (fun c_276 => ?_) (fun c_276 => ?_)
        · refine lv_iload_n hx hb dL_act_451 rfl (lv_at hl 2 rfl) ?_
          refine lv_bipush (v := 26) hx hb dL_act_452 (by decide) ?_
          refine lv_icmp_ge (tgt := 611) hx hb dL_act_454 (by decide) (fun c_454 => ?_) (fun c_454 => ?_)
          · refine lv_iload_n hx hb dL_act_611 rfl (lv_at hl 2 rfl) ?_
            refine lv_bipush (v := 45) hx hb dL_act_612 (by decide) ?_
            refine lv_icmp_ge (tgt := 888) hx hb dL_act_614 (by decide) (fun c_614 => ?_) (fun c_614 => ?_)
            · refine lv_aload_n hx hb dL_act_888 rfl (lv_at hl 4 rfl) ?_
              refine lv_bipush (v := 18) hx hb dL_act_889 (by decide) ?_
              refine lv_iload_n hx hb dL_act_891 rfl (lv_at hl 3 rfl) ?_
              have hj_929_2 : ∀ (H : Heap) (locs : List Loc) (ls : Array Slot), kW D cy base ad n nc g H → va_S (kA base) s.heap H locs → lv_has ls 8 [(5, .int its), (4, .int x), (3, .int how), (2, .int (b2 odd)), (0, .ref (ad 0)), (1, .int v1)] → W p l e (kR 10 12 100) s m args below meth c H locs 0 0 Q (F0 m 929 ls [.int (if odd = true then (lowF x (500 : Int32)) else (if ((x >>> ((7 : Int32) &&& 31)) &&& (3 : Int32)) = (0 : Int32) then ((1 : Int32) + (lowF x (60 : Int32))) else ((1 : Int32) + (lowF x (4 : Int32))))), .int (18 : Int32), .ref (ad 0)]) := by
                intro H locs ls hw hS hl
                refine lv_iconst (v := 0) hx hb dL_act_929 (by decide) ?_
                refine lv_iconst (v := 0) hx hb dL_act_930 (by decide) ?_
                refine kx_do (st1 := [.int ((dF_18 n nc g (if odd = true then (lowF x (500 : Int32)) else (if ((x >>> ((7 : Int32) &&& 31)) &&& (3 : Int32)) = (0 : Int32) then ((1 : Int32) + (lowF x (60 : Int32))) else ((1 : Int32) + (lowF x (4 : Int32)))))).1)]) (kx_csH (As := [.ref (ad 0), .int (18 : Int32), .int (if odd = true then (lowF x (500 : Int32)) else (if ((x >>> ((7 : Int32) &&& 31)) &&& (3 : Int32)) = (0 : Int32) then ((1 : Int32) + (lowF x (60 : Int32))) else ((1 : Int32) + (lowF x (4 : Int32))))), .int (0 : Int32), .int (0 : Int32)]) (rest := []) hF hG hw hS hl.1 (c_L_does_18 l hfl D cy base ad n nc g (if odd = true then (lowF x (500 : Int32)) else (if ((x >>> ((7 : Int32) &&& 31)) &&& (3 : Int32)) = (0 : Int32) then ((1 : Int32) + (lowF x (60 : Int32))) else ((1 : Int32) + (lowF x (4 : Int32))))) (0 : Int32) (0 : Int32) (by first | assumption | omega | exact mR_9 (by assumption) _ _ | simp [sU, hI]) (by first | assumption | omega | exact mR_9 (by assumption) _ _ | simp [sU, hI]) (by first | assumption | omega | exact mR_9 (by assumption) _ _ | simp [sU, hI])) gL_act_L_does rfl rfl rfl hd_L_does ⟨Nat.le_of_ble_eq_true rfl, Nat.le_of_ble_eq_true rfl⟩ rfl rfl (Nat.le_of_ble_eq_true rfl) dL_act_931 ⟨Nat.le_of_ble_eq_true rfl, Nat.le_of_ble_eq_true rfl⟩) hS rfl (fun _ _ _ _ _ h => h.elim) (fun _ H locs hw hS => ?_)
                exact kx_retI hQ hx hb hr hlk hw hS (Nat.le_of_ble_eq_true rfl) (Nat.le_of_ble_eq_true rfl) dL_act_934 (kLP_mk (e_A.trans (by simp only [actG, decide_eq_true c_70, if_pos c_70, decide_eq_true c_276, if_pos c_276, decide_eq_true c_454, if_pos c_454, decide_eq_true c_614, if_pos c_614]; rfl)) rfl)
              refine kb_eq (tgt := 906) hx hb dL_act_892 (by decide) (fun c_892 => ?_) (fun c_892 => ?_)
              · refine lv_iconst (v := 1) hx hb dL_act_906 (by decide) ?_
                refine lv_iload hx hb dL_act_907 (lv_at hl 1 rfl) ?_
                refine lv_iload hx hb dL_act_909 (lv_at hl 1 rfl) ?_
                refine lv_bipush (v := 7) hx hb dL_act_911 (by decide) ?_
                refine lv_ishr hx hb dL_act_913 ?_
                refine lv_iconst (v := 3) hx hb dL_act_914 (by decide) ?_
                refine lv_iand hx hb dL_act_915 ?_
                have hj_925_3 : ∀ (H : Heap) (locs : List Loc) (ls : Array Slot), kW D cy base ad n nc g H → va_S (kA base) s.heap H locs → lv_has ls 8 [(5, .int its), (4, .int x), (3, .int how), (2, .int (b2 odd)), (0, .ref (ad 0)), (1, .int v1)] → W p l e (kR 10 12 100) s m args below meth c H locs 0 0 Q (F0 m 925 ls [.int (if ((x >>> ((7 : Int32) &&& 31)) &&& (3 : Int32)) = (0 : Int32) then (60 : Int32) else (4 : Int32)), .int x, .int (1 : Int32), .int (18 : Int32), .ref (ad 0)]) := by
                  intro H locs ls hw hS hl
                  refine kx_do0 (st1 := [.int (lowF x (if ((x >>> ((7 : Int32) &&& 31)) &&& (3 : Int32)) = (0 : Int32) then (60 : Int32) else (4 : Int32))), .int (1 : Int32), .int (18 : Int32), .ref (ad 0)]) (kx_cs (As := [.int x, .int (if ((x >>> ((7 : Int32) &&& 31)) &&& (3 : Int32)) = (0 : Int32) then (60 : Int32) else (4 : Int32))]) (rest := [.int (1 : Int32), .int (18 : Int32), .ref (ad 0)]) hF hG hw hS hl.1 (c_L_low l hfl D cy base ad n nc g x (if ((x >>> ((7 : Int32) &&& 31)) &&& (3 : Int32)) = (0 : Int32) then (60 : Int32) else (4 : Int32)) (by first | decide +kernel | (cases odd <;> decide +kernel) | (split <;> decide +kernel))) gL_act_L_low rfl rfl rfl hd_L_low ⟨Nat.le_of_ble_eq_true rfl, Nat.le_of_ble_eq_true rfl⟩ rfl rfl (Nat.le_of_ble_eq_true rfl) dL_act_925 ⟨Nat.le_of_ble_eq_true rfl, Nat.le_of_ble_eq_true rfl⟩) hS rfl (fun H locs hw hS => ?_)
                  refine lv_iadd hx hb dL_act_928 ?_
                  exact kx_top (v := (if odd = true then (lowF x (500 : Int32)) else (if ((x >>> ((7 : Int32) &&& 31)) &&& (3 : Int32)) = (0 : Int32) then ((1 : Int32) + (lowF x (60 : Int32))) else ((1 : Int32) + (lowF x (4 : Int32)))))) (by first | (simp only [bq, c_892]; done) | (simp only [bq, c_892]; rfl) | (simp [bq, c_892]; done) | (simp [bq, c_892]; split <;> rename_i z9 <;> first | rfl | (rw [if_pos z9]; done) | (rw [if_neg z9]; done))) (hj_929_2 _ _ _ hw hS hl)
                refine lv_if_ne (tgt := 924) hx hb dL_act_916 (by decide) (fun c_916 => ?_) (fun c_916 => ?_)
                · refine lv_iconst (v := 4) hx hb dL_act_924 (by decide) ?_
                  exact kx_top (v := (if ((x >>> ((7 : Int32) &&& 31)) &&& (3 : Int32)) = (0 : Int32) then (60 : Int32) else (4 : Int32))) (by first | (simp only [bq, decide_eq_false c_916, if_neg c_916]; done) | (simp only [bq, decide_eq_false c_916, if_neg c_916]; rfl) | (simp [bq, decide_eq_false c_916, if_neg c_916]; done)) (hj_925_3 _ _ _ hw hS hl)
                · refine lv_bipush (v := 60) hx hb dL_act_919 (by decide) ?_
                  refine lv_goto (tgt := 925) hx hb dL_act_921 (by decide) ?_
                  exact kx_top (v := (if ((x >>> ((7 : Int32) &&& 31)) &&& (3 : Int32)) = (0 : Int32) then (60 : Int32) else (4 : Int32))) (by first | (simp only [bq, decide_eq_true c_916, if_pos c_916]; done) | (simp only [bq, decide_eq_true c_916, if_pos c_916]; rfl) | (simp [bq, decide_eq_true c_916, if_pos c_916]; done)) (hj_925_3 _ _ _ hw hS hl)
              · refine lv_iload hx hb dL_act_895 (lv_at hl 1 rfl) ?_
                refine lv_sipush (v := 500) hx hb dL_act_897 (by decide) ?_
                refine kx_do0 (st1 := [.int (lowF x (500 : Int32)), .int (18 : Int32), .ref (ad 0)]) (kx_cs (As := [.int x, .int (500 : Int32)]) (rest := [.int (18 : Int32), .ref (ad 0)]) hF hG hw hS hl.1 (c_L_low l hfl D cy base ad n nc g x (500 : Int32) (by first | decide +kernel | (cases odd <;> decide +kernel) | (split <;> decide +kernel))) gL_act_L_low rfl rfl rfl hd_L_low ⟨Nat.le_of_ble_eq_true rfl, Nat.le_of_ble_eq_true rfl⟩ rfl rfl (Nat.le_of_ble_eq_true rfl) dL_act_900 ⟨Nat.le_of_ble_eq_true rfl, Nat.le_of_ble_eq_true rfl⟩) hS rfl (fun H locs hw hS => ?_)
                refine lv_goto (tgt := 929) hx hb dL_act_903 (by decide) ?_
                exact kx_top (v := (if odd = true then (lowF x (500 : Int32)) else (if ((x >>> ((7 : Int32) &&& 31)) &&& (3 : Int32)) = (0 : Int32) then ((1 : Int32) + (lowF x (60 : Int32))) else ((1 : Int32) + (lowF x (4 : Int32)))))) (by first | (simp only [bq, c_892]; done) | (simp only [bq, c_892]; rfl) | (simp [bq, c_892]; done) | (simp [bq, c_892]; split <;> rename_i z9 <;> first | rfl | (rw [if_pos z9]; done) | (rw [if_neg z9]; done))) (hj_929_2 _ _ _ hw hS hl)
            · refine lv_iload_n hx hb dL_act_617 rfl (lv_at hl 3 rfl) ?_
              have hj_640_4 : ∀ (H : Heap) (locs : List Loc) (ls : Array Slot), kW D cy base ad n nc g H → va_S (kA base) s.heap H locs → lv_has ls 8 [(5, .int its), (4, .int x), (3, .int how), (2, .int (b2 odd)), (0, .ref (ad 0)), (1, .int v1)] → W p l e (kR 10 12 100) s m args below meth c H locs 0 0 Q (F0 m 640 ls [.int (if odd = true then ((lowF x (34 : Int32)) - (1 : Int32)) else (lowF x (10 : Int32)))]) := by
                intro H locs ls hw hS hl
                refine lv_istore (lv' := [(6, .int (if odd = true then ((lowF x (34 : Int32)) - (1 : Int32)) else (lowF x (10 : Int32)))), (5, .int its), (4, .int x), (3, .int how), (2, .int (b2 odd)), (0, .ref (ad 0)), (1, .int v1)]) hx hb dL_act_640 hl (by decide) rfl (fun ls hl => ?_)
                refine lv_iload_n hx hb dL_act_642 rfl (lv_at hl 4 rfl) ?_
                have hj_669_5 : ∀ (H : Heap) (locs : List Loc) (ls : Array Slot), kW D cy base ad n nc g H → va_S (kA base) s.heap H locs → lv_has ls 8 [(6, .int (if odd = true then ((lowF x (34 : Int32)) - (1 : Int32)) else (lowF x (10 : Int32)))), (5, .int its), (4, .int x), (3, .int how), (2, .int (b2 odd)), (0, .ref (ad 0)), (1, .int v1)] → W p l e (kR 10 12 100) s m args below meth c H locs 0 0 Q (F0 m 669 ls [.int (if odd = true then ((lowF (x >>> ((4 : Int32) &&& 31)) (23 : Int32)) - (1 : Int32)) else (lowF (x >>> ((4 : Int32) &&& 31)) (8 : Int32)))]) := by
                  intro H locs ls hw hS hl
                  refine lv_istore (lv' := [(7, .int (if odd = true then ((lowF (x >>> ((4 : Int32) &&& 31)) (23 : Int32)) - (1 : Int32)) else (lowF (x >>> ((4 : Int32) &&& 31)) (8 : Int32)))), (6, .int (if odd = true then ((lowF x (34 : Int32)) - (1 : Int32)) else (lowF x (10 : Int32)))), (5, .int its), (4, .int x), (3, .int how), (2, .int (b2 odd)), (0, .ref (ad 0)), (1, .int v1)]) hx hb dL_act_669 hl (by decide) rfl (fun ls hl => ?_)
                  refine lv_iload_n hx hb dL_act_671 rfl (lv_at hl 4 rfl) ?_
                  refine lv_bipush (v := 28) hx hb dL_act_672 (by decide) ?_
                  refine lv_icmp_ge (tgt := 706) hx hb dL_act_674 (by decide) (fun c_674 => ?_) (fun c_674 => ?_)
                  · refine lv_iload_n hx hb dL_act_706 rfl (lv_at hl 4 rfl) ?_
                    refine lv_bipush (v := 33) hx hb dL_act_707 (by decide) ?_
                    refine lv_icmp_ge (tgt := 732) hx hb dL_act_709 (by decide) (fun c_709 => ?_) (fun c_709 => ?_)
                    · refine lv_iload_n hx hb dL_act_732 rfl (lv_at hl 4 rfl) ?_
                      refine lv_bipush (v := 33) hx hb dL_act_733 (by decide) ?_
                      refine lv_icmp_ne (tgt := 751) hx hb dL_act_735 (by decide) (fun c_735 => ?_) (fun c_735 => ?_)
                      · refine lv_iload_n hx hb dL_act_751 rfl (lv_at hl 4 rfl) ?_
                        refine lv_bipush (v := 38) hx hb dL_act_752 (by decide) ?_
                        refine lv_icmp_ge (tgt := 771) hx hb dL_act_754 (by decide) (fun c_754 => ?_) (fun c_754 => ?_)
                        · refine lv_iload_n hx hb dL_act_771 rfl (lv_at hl 4 rfl) ?_
                          refine lv_bipush (v := 38) hx hb dL_act_772 (by decide) ?_
                          refine lv_icmp_ne (tgt := 818) hx hb dL_act_774 (by decide) (fun c_774 => ?_) (fun c_774 => ?_)
                          · refine lv_iload_n hx hb dL_act_818 rfl (lv_at hl 4 rfl) ?_
                            refine lv_bipush (v := 41) hx hb dL_act_819 (by decide) ?_
                            refine lv_icmp_ge (tgt := 857) hx hb dL_act_821 (by decide) (fun c_821 => ?_) (fun c_821 => ?_)
                            · refine lv_iload_n hx hb dL_act_857 rfl (lv_at hl 4 rfl) ?_
                              refine lv_bipush (v := 43) hx hb dL_act_858 (by decide) ?_
                              refine lv_icmp_ge (tgt := 876) hx hb dL_act_860 (by decide) (fun c_860 => ?_) (fun c_860 => ?_)
                              · refine lv_aload_n hx hb dL_act_876 rfl (lv_at hl 6 rfl) ?_
                                refine lv_bipush (v := 17) hx hb dL_act_877 (by decide) ?_
                                refine lv_iload hx hb dL_act_879 (lv_at hl 1 rfl) ?_
                                refine lv_iload hx hb dL_act_881 (lv_at hl 0 rfl) ?_
                                refine lv_iconst (v := 0) hx hb dL_act_883 (by decide) ?_
                                refine kx_do (st1 := [.int ((dF_17 n nc g (if odd = true then ((lowF x (34 : Int32)) - (1 : Int32)) else (lowF x (10 : Int32))) (if odd = true then ((lowF (x >>> ((4 : Int32) &&& 31)) (23 : Int32)) - (1 : Int32)) else (lowF (x >>> ((4 : Int32) &&& 31)) (8 : Int32)))).1)]) (kx_csH (As := [.ref (ad 0), .int (17 : Int32), .int (if odd = true then ((lowF x (34 : Int32)) - (1 : Int32)) else (lowF x (10 : Int32))), .int (if odd = true then ((lowF (x >>> ((4 : Int32) &&& 31)) (23 : Int32)) - (1 : Int32)) else (lowF (x >>> ((4 : Int32) &&& 31)) (8 : Int32))), .int (0 : Int32)]) (rest := []) hF hG hw hS hl.1 (c_L_does_17 l hfl D cy base ad n nc g (if odd = true then ((lowF x (34 : Int32)) - (1 : Int32)) else (lowF x (10 : Int32))) (if odd = true then ((lowF (x >>> ((4 : Int32) &&& 31)) (23 : Int32)) - (1 : Int32)) else (lowF (x >>> ((4 : Int32) &&& 31)) (8 : Int32))) (0 : Int32) (by first | assumption | omega | exact mR_9 (by assumption) _ _ | simp [sU, hI]) (by first | assumption | omega | exact mR_9 (by assumption) _ _ | simp [sU, hI]) (by first | assumption | omega | exact mR_9 (by assumption) _ _ | simp [sU, hI])) gL_act_L_does rfl rfl rfl hd_L_does ⟨Nat.le_of_ble_eq_true rfl, Nat.le_of_ble_eq_true rfl⟩ rfl rfl (Nat.le_of_ble_eq_true rfl) dL_act_884 ⟨Nat.le_of_ble_eq_true rfl, Nat.le_of_ble_eq_true rfl⟩) hS rfl (fun _ _ _ _ _ h => h.elim) (fun _ H locs hw hS => ?_)
                                exact kx_retI hQ hx hb hr hlk hw hS (Nat.le_of_ble_eq_true rfl) (Nat.le_of_ble_eq_true rfl) dL_act_887 (kLP_mk (e_A.trans (by simp only [actG, decide_eq_true c_70, if_pos c_70, decide_eq_true c_276, if_pos c_276, decide_eq_true c_454, if_pos c_454, decide_eq_false c_614, if_neg c_614, decide_eq_true c_674, if_pos c_674, decide_eq_true c_709, if_pos c_709, decide_eq_false c_735, if_neg c_735, decide_eq_true c_754, if_pos c_754, decide_eq_false c_774, if_neg c_774, decide_eq_true c_821, if_pos c_821, decide_eq_true c_860, if_pos c_860]; rfl)) rfl)
                              · refine lv_aload_n hx hb dL_act_863 rfl (lv_at hl 6 rfl) ?_
                                refine lv_bipush (v := 16) hx hb dL_act_864 (by decide) ?_
                                refine lv_iload hx hb dL_act_866 (lv_at hl 1 rfl) ?_
                                refine lv_iconst (v := 0) hx hb dL_act_868 (by decide) ?_
                                refine lv_iconst (v := 0) hx hb dL_act_869 (by decide) ?_
                                refine kx_do (st1 := [.int ((dF_16 n nc g (if odd = true then ((lowF x (34 : Int32)) - (1 : Int32)) else (lowF x (10 : Int32)))).1)]) (kx_csH (As := [.ref (ad 0), .int (16 : Int32), .int (if odd = true then ((lowF x (34 : Int32)) - (1 : Int32)) else (lowF x (10 : Int32))), .int (0 : Int32), .int (0 : Int32)]) (rest := []) hF hG hw hS hl.1 (c_L_does_16 l hfl D cy base ad n nc g (if odd = true then ((lowF x (34 : Int32)) - (1 : Int32)) else (lowF x (10 : Int32))) (0 : Int32) (0 : Int32) (by first | assumption | omega | exact mR_9 (by assumption) _ _ | simp [sU, hI]) (by first | assumption | omega | exact mR_9 (by assumption) _ _ | simp [sU, hI]) (by first | assumption | omega | exact mR_9 (by assumption) _ _ | simp [sU, hI])) gL_act_L_does rfl rfl rfl hd_L_does ⟨Nat.le_of_ble_eq_true rfl, Nat.le_of_ble_eq_true rfl⟩ rfl rfl (Nat.le_of_ble_eq_true rfl) dL_act_870 ⟨Nat.le_of_ble_eq_true rfl, Nat.le_of_ble_eq_true rfl⟩) hS rfl (fun _ _ _ _ _ h => h.elim) (fun _ H locs hw hS => ?_)
                                refine lv_goto (tgt := 887) hx hb dL_act_873 (by decide) ?_
                                exact kx_retI hQ hx hb hr hlk hw hS (Nat.le_of_ble_eq_true rfl) (Nat.le_of_ble_eq_true rfl) dL_act_887 (kLP_mk (e_A.trans (by simp only [actG, decide_eq_true c_70, if_pos c_70, decide_eq_true c_276, if_pos c_276, decide_eq_true c_454, if_pos c_454, decide_eq_false c_614, if_neg c_614, decide_eq_true c_674, if_pos c_674, decide_eq_true c_709, if_pos c_709, decide_eq_false c_735, if_neg c_735, decide_eq_true c_754, if_pos c_754, decide_eq_false c_774, if_neg c_774, decide_eq_true c_821, if_pos c_821, decide_eq_false c_860, if_neg c_860]; rfl)) rfl)
                            · refine lv_aload_n hx hb dL_act_824 rfl (lv_at hl 6 rfl) ?_
                              refine lv_bipush (v := 15) hx hb dL_act_825 (by decide) ?_
                              refine lv_iload hx hb dL_act_827 (lv_at hl 1 rfl) ?_
                              refine lv_iload_n hx hb dL_act_829 rfl (lv_at hl 5 rfl) ?_
                              have hj_850_6 : ∀ (H : Heap) (locs : List Loc) (ls : Array Slot), kW D cy base ad n nc g H → va_S (kA base) s.heap H locs → lv_has ls 8 [(7, .int (if odd = true then ((lowF (x >>> ((4 : Int32) &&& 31)) (23 : Int32)) - (1 : Int32)) else (lowF (x >>> ((4 : Int32) &&& 31)) (8 : Int32)))), (6, .int (if odd = true then ((lowF x (34 : Int32)) - (1 : Int32)) else (lowF x (10 : Int32)))), (5, .int its), (4, .int x), (3, .int how), (2, .int (b2 odd)), (0, .ref (ad 0)), (1, .int v1)] → W p l e (kR 10 12 100) s m args below meth c H locs 0 0 Q (F0 m 850 ls [.int (if odd = true then x else ((1 : Int32) + (lowF (x >>> ((3 : Int32) &&& 31)) (9999 : Int32)))), .int (if odd = true then ((lowF x (34 : Int32)) - (1 : Int32)) else (lowF x (10 : Int32))), .int (15 : Int32), .ref (ad 0)]) := by
                                intro H locs ls hw hS hl
                                refine lv_iconst (v := 0) hx hb dL_act_850 (by decide) ?_
                                refine kx_do (st1 := [.int ((dF_15 n nc g (if odd = true then ((lowF x (34 : Int32)) - (1 : Int32)) else (lowF x (10 : Int32))) (if odd = true then x else ((1 : Int32) + (lowF (x >>> ((3 : Int32) &&& 31)) (9999 : Int32))))).1)]) (kx_csH (As := [.ref (ad 0), .int (15 : Int32), .int (if odd = true then ((lowF x (34 : Int32)) - (1 : Int32)) else (lowF x (10 : Int32))), .int (if odd = true then x else ((1 : Int32) + (lowF (x >>> ((3 : Int32) &&& 31)) (9999 : Int32)))), .int (0 : Int32)]) (rest := []) hF hG hw hS hl.1 (c_L_does_15 l hfl D cy base ad n nc g (if odd = true then ((lowF x (34 : Int32)) - (1 : Int32)) else (lowF x (10 : Int32))) (if odd = true then x else ((1 : Int32) + (lowF (x >>> ((3 : Int32) &&& 31)) (9999 : Int32)))) (0 : Int32) (by first | assumption | omega | exact mR_9 (by assumption) _ _ | simp [sU, hI]) (by first | assumption | omega | exact mR_9 (by assumption) _ _ | simp [sU, hI]) (by first | assumption | omega | exact mR_9 (by assumption) _ _ | simp [sU, hI])) gL_act_L_does rfl rfl rfl hd_L_does ⟨Nat.le_of_ble_eq_true rfl, Nat.le_of_ble_eq_true rfl⟩ rfl rfl (Nat.le_of_ble_eq_true rfl) dL_act_851 ⟨Nat.le_of_ble_eq_true rfl, Nat.le_of_ble_eq_true rfl⟩) hS rfl (fun _ _ _ _ _ h => h.elim) (fun _ H locs hw hS => ?_)
                                refine lv_goto (tgt := 887) hx hb dL_act_854 (by decide) ?_
                                exact kx_retI hQ hx hb hr hlk hw hS (Nat.le_of_ble_eq_true rfl) (Nat.le_of_ble_eq_true rfl) dL_act_887 (kLP_mk (e_A.trans (by simp only [actG, decide_eq_true c_70, if_pos c_70, decide_eq_true c_276, if_pos c_276, decide_eq_true c_454, if_pos c_454, decide_eq_false c_614, if_neg c_614, decide_eq_true c_674, if_pos c_674, decide_eq_true c_709, if_pos c_709, decide_eq_false c_735, if_neg c_735, decide_eq_true c_754, if_pos c_754, decide_eq_false c_774, if_neg c_774, decide_eq_false c_821, if_neg c_821]; rfl)) rfl)
                              refine kb_eq (tgt := 838) hx hb dL_act_830 (by decide) (fun c_830 => ?_) (fun c_830 => ?_)
                              · refine lv_iconst (v := 1) hx hb dL_act_838 (by decide) ?_
                                refine lv_iload hx hb dL_act_839 (lv_at hl 3 rfl) ?_
                                refine lv_iconst (v := 3) hx hb dL_act_841 (by decide) ?_
                                refine lv_ishr hx hb dL_act_842 ?_
                                refine lv_sipush (v := 9999) hx hb dL_act_843 (by decide) ?_
                                refine kx_do0 (st1 := [.int (lowF (x >>> ((3 : Int32) &&& 31)) (9999 : Int32)), .int (1 : Int32), .int (if odd = true then ((lowF x (34 : Int32)) - (1 : Int32)) else (lowF x (10 : Int32))), .int (15 : Int32), .ref (ad 0)]) (kx_cs (As := [.int (x >>> ((3 : Int32) &&& 31)), .int (9999 : Int32)]) (rest := [.int (1 : Int32), .int (if odd = true then ((lowF x (34 : Int32)) - (1 : Int32)) else (lowF x (10 : Int32))), .int (15 : Int32), .ref (ad 0)]) hF hG hw hS hl.1 (c_L_low l hfl D cy base ad n nc g (x >>> ((3 : Int32) &&& 31)) (9999 : Int32) (by first | decide +kernel | (cases odd <;> decide +kernel) | (split <;> decide +kernel))) gL_act_L_low rfl rfl rfl hd_L_low ⟨Nat.le_of_ble_eq_true rfl, Nat.le_of_ble_eq_true rfl⟩ rfl rfl (Nat.le_of_ble_eq_true rfl) dL_act_846 ⟨Nat.le_of_ble_eq_true rfl, Nat.le_of_ble_eq_true rfl⟩) hS rfl (fun H locs hw hS => ?_)
                                refine lv_iadd hx hb dL_act_849 ?_
                                exact kx_top (v := (if odd = true then x else ((1 : Int32) + (lowF (x >>> ((3 : Int32) &&& 31)) (9999 : Int32))))) (by first | (simp only [bq, c_830]; done) | (simp only [bq, c_830]; rfl) | (simp [bq, c_830]; done)) (hj_850_6 _ _ _ hw hS hl)
                              · refine lv_iload hx hb dL_act_833 (lv_at hl 3 rfl) ?_
                                refine lv_goto (tgt := 850) hx hb dL_act_835 (by decide) ?_
                                exact kx_top (v := (if odd = true then x else ((1 : Int32) + (lowF (x >>> ((3 : Int32) &&& 31)) (9999 : Int32))))) (by first | (simp only [bq, c_830]; done) | (simp only [bq, c_830]; rfl) | (simp [bq, c_830]; done)) (hj_850_6 _ _ _ hw hS hl)
                          · refine lv_aload_n hx hb dL_act_777 rfl (lv_at hl 6 rfl) ?_
                            refine lv_bipush (v := 14) hx hb dL_act_778 (by decide) ?_
                            refine lv_iload hx hb dL_act_780 (lv_at hl 1 rfl) ?_
                            refine lv_iload_n hx hb dL_act_782 rfl (lv_at hl 5 rfl) ?_
                            have hj_791_7 : ∀ (H : Heap) (locs : List Loc) (ls : Array Slot), kW D cy base ad n nc g H → va_S (kA base) s.heap H locs → lv_has ls 8 [(7, .int (if odd = true then ((lowF (x >>> ((4 : Int32) &&& 31)) (23 : Int32)) - (1 : Int32)) else (lowF (x >>> ((4 : Int32) &&& 31)) (8 : Int32)))), (6, .int (if odd = true then ((lowF x (34 : Int32)) - (1 : Int32)) else (lowF x (10 : Int32)))), (5, .int its), (4, .int x), (3, .int how), (2, .int (b2 odd)), (0, .ref (ad 0)), (1, .int v1)] → W p l e (kR 10 12 100) s m args below meth c H locs 0 0 Q (F0 m 791 ls [.int (b2 (!odd)), .int (if odd = true then ((lowF x (34 : Int32)) - (1 : Int32)) else (lowF x (10 : Int32))), .int (14 : Int32), .ref (ad 0)]) := by
                              intro H locs ls hw hS hl
                              refine lv_iload hx hb dL_act_791 (lv_at hl 3 rfl) ?_
                              refine lv_iconst (v := 2) hx hb dL_act_793 (by decide) ?_
                              refine lv_ishr hx hb dL_act_794 ?_
                              refine lv_iload_n hx hb dL_act_795 rfl (lv_at hl 5 rfl) ?_
                              have hj_807_8 : ∀ (H : Heap) (locs : List Loc) (ls : Array Slot), kW D cy base ad n nc g H → va_S (kA base) s.heap H locs → lv_has ls 8 [(7, .int (if odd = true then ((lowF (x >>> ((4 : Int32) &&& 31)) (23 : Int32)) - (1 : Int32)) else (lowF (x >>> ((4 : Int32) &&& 31)) (8 : Int32)))), (6, .int (if odd = true then ((lowF x (34 : Int32)) - (1 : Int32)) else (lowF x (10 : Int32)))), (5, .int its), (4, .int x), (3, .int how), (2, .int (b2 odd)), (0, .ref (ad 0)), (1, .int v1)] → W p l e (kR 10 12 100) s m args below meth c H locs 0 0 Q (F0 m 807 ls [.int (if odd = true then (500 : Int32) else (30 : Int32)), .int (x >>> ((2 : Int32) &&& 31)), .int (b2 (!odd)), .int (if odd = true then ((lowF x (34 : Int32)) - (1 : Int32)) else (lowF x (10 : Int32))), .int (14 : Int32), .ref (ad 0)]) := by
                                intro H locs ls hw hS hl
                                refine kx_do0 (st1 := [.int (lowF (x >>> ((2 : Int32) &&& 31)) (if odd = true then (500 : Int32) else (30 : Int32))), .int (b2 (!odd)), .int (if odd = true then ((lowF x (34 : Int32)) - (1 : Int32)) else (lowF x (10 : Int32))), .int (14 : Int32), .ref (ad 0)]) (kx_cs (As := [.int (x >>> ((2 : Int32) &&& 31)), .int (if odd = true then (500 : Int32) else (30 : Int32))]) (rest := [.int (b2 (!odd)), .int (if odd = true then ((lowF x (34 : Int32)) - (1 : Int32)) else (lowF x (10 : Int32))), .int (14 : Int32), .ref (ad 0)]) hF hG hw hS hl.1 (c_L_low l hfl D cy base ad n nc g (x >>> ((2 : Int32) &&& 31)) (if odd = true then (500 : Int32) else (30 : Int32)) (by first | decide +kernel | (cases odd <;> decide +kernel) | (split <;> decide +kernel))) gL_act_L_low rfl rfl rfl hd_L_low ⟨Nat.le_of_ble_eq_true rfl, Nat.le_of_ble_eq_true rfl⟩ rfl rfl (Nat.le_of_ble_eq_true rfl) dL_act_807 ⟨Nat.le_of_ble_eq_true rfl, Nat.le_of_ble_eq_true rfl⟩) hS rfl (fun H locs hw hS => ?_)
                                refine lv_iadd hx hb dL_act_810 ?_
                                refine lv_iconst (v := 0) hx hb dL_act_811 (by decide) ?_
                                refine kx_do (st1 := [.int ((dF_14 n nc g (if odd = true then ((lowF x (34 : Int32)) - (1 : Int32)) else (lowF x (10 : Int32))) ((b2 (!odd)) + (lowF (x >>> ((2 : Int32) &&& 31)) (if odd = true then (500 : Int32) else (30 : Int32))))).1)]) (kx_csH (As := [.ref (ad 0), .int (14 : Int32), .int (if odd = true then ((lowF x (34 : Int32)) - (1 : Int32)) else (lowF x (10 : Int32))), .int ((b2 (!odd)) + (lowF (x >>> ((2 : Int32) &&& 31)) (if odd = true then (500 : Int32) else (30 : Int32)))), .int (0 : Int32)]) (rest := []) hF hG hw hS hl.1 (c_L_does_14 l hfl D cy base ad n nc g (if odd = true then ((lowF x (34 : Int32)) - (1 : Int32)) else (lowF x (10 : Int32))) ((b2 (!odd)) + (lowF (x >>> ((2 : Int32) &&& 31)) (if odd = true then (500 : Int32) else (30 : Int32)))) (0 : Int32) (by first | assumption | omega | exact mR_9 (by assumption) _ _ | simp [sU, hI])) gL_act_L_does rfl rfl rfl hd_L_does ⟨Nat.le_of_ble_eq_true rfl, Nat.le_of_ble_eq_true rfl⟩ rfl rfl (Nat.le_of_ble_eq_true rfl) dL_act_812 ⟨Nat.le_of_ble_eq_true rfl, Nat.le_of_ble_eq_true rfl⟩) hS rfl (fun _ _ _ _ _ h => h.elim) (fun _ H locs hw hS => ?_)
                                refine lv_goto (tgt := 887) hx hb dL_act_815 (by decide) ?_
                                exact kx_retI hQ hx hb hr hlk hw hS (Nat.le_of_ble_eq_true rfl) (Nat.le_of_ble_eq_true rfl) dL_act_887 (kLP_mk (e_A.trans (by simp only [actG, decide_eq_true c_70, if_pos c_70, decide_eq_true c_276, if_pos c_276, decide_eq_true c_454, if_pos c_454, decide_eq_false c_614, if_neg c_614, decide_eq_true c_674, if_pos c_674, decide_eq_true c_709, if_pos c_709, decide_eq_false c_735, if_neg c_735, decide_eq_true c_754, if_pos c_754, decide_eq_true c_774, if_pos c_774]; rfl)) rfl)
                              refine kb_eq (tgt := 805) hx hb dL_act_796 (by decide) (fun c_796 => ?_) (fun c_796 => ?_)
                              · refine lv_bipush (v := 30) hx hb dL_act_805 (by decide) ?_
                                exact kx_top (v := (if odd = true then (500 : Int32) else (30 : Int32))) (by first | (simp only [bq, c_796]; done) | (simp only [bq, c_796]; rfl) | (simp [bq, c_796]; done)) (hj_807_8 _ _ _ hw hS hl)
                              · refine lv_sipush (v := 500) hx hb dL_act_799 (by decide) ?_
                                refine lv_goto (tgt := 807) hx hb dL_act_802 (by decide) ?_
                                exact kx_top (v := (if odd = true then (500 : Int32) else (30 : Int32))) (by first | (simp only [bq, c_796]; done) | (simp only [bq, c_796]; rfl) | (simp [bq, c_796]; done)) (hj_807_8 _ _ _ hw hS hl)
                            refine kb_eq (tgt := 790) hx hb dL_act_783 (by decide) (fun c_783 => ?_) (fun c_783 => ?_)
                            · refine lv_iconst (v := 1) hx hb dL_act_790 (by decide) ?_
                              exact kx_top (v := (b2 (!odd))) (by first | (simp only [bq, c_783]; done) | (simp only [bq, c_783]; rfl) | (simp [bq, c_783]; done)) (hj_791_7 _ _ _ hw hS hl)
                            · refine lv_iconst (v := 0) hx hb dL_act_786 (by decide) ?_
                              refine lv_goto (tgt := 791) hx hb dL_act_787 (by decide) ?_
                              exact kx_top (v := (b2 (!odd))) (by first | (simp only [bq, c_783]; done) | (simp only [bq, c_783]; rfl) | (simp [bq, c_783]; done)) (hj_791_7 _ _ _ hw hS hl)
                        · refine lv_aload_n hx hb dL_act_757 rfl (lv_at hl 6 rfl) ?_
                          refine lv_bipush (v := 13) hx hb dL_act_758 (by decide) ?_
                          refine lv_iload hx hb dL_act_760 (lv_at hl 1 rfl) ?_
                          refine lv_iload hx hb dL_act_762 (lv_at hl 0 rfl) ?_
                          refine lv_iconst (v := 0) hx hb dL_act_764 (by decide) ?_
                          refine kx_do (st1 := [.int ((dF_13 n nc g (if odd = true then ((lowF x (34 : Int32)) - (1 : Int32)) else (lowF x (10 : Int32))) (if odd = true then ((lowF (x >>> ((4 : Int32) &&& 31)) (23 : Int32)) - (1 : Int32)) else (lowF (x >>> ((4 : Int32) &&& 31)) (8 : Int32)))).1)]) (kx_csH (As := [.ref (ad 0), .int (13 : Int32), .int (if odd = true then ((lowF x (34 : Int32)) - (1 : Int32)) else (lowF x (10 : Int32))), .int (if odd = true then ((lowF (x >>> ((4 : Int32) &&& 31)) (23 : Int32)) - (1 : Int32)) else (lowF (x >>> ((4 : Int32) &&& 31)) (8 : Int32))), .int (0 : Int32)]) (rest := []) hF hG hw hS hl.1 (c_L_does_13 l hfl D cy base ad n nc g (if odd = true then ((lowF x (34 : Int32)) - (1 : Int32)) else (lowF x (10 : Int32))) (if odd = true then ((lowF (x >>> ((4 : Int32) &&& 31)) (23 : Int32)) - (1 : Int32)) else (lowF (x >>> ((4 : Int32) &&& 31)) (8 : Int32))) (0 : Int32) (by first | assumption | omega | exact mR_9 (by assumption) _ _ | simp [sU, hI]) (by first | assumption | omega | exact mR_9 (by assumption) _ _ | simp [sU, hI]) (by first | assumption | omega | exact mR_9 (by assumption) _ _ | simp [sU, hI])) gL_act_L_does rfl rfl rfl hd_L_does ⟨Nat.le_of_ble_eq_true rfl, Nat.le_of_ble_eq_true rfl⟩ rfl rfl (Nat.le_of_ble_eq_true rfl) dL_act_765 ⟨Nat.le_of_ble_eq_true rfl, Nat.le_of_ble_eq_true rfl⟩) hS rfl (fun _ _ _ _ _ h => h.elim) (fun _ H locs hw hS => ?_)
                          refine lv_goto (tgt := 887) hx hb dL_act_768 (by decide) ?_
                          exact kx_retI hQ hx hb hr hlk hw hS (Nat.le_of_ble_eq_true rfl) (Nat.le_of_ble_eq_true rfl) dL_act_887 (kLP_mk (e_A.trans (by simp only [actG, decide_eq_true c_70, if_pos c_70, decide_eq_true c_276, if_pos c_276, decide_eq_true c_454, if_pos c_454, decide_eq_false c_614, if_neg c_614, decide_eq_true c_674, if_pos c_674, decide_eq_true c_709, if_pos c_709, decide_eq_false c_735, if_neg c_735, decide_eq_false c_754, if_neg c_754]; rfl)) rfl)
                      · refine lv_aload_n hx hb dL_act_738 rfl (lv_at hl 6 rfl) ?_
                        refine lv_bipush (v := 12) hx hb dL_act_739 (by decide) ?_
                        refine lv_iload hx hb dL_act_741 (lv_at hl 0 rfl) ?_
                        refine lv_iconst (v := 0) hx hb dL_act_743 (by decide) ?_
                        refine lv_iconst (v := 0) hx hb dL_act_744 (by decide) ?_
                        refine kx_do (st1 := [.int ((dF_12 n nc g (if odd = true then ((lowF (x >>> ((4 : Int32) &&& 31)) (23 : Int32)) - (1 : Int32)) else (lowF (x >>> ((4 : Int32) &&& 31)) (8 : Int32)))).1)]) (kx_csH (As := [.ref (ad 0), .int (12 : Int32), .int (if odd = true then ((lowF (x >>> ((4 : Int32) &&& 31)) (23 : Int32)) - (1 : Int32)) else (lowF (x >>> ((4 : Int32) &&& 31)) (8 : Int32))), .int (0 : Int32), .int (0 : Int32)]) (rest := []) hF hG hw hS hl.1 (c_L_does_12 l hfl D cy base ad n nc g (if odd = true then ((lowF (x >>> ((4 : Int32) &&& 31)) (23 : Int32)) - (1 : Int32)) else (lowF (x >>> ((4 : Int32) &&& 31)) (8 : Int32))) (0 : Int32) (0 : Int32) (by first | assumption | omega | exact mR_9 (by assumption) _ _ | simp [sU, hI])) gL_act_L_does rfl rfl rfl hd_L_does ⟨Nat.le_of_ble_eq_true rfl, Nat.le_of_ble_eq_true rfl⟩ rfl rfl (Nat.le_of_ble_eq_true rfl) dL_act_745 ⟨Nat.le_of_ble_eq_true rfl, Nat.le_of_ble_eq_true rfl⟩) hS rfl (fun _ _ _ _ _ h => h.elim) (fun _ H locs hw hS => ?_)
                        refine lv_goto (tgt := 887) hx hb dL_act_748 (by decide) ?_
                        exact kx_retI hQ hx hb hr hlk hw hS (Nat.le_of_ble_eq_true rfl) (Nat.le_of_ble_eq_true rfl) dL_act_887 (kLP_mk (e_A.trans (by simp only [actG, decide_eq_true c_70, if_pos c_70, decide_eq_true c_276, if_pos c_276, decide_eq_true c_454, if_pos c_454, decide_eq_false c_614, if_neg c_614, decide_eq_true c_674, if_pos c_674, decide_eq_true c_709, if_pos c_709, decide_eq_true c_735, if_pos c_735]; rfl)) rfl)
                    · refine lv_aload_n hx hb dL_act_712 rfl (lv_at hl 6 rfl) ?_
                      refine lv_bipush (v := 11) hx hb dL_act_713 (by decide) ?_
                      refine lv_iload hx hb dL_act_715 (lv_at hl 0 rfl) ?_
                      refine lv_iload hx hb dL_act_717 (lv_at hl 3 rfl) ?_
                      refine lv_bipush (v := 6) hx hb dL_act_719 (by decide) ?_
                      refine lv_ishr hx hb dL_act_721 ?_
                      refine kx_do0 (st1 := [.int (fewF (x >>> ((6 : Int32) &&& 31))), .int (if odd = true then ((lowF (x >>> ((4 : Int32) &&& 31)) (23 : Int32)) - (1 : Int32)) else (lowF (x >>> ((4 : Int32) &&& 31)) (8 : Int32))), .int (11 : Int32), .ref (ad 0)]) (kx_cs (As := [.int (x >>> ((6 : Int32) &&& 31))]) (rest := [.int (if odd = true then ((lowF (x >>> ((4 : Int32) &&& 31)) (23 : Int32)) - (1 : Int32)) else (lowF (x >>> ((4 : Int32) &&& 31)) (8 : Int32))), .int (11 : Int32), .ref (ad 0)]) hF hG hw hS hl.1 (c_L_few l hfl D cy base ad n nc g (x >>> ((6 : Int32) &&& 31)) ) gL_act_L_few rfl rfl rfl hd_L_few ⟨Nat.le_of_ble_eq_true rfl, Nat.le_of_ble_eq_true rfl⟩ rfl rfl (Nat.le_of_ble_eq_true rfl) dL_act_722 ⟨Nat.le_of_ble_eq_true rfl, Nat.le_of_ble_eq_true rfl⟩) hS rfl (fun H locs hw hS => ?_)
                      refine lv_iconst (v := 0) hx hb dL_act_725 (by decide) ?_
                      refine kx_do (st1 := [.int ((dF_11 n nc g (if odd = true then ((lowF (x >>> ((4 : Int32) &&& 31)) (23 : Int32)) - (1 : Int32)) else (lowF (x >>> ((4 : Int32) &&& 31)) (8 : Int32))) (fewF (x >>> ((6 : Int32) &&& 31)))).1)]) (kx_csH (As := [.ref (ad 0), .int (11 : Int32), .int (if odd = true then ((lowF (x >>> ((4 : Int32) &&& 31)) (23 : Int32)) - (1 : Int32)) else (lowF (x >>> ((4 : Int32) &&& 31)) (8 : Int32))), .int (fewF (x >>> ((6 : Int32) &&& 31))), .int (0 : Int32)]) (rest := []) hF hG hw hS hl.1 (c_L_does_11 l hfl D cy base ad n nc g (if odd = true then ((lowF (x >>> ((4 : Int32) &&& 31)) (23 : Int32)) - (1 : Int32)) else (lowF (x >>> ((4 : Int32) &&& 31)) (8 : Int32))) (fewF (x >>> ((6 : Int32) &&& 31))) (0 : Int32) (by first | assumption | omega | exact mR_9 (by assumption) _ _ | simp [sU, hI]) (by first | assumption | omega | exact mR_9 (by assumption) _ _ | simp [sU, hI])) gL_act_L_does rfl rfl rfl hd_L_does ⟨Nat.le_of_ble_eq_true rfl, Nat.le_of_ble_eq_true rfl⟩ rfl rfl (Nat.le_of_ble_eq_true rfl) dL_act_726 ⟨Nat.le_of_ble_eq_true rfl, Nat.le_of_ble_eq_true rfl⟩) hS rfl (fun _ _ _ _ _ h => h.elim) (fun _ H locs hw hS => ?_)
                      refine lv_goto (tgt := 887) hx hb dL_act_729 (by decide) ?_
                      exact kx_retI hQ hx hb hr hlk hw hS (Nat.le_of_ble_eq_true rfl) (Nat.le_of_ble_eq_true rfl) dL_act_887 (kLP_mk (e_A.trans (by simp only [actG, decide_eq_true c_70, if_pos c_70, decide_eq_true c_276, if_pos c_276, decide_eq_true c_454, if_pos c_454, decide_eq_false c_614, if_neg c_614, decide_eq_true c_674, if_pos c_674, decide_eq_false c_709, if_neg c_709]; rfl)) rfl)
                  · refine lv_aload_n hx hb dL_act_677 rfl (lv_at hl 6 rfl) ?_
                    refine lv_bipush (v := 10) hx hb dL_act_678 (by decide) ?_
                    refine lv_iload hx hb dL_act_680 (lv_at hl 0 rfl) ?_
                    refine lv_iload_n hx hb dL_act_682 rfl (lv_at hl 5 rfl) ?_
                    have hj_699_9 : ∀ (H : Heap) (locs : List Loc) (ls : Array Slot), kW D cy base ad n nc g H → va_S (kA base) s.heap H locs → lv_has ls 8 [(7, .int (if odd = true then ((lowF (x >>> ((4 : Int32) &&& 31)) (23 : Int32)) - (1 : Int32)) else (lowF (x >>> ((4 : Int32) &&& 31)) (8 : Int32)))), (6, .int (if odd = true then ((lowF x (34 : Int32)) - (1 : Int32)) else (lowF x (10 : Int32)))), (5, .int its), (4, .int x), (3, .int how), (2, .int (b2 odd)), (0, .ref (ad 0)), (1, .int v1)] → W p l e (kR 10 12 100) s m args below meth c H locs 0 0 Q (F0 m 699 ls [.int (if odd = true then x else (fewF (x >>> ((6 : Int32) &&& 31)))), .int (if odd = true then ((lowF (x >>> ((4 : Int32) &&& 31)) (23 : Int32)) - (1 : Int32)) else (lowF (x >>> ((4 : Int32) &&& 31)) (8 : Int32))), .int (10 : Int32), .ref (ad 0)]) := by
                      intro H locs ls hw hS hl
                      refine lv_iconst (v := 0) hx hb dL_act_699 (by decide) ?_
                      refine kx_do (st1 := [.int ((dF_10 n nc g (if odd = true then ((lowF (x >>> ((4 : Int32) &&& 31)) (23 : Int32)) - (1 : Int32)) else (lowF (x >>> ((4 : Int32) &&& 31)) (8 : Int32))) (if odd = true then x else (fewF (x >>> ((6 : Int32) &&& 31))))).1)]) (kx_csH (As := [.ref (ad 0), .int (10 : Int32), .int (if odd = true then ((lowF (x >>> ((4 : Int32) &&& 31)) (23 : Int32)) - (1 : Int32)) else (lowF (x >>> ((4 : Int32) &&& 31)) (8 : Int32))), .int (if odd = true then x else (fewF (x >>> ((6 : Int32) &&& 31)))), .int (0 : Int32)]) (rest := []) hF hG hw hS hl.1 (c_L_does_10 l hfl D cy base ad n nc g (if odd = true then ((lowF (x >>> ((4 : Int32) &&& 31)) (23 : Int32)) - (1 : Int32)) else (lowF (x >>> ((4 : Int32) &&& 31)) (8 : Int32))) (if odd = true then x else (fewF (x >>> ((6 : Int32) &&& 31)))) (0 : Int32) (by first | assumption | omega | exact mR_9 (by assumption) _ _ | simp [sU, hI]) (by first | assumption | omega | exact mR_9 (by assumption) _ _ | simp [sU, hI])) gL_act_L_does rfl rfl rfl hd_L_does ⟨Nat.le_of_ble_eq_true rfl, Nat.le_of_ble_eq_true rfl⟩ rfl rfl (Nat.le_of_ble_eq_true rfl) dL_act_700 ⟨Nat.le_of_ble_eq_true rfl, Nat.le_of_ble_eq_true rfl⟩) hS rfl (fun _ _ _ _ _ h => h.elim) (fun _ H locs hw hS => ?_)
                      refine lv_goto (tgt := 887) hx hb dL_act_703 (by decide) ?_
                      exact kx_retI hQ hx hb hr hlk hw hS (Nat.le_of_ble_eq_true rfl) (Nat.le_of_ble_eq_true rfl) dL_act_887 (kLP_mk (e_A.trans (by simp only [actG, decide_eq_true c_70, if_pos c_70, decide_eq_true c_276, if_pos c_276, decide_eq_true c_454, if_pos c_454, decide_eq_false c_614, if_neg c_614, decide_eq_false c_674, if_neg c_674]; rfl)) rfl)
                    refine kb_eq (tgt := 691) hx hb dL_act_683 (by decide) (fun c_683 => ?_) (fun c_683 => ?_)
                    · refine lv_iload hx hb dL_act_691 (lv_at hl 3 rfl) ?_
                      refine lv_bipush (v := 6) hx hb dL_act_693 (by decide) ?_
                      refine lv_ishr hx hb dL_act_695 ?_
                      refine kx_do0 (st1 := [.int (fewF (x >>> ((6 : Int32) &&& 31))), .int (if odd = true then ((lowF (x >>> ((4 : Int32) &&& 31)) (23 : Int32)) - (1 : Int32)) else (lowF (x >>> ((4 : Int32) &&& 31)) (8 : Int32))), .int (10 : Int32), .ref (ad 0)]) (kx_cs (As := [.int (x >>> ((6 : Int32) &&& 31))]) (rest := [.int (if odd = true then ((lowF (x >>> ((4 : Int32) &&& 31)) (23 : Int32)) - (1 : Int32)) else (lowF (x >>> ((4 : Int32) &&& 31)) (8 : Int32))), .int (10 : Int32), .ref (ad 0)]) hF hG hw hS hl.1 (c_L_few l hfl D cy base ad n nc g (x >>> ((6 : Int32) &&& 31)) ) gL_act_L_few rfl rfl rfl hd_L_few ⟨Nat.le_of_ble_eq_true rfl, Nat.le_of_ble_eq_true rfl⟩ rfl rfl (Nat.le_of_ble_eq_true rfl) dL_act_696 ⟨Nat.le_of_ble_eq_true rfl, Nat.le_of_ble_eq_true rfl⟩) hS rfl (fun H locs hw hS => ?_)
                      exact kx_top (v := (if odd = true then x else (fewF (x >>> ((6 : Int32) &&& 31))))) (by first | (simp only [bq, c_683]; done) | (simp only [bq, c_683]; rfl) | (simp [bq, c_683]; done)) (hj_699_9 _ _ _ hw hS hl)
                    · refine lv_iload hx hb dL_act_686 (lv_at hl 3 rfl) ?_
                      refine lv_goto (tgt := 699) hx hb dL_act_688 (by decide) ?_
                      exact kx_top (v := (if odd = true then x else (fewF (x >>> ((6 : Int32) &&& 31))))) (by first | (simp only [bq, c_683]; done) | (simp only [bq, c_683]; rfl) | (simp [bq, c_683]; done)) (hj_699_9 _ _ _ hw hS hl)
                refine kb_eq (tgt := 660) hx hb dL_act_643 (by decide) (fun c_643 => ?_) (fun c_643 => ?_)
                · refine lv_iload hx hb dL_act_660 (lv_at hl 2 rfl) ?_
                  refine lv_iconst (v := 4) hx hb dL_act_662 (by decide) ?_
                  refine lv_ishr hx hb dL_act_663 ?_
                  refine lv_bipush (v := 8) hx hb dL_act_664 (by decide) ?_
                  refine kx_do0 (st1 := [.int (lowF (x >>> ((4 : Int32) &&& 31)) (8 : Int32))]) (kx_cs (As := [.int (x >>> ((4 : Int32) &&& 31)), .int (8 : Int32)]) (rest := []) hF hG hw hS hl.1 (c_L_low l hfl D cy base ad n nc g (x >>> ((4 : Int32) &&& 31)) (8 : Int32) (by first | decide +kernel | (cases odd <;> decide +kernel) | (split <;> decide +kernel))) gL_act_L_low rfl rfl rfl hd_L_low ⟨Nat.le_of_ble_eq_true rfl, Nat.le_of_ble_eq_true rfl⟩ rfl rfl (Nat.le_of_ble_eq_true rfl) dL_act_666 ⟨Nat.le_of_ble_eq_true rfl, Nat.le_of_ble_eq_true rfl⟩) hS rfl (fun H locs hw hS => ?_)
                  exact kx_top (v := (if odd = true then ((lowF (x >>> ((4 : Int32) &&& 31)) (23 : Int32)) - (1 : Int32)) else (lowF (x >>> ((4 : Int32) &&& 31)) (8 : Int32)))) (by first | (simp only [bq, c_643]; done) | (simp only [bq, c_643]; rfl) | (simp [bq, c_643]; done)) (hj_669_5 _ _ _ hw hS hl)
                · refine lv_iload hx hb dL_act_646 (lv_at hl 2 rfl) ?_
                  refine lv_iconst (v := 4) hx hb dL_act_648 (by decide) ?_
                  refine lv_ishr hx hb dL_act_649 ?_
                  refine lv_bipush (v := 23) hx hb dL_act_650 (by decide) ?_
                  refine kx_do0 (st1 := [.int (lowF (x >>> ((4 : Int32) &&& 31)) (23 : Int32))]) (kx_cs (As := [.int (x >>> ((4 : Int32) &&& 31)), .int (23 : Int32)]) (rest := []) hF hG hw hS hl.1 (c_L_low l hfl D cy base ad n nc g (x >>> ((4 : Int32) &&& 31)) (23 : Int32) (by first | decide +kernel | (cases odd <;> decide +kernel) | (split <;> decide +kernel))) gL_act_L_low rfl rfl rfl hd_L_low ⟨Nat.le_of_ble_eq_true rfl, Nat.le_of_ble_eq_true rfl⟩ rfl rfl (Nat.le_of_ble_eq_true rfl) dL_act_652 ⟨Nat.le_of_ble_eq_true rfl, Nat.le_of_ble_eq_true rfl⟩) hS rfl (fun H locs hw hS => ?_)
                  refine lv_iconst (v := 1) hx hb dL_act_655 (by decide) ?_
                  refine lv_isub hx hb dL_act_656 ?_
                  refine lv_goto (tgt := 669) hx hb dL_act_657 (by decide) ?_
                  exact kx_top (v := (if odd = true then ((lowF (x >>> ((4 : Int32) &&& 31)) (23 : Int32)) - (1 : Int32)) else (lowF (x >>> ((4 : Int32) &&& 31)) (8 : Int32)))) (by first | (simp only [bq, c_643]; done) | (simp only [bq, c_643]; rfl) | (simp [bq, c_643]; done)) (hj_669_5 _ _ _ hw hS hl)
              refine kb_eq (tgt := 633) hx hb dL_act_618 (by decide) (fun c_618 => ?_) (fun c_618 => ?_)
              · refine lv_iload hx hb dL_act_633 (lv_at hl 1 rfl) ?_
                refine lv_bipush (v := 10) hx hb dL_act_635 (by decide) ?_
                refine kx_do0 (st1 := [.int (lowF x (10 : Int32))]) (kx_cs (As := [.int x, .int (10 : Int32)]) (rest := []) hF hG hw hS hl.1 (c_L_low l hfl D cy base ad n nc g x (10 : Int32) (by first | decide +kernel | (cases odd <;> decide +kernel) | (split <;> decide +kernel))) gL_act_L_low rfl rfl rfl hd_L_low ⟨Nat.le_of_ble_eq_true rfl, Nat.le_of_ble_eq_true rfl⟩ rfl rfl (Nat.le_of_ble_eq_true rfl) dL_act_637 ⟨Nat.le_of_ble_eq_true rfl, Nat.le_of_ble_eq_true rfl⟩) hS rfl (fun H locs hw hS => ?_)
                exact kx_top (v := (if odd = true then ((lowF x (34 : Int32)) - (1 : Int32)) else (lowF x (10 : Int32)))) (by first | (simp only [bq, c_618]; done) | (simp only [bq, c_618]; rfl) | (simp [bq, c_618]; done)) (hj_640_4 _ _ _ hw hS hl)
              · refine lv_iload hx hb dL_act_621 (lv_at hl 1 rfl) ?_
                refine lv_bipush (v := 34) hx hb dL_act_623 (by decide) ?_
                refine kx_do0 (st1 := [.int (lowF x (34 : Int32))]) (kx_cs (As := [.int x, .int (34 : Int32)]) (rest := []) hF hG hw hS hl.1 (c_L_low l hfl D cy base ad n nc g x (34 : Int32) (by first | decide +kernel | (cases odd <;> decide +kernel) | (split <;> decide +kernel))) gL_act_L_low rfl rfl rfl hd_L_low ⟨Nat.le_of_ble_eq_true rfl, Nat.le_of_ble_eq_true rfl⟩ rfl rfl (Nat.le_of_ble_eq_true rfl) dL_act_625 ⟨Nat.le_of_ble_eq_true rfl, Nat.le_of_ble_eq_true rfl⟩) hS rfl (fun H locs hw hS => ?_)
                refine lv_iconst (v := 1) hx hb dL_act_628 (by decide) ?_
                refine lv_isub hx hb dL_act_629 ?_
                refine lv_goto (tgt := 640) hx hb dL_act_630 (by decide) ?_
                exact kx_top (v := (if odd = true then ((lowF x (34 : Int32)) - (1 : Int32)) else (lowF x (10 : Int32)))) (by first | (simp only [bq, c_618]; done) | (simp only [bq, c_618]; rfl) | (simp [bq, c_618]; done)) (hj_640_4 _ _ _ hw hS hl)
          · refine lv_iload_n hx hb dL_act_457 rfl (lv_at hl 3 rfl) ?_
            have hj_480_10 : ∀ (H : Heap) (locs : List Loc) (ls : Array Slot), kW D cy base ad n nc g H → va_S (kA base) s.heap H locs → lv_has ls 8 [(5, .int its), (4, .int x), (3, .int how), (2, .int (b2 odd)), (0, .ref (ad 0)), (1, .int v1)] → W p l e (kR 10 12 100) s m args below meth c H locs 0 0 Q (F0 m 480 ls [.int (if odd = true then ((lowF x (34 : Int32)) - (1 : Int32)) else (lowF x (10 : Int32)))]) := by
              intro H locs ls hw hS hl
              refine lv_istore (lv' := [(6, .int (if odd = true then ((lowF x (34 : Int32)) - (1 : Int32)) else (lowF x (10 : Int32)))), (5, .int its), (4, .int x), (3, .int how), (2, .int (b2 odd)), (0, .ref (ad 0)), (1, .int v1)]) hx hb dL_act_480 hl (by decide) rfl (fun ls hl => ?_)
              refine lv_iload hx hb dL_act_482 (lv_at hl 2 rfl) ?_
              refine lv_iconst (v := 3) hx hb dL_act_484 (by decide) ?_
              refine lv_ishr hx hb dL_act_485 ?_
              refine lv_iload_n hx hb dL_act_486 rfl (lv_at hl 4 rfl) ?_
              have hj_497_11 : ∀ (H : Heap) (locs : List Loc) (ls : Array Slot), kW D cy base ad n nc g H → va_S (kA base) s.heap H locs → lv_has ls 8 [(6, .int (if odd = true then ((lowF x (34 : Int32)) - (1 : Int32)) else (lowF x (10 : Int32)))), (5, .int its), (4, .int x), (3, .int how), (2, .int (b2 odd)), (0, .ref (ad 0)), (1, .int v1)] → W p l e (kR 10 12 100) s m args below meth c H locs 0 0 Q (F0 m 497 ls [.int (if odd = true then (8 : Int32) else (6 : Int32)), .int (x >>> ((3 : Int32) &&& 31))]) := by
                intro H locs ls hw hS hl
                refine kx_do0 (st1 := [.int (lowF (x >>> ((3 : Int32) &&& 31)) (if odd = true then (8 : Int32) else (6 : Int32)))]) (kx_cs (As := [.int (x >>> ((3 : Int32) &&& 31)), .int (if odd = true then (8 : Int32) else (6 : Int32))]) (rest := []) hF hG hw hS hl.1 (c_L_low l hfl D cy base ad n nc g (x >>> ((3 : Int32) &&& 31)) (if odd = true then (8 : Int32) else (6 : Int32)) (by first | decide +kernel | (cases odd <;> decide +kernel) | (split <;> decide +kernel))) gL_act_L_low rfl rfl rfl hd_L_low ⟨Nat.le_of_ble_eq_true rfl, Nat.le_of_ble_eq_true rfl⟩ rfl rfl (Nat.le_of_ble_eq_true rfl) dL_act_497 ⟨Nat.le_of_ble_eq_true rfl, Nat.le_of_ble_eq_true rfl⟩) hS rfl (fun H locs hw hS => ?_)
                refine lv_istore (lv' := [(7, .int (lowF (x >>> ((3 : Int32) &&& 31)) (if odd = true then (8 : Int32) else (6 : Int32)))), (6, .int (if odd = true then ((lowF x (34 : Int32)) - (1 : Int32)) else (lowF x (10 : Int32)))), (5, .int its), (4, .int x), (3, .int how), (2, .int (b2 odd)), (0, .ref (ad 0)), (1, .int v1)]) hx hb dL_act_500 hl (by decide) rfl (fun ls hl => ?_)
                refine lv_iload_n hx hb dL_act_502 rfl (lv_at hl 4 rfl) ?_
                refine lv_bipush (v := 17) hx hb dL_act_503 (by decide) ?_
                refine lv_icmp_ge (tgt := 535) hx hb dL_act_505 (by decide) (fun c_505 => ?_) (fun c_505 => ?_)
                · refine lv_iload_n hx hb dL_act_535 rfl (lv_at hl 4 rfl) ?_
                  refine lv_bipush (v := 20) hx hb dL_act_536 (by decide) ?_
                  refine lv_icmp_ge (tgt := 555) hx hb dL_act_538 (by decide) (fun c_538 => ?_) (fun c_538 => ?_)
                  · refine lv_iload_n hx hb dL_act_555 rfl (lv_at hl 4 rfl) ?_
                    refine lv_bipush (v := 22) hx hb dL_act_556 (by decide) ?_
                    refine lv_icmp_ge (tgt := 574) hx hb dL_act_558 (by decide) (fun c_558 => ?_) (fun c_558 => ?_)
                    · refine lv_iload_n hx hb dL_act_574 rfl (lv_at hl 4 rfl) ?_
                      refine lv_bipush (v := 24) hx hb dL_act_575 (by decide) ?_
                      refine lv_icmp_ge (tgt := 594) hx hb dL_act_577 (by decide) (fun c_577 => ?_) (fun c_577 => ?_)
                      · refine lv_aload_n hx hb dL_act_594 rfl (lv_at hl 6 rfl) ?_
                        refine lv_bipush (v := 9) hx hb dL_act_595 (by decide) ?_
                        refine lv_iload hx hb dL_act_597 (lv_at hl 1 rfl) ?_
                        refine lv_iload hx hb dL_act_599 (lv_at hl 3 rfl) ?_
                        refine lv_bipush (v := 6) hx hb dL_act_601 (by decide) ?_
                        refine lv_ishr hx hb dL_act_603 ?_
                        refine lv_iconst (v := 1) hx hb dL_act_604 (by decide) ?_
                        refine lv_iand hx hb dL_act_605 ?_
                        refine lv_iconst (v := 0) hx hb dL_act_606 (by decide) ?_
                        refine kx_do (st1 := [.int ((dF_9 n nc g (if odd = true then ((lowF x (34 : Int32)) - (1 : Int32)) else (lowF x (10 : Int32))) ((x >>> ((6 : Int32) &&& 31)) &&& (1 : Int32))).1)]) (kx_csH (As := [.ref (ad 0), .int (9 : Int32), .int (if odd = true then ((lowF x (34 : Int32)) - (1 : Int32)) else (lowF x (10 : Int32))), .int ((x >>> ((6 : Int32) &&& 31)) &&& (1 : Int32)), .int (0 : Int32)]) (rest := []) hF hG hw hS hl.1 (c_L_does_9 l hfl D cy base ad n nc g (if odd = true then ((lowF x (34 : Int32)) - (1 : Int32)) else (lowF x (10 : Int32))) ((x >>> ((6 : Int32) &&& 31)) &&& (1 : Int32)) (0 : Int32) (by first | assumption | omega | exact mR_9 (by assumption) _ _ | simp [sU, hI]) (by first | assumption | omega | exact mR_9 (by assumption) _ _ | simp [sU, hI])) gL_act_L_does rfl rfl rfl hd_L_does ⟨Nat.le_of_ble_eq_true rfl, Nat.le_of_ble_eq_true rfl⟩ rfl rfl (Nat.le_of_ble_eq_true rfl) dL_act_607 ⟨Nat.le_of_ble_eq_true rfl, Nat.le_of_ble_eq_true rfl⟩) hS rfl (fun _ _ _ _ _ h => h.elim) (fun _ H locs hw hS => ?_)
                        exact kx_retI hQ hx hb hr hlk hw hS (Nat.le_of_ble_eq_true rfl) (Nat.le_of_ble_eq_true rfl) dL_act_610 (kLP_mk (e_A.trans (by simp only [actG, decide_eq_true c_70, if_pos c_70, decide_eq_true c_276, if_pos c_276, decide_eq_false c_454, if_neg c_454, decide_eq_true c_505, if_pos c_505, decide_eq_true c_538, if_pos c_538, decide_eq_true c_558, if_pos c_558, decide_eq_true c_577, if_pos c_577]; rfl)) rfl)
                      · refine lv_aload_n hx hb dL_act_580 rfl (lv_at hl 6 rfl) ?_
                        refine lv_bipush (v := 8) hx hb dL_act_581 (by decide) ?_
                        refine lv_iload hx hb dL_act_583 (lv_at hl 1 rfl) ?_
                        refine lv_iload hx hb dL_act_585 (lv_at hl 0 rfl) ?_
                        refine lv_iconst (v := 0) hx hb dL_act_587 (by decide) ?_
                        refine kx_do (st1 := [.int ((dF_8 n nc g (if odd = true then ((lowF x (34 : Int32)) - (1 : Int32)) else (lowF x (10 : Int32))) (lowF (x >>> ((3 : Int32) &&& 31)) (if odd = true then (8 : Int32) else (6 : Int32)))).1)]) (kx_csH (As := [.ref (ad 0), .int (8 : Int32), .int (if odd = true then ((lowF x (34 : Int32)) - (1 : Int32)) else (lowF x (10 : Int32))), .int (lowF (x >>> ((3 : Int32) &&& 31)) (if odd = true then (8 : Int32) else (6 : Int32))), .int (0 : Int32)]) (rest := []) hF hG hw hS hl.1 (c_L_does_8 l hfl D cy base ad n nc g (if odd = true then ((lowF x (34 : Int32)) - (1 : Int32)) else (lowF x (10 : Int32))) (lowF (x >>> ((3 : Int32) &&& 31)) (if odd = true then (8 : Int32) else (6 : Int32))) (0 : Int32) (by first | assumption | omega | exact mR_9 (by assumption) _ _ | simp [sU, hI]) (by first | assumption | omega | exact mR_9 (by assumption) _ _ | simp [sU, hI])) gL_act_L_does rfl rfl rfl hd_L_does ⟨Nat.le_of_ble_eq_true rfl, Nat.le_of_ble_eq_true rfl⟩ rfl rfl (Nat.le_of_ble_eq_true rfl) dL_act_588 ⟨Nat.le_of_ble_eq_true rfl, Nat.le_of_ble_eq_true rfl⟩) hS rfl (fun _ _ _ _ _ h => h.elim) (fun _ H locs hw hS => ?_)
                        refine lv_goto (tgt := 610) hx hb dL_act_591 (by decide) ?_
                        exact kx_retI hQ hx hb hr hlk hw hS (Nat.le_of_ble_eq_true rfl) (Nat.le_of_ble_eq_true rfl) dL_act_610 (kLP_mk (e_A.trans (by simp only [actG, decide_eq_true c_70, if_pos c_70, decide_eq_true c_276, if_pos c_276, decide_eq_false c_454, if_neg c_454, decide_eq_true c_505, if_pos c_505, decide_eq_true c_538, if_pos c_538, decide_eq_true c_558, if_pos c_558, decide_eq_false c_577, if_neg c_577]; rfl)) rfl)
                    · refine lv_aload_n hx hb dL_act_561 rfl (lv_at hl 6 rfl) ?_
                      refine lv_bipush (v := 7) hx hb dL_act_562 (by decide) ?_
                      refine lv_iload hx hb dL_act_564 (lv_at hl 0 rfl) ?_
                      refine lv_iconst (v := 0) hx hb dL_act_566 (by decide) ?_
                      refine lv_iconst (v := 0) hx hb dL_act_567 (by decide) ?_
                      refine kx_do (st1 := [.int ((dF_7 n nc g (lowF (x >>> ((3 : Int32) &&& 31)) (if odd = true then (8 : Int32) else (6 : Int32)))).1)]) (kx_csH (As := [.ref (ad 0), .int (7 : Int32), .int (lowF (x >>> ((3 : Int32) &&& 31)) (if odd = true then (8 : Int32) else (6 : Int32))), .int (0 : Int32), .int (0 : Int32)]) (rest := []) hF hG hw hS hl.1 (c_L_does_7 l hfl D cy base ad n nc g (lowF (x >>> ((3 : Int32) &&& 31)) (if odd = true then (8 : Int32) else (6 : Int32))) (0 : Int32) (0 : Int32) (by first | assumption | omega | exact mR_9 (by assumption) _ _ | simp [sU, hI])) gL_act_L_does rfl rfl rfl hd_L_does ⟨Nat.le_of_ble_eq_true rfl, Nat.le_of_ble_eq_true rfl⟩ rfl rfl (Nat.le_of_ble_eq_true rfl) dL_act_568 ⟨Nat.le_of_ble_eq_true rfl, Nat.le_of_ble_eq_true rfl⟩) hS rfl (fun _ _ _ _ _ h => h.elim) (fun _ H locs hw hS => ?_)
                      refine lv_goto (tgt := 610) hx hb dL_act_571 (by decide) ?_
                      exact kx_retI hQ hx hb hr hlk hw hS (Nat.le_of_ble_eq_true rfl) (Nat.le_of_ble_eq_true rfl) dL_act_610 (kLP_mk (e_A.trans (by simp only [actG, decide_eq_true c_70, if_pos c_70, decide_eq_true c_276, if_pos c_276, decide_eq_false c_454, if_neg c_454, decide_eq_true c_505, if_pos c_505, decide_eq_true c_538, if_pos c_538, decide_eq_false c_558, if_neg c_558]; rfl)) rfl)
                  · refine lv_aload_n hx hb dL_act_541 rfl (lv_at hl 6 rfl) ?_
                    refine lv_bipush (v := 6) hx hb dL_act_542 (by decide) ?_
                    refine lv_iload hx hb dL_act_544 (lv_at hl 1 rfl) ?_
                    refine lv_iload hx hb dL_act_546 (lv_at hl 0 rfl) ?_
                    refine lv_iconst (v := 0) hx hb dL_act_548 (by decide) ?_
                    refine kx_do (st1 := [.int ((dF_6 n nc g (if odd = true then ((lowF x (34 : Int32)) - (1 : Int32)) else (lowF x (10 : Int32))) (lowF (x >>> ((3 : Int32) &&& 31)) (if odd = true then (8 : Int32) else (6 : Int32)))).1)]) (kx_csH (As := [.ref (ad 0), .int (6 : Int32), .int (if odd = true then ((lowF x (34 : Int32)) - (1 : Int32)) else (lowF x (10 : Int32))), .int (lowF (x >>> ((3 : Int32) &&& 31)) (if odd = true then (8 : Int32) else (6 : Int32))), .int (0 : Int32)]) (rest := []) hF hG hw hS hl.1 (c_L_does_6 l hfl D cy base ad n nc g (if odd = true then ((lowF x (34 : Int32)) - (1 : Int32)) else (lowF x (10 : Int32))) (lowF (x >>> ((3 : Int32) &&& 31)) (if odd = true then (8 : Int32) else (6 : Int32))) (0 : Int32) (by first | assumption | omega | exact mR_9 (by assumption) _ _ | simp [sU, hI])) gL_act_L_does rfl rfl rfl hd_L_does ⟨Nat.le_of_ble_eq_true rfl, Nat.le_of_ble_eq_true rfl⟩ rfl rfl (Nat.le_of_ble_eq_true rfl) dL_act_549 ⟨Nat.le_of_ble_eq_true rfl, Nat.le_of_ble_eq_true rfl⟩) hS rfl (fun _ _ _ _ _ h => h.elim) (fun _ H locs hw hS => ?_)
                    refine lv_goto (tgt := 610) hx hb dL_act_552 (by decide) ?_
                    exact kx_retI hQ hx hb hr hlk hw hS (Nat.le_of_ble_eq_true rfl) (Nat.le_of_ble_eq_true rfl) dL_act_610 (kLP_mk (e_A.trans (by simp only [actG, decide_eq_true c_70, if_pos c_70, decide_eq_true c_276, if_pos c_276, decide_eq_false c_454, if_neg c_454, decide_eq_true c_505, if_pos c_505, decide_eq_false c_538, if_neg c_538]; rfl)) rfl)
                · refine lv_aload_n hx hb dL_act_508 rfl (lv_at hl 6 rfl) ?_
                  refine lv_iconst (v := 5) hx hb dL_act_509 (by decide) ?_
                  refine lv_iload hx hb dL_act_510 (lv_at hl 1 rfl) ?_
                  refine lv_iload_n hx hb dL_act_512 rfl (lv_at hl 5 rfl) ?_
                  have hj_528_12 : ∀ (H : Heap) (locs : List Loc) (ls : Array Slot), kW D cy base ad n nc g H → va_S (kA base) s.heap H locs → lv_has ls 8 [(7, .int (lowF (x >>> ((3 : Int32) &&& 31)) (if odd = true then (8 : Int32) else (6 : Int32)))), (6, .int (if odd = true then ((lowF x (34 : Int32)) - (1 : Int32)) else (lowF x (10 : Int32)))), (5, .int its), (4, .int x), (3, .int how), (2, .int (b2 odd)), (0, .ref (ad 0)), (1, .int v1)] → W p l e (kR 10 12 100) s m args below meth c H locs 0 0 Q (F0 m 528 ls [.int (if odd = true then x else (fewF (x >>> ((4 : Int32) &&& 31)))), .int (if odd = true then ((lowF x (34 : Int32)) - (1 : Int32)) else (lowF x (10 : Int32))), .int (5 : Int32), .ref (ad 0)]) := by
                    intro H locs ls hw hS hl
                    refine lv_iconst (v := 0) hx hb dL_act_528 (by decide) ?_
                    refine kx_do (st1 := [.int ((dF_5 n nc g (if odd = true then ((lowF x (34 : Int32)) - (1 : Int32)) else (lowF x (10 : Int32))) (if odd = true then x else (fewF (x >>> ((4 : Int32) &&& 31))))).1)]) (kx_csH (As := [.ref (ad 0), .int (5 : Int32), .int (if odd = true then ((lowF x (34 : Int32)) - (1 : Int32)) else (lowF x (10 : Int32))), .int (if odd = true then x else (fewF (x >>> ((4 : Int32) &&& 31)))), .int (0 : Int32)]) (rest := []) hF hG hw hS hl.1 (c_L_does_5 l hfl D cy base ad n nc g (if odd = true then ((lowF x (34 : Int32)) - (1 : Int32)) else (lowF x (10 : Int32))) (if odd = true then x else (fewF (x >>> ((4 : Int32) &&& 31)))) (0 : Int32) (by first | assumption | omega | exact mR_9 (by assumption) _ _ | simp [sU, hI]) (by first | assumption | omega | exact mR_9 (by assumption) _ _ | simp [sU, hI])) gL_act_L_does rfl rfl rfl hd_L_does ⟨Nat.le_of_ble_eq_true rfl, Nat.le_of_ble_eq_true rfl⟩ rfl rfl (Nat.le_of_ble_eq_true rfl) dL_act_529 ⟨Nat.le_of_ble_eq_true rfl, Nat.le_of_ble_eq_true rfl⟩) hS rfl (fun _ _ _ _ _ h => h.elim) (fun _ H locs hw hS => ?_)
                    refine lv_goto (tgt := 610) hx hb dL_act_532 (by decide) ?_
                    exact kx_retI hQ hx hb hr hlk hw hS (Nat.le_of_ble_eq_true rfl) (Nat.le_of_ble_eq_true rfl) dL_act_610 (kLP_mk (e_A.trans (by simp only [actG, decide_eq_true c_70, if_pos c_70, decide_eq_true c_276, if_pos c_276, decide_eq_false c_454, if_neg c_454, decide_eq_false c_505, if_neg c_505]; rfl)) rfl)
                  refine kb_eq (tgt := 521) hx hb dL_act_513 (by decide) (fun c_513 => ?_) (fun c_513 => ?_)
                  · refine lv_iload hx hb dL_act_521 (lv_at hl 3 rfl) ?_
                    refine lv_iconst (v := 4) hx hb dL_act_523 (by decide) ?_
                    refine lv_ishr hx hb dL_act_524 ?_
                    refine kx_do0 (st1 := [.int (fewF (x >>> ((4 : Int32) &&& 31))), .int (if odd = true then ((lowF x (34 : Int32)) - (1 : Int32)) else (lowF x (10 : Int32))), .int (5 : Int32), .ref (ad 0)]) (kx_cs (As := [.int (x >>> ((4 : Int32) &&& 31))]) (rest := [.int (if odd = true then ((lowF x (34 : Int32)) - (1 : Int32)) else (lowF x (10 : Int32))), .int (5 : Int32), .ref (ad 0)]) hF hG hw hS hl.1 (c_L_few l hfl D cy base ad n nc g (x >>> ((4 : Int32) &&& 31)) ) gL_act_L_few rfl rfl rfl hd_L_few ⟨Nat.le_of_ble_eq_true rfl, Nat.le_of_ble_eq_true rfl⟩ rfl rfl (Nat.le_of_ble_eq_true rfl) dL_act_525 ⟨Nat.le_of_ble_eq_true rfl, Nat.le_of_ble_eq_true rfl⟩) hS rfl (fun H locs hw hS => ?_)
                    exact kx_top (v := (if odd = true then x else (fewF (x >>> ((4 : Int32) &&& 31))))) (by first | (simp only [bq, c_513]; done) | (simp only [bq, c_513]; rfl) | (simp [bq, c_513]; done)) (hj_528_12 _ _ _ hw hS hl)
                  · refine lv_iload hx hb dL_act_516 (lv_at hl 3 rfl) ?_
                    refine lv_goto (tgt := 528) hx hb dL_act_518 (by decide) ?_
                    exact kx_top (v := (if odd = true then x else (fewF (x >>> ((4 : Int32) &&& 31))))) (by first | (simp only [bq, c_513]; done) | (simp only [bq, c_513]; rfl) | (simp [bq, c_513]; done)) (hj_528_12 _ _ _ hw hS hl)
              refine kb_eq (tgt := 495) hx hb dL_act_487 (by decide) (fun c_487 => ?_) (fun c_487 => ?_)
              · refine lv_bipush (v := 6) hx hb dL_act_495 (by decide) ?_
                exact kx_top (v := (if odd = true then (8 : Int32) else (6 : Int32))) (by first | (simp only [bq, c_487]; done) | (simp only [bq, c_487]; rfl) | (simp [bq, c_487]; done)) (hj_497_11 _ _ _ hw hS hl)
              · refine lv_bipush (v := 8) hx hb dL_act_490 (by decide) ?_
                refine lv_goto (tgt := 497) hx hb dL_act_492 (by decide) ?_
                exact kx_top (v := (if odd = true then (8 : Int32) else (6 : Int32))) (by first | (simp only [bq, c_487]; done) | (simp only [bq, c_487]; rfl) | (simp [bq, c_487]; done)) (hj_497_11 _ _ _ hw hS hl)
            refine kb_eq (tgt := 473) hx hb dL_act_458 (by decide) (fun c_458 => ?_) (fun c_458 => ?_)
            · refine lv_iload hx hb dL_act_473 (lv_at hl 1 rfl) ?_
              refine lv_bipush (v := 10) hx hb dL_act_475 (by decide) ?_
              refine kx_do0 (st1 := [.int (lowF x (10 : Int32))]) (kx_cs (As := [.int x, .int (10 : Int32)]) (rest := []) hF hG hw hS hl.1 (c_L_low l hfl D cy base ad n nc g x (10 : Int32) (by first | decide +kernel | (cases odd <;> decide +kernel) | (split <;> decide +kernel))) gL_act_L_low rfl rfl rfl hd_L_low ⟨Nat.le_of_ble_eq_true rfl, Nat.le_of_ble_eq_true rfl⟩ rfl rfl (Nat.le_of_ble_eq_true rfl) dL_act_477 ⟨Nat.le_of_ble_eq_true rfl, Nat.le_of_ble_eq_true rfl⟩) hS rfl (fun H locs hw hS => ?_)
              exact kx_top (v := (if odd = true then ((lowF x (34 : Int32)) - (1 : Int32)) else (lowF x (10 : Int32)))) (by first | (simp only [bq, c_458]; done) | (simp only [bq, c_458]; rfl) | (simp [bq, c_458]; done)) (hj_480_10 _ _ _ hw hS hl)
            · refine lv_iload hx hb dL_act_461 (lv_at hl 1 rfl) ?_
              refine lv_bipush (v := 34) hx hb dL_act_463 (by decide) ?_
              refine kx_do0 (st1 := [.int (lowF x (34 : Int32))]) (kx_cs (As := [.int x, .int (34 : Int32)]) (rest := []) hF hG hw hS hl.1 (c_L_low l hfl D cy base ad n nc g x (34 : Int32) (by first | decide +kernel | (cases odd <;> decide +kernel) | (split <;> decide +kernel))) gL_act_L_low rfl rfl rfl hd_L_low ⟨Nat.le_of_ble_eq_true rfl, Nat.le_of_ble_eq_true rfl⟩ rfl rfl (Nat.le_of_ble_eq_true rfl) dL_act_465 ⟨Nat.le_of_ble_eq_true rfl, Nat.le_of_ble_eq_true rfl⟩) hS rfl (fun H locs hw hS => ?_)
              refine lv_iconst (v := 1) hx hb dL_act_468 (by decide) ?_
              refine lv_isub hx hb dL_act_469 ?_
              refine lv_goto (tgt := 480) hx hb dL_act_470 (by decide) ?_
              exact kx_top (v := (if odd = true then ((lowF x (34 : Int32)) - (1 : Int32)) else (lowF x (10 : Int32)))) (by first | (simp only [bq, c_458]; done) | (simp only [bq, c_458]; rfl) | (simp [bq, c_458]; done)) (hj_480_10 _ _ _ hw hS hl)
        · refine lv_iload_n hx hb dL_act_279 rfl (lv_at hl 2 rfl) ?_
          refine lv_bipush (v := 12) hx hb dL_act_280 (by decide) ?_
          refine lv_icmp_ge (tgt := 386) hx hb dL_act_282 (by decide) (fun c_282 => ?_) (fun c_282 => ?_)
          · refine lv_aload_n hx hb dL_act_386 rfl (lv_at hl 4 rfl) ?_
            refine lv_iload hx hb dL_act_387 (lv_at hl 0 rfl) ?_
            refine lv_bipush (v := 10) hx hb dL_act_389 (by decide) ?_
            refine lv_iload hx hb dL_act_391 (lv_at hl 1 rfl) ?_
            refine lv_iconst (v := 3) hx hb dL_act_393 (by decide) ?_
            refine lv_ishr hx hb dL_act_394 ?_
            refine lv_bipush (v := 10) hx hb dL_act_395 (by decide) ?_
            refine kx_do0 (st1 := [.int (lowF (x >>> ((3 : Int32) &&& 31)) (10 : Int32)), .int (10 : Int32), .int its, .ref (ad 0)]) (kx_cs (As := [.int (x >>> ((3 : Int32) &&& 31)), .int (10 : Int32)]) (rest := [.int (10 : Int32), .int its, .ref (ad 0)]) hF hG hw hS hl.1 (c_L_low l hfl D cy base ad n nc g (x >>> ((3 : Int32) &&& 31)) (10 : Int32) (by first | decide +kernel | (cases odd <;> decide +kernel) | (split <;> decide +kernel))) gL_act_L_low rfl rfl rfl hd_L_low ⟨Nat.le_of_ble_eq_true rfl, Nat.le_of_ble_eq_true rfl⟩ rfl rfl (Nat.le_of_ble_eq_true rfl) dL_act_397 ⟨Nat.le_of_ble_eq_true rfl, Nat.le_of_ble_eq_true rfl⟩) hS rfl (fun H locs hw hS => ?_)
            refine lv_imul hx hb dL_act_400 ?_
            refine lv_iadd hx hb dL_act_401 ?_
            refine lv_iload hx hb dL_act_402 (lv_at hl 1 rfl) ?_
            refine lv_iconst (v := 5) hx hb dL_act_404 (by decide) ?_
            refine lv_ishr hx hb dL_act_405 ?_
            refine lv_bipush (v := 12) hx hb dL_act_406 (by decide) ?_
            refine kx_do0 (st1 := [.int (lowF (x >>> ((5 : Int32) &&& 31)) (12 : Int32)), .int (its + ((10 : Int32) * (lowF (x >>> ((3 : Int32) &&& 31)) (10 : Int32)))), .ref (ad 0)]) (kx_cs (As := [.int (x >>> ((5 : Int32) &&& 31)), .int (12 : Int32)]) (rest := [.int (its + ((10 : Int32) * (lowF (x >>> ((3 : Int32) &&& 31)) (10 : Int32)))), .ref (ad 0)]) hF hG hw hS hl.1 (c_L_low l hfl D cy base ad n nc g (x >>> ((5 : Int32) &&& 31)) (12 : Int32) (by first | decide +kernel | (cases odd <;> decide +kernel) | (split <;> decide +kernel))) gL_act_L_low rfl rfl rfl hd_L_low ⟨Nat.le_of_ble_eq_true rfl, Nat.le_of_ble_eq_true rfl⟩ rfl rfl (Nat.le_of_ble_eq_true rfl) dL_act_408 ⟨Nat.le_of_ble_eq_true rfl, Nat.le_of_ble_eq_true rfl⟩) hS rfl (fun H locs hw hS => ?_)
            refine lv_iload hx hb dL_act_411 (lv_at hl 1 rfl) ?_
            refine lv_iconst (v := 5) hx hb dL_act_413 (by decide) ?_
            refine lv_ishr hx hb dL_act_414 ?_
            refine lv_bipush (v := 12) hx hb dL_act_415 (by decide) ?_
            refine kx_do0 (st1 := [.int (lowF (x >>> ((5 : Int32) &&& 31)) (12 : Int32)), .int (lowF (x >>> ((5 : Int32) &&& 31)) (12 : Int32)), .int (its + ((10 : Int32) * (lowF (x >>> ((3 : Int32) &&& 31)) (10 : Int32)))), .ref (ad 0)]) (kx_cs (As := [.int (x >>> ((5 : Int32) &&& 31)), .int (12 : Int32)]) (rest := [.int (lowF (x >>> ((5 : Int32) &&& 31)) (12 : Int32)), .int (its + ((10 : Int32) * (lowF (x >>> ((3 : Int32) &&& 31)) (10 : Int32)))), .ref (ad 0)]) hF hG hw hS hl.1 (c_L_low l hfl D cy base ad n nc g (x >>> ((5 : Int32) &&& 31)) (12 : Int32) (by first | decide +kernel | (cases odd <;> decide +kernel) | (split <;> decide +kernel))) gL_act_L_low rfl rfl rfl hd_L_low ⟨Nat.le_of_ble_eq_true rfl, Nat.le_of_ble_eq_true rfl⟩ rfl rfl (Nat.le_of_ble_eq_true rfl) dL_act_417 ⟨Nat.le_of_ble_eq_true rfl, Nat.le_of_ble_eq_true rfl⟩) hS rfl (fun H locs hw hS => ?_)
            refine lv_iload hx hb dL_act_420 (lv_at hl 1 rfl) ?_
            refine lv_bipush (v := 7) hx hb dL_act_422 (by decide) ?_
            refine lv_ishr hx hb dL_act_424 ?_
            refine lv_bipush (v := 9) hx hb dL_act_425 (by decide) ?_
            refine kx_do0 (st1 := [.int (lowF (x >>> ((7 : Int32) &&& 31)) (9 : Int32)), .int (lowF (x >>> ((5 : Int32) &&& 31)) (12 : Int32)), .int (lowF (x >>> ((5 : Int32) &&& 31)) (12 : Int32)), .int (its + ((10 : Int32) * (lowF (x >>> ((3 : Int32) &&& 31)) (10 : Int32)))), .ref (ad 0)]) (kx_cs (As := [.int (x >>> ((7 : Int32) &&& 31)), .int (9 : Int32)]) (rest := [.int (lowF (x >>> ((5 : Int32) &&& 31)) (12 : Int32)), .int (lowF (x >>> ((5 : Int32) &&& 31)) (12 : Int32)), .int (its + ((10 : Int32) * (lowF (x >>> ((3 : Int32) &&& 31)) (10 : Int32)))), .ref (ad 0)]) hF hG hw hS hl.1 (c_L_low l hfl D cy base ad n nc g (x >>> ((7 : Int32) &&& 31)) (9 : Int32) (by first | decide +kernel | (cases odd <;> decide +kernel) | (split <;> decide +kernel))) gL_act_L_low rfl rfl rfl hd_L_low ⟨Nat.le_of_ble_eq_true rfl, Nat.le_of_ble_eq_true rfl⟩ rfl rfl (Nat.le_of_ble_eq_true rfl) dL_act_427 ⟨Nat.le_of_ble_eq_true rfl, Nat.le_of_ble_eq_true rfl⟩) hS rfl (fun H locs hw hS => ?_)
            refine lv_iadd hx hb dL_act_430 ?_
            refine lv_iload_n hx hb dL_act_431 rfl (lv_at hl 3 rfl) ?_
            have hj_447_13 : ∀ (H : Heap) (locs : List Loc) (ls : Array Slot), kW D cy base ad n nc g H → va_S (kA base) s.heap H locs → lv_has ls 8 [(5, .int its), (4, .int x), (3, .int how), (2, .int (b2 odd)), (0, .ref (ad 0)), (1, .int v1)] → W p l e (kR 10 12 100) s m args below meth c H locs 0 0 Q (F0 m 447 ls [.int (if odd = true then x else (fewF (x >>> ((4 : Int32) &&& 31)))), .int ((lowF (x >>> ((5 : Int32) &&& 31)) (12 : Int32)) + (lowF (x >>> ((7 : Int32) &&& 31)) (9 : Int32))), .int (lowF (x >>> ((5 : Int32) &&& 31)) (12 : Int32)), .int (its + ((10 : Int32) * (lowF (x >>> ((3 : Int32) &&& 31)) (10 : Int32)))), .ref (ad 0)]) := by
              intro H locs ls hw hS hl
              refine kx_call (kx_csH (As := [.ref (ad 0), .int (its + ((10 : Int32) * (lowF (x >>> ((3 : Int32) &&& 31)) (10 : Int32)))), .int (lowF (x >>> ((5 : Int32) &&& 31)) (12 : Int32)), .int ((lowF (x >>> ((5 : Int32) &&& 31)) (12 : Int32)) + (lowF (x >>> ((7 : Int32) &&& 31)) (9 : Int32))), .int (if odd = true then x else (fewF (x >>> ((4 : Int32) &&& 31))))]) (rest := []) hF hG hw hS hl.1 (c_L_claimed l hfl D cy base ad n nc g (its + ((10 : Int32) * (lowF (x >>> ((3 : Int32) &&& 31)) (10 : Int32)))) (lowF (x >>> ((5 : Int32) &&& 31)) (12 : Int32)) ((lowF (x >>> ((5 : Int32) &&& 31)) (12 : Int32)) + (lowF (x >>> ((7 : Int32) &&& 31)) (9 : Int32))) (if odd = true then x else (fewF (x >>> ((4 : Int32) &&& 31)))) hcj hfj6 hcc) gL_act_L_claimed rfl rfl rfl hd_L_claimed ⟨Nat.le_of_ble_eq_true rfl, Nat.le_of_ble_eq_true rfl⟩ rfl rfl (Nat.le_of_ble_eq_true rfl) dL_act_447 ⟨Nat.le_of_ble_eq_true rfl, Nat.le_of_ble_eq_true rfl⟩) hS (fun _ _ _ _ _ h => h.elim) (fun v u H locs hp hw hS => ?_)
              obtain ⟨rfl, h0, hu⟩ := hp
              refine W.eq (g2 := F0 m 450 ls [.int (claimedF n nc g (its + ((10 : Int32) * (lowF (x >>> ((3 : Int32) &&& 31)) (10 : Int32)))) (lowF (x >>> ((5 : Int32) &&& 31)) (12 : Int32)) ((lowF (x >>> ((5 : Int32) &&& 31)) (12 : Int32)) + (lowF (x >>> ((7 : Int32) &&& 31)) (9 : Int32))) (if odd = true then x else (fewF (x >>> ((4 : Int32) &&& 31))))).1]) rfl ?_
              exact kx_retI (ad' := u.1) (n' := u.2.1) (nc' := u.2.2.1) (g' := u.2.2.2) hQ hx hb hr hlk hw hS (Nat.le_of_ble_eq_true rfl) (Nat.le_of_ble_eq_true rfl) dL_act_450 (kLP_eq (e_A.trans (by simp only [actG, decide_eq_true c_70, if_pos c_70, decide_eq_false c_276, if_neg c_276, decide_eq_true c_282, if_pos c_282])) ⟨rfl, h0, hu⟩)
            refine kb_eq (tgt := 440) hx hb dL_act_432 (by decide) (fun c_432 => ?_) (fun c_432 => ?_)
            · refine lv_iload hx hb dL_act_440 (lv_at hl 1 rfl) ?_
              refine lv_iconst (v := 4) hx hb dL_act_442 (by decide) ?_
              refine lv_ishr hx hb dL_act_443 ?_
              refine kx_do0 (st1 := [.int (fewF (x >>> ((4 : Int32) &&& 31))), .int ((lowF (x >>> ((5 : Int32) &&& 31)) (12 : Int32)) + (lowF (x >>> ((7 : Int32) &&& 31)) (9 : Int32))), .int (lowF (x >>> ((5 : Int32) &&& 31)) (12 : Int32)), .int (its + ((10 : Int32) * (lowF (x >>> ((3 : Int32) &&& 31)) (10 : Int32)))), .ref (ad 0)]) (kx_cs (As := [.int (x >>> ((4 : Int32) &&& 31))]) (rest := [.int ((lowF (x >>> ((5 : Int32) &&& 31)) (12 : Int32)) + (lowF (x >>> ((7 : Int32) &&& 31)) (9 : Int32))), .int (lowF (x >>> ((5 : Int32) &&& 31)) (12 : Int32)), .int (its + ((10 : Int32) * (lowF (x >>> ((3 : Int32) &&& 31)) (10 : Int32)))), .ref (ad 0)]) hF hG hw hS hl.1 (c_L_few l hfl D cy base ad n nc g (x >>> ((4 : Int32) &&& 31)) ) gL_act_L_few rfl rfl rfl hd_L_few ⟨Nat.le_of_ble_eq_true rfl, Nat.le_of_ble_eq_true rfl⟩ rfl rfl (Nat.le_of_ble_eq_true rfl) dL_act_444 ⟨Nat.le_of_ble_eq_true rfl, Nat.le_of_ble_eq_true rfl⟩) hS rfl (fun H locs hw hS => ?_)
              exact kx_top (v := (if odd = true then x else (fewF (x >>> ((4 : Int32) &&& 31))))) (by first | (simp only [bq, c_432]; done) | (simp only [bq, c_432]; rfl) | (simp [bq, c_432]; done)) (hj_447_13 _ _ _ hw hS hl)
            · refine lv_iload hx hb dL_act_435 (lv_at hl 1 rfl) ?_
              refine lv_goto (tgt := 447) hx hb dL_act_437 (by decide) ?_
              exact kx_top (v := (if odd = true then x else (fewF (x >>> ((4 : Int32) &&& 31))))) (by first | (simp only [bq, c_432]; done) | (simp only [bq, c_432]; rfl) | (simp [bq, c_432]; done)) (hj_447_13 _ _ _ hw hS hl)
          · refine lv_aload_n hx hb dL_act_285 rfl (lv_at hl 4 rfl) ?_
            refine lv_iload hx hb dL_act_286 (lv_at hl 0 rfl) ?_
            refine lv_bipush (v := 10) hx hb dL_act_288 (by decide) ?_
            refine lv_iload hx hb dL_act_290 (lv_at hl 1 rfl) ?_
            refine lv_iconst (v := 3) hx hb dL_act_292 (by decide) ?_
            refine lv_ishr hx hb dL_act_293 ?_
            refine lv_iload_n hx hb dL_act_294 rfl (lv_at hl 3 rfl) ?_
            have hj_305_14 : ∀ (H : Heap) (locs : List Loc) (ls : Array Slot), kW D cy base ad n nc g H → va_S (kA base) s.heap H locs → lv_has ls 8 [(5, .int its), (4, .int x), (3, .int how), (2, .int (b2 odd)), (0, .ref (ad 0)), (1, .int v1)] → W p l e (kR 10 12 100) s m args below meth c H locs 0 0 Q (F0 m 305 ls [.int (if odd = true then (12 : Int32) else (10 : Int32)), .int (x >>> ((3 : Int32) &&& 31)), .int (10 : Int32), .int its, .ref (ad 0)]) := by
              intro H locs ls hw hS hl
              refine kx_do0 (st1 := [.int (lowF (x >>> ((3 : Int32) &&& 31)) (if odd = true then (12 : Int32) else (10 : Int32))), .int (10 : Int32), .int its, .ref (ad 0)]) (kx_cs (As := [.int (x >>> ((3 : Int32) &&& 31)), .int (if odd = true then (12 : Int32) else (10 : Int32))]) (rest := [.int (10 : Int32), .int its, .ref (ad 0)]) hF hG hw hS hl.1 (c_L_low l hfl D cy base ad n nc g (x >>> ((3 : Int32) &&& 31)) (if odd = true then (12 : Int32) else (10 : Int32)) (by first | decide +kernel | (cases odd <;> decide +kernel) | (split <;> decide +kernel))) gL_act_L_low rfl rfl rfl hd_L_low ⟨Nat.le_of_ble_eq_true rfl, Nat.le_of_ble_eq_true rfl⟩ rfl rfl (Nat.le_of_ble_eq_true rfl) dL_act_305 ⟨Nat.le_of_ble_eq_true rfl, Nat.le_of_ble_eq_true rfl⟩) hS rfl (fun H locs hw hS => ?_)
              refine lv_imul hx hb dL_act_308 ?_
              refine lv_iadd hx hb dL_act_309 ?_
              refine lv_iload hx hb dL_act_310 (lv_at hl 1 rfl) ?_
              refine lv_iconst (v := 5) hx hb dL_act_312 (by decide) ?_
              refine lv_ishr hx hb dL_act_313 ?_
              refine lv_iconst (v := 4) hx hb dL_act_314 (by decide) ?_
              refine kx_do0 (st1 := [.int (lowF (x >>> ((5 : Int32) &&& 31)) (4 : Int32)), .int (its + ((10 : Int32) * (lowF (x >>> ((3 : Int32) &&& 31)) (if odd = true then (12 : Int32) else (10 : Int32))))), .ref (ad 0)]) (kx_cs (As := [.int (x >>> ((5 : Int32) &&& 31)), .int (4 : Int32)]) (rest := [.int (its + ((10 : Int32) * (lowF (x >>> ((3 : Int32) &&& 31)) (if odd = true then (12 : Int32) else (10 : Int32))))), .ref (ad 0)]) hF hG hw hS hl.1 (c_L_low l hfl D cy base ad n nc g (x >>> ((5 : Int32) &&& 31)) (4 : Int32) (by first | decide +kernel | (cases odd <;> decide +kernel) | (split <;> decide +kernel))) gL_act_L_low rfl rfl rfl hd_L_low ⟨Nat.le_of_ble_eq_true rfl, Nat.le_of_ble_eq_true rfl⟩ rfl rfl (Nat.le_of_ble_eq_true rfl) dL_act_315 ⟨Nat.le_of_ble_eq_true rfl, Nat.le_of_ble_eq_true rfl⟩) hS rfl (fun H locs hw hS => ?_)
              refine lv_iload_n hx hb dL_act_318 rfl (lv_at hl 3 rfl) ?_
              have hj_334_15 : ∀ (H : Heap) (locs : List Loc) (ls : Array Slot), kW D cy base ad n nc g H → va_S (kA base) s.heap H locs → lv_has ls 8 [(5, .int its), (4, .int x), (3, .int how), (2, .int (b2 odd)), (0, .ref (ad 0)), (1, .int v1)] → W p l e (kR 10 12 100) s m args below meth c H locs 0 0 Q (F0 m 334 ls [.int (if odd = true then x else (fewF (x >>> ((2 : Int32) &&& 31)))), .int (lowF (x >>> ((5 : Int32) &&& 31)) (4 : Int32)), .int (its + ((10 : Int32) * (lowF (x >>> ((3 : Int32) &&& 31)) (if odd = true then (12 : Int32) else (10 : Int32))))), .ref (ad 0)]) := by
                intro H locs ls hw hS hl
                refine lv_iload hx hb dL_act_334 (lv_at hl 1 rfl) ?_
                refine lv_iconst (v := 4) hx hb dL_act_336 (by decide) ?_
                refine lv_ishr hx hb dL_act_337 ?_
                refine kx_do0 (st1 := [.int (fewF (x >>> ((4 : Int32) &&& 31))), .int (if odd = true then x else (fewF (x >>> ((2 : Int32) &&& 31)))), .int (lowF (x >>> ((5 : Int32) &&& 31)) (4 : Int32)), .int (its + ((10 : Int32) * (lowF (x >>> ((3 : Int32) &&& 31)) (if odd = true then (12 : Int32) else (10 : Int32))))), .ref (ad 0)]) (kx_cs (As := [.int (x >>> ((4 : Int32) &&& 31))]) (rest := [.int (if odd = true then x else (fewF (x >>> ((2 : Int32) &&& 31)))), .int (lowF (x >>> ((5 : Int32) &&& 31)) (4 : Int32)), .int (its + ((10 : Int32) * (lowF (x >>> ((3 : Int32) &&& 31)) (if odd = true then (12 : Int32) else (10 : Int32))))), .ref (ad 0)]) hF hG hw hS hl.1 (c_L_few l hfl D cy base ad n nc g (x >>> ((4 : Int32) &&& 31)) ) gL_act_L_few rfl rfl rfl hd_L_few ⟨Nat.le_of_ble_eq_true rfl, Nat.le_of_ble_eq_true rfl⟩ rfl rfl (Nat.le_of_ble_eq_true rfl) dL_act_338 ⟨Nat.le_of_ble_eq_true rfl, Nat.le_of_ble_eq_true rfl⟩) hS rfl (fun H locs hw hS => ?_)
                refine lv_iload hx hb dL_act_341 (lv_at hl 1 rfl) ?_
                refine lv_iconst (v := 2) hx hb dL_act_343 (by decide) ?_
                refine lv_ishr hx hb dL_act_344 ?_
                refine kx_do0 (st1 := [.int (fewF (x >>> ((2 : Int32) &&& 31))), .int (fewF (x >>> ((4 : Int32) &&& 31))), .int (if odd = true then x else (fewF (x >>> ((2 : Int32) &&& 31)))), .int (lowF (x >>> ((5 : Int32) &&& 31)) (4 : Int32)), .int (its + ((10 : Int32) * (lowF (x >>> ((3 : Int32) &&& 31)) (if odd = true then (12 : Int32) else (10 : Int32))))), .ref (ad 0)]) (kx_cs (As := [.int (x >>> ((2 : Int32) &&& 31))]) (rest := [.int (fewF (x >>> ((4 : Int32) &&& 31))), .int (if odd = true then x else (fewF (x >>> ((2 : Int32) &&& 31)))), .int (lowF (x >>> ((5 : Int32) &&& 31)) (4 : Int32)), .int (its + ((10 : Int32) * (lowF (x >>> ((3 : Int32) &&& 31)) (if odd = true then (12 : Int32) else (10 : Int32))))), .ref (ad 0)]) hF hG hw hS hl.1 (c_L_few l hfl D cy base ad n nc g (x >>> ((2 : Int32) &&& 31)) ) gL_act_L_few rfl rfl rfl hd_L_few ⟨Nat.le_of_ble_eq_true rfl, Nat.le_of_ble_eq_true rfl⟩ rfl rfl (Nat.le_of_ble_eq_true rfl) dL_act_345 ⟨Nat.le_of_ble_eq_true rfl, Nat.le_of_ble_eq_true rfl⟩) hS rfl (fun H locs hw hS => ?_)
                refine lv_iconst (v := -1) hx hb dL_act_348 (by decide) ?_
                refine lv_ixor hx hb dL_act_349 ?_
                refine lv_iand hx hb dL_act_350 ?_
                refine lv_iload hx hb dL_act_351 (lv_at hl 1 rfl) ?_
                refine lv_iconst (v := 1) hx hb dL_act_353 (by decide) ?_
                refine lv_ishr hx hb dL_act_354 ?_
                refine lv_sipush (v := 10000) hx hb dL_act_355 (by decide) ?_
                refine kx_do0 (st1 := [.int (lowF (x >>> ((1 : Int32) &&& 31)) (10000 : Int32)), .int ((fewF (x >>> ((4 : Int32) &&& 31))) &&& ((fewF (x >>> ((2 : Int32) &&& 31))) ^^^ (-1 : Int32))), .int (if odd = true then x else (fewF (x >>> ((2 : Int32) &&& 31)))), .int (lowF (x >>> ((5 : Int32) &&& 31)) (4 : Int32)), .int (its + ((10 : Int32) * (lowF (x >>> ((3 : Int32) &&& 31)) (if odd = true then (12 : Int32) else (10 : Int32))))), .ref (ad 0)]) (kx_cs (As := [.int (x >>> ((1 : Int32) &&& 31)), .int (10000 : Int32)]) (rest := [.int ((fewF (x >>> ((4 : Int32) &&& 31))) &&& ((fewF (x >>> ((2 : Int32) &&& 31))) ^^^ (-1 : Int32))), .int (if odd = true then x else (fewF (x >>> ((2 : Int32) &&& 31)))), .int (lowF (x >>> ((5 : Int32) &&& 31)) (4 : Int32)), .int (its + ((10 : Int32) * (lowF (x >>> ((3 : Int32) &&& 31)) (if odd = true then (12 : Int32) else (10 : Int32))))), .ref (ad 0)]) hF hG hw hS hl.1 (c_L_low l hfl D cy base ad n nc g (x >>> ((1 : Int32) &&& 31)) (10000 : Int32) (by first | decide +kernel | (cases odd <;> decide +kernel) | (split <;> decide +kernel))) gL_act_L_low rfl rfl rfl hd_L_low ⟨Nat.le_of_ble_eq_true rfl, Nat.le_of_ble_eq_true rfl⟩ rfl rfl (Nat.le_of_ble_eq_true rfl) dL_act_358 ⟨Nat.le_of_ble_eq_true rfl, Nat.le_of_ble_eq_true rfl⟩) hS rfl (fun H locs hw hS => ?_)
                refine lv_iload hx hb dL_act_361 (lv_at hl 1 rfl) ?_
                refine lv_bipush (v := 6) hx hb dL_act_363 (by decide) ?_
                refine lv_ishr hx hb dL_act_365 ?_
                refine lv_iload_n hx hb dL_act_366 rfl (lv_at hl 3 rfl) ?_
                have hj_377_16 : ∀ (H : Heap) (locs : List Loc) (ls : Array Slot), kW D cy base ad n nc g H → va_S (kA base) s.heap H locs → lv_has ls 8 [(5, .int its), (4, .int x), (3, .int how), (2, .int (b2 odd)), (0, .ref (ad 0)), (1, .int v1)] → W p l e (kR 10 12 100) s m args below meth c H locs 0 0 Q (F0 m 377 ls [.int (if odd = true then (8 : Int32) else (6 : Int32)), .int (x >>> ((6 : Int32) &&& 31)), .int (lowF (x >>> ((1 : Int32) &&& 31)) (10000 : Int32)), .int ((fewF (x >>> ((4 : Int32) &&& 31))) &&& ((fewF (x >>> ((2 : Int32) &&& 31))) ^^^ (-1 : Int32))), .int (if odd = true then x else (fewF (x >>> ((2 : Int32) &&& 31)))), .int (lowF (x >>> ((5 : Int32) &&& 31)) (4 : Int32)), .int (its + ((10 : Int32) * (lowF (x >>> ((3 : Int32) &&& 31)) (if odd = true then (12 : Int32) else (10 : Int32))))), .ref (ad 0)]) := by
                  intro H locs ls hw hS hl
                  refine kx_do0 (st1 := [.int (lowF (x >>> ((6 : Int32) &&& 31)) (if odd = true then (8 : Int32) else (6 : Int32))), .int (lowF (x >>> ((1 : Int32) &&& 31)) (10000 : Int32)), .int ((fewF (x >>> ((4 : Int32) &&& 31))) &&& ((fewF (x >>> ((2 : Int32) &&& 31))) ^^^ (-1 : Int32))), .int (if odd = true then x else (fewF (x >>> ((2 : Int32) &&& 31)))), .int (lowF (x >>> ((5 : Int32) &&& 31)) (4 : Int32)), .int (its + ((10 : Int32) * (lowF (x >>> ((3 : Int32) &&& 31)) (if odd = true then (12 : Int32) else (10 : Int32))))), .ref (ad 0)]) (kx_cs (As := [.int (x >>> ((6 : Int32) &&& 31)), .int (if odd = true then (8 : Int32) else (6 : Int32))]) (rest := [.int (lowF (x >>> ((1 : Int32) &&& 31)) (10000 : Int32)), .int ((fewF (x >>> ((4 : Int32) &&& 31))) &&& ((fewF (x >>> ((2 : Int32) &&& 31))) ^^^ (-1 : Int32))), .int (if odd = true then x else (fewF (x >>> ((2 : Int32) &&& 31)))), .int (lowF (x >>> ((5 : Int32) &&& 31)) (4 : Int32)), .int (its + ((10 : Int32) * (lowF (x >>> ((3 : Int32) &&& 31)) (if odd = true then (12 : Int32) else (10 : Int32))))), .ref (ad 0)]) hF hG hw hS hl.1 (c_L_low l hfl D cy base ad n nc g (x >>> ((6 : Int32) &&& 31)) (if odd = true then (8 : Int32) else (6 : Int32)) (by first | decide +kernel | (cases odd <;> decide +kernel) | (split <;> decide +kernel))) gL_act_L_low rfl rfl rfl hd_L_low ⟨Nat.le_of_ble_eq_true rfl, Nat.le_of_ble_eq_true rfl⟩ rfl rfl (Nat.le_of_ble_eq_true rfl) dL_act_377 ⟨Nat.le_of_ble_eq_true rfl, Nat.le_of_ble_eq_true rfl⟩) hS rfl (fun H locs hw hS => ?_)
                  refine kx_call (kx_csH (As := [.ref (ad 0), .int (its + ((10 : Int32) * (lowF (x >>> ((3 : Int32) &&& 31)) (if odd = true then (12 : Int32) else (10 : Int32))))), .int (lowF (x >>> ((5 : Int32) &&& 31)) (4 : Int32)), .int (if odd = true then x else (fewF (x >>> ((2 : Int32) &&& 31)))), .int ((fewF (x >>> ((4 : Int32) &&& 31))) &&& ((fewF (x >>> ((2 : Int32) &&& 31))) ^^^ (-1 : Int32))), .int (lowF (x >>> ((1 : Int32) &&& 31)) (10000 : Int32)), .int (lowF (x >>> ((6 : Int32) &&& 31)) (if odd = true then (8 : Int32) else (6 : Int32)))]) (rest := []) hF hG hw hS hl.1 (c_L_found l hfl D cy base ad n nc g (its + ((10 : Int32) * (lowF (x >>> ((3 : Int32) &&& 31)) (if odd = true then (12 : Int32) else (10 : Int32))))) (lowF (x >>> ((5 : Int32) &&& 31)) (4 : Int32)) (if odd = true then x else (fewF (x >>> ((2 : Int32) &&& 31)))) ((fewF (x >>> ((4 : Int32) &&& 31))) &&& ((fewF (x >>> ((2 : Int32) &&& 31))) ^^^ (-1 : Int32))) (lowF (x >>> ((1 : Int32) &&& 31)) (10000 : Int32)) (lowF (x >>> ((6 : Int32) &&& 31)) (if odd = true then (8 : Int32) else (6 : Int32))) hfj hfc) gL_act_L_found rfl rfl rfl hd_L_found ⟨Nat.le_of_ble_eq_true rfl, Nat.le_of_ble_eq_true rfl⟩ rfl rfl (Nat.le_of_ble_eq_true rfl) dL_act_380 ⟨Nat.le_of_ble_eq_true rfl, Nat.le_of_ble_eq_true rfl⟩) hS (fun _ _ _ _ _ h => h.elim) (fun v u H locs hp hw hS => ?_)
                  obtain ⟨rfl, h0, hu⟩ := hp
                  refine W.eq (g2 := F0 m 383 ls [.int (foundF n nc g (its + ((10 : Int32) * (lowF (x >>> ((3 : Int32) &&& 31)) (if odd = true then (12 : Int32) else (10 : Int32))))) (lowF (x >>> ((5 : Int32) &&& 31)) (4 : Int32)) (if odd = true then x else (fewF (x >>> ((2 : Int32) &&& 31)))) ((fewF (x >>> ((4 : Int32) &&& 31))) &&& ((fewF (x >>> ((2 : Int32) &&& 31))) ^^^ (-1 : Int32))) (lowF (x >>> ((1 : Int32) &&& 31)) (10000 : Int32)) (lowF (x >>> ((6 : Int32) &&& 31)) (if odd = true then (8 : Int32) else (6 : Int32)))).1]) rfl ?_
                  refine lv_goto (tgt := 450) hx hb dL_act_383 (by decide) ?_
                  exact kx_retI (ad' := u.1) (n' := u.2.1) (nc' := u.2.2.1) (g' := u.2.2.2) hQ hx hb hr hlk hw hS (Nat.le_of_ble_eq_true rfl) (Nat.le_of_ble_eq_true rfl) dL_act_450 (kLP_eq (e_A.trans (by simp only [actG, decide_eq_true c_70, if_pos c_70, decide_eq_false c_276, if_neg c_276, decide_eq_false c_282, if_neg c_282])) ⟨rfl, h0, hu⟩)
                refine kb_eq (tgt := 375) hx hb dL_act_367 (by decide) (fun c_367 => ?_) (fun c_367 => ?_)
                · refine lv_bipush (v := 6) hx hb dL_act_375 (by decide) ?_
                  exact kx_top (v := (if odd = true then (8 : Int32) else (6 : Int32))) (by first | (simp only [bq, c_367]; done) | (simp only [bq, c_367]; rfl) | (simp [bq, c_367]; done)) (hj_377_16 _ _ _ hw hS hl)
                · refine lv_bipush (v := 8) hx hb dL_act_370 (by decide) ?_
                  refine lv_goto (tgt := 377) hx hb dL_act_372 (by decide) ?_
                  exact kx_top (v := (if odd = true then (8 : Int32) else (6 : Int32))) (by first | (simp only [bq, c_367]; done) | (simp only [bq, c_367]; rfl) | (simp [bq, c_367]; done)) (hj_377_16 _ _ _ hw hS hl)
              refine kb_eq (tgt := 327) hx hb dL_act_319 (by decide) (fun c_319 => ?_) (fun c_319 => ?_)
              · refine lv_iload hx hb dL_act_327 (lv_at hl 1 rfl) ?_
                refine lv_iconst (v := 2) hx hb dL_act_329 (by decide) ?_
                refine lv_ishr hx hb dL_act_330 ?_
                refine kx_do0 (st1 := [.int (fewF (x >>> ((2 : Int32) &&& 31))), .int (lowF (x >>> ((5 : Int32) &&& 31)) (4 : Int32)), .int (its + ((10 : Int32) * (lowF (x >>> ((3 : Int32) &&& 31)) (if odd = true then (12 : Int32) else (10 : Int32))))), .ref (ad 0)]) (kx_cs (As := [.int (x >>> ((2 : Int32) &&& 31))]) (rest := [.int (lowF (x >>> ((5 : Int32) &&& 31)) (4 : Int32)), .int (its + ((10 : Int32) * (lowF (x >>> ((3 : Int32) &&& 31)) (if odd = true then (12 : Int32) else (10 : Int32))))), .ref (ad 0)]) hF hG hw hS hl.1 (c_L_few l hfl D cy base ad n nc g (x >>> ((2 : Int32) &&& 31)) ) gL_act_L_few rfl rfl rfl hd_L_few ⟨Nat.le_of_ble_eq_true rfl, Nat.le_of_ble_eq_true rfl⟩ rfl rfl (Nat.le_of_ble_eq_true rfl) dL_act_331 ⟨Nat.le_of_ble_eq_true rfl, Nat.le_of_ble_eq_true rfl⟩) hS rfl (fun H locs hw hS => ?_)
                exact kx_top (v := (if odd = true then x else (fewF (x >>> ((2 : Int32) &&& 31))))) (by first | (simp only [bq, c_319]; done) | (simp only [bq, c_319]; rfl) | (simp [bq, c_319]; done)) (hj_334_15 _ _ _ hw hS hl)
              · refine lv_iload hx hb dL_act_322 (lv_at hl 1 rfl) ?_
                refine lv_goto (tgt := 334) hx hb dL_act_324 (by decide) ?_
                exact kx_top (v := (if odd = true then x else (fewF (x >>> ((2 : Int32) &&& 31))))) (by first | (simp only [bq, c_319]; done) | (simp only [bq, c_319]; rfl) | (simp [bq, c_319]; done)) (hj_334_15 _ _ _ hw hS hl)
            refine kb_eq (tgt := 303) hx hb dL_act_295 (by decide) (fun c_295 => ?_) (fun c_295 => ?_)
            · refine lv_bipush (v := 10) hx hb dL_act_303 (by decide) ?_
              exact kx_top (v := (if odd = true then (12 : Int32) else (10 : Int32))) (by first | (simp only [bq, c_295]; done) | (simp only [bq, c_295]; rfl) | (simp [bq, c_295]; done)) (hj_305_14 _ _ _ hw hS hl)
            · refine lv_bipush (v := 12) hx hb dL_act_298 (by decide) ?_
              refine lv_goto (tgt := 305) hx hb dL_act_300 (by decide) ?_
              exact kx_top (v := (if odd = true then (12 : Int32) else (10 : Int32))) (by first | (simp only [bq, c_295]; done) | (simp only [bq, c_295]; rfl) | (simp [bq, c_295]; done)) (hj_305_14 _ _ _ hw hS hl)
      · refine lv_iload_n hx hb dL_act_73 rfl (lv_at hl 2 rfl) ?_
        refine lv_iconst (v := 3) hx hb dL_act_74 (by decide) ?_
        refine lv_icmp_ge (tgt := 112) hx hb dL_act_75 (by decide) (fun c_75 => ?_) (fun c_75 => ?_)
        · refine lv_iload_n hx hb dL_act_112 rfl (lv_at hl 2 rfl) ?_
          refine lv_iconst (v := 3) hx hb dL_act_113 (by decide) ?_
          refine lv_icmp_ne (tgt := 142) hx hb dL_act_114 (by decide) (fun c_114 => ?_) (fun c_114 => ?_)
          · refine lv_iload_n hx hb dL_act_142 rfl (lv_at hl 2 rfl) ?_
            refine lv_iconst (v := 4) hx hb dL_act_143 (by decide) ?_
            refine lv_icmp_ne (tgt := 199) hx hb dL_act_144 (by decide) (fun c_144 => ?_) (fun c_144 => ?_)
            · refine lv_iload_n hx hb dL_act_199 rfl (lv_at hl 2 rfl) ?_
              refine lv_iconst (v := 5) hx hb dL_act_200 (by decide) ?_
              refine lv_icmp_ne (tgt := 237) hx hb dL_act_201 (by decide) (fun c_201 => ?_) (fun c_201 => ?_)
              · refine lv_aload_n hx hb dL_act_237 rfl (lv_at hl 4 rfl) ?_
                refine lv_iconst (v := 4) hx hb dL_act_238 (by decide) ?_
                refine lv_iload_n hx hb dL_act_239 rfl (lv_at hl 3 rfl) ?_
                have hj_249_17 : ∀ (H : Heap) (locs : List Loc) (ls : Array Slot), kW D cy base ad n nc g H → va_S (kA base) s.heap H locs → lv_has ls 8 [(5, .int its), (4, .int x), (3, .int how), (2, .int (b2 odd)), (0, .ref (ad 0)), (1, .int v1)] → W p l e (kR 10 12 100) s m args below meth c H locs 0 0 Q (F0 m 249 ls [.int (if odd = true then (0 : Int32) else (30 : Int32)), .int (4 : Int32), .ref (ad 0)]) := by
                  intro H locs ls hw hS hl
                  refine lv_iload hx hb dL_act_249 (lv_at hl 1 rfl) ?_
                  refine lv_iload_n hx hb dL_act_251 rfl (lv_at hl 3 rfl) ?_
                  have hj_263_18 : ∀ (H : Heap) (locs : List Loc) (ls : Array Slot), kW D cy base ad n nc g H → va_S (kA base) s.heap H locs → lv_has ls 8 [(5, .int its), (4, .int x), (3, .int how), (2, .int (b2 odd)), (0, .ref (ad 0)), (1, .int v1)] → W p l e (kR 10 12 100) s m args below meth c H locs 0 0 Q (F0 m 263 ls [.int (if odd = true then (300 : Int32) else (60 : Int32)), .int x, .int (if odd = true then (0 : Int32) else (30 : Int32)), .int (4 : Int32), .ref (ad 0)]) := by
                    intro H locs ls hw hS hl
                    refine kx_do0 (st1 := [.int (lowF x (if odd = true then (300 : Int32) else (60 : Int32))), .int (if odd = true then (0 : Int32) else (30 : Int32)), .int (4 : Int32), .ref (ad 0)]) (kx_cs (As := [.int x, .int (if odd = true then (300 : Int32) else (60 : Int32))]) (rest := [.int (if odd = true then (0 : Int32) else (30 : Int32)), .int (4 : Int32), .ref (ad 0)]) hF hG hw hS hl.1 (c_L_low l hfl D cy base ad n nc g x (if odd = true then (300 : Int32) else (60 : Int32)) (by first | decide +kernel | (cases odd <;> decide +kernel) | (split <;> decide +kernel))) gL_act_L_low rfl rfl rfl hd_L_low ⟨Nat.le_of_ble_eq_true rfl, Nat.le_of_ble_eq_true rfl⟩ rfl rfl (Nat.le_of_ble_eq_true rfl) dL_act_263 ⟨Nat.le_of_ble_eq_true rfl, Nat.le_of_ble_eq_true rfl⟩) hS rfl (fun H locs hw hS => ?_)
                    refine lv_iadd hx hb dL_act_266 ?_
                    refine lv_iconst (v := 0) hx hb dL_act_267 (by decide) ?_
                    refine lv_iconst (v := 0) hx hb dL_act_268 (by decide) ?_
                    refine kx_do (st1 := [.int ((dF_4 n nc g ((if odd = true then (0 : Int32) else (30 : Int32)) + (lowF x (if odd = true then (300 : Int32) else (60 : Int32))))).1)]) (kx_csH (As := [.ref (ad 0), .int (4 : Int32), .int ((if odd = true then (0 : Int32) else (30 : Int32)) + (lowF x (if odd = true then (300 : Int32) else (60 : Int32)))), .int (0 : Int32), .int (0 : Int32)]) (rest := []) hF hG hw hS hl.1 (c_L_does_4 l hfl D cy base ad n nc g ((if odd = true then (0 : Int32) else (30 : Int32)) + (lowF x (if odd = true then (300 : Int32) else (60 : Int32)))) (0 : Int32) (0 : Int32) ) gL_act_L_does rfl rfl rfl hd_L_does ⟨Nat.le_of_ble_eq_true rfl, Nat.le_of_ble_eq_true rfl⟩ rfl rfl (Nat.le_of_ble_eq_true rfl) dL_act_269 ⟨Nat.le_of_ble_eq_true rfl, Nat.le_of_ble_eq_true rfl⟩) hS rfl (fun _ _ _ _ _ h => h.elim) (fun _ H locs hw hS => ?_)
                    exact kx_retI hQ hx hb hr hlk hw hS (Nat.le_of_ble_eq_true rfl) (Nat.le_of_ble_eq_true rfl) dL_act_272 (kLP_mk (e_A.trans (by simp only [actG, decide_eq_false c_70, if_neg c_70, decide_eq_true c_75, if_pos c_75, decide_eq_false c_114, if_neg c_114, decide_eq_false c_144, if_neg c_144, decide_eq_false c_201, if_neg c_201]; rfl)) rfl)
                  refine kb_eq (tgt := 261) hx hb dL_act_252 (by decide) (fun c_252 => ?_) (fun c_252 => ?_)
                  · refine lv_bipush (v := 60) hx hb dL_act_261 (by decide) ?_
                    exact kx_top (v := (if odd = true then (300 : Int32) else (60 : Int32))) (by first | (simp only [bq, c_252]; done) | (simp only [bq, c_252]; rfl) | (simp [bq, c_252]; done)) (hj_263_18 _ _ _ hw hS hl)
                  · refine lv_sipush (v := 300) hx hb dL_act_255 (by decide) ?_
                    refine lv_goto (tgt := 263) hx hb dL_act_258 (by decide) ?_
                    exact kx_top (v := (if odd = true then (300 : Int32) else (60 : Int32))) (by first | (simp only [bq, c_252]; done) | (simp only [bq, c_252]; rfl) | (simp [bq, c_252]; done)) (hj_263_18 _ _ _ hw hS hl)
                refine kb_eq (tgt := 247) hx hb dL_act_240 (by decide) (fun c_240 => ?_) (fun c_240 => ?_)
                · refine lv_bipush (v := 30) hx hb dL_act_247 (by decide) ?_
                  exact kx_top (v := (if odd = true then (0 : Int32) else (30 : Int32))) (by first | (simp only [bq, c_240]; done) | (simp only [bq, c_240]; rfl) | (simp [bq, c_240]; done)) (hj_249_17 _ _ _ hw hS hl)
                · refine lv_iconst (v := 0) hx hb dL_act_243 (by decide) ?_
                  refine lv_goto (tgt := 249) hx hb dL_act_244 (by decide) ?_
                  exact kx_top (v := (if odd = true then (0 : Int32) else (30 : Int32))) (by first | (simp only [bq, c_240]; done) | (simp only [bq, c_240]; rfl) | (simp [bq, c_240]; done)) (hj_249_17 _ _ _ hw hS hl)
              · refine lv_aload_n hx hb dL_act_204 rfl (lv_at hl 4 rfl) ?_
                refine lv_iconst (v := 3) hx hb dL_act_205 (by decide) ?_
                refine lv_iload hx hb dL_act_206 (lv_at hl 1 rfl) ?_
                refine lv_iload_n hx hb dL_act_208 rfl (lv_at hl 3 rfl) ?_
                have hj_218_19 : ∀ (H : Heap) (locs : List Loc) (ls : Array Slot), kW D cy base ad n nc g H → va_S (kA base) s.heap H locs → lv_has ls 8 [(5, .int its), (4, .int x), (3, .int how), (2, .int (b2 odd)), (0, .ref (ad 0)), (1, .int v1)] → W p l e (kR 10 12 100) s m args below meth c H locs 0 0 Q (F0 m 218 ls [.int (if odd = true then (6 : Int32) else (4 : Int32)), .int x, .int (3 : Int32), .ref (ad 0)]) := by
                  intro H locs ls hw hS hl
                  refine kx_do0 (st1 := [.int (lowF x (if odd = true then (6 : Int32) else (4 : Int32))), .int (3 : Int32), .ref (ad 0)]) (kx_cs (As := [.int x, .int (if odd = true then (6 : Int32) else (4 : Int32))]) (rest := [.int (3 : Int32), .ref (ad 0)]) hF hG hw hS hl.1 (c_L_low l hfl D cy base ad n nc g x (if odd = true then (6 : Int32) else (4 : Int32)) (by first | decide +kernel | (cases odd <;> decide +kernel) | (split <;> decide +kernel))) gL_act_L_low rfl rfl rfl hd_L_low ⟨Nat.le_of_ble_eq_true rfl, Nat.le_of_ble_eq_true rfl⟩ rfl rfl (Nat.le_of_ble_eq_true rfl) dL_act_218 ⟨Nat.le_of_ble_eq_true rfl, Nat.le_of_ble_eq_true rfl⟩) hS rfl (fun H locs hw hS => ?_)
                  refine lv_iload hx hb dL_act_221 (lv_at hl 1 rfl) ?_
                  refine lv_iconst (v := 2) hx hb dL_act_223 (by decide) ?_
                  refine lv_ishr hx hb dL_act_224 ?_
                  refine lv_bipush (v := 6) hx hb dL_act_225 (by decide) ?_
                  refine kx_do0 (st1 := [.int (lowF (x >>> ((2 : Int32) &&& 31)) (6 : Int32)), .int (lowF x (if odd = true then (6 : Int32) else (4 : Int32))), .int (3 : Int32), .ref (ad 0)]) (kx_cs (As := [.int (x >>> ((2 : Int32) &&& 31)), .int (6 : Int32)]) (rest := [.int (lowF x (if odd = true then (6 : Int32) else (4 : Int32))), .int (3 : Int32), .ref (ad 0)]) hF hG hw hS hl.1 (c_L_low l hfl D cy base ad n nc g (x >>> ((2 : Int32) &&& 31)) (6 : Int32) (by first | decide +kernel | (cases odd <;> decide +kernel) | (split <;> decide +kernel))) gL_act_L_low rfl rfl rfl hd_L_low ⟨Nat.le_of_ble_eq_true rfl, Nat.le_of_ble_eq_true rfl⟩ rfl rfl (Nat.le_of_ble_eq_true rfl) dL_act_227 ⟨Nat.le_of_ble_eq_true rfl, Nat.le_of_ble_eq_true rfl⟩) hS rfl (fun H locs hw hS => ?_)
                  refine lv_iconst (v := 0) hx hb dL_act_230 (by decide) ?_
                  refine kx_do (st1 := [.int ((dF_3 n nc g (lowF x (if odd = true then (6 : Int32) else (4 : Int32))) (lowF (x >>> ((2 : Int32) &&& 31)) (6 : Int32))).1)]) (kx_csH (As := [.ref (ad 0), .int (3 : Int32), .int (lowF x (if odd = true then (6 : Int32) else (4 : Int32))), .int (lowF (x >>> ((2 : Int32) &&& 31)) (6 : Int32)), .int (0 : Int32)]) (rest := []) hF hG hw hS hl.1 (c_L_does_3 l hfl D cy base ad n nc g (lowF x (if odd = true then (6 : Int32) else (4 : Int32))) (lowF (x >>> ((2 : Int32) &&& 31)) (6 : Int32)) (0 : Int32) (by first | assumption | omega | exact mR_9 (by assumption) _ _ | simp [sU, hI])) gL_act_L_does rfl rfl rfl hd_L_does ⟨Nat.le_of_ble_eq_true rfl, Nat.le_of_ble_eq_true rfl⟩ rfl rfl (Nat.le_of_ble_eq_true rfl) dL_act_231 ⟨Nat.le_of_ble_eq_true rfl, Nat.le_of_ble_eq_true rfl⟩) hS rfl (fun _ _ _ _ _ h => h.elim) (fun _ H locs hw hS => ?_)
                  refine lv_goto (tgt := 272) hx hb dL_act_234 (by decide) ?_
                  exact kx_retI hQ hx hb hr hlk hw hS (Nat.le_of_ble_eq_true rfl) (Nat.le_of_ble_eq_true rfl) dL_act_272 (kLP_mk (e_A.trans (by simp only [actG, decide_eq_false c_70, if_neg c_70, decide_eq_true c_75, if_pos c_75, decide_eq_false c_114, if_neg c_114, decide_eq_false c_144, if_neg c_144, decide_eq_true c_201, if_pos c_201]; rfl)) rfl)
                refine kb_eq (tgt := 217) hx hb dL_act_209 (by decide) (fun c_209 => ?_) (fun c_209 => ?_)
                · refine lv_iconst (v := 4) hx hb dL_act_217 (by decide) ?_
                  exact kx_top (v := (if odd = true then (6 : Int32) else (4 : Int32))) (by first | (simp only [bq, c_209]; done) | (simp only [bq, c_209]; rfl) | (simp [bq, c_209]; done)) (hj_218_19 _ _ _ hw hS hl)
                · refine lv_bipush (v := 6) hx hb dL_act_212 (by decide) ?_
                  refine lv_goto (tgt := 218) hx hb dL_act_214 (by decide) ?_
                  exact kx_top (v := (if odd = true then (6 : Int32) else (4 : Int32))) (by first | (simp only [bq, c_209]; done) | (simp only [bq, c_209]; rfl) | (simp [bq, c_209]; done)) (hj_218_19 _ _ _ hw hS hl)
            · refine lv_aload_n hx hb dL_act_147 rfl (lv_at hl 4 rfl) ?_
              refine lv_iconst (v := 2) hx hb dL_act_148 (by decide) ?_
              refine lv_iload hx hb dL_act_149 (lv_at hl 1 rfl) ?_
              refine lv_bipush (v := 8) hx hb dL_act_151 (by decide) ?_
              refine kx_do0 (st1 := [.int (lowF x (8 : Int32)), .int (2 : Int32), .ref (ad 0)]) (kx_cs (As := [.int x, .int (8 : Int32)]) (rest := [.int (2 : Int32), .ref (ad 0)]) hF hG hw hS hl.1 (c_L_low l hfl D cy base ad n nc g x (8 : Int32) (by first | decide +kernel | (cases odd <;> decide +kernel) | (split <;> decide +kernel))) gL_act_L_low rfl rfl rfl hd_L_low ⟨Nat.le_of_ble_eq_true rfl, Nat.le_of_ble_eq_true rfl⟩ rfl rfl (Nat.le_of_ble_eq_true rfl) dL_act_153 ⟨Nat.le_of_ble_eq_true rfl, Nat.le_of_ble_eq_true rfl⟩) hS rfl (fun H locs hw hS => ?_)
              refine lv_iload_n hx hb dL_act_156 rfl (lv_at hl 3 rfl) ?_
              have hj_165_20 : ∀ (H : Heap) (locs : List Loc) (ls : Array Slot), kW D cy base ad n nc g H → va_S (kA base) s.heap H locs → lv_has ls 8 [(5, .int its), (4, .int x), (3, .int how), (2, .int (b2 odd)), (0, .ref (ad 0)), (1, .int v1)] → W p l e (kR 10 12 100) s m args below meth c H locs 0 0 Q (F0 m 165 ls [.int (b2 (!odd)), .int (lowF x (8 : Int32)), .int (2 : Int32), .ref (ad 0)]) := by
                intro H locs ls hw hS hl
                refine lv_iload hx hb dL_act_165 (lv_at hl 1 rfl) ?_
                refine lv_iconst (v := 3) hx hb dL_act_167 (by decide) ?_
                refine lv_ishr hx hb dL_act_168 ?_
                refine lv_bipush (v := 60) hx hb dL_act_169 (by decide) ?_
                refine kx_do0 (st1 := [.int (lowF (x >>> ((3 : Int32) &&& 31)) (60 : Int32)), .int (b2 (!odd)), .int (lowF x (8 : Int32)), .int (2 : Int32), .ref (ad 0)]) (kx_cs (As := [.int (x >>> ((3 : Int32) &&& 31)), .int (60 : Int32)]) (rest := [.int (b2 (!odd)), .int (lowF x (8 : Int32)), .int (2 : Int32), .ref (ad 0)]) hF hG hw hS hl.1 (c_L_low l hfl D cy base ad n nc g (x >>> ((3 : Int32) &&& 31)) (60 : Int32) (by first | decide +kernel | (cases odd <;> decide +kernel) | (split <;> decide +kernel))) gL_act_L_low rfl rfl rfl hd_L_low ⟨Nat.le_of_ble_eq_true rfl, Nat.le_of_ble_eq_true rfl⟩ rfl rfl (Nat.le_of_ble_eq_true rfl) dL_act_171 ⟨Nat.le_of_ble_eq_true rfl, Nat.le_of_ble_eq_true rfl⟩) hS rfl (fun H locs hw hS => ?_)
                refine lv_iadd hx hb dL_act_174 ?_
                refine lv_iload hx hb dL_act_175 (lv_at hl 1 rfl) ?_
                refine lv_iconst (v := 5) hx hb dL_act_177 (by decide) ?_
                refine lv_ishr hx hb dL_act_178 ?_
                refine lv_iload_n hx hb dL_act_179 rfl (lv_at hl 3 rfl) ?_
                have hj_190_21 : ∀ (H : Heap) (locs : List Loc) (ls : Array Slot), kW D cy base ad n nc g H → va_S (kA base) s.heap H locs → lv_has ls 8 [(5, .int its), (4, .int x), (3, .int how), (2, .int (b2 odd)), (0, .ref (ad 0)), (1, .int v1)] → W p l e (kR 10 12 100) s m args below meth c H locs 0 0 Q (F0 m 190 ls [.int (if odd = true then (60 : Int32) else (51 : Int32)), .int (x >>> ((5 : Int32) &&& 31)), .int ((b2 (!odd)) + (lowF (x >>> ((3 : Int32) &&& 31)) (60 : Int32))), .int (lowF x (8 : Int32)), .int (2 : Int32), .ref (ad 0)]) := by
                  intro H locs ls hw hS hl
                  refine kx_do0 (st1 := [.int (lowF (x >>> ((5 : Int32) &&& 31)) (if odd = true then (60 : Int32) else (51 : Int32))), .int ((b2 (!odd)) + (lowF (x >>> ((3 : Int32) &&& 31)) (60 : Int32))), .int (lowF x (8 : Int32)), .int (2 : Int32), .ref (ad 0)]) (kx_cs (As := [.int (x >>> ((5 : Int32) &&& 31)), .int (if odd = true then (60 : Int32) else (51 : Int32))]) (rest := [.int ((b2 (!odd)) + (lowF (x >>> ((3 : Int32) &&& 31)) (60 : Int32))), .int (lowF x (8 : Int32)), .int (2 : Int32), .ref (ad 0)]) hF hG hw hS hl.1 (c_L_low l hfl D cy base ad n nc g (x >>> ((5 : Int32) &&& 31)) (if odd = true then (60 : Int32) else (51 : Int32)) (by first | decide +kernel | (cases odd <;> decide +kernel) | (split <;> decide +kernel))) gL_act_L_low rfl rfl rfl hd_L_low ⟨Nat.le_of_ble_eq_true rfl, Nat.le_of_ble_eq_true rfl⟩ rfl rfl (Nat.le_of_ble_eq_true rfl) dL_act_190 ⟨Nat.le_of_ble_eq_true rfl, Nat.le_of_ble_eq_true rfl⟩) hS rfl (fun H locs hw hS => ?_)
                  refine kx_do (st1 := [.int ((dF_2 n nc g (lowF x (8 : Int32)) ((b2 (!odd)) + (lowF (x >>> ((3 : Int32) &&& 31)) (60 : Int32))) (lowF (x >>> ((5 : Int32) &&& 31)) (if odd = true then (60 : Int32) else (51 : Int32)))).1)]) (kx_csH (As := [.ref (ad 0), .int (2 : Int32), .int (lowF x (8 : Int32)), .int ((b2 (!odd)) + (lowF (x >>> ((3 : Int32) &&& 31)) (60 : Int32))), .int (lowF (x >>> ((5 : Int32) &&& 31)) (if odd = true then (60 : Int32) else (51 : Int32)))]) (rest := []) hF hG hw hS hl.1 (c_L_does_2 l hfl D cy base ad n nc g (lowF x (8 : Int32)) ((b2 (!odd)) + (lowF (x >>> ((3 : Int32) &&& 31)) (60 : Int32))) (lowF (x >>> ((5 : Int32) &&& 31)) (if odd = true then (60 : Int32) else (51 : Int32))) ) gL_act_L_does rfl rfl rfl hd_L_does ⟨Nat.le_of_ble_eq_true rfl, Nat.le_of_ble_eq_true rfl⟩ rfl rfl (Nat.le_of_ble_eq_true rfl) dL_act_193 ⟨Nat.le_of_ble_eq_true rfl, Nat.le_of_ble_eq_true rfl⟩) hS rfl (fun _ _ _ _ _ h => h.elim) (fun _ H locs hw hS => ?_)
                  refine lv_goto (tgt := 272) hx hb dL_act_196 (by decide) ?_
                  exact kx_retI hQ hx hb hr hlk hw hS (Nat.le_of_ble_eq_true rfl) (Nat.le_of_ble_eq_true rfl) dL_act_272 (kLP_mk (e_A.trans (by simp only [actG, decide_eq_false c_70, if_neg c_70, decide_eq_true c_75, if_pos c_75, decide_eq_false c_114, if_neg c_114, decide_eq_true c_144, if_pos c_144]; rfl)) rfl)
                refine kb_eq (tgt := 188) hx hb dL_act_180 (by decide) (fun c_180 => ?_) (fun c_180 => ?_)
                · refine lv_bipush (v := 51) hx hb dL_act_188 (by decide) ?_
                  exact kx_top (v := (if odd = true then (60 : Int32) else (51 : Int32))) (by first | (simp only [bq, c_180]; done) | (simp only [bq, c_180]; rfl) | (simp [bq, c_180]; done)) (hj_190_21 _ _ _ hw hS hl)
                · refine lv_bipush (v := 60) hx hb dL_act_183 (by decide) ?_
                  refine lv_goto (tgt := 190) hx hb dL_act_185 (by decide) ?_
                  exact kx_top (v := (if odd = true then (60 : Int32) else (51 : Int32))) (by first | (simp only [bq, c_180]; done) | (simp only [bq, c_180]; rfl) | (simp [bq, c_180]; done)) (hj_190_21 _ _ _ hw hS hl)
              refine kb_eq (tgt := 164) hx hb dL_act_157 (by decide) (fun c_157 => ?_) (fun c_157 => ?_)
              · refine lv_iconst (v := 1) hx hb dL_act_164 (by decide) ?_
                exact kx_top (v := (b2 (!odd))) (by first | (simp only [bq, c_157]; done) | (simp only [bq, c_157]; rfl) | (simp [bq, c_157]; done)) (hj_165_20 _ _ _ hw hS hl)
              · refine lv_iconst (v := 0) hx hb dL_act_160 (by decide) ?_
                refine lv_goto (tgt := 165) hx hb dL_act_161 (by decide) ?_
                exact kx_top (v := (b2 (!odd))) (by first | (simp only [bq, c_157]; done) | (simp only [bq, c_157]; rfl) | (simp [bq, c_157]; done)) (hj_165_20 _ _ _ hw hS hl)
          · refine lv_aload_n hx hb dL_act_117 rfl (lv_at hl 4 rfl) ?_
            refine lv_iconst (v := 1) hx hb dL_act_118 (by decide) ?_
            refine lv_iload hx hb dL_act_119 (lv_at hl 1 rfl) ?_
            refine lv_bipush (v := 8) hx hb dL_act_121 (by decide) ?_
            refine kx_do0 (st1 := [.int (lowF x (8 : Int32)), .int (1 : Int32), .ref (ad 0)]) (kx_cs (As := [.int x, .int (8 : Int32)]) (rest := [.int (1 : Int32), .ref (ad 0)]) hF hG hw hS hl.1 (c_L_low l hfl D cy base ad n nc g x (8 : Int32) (by first | decide +kernel | (cases odd <;> decide +kernel) | (split <;> decide +kernel))) gL_act_L_low rfl rfl rfl hd_L_low ⟨Nat.le_of_ble_eq_true rfl, Nat.le_of_ble_eq_true rfl⟩ rfl rfl (Nat.le_of_ble_eq_true rfl) dL_act_123 ⟨Nat.le_of_ble_eq_true rfl, Nat.le_of_ble_eq_true rfl⟩) hS rfl (fun H locs hw hS => ?_)
            refine lv_iload hx hb dL_act_126 (lv_at hl 1 rfl) ?_
            refine lv_iconst (v := 3) hx hb dL_act_128 (by decide) ?_
            refine lv_ishr hx hb dL_act_129 ?_
            refine lv_bipush (v := 8) hx hb dL_act_130 (by decide) ?_
            refine kx_do0 (st1 := [.int (lowF (x >>> ((3 : Int32) &&& 31)) (8 : Int32)), .int (lowF x (8 : Int32)), .int (1 : Int32), .ref (ad 0)]) (kx_cs (As := [.int (x >>> ((3 : Int32) &&& 31)), .int (8 : Int32)]) (rest := [.int (lowF x (8 : Int32)), .int (1 : Int32), .ref (ad 0)]) hF hG hw hS hl.1 (c_L_low l hfl D cy base ad n nc g (x >>> ((3 : Int32) &&& 31)) (8 : Int32) (by first | decide +kernel | (cases odd <;> decide +kernel) | (split <;> decide +kernel))) gL_act_L_low rfl rfl rfl hd_L_low ⟨Nat.le_of_ble_eq_true rfl, Nat.le_of_ble_eq_true rfl⟩ rfl rfl (Nat.le_of_ble_eq_true rfl) dL_act_132 ⟨Nat.le_of_ble_eq_true rfl, Nat.le_of_ble_eq_true rfl⟩) hS rfl (fun H locs hw hS => ?_)
            refine lv_iconst (v := 0) hx hb dL_act_135 (by decide) ?_
            refine kx_do (st1 := [.int ((dF_1 n nc g (lowF x (8 : Int32)) (lowF (x >>> ((3 : Int32) &&& 31)) (8 : Int32))).1)]) (kx_csH (As := [.ref (ad 0), .int (1 : Int32), .int (lowF x (8 : Int32)), .int (lowF (x >>> ((3 : Int32) &&& 31)) (8 : Int32)), .int (0 : Int32)]) (rest := []) hF hG hw hS hl.1 (c_L_does_1 l hfl D cy base ad n nc g (lowF x (8 : Int32)) (lowF (x >>> ((3 : Int32) &&& 31)) (8 : Int32)) (0 : Int32) ) gL_act_L_does rfl rfl rfl hd_L_does ⟨Nat.le_of_ble_eq_true rfl, Nat.le_of_ble_eq_true rfl⟩ rfl rfl (Nat.le_of_ble_eq_true rfl) dL_act_136 ⟨Nat.le_of_ble_eq_true rfl, Nat.le_of_ble_eq_true rfl⟩) hS rfl (fun _ _ _ _ _ h => h.elim) (fun _ H locs hw hS => ?_)
            refine lv_goto (tgt := 272) hx hb dL_act_139 (by decide) ?_
            exact kx_retI hQ hx hb hr hlk hw hS (Nat.le_of_ble_eq_true rfl) (Nat.le_of_ble_eq_true rfl) dL_act_272 (kLP_mk (e_A.trans (by simp only [actG, decide_eq_false c_70, if_neg c_70, decide_eq_true c_75, if_pos c_75, decide_eq_true c_114, if_pos c_114]; rfl)) rfl)
        · refine lv_aload_n hx hb dL_act_78 rfl (lv_at hl 4 rfl) ?_
          refine lv_iconst (v := 0) hx hb dL_act_79 (by decide) ?_
          refine lv_iload hx hb dL_act_80 (lv_at hl 1 rfl) ?_
          refine lv_iload_n hx hb dL_act_82 rfl (lv_at hl 3 rfl) ?_
          have hj_93_22 : ∀ (H : Heap) (locs : List Loc) (ls : Array Slot), kW D cy base ad n nc g H → va_S (kA base) s.heap H locs → lv_has ls 8 [(5, .int its), (4, .int x), (3, .int how), (2, .int (b2 odd)), (0, .ref (ad 0)), (1, .int v1)] → W p l e (kR 10 12 100) s m args below meth c H locs 0 0 Q (F0 m 93 ls [.int (if odd = true then (26 : Int32) else (24 : Int32)), .int x, .int (0 : Int32), .ref (ad 0)]) := by
            intro H locs ls hw hS hl
            refine kx_do0 (st1 := [.int (lowF x (if odd = true then (26 : Int32) else (24 : Int32))), .int (0 : Int32), .ref (ad 0)]) (kx_cs (As := [.int x, .int (if odd = true then (26 : Int32) else (24 : Int32))]) (rest := [.int (0 : Int32), .ref (ad 0)]) hF hG hw hS hl.1 (c_L_low l hfl D cy base ad n nc g x (if odd = true then (26 : Int32) else (24 : Int32)) (by first | decide +kernel | (cases odd <;> decide +kernel) | (split <;> decide +kernel))) gL_act_L_low rfl rfl rfl hd_L_low ⟨Nat.le_of_ble_eq_true rfl, Nat.le_of_ble_eq_true rfl⟩ rfl rfl (Nat.le_of_ble_eq_true rfl) dL_act_93 ⟨Nat.le_of_ble_eq_true rfl, Nat.le_of_ble_eq_true rfl⟩) hS rfl (fun H locs hw hS => ?_)
            refine lv_iload hx hb dL_act_96 (lv_at hl 1 rfl) ?_
            refine lv_iconst (v := 5) hx hb dL_act_98 (by decide) ?_
            refine lv_ishr hx hb dL_act_99 ?_
            refine lv_bipush (v := 24) hx hb dL_act_100 (by decide) ?_
            refine kx_do0 (st1 := [.int (lowF (x >>> ((5 : Int32) &&& 31)) (24 : Int32)), .int (lowF x (if odd = true then (26 : Int32) else (24 : Int32))), .int (0 : Int32), .ref (ad 0)]) (kx_cs (As := [.int (x >>> ((5 : Int32) &&& 31)), .int (24 : Int32)]) (rest := [.int (lowF x (if odd = true then (26 : Int32) else (24 : Int32))), .int (0 : Int32), .ref (ad 0)]) hF hG hw hS hl.1 (c_L_low l hfl D cy base ad n nc g (x >>> ((5 : Int32) &&& 31)) (24 : Int32) (by first | decide +kernel | (cases odd <;> decide +kernel) | (split <;> decide +kernel))) gL_act_L_low rfl rfl rfl hd_L_low ⟨Nat.le_of_ble_eq_true rfl, Nat.le_of_ble_eq_true rfl⟩ rfl rfl (Nat.le_of_ble_eq_true rfl) dL_act_102 ⟨Nat.le_of_ble_eq_true rfl, Nat.le_of_ble_eq_true rfl⟩) hS rfl (fun H locs hw hS => ?_)
            refine lv_iconst (v := 0) hx hb dL_act_105 (by decide) ?_
            refine kx_do (st1 := [.int ((dF_0 n nc g (lowF x (if odd = true then (26 : Int32) else (24 : Int32))) (lowF (x >>> ((5 : Int32) &&& 31)) (24 : Int32))).1)]) (kx_csH (As := [.ref (ad 0), .int (0 : Int32), .int (lowF x (if odd = true then (26 : Int32) else (24 : Int32))), .int (lowF (x >>> ((5 : Int32) &&& 31)) (24 : Int32)), .int (0 : Int32)]) (rest := []) hF hG hw hS hl.1 (c_L_does_0 l hfl D cy base ad n nc g (lowF x (if odd = true then (26 : Int32) else (24 : Int32))) (lowF (x >>> ((5 : Int32) &&& 31)) (24 : Int32)) (0 : Int32) ) gL_act_L_does rfl rfl rfl hd_L_does ⟨Nat.le_of_ble_eq_true rfl, Nat.le_of_ble_eq_true rfl⟩ rfl rfl (Nat.le_of_ble_eq_true rfl) dL_act_106 ⟨Nat.le_of_ble_eq_true rfl, Nat.le_of_ble_eq_true rfl⟩) hS rfl (fun _ _ _ _ _ h => h.elim) (fun _ H locs hw hS => ?_)
            refine lv_goto (tgt := 272) hx hb dL_act_109 (by decide) ?_
            exact kx_retI hQ hx hb hr hlk hw hS (Nat.le_of_ble_eq_true rfl) (Nat.le_of_ble_eq_true rfl) dL_act_272 (kLP_mk (e_A.trans (by simp only [actG, decide_eq_false c_70, if_neg c_70, decide_eq_false c_75, if_neg c_75]; rfl)) rfl)
          refine kb_eq (tgt := 91) hx hb dL_act_83 (by decide) (fun c_83 => ?_) (fun c_83 => ?_)
          · refine lv_bipush (v := 24) hx hb dL_act_91 (by decide) ?_
            exact kx_top (v := (if odd = true then (26 : Int32) else (24 : Int32))) (by first | (simp only [bq, c_83]; done) | (simp only [bq, c_83]; rfl) | (simp [bq, c_83]; done)) (hj_93_22 _ _ _ hw hS hl)
          · refine lv_bipush (v := 26) hx hb dL_act_86 (by decide) ?_
            refine lv_goto (tgt := 93) hx hb dL_act_88 (by decide) ?_
            exact kx_top (v := (if odd = true then (26 : Int32) else (24 : Int32))) (by first | (simp only [bq, c_83]; done) | (simp only [bq, c_83]; rfl) | (simp [bq, c_83]; done)) (hj_93_22 _ _ _ hw hS hl)
    refine lv_if_ne (tgt := 59) hx hb dL_act_35 (by decide) (fun c_35 => ?_) (fun c_35 => ?_)
    · refine lv_iload hx hb dL_act_59 (lv_at hl 0 rfl) ?_
      refine lv_iconst (v := 2) hx hb dL_act_61 (by decide) ?_
      refine lv_ishr hx hb dL_act_62 ?_
      refine lv_iconst (v := 1) hx hb dL_act_63 (by decide) ?_
      refine lv_iand hx hb dL_act_64 ?_
      exact kx_top (v := (if ((v1 >>> ((6 : Int32) &&& 31)) &&& (3 : Int32)) = (0 : Int32) then (if (decide (((v1 >>> ((18 : Int32) &&& 31)) &&& (7 : Int32)) = (7 : Int32))) = true then (lowF ((v1 >>> ((6 : Int32) &&& 31)) >>> ((2 : Int32) &&& 31)) (10 : Int32)) else (lowF ((v1 >>> ((6 : Int32) &&& 31)) >>> ((2 : Int32) &&& 31)) (8 : Int32))) else (((v1 >>> ((6 : Int32) &&& 31)) >>> ((2 : Int32) &&& 31)) &&& (1 : Int32)))) (by first | (simp only [bq, decide_eq_false c_35, if_neg c_35]; done) | (simp only [bq, decide_eq_false c_35, if_neg c_35]; rfl) | (simp [bq, decide_eq_false c_35, if_neg c_35]; done) | (simp [bq, decide_eq_false c_35, if_neg c_35]; split <;> rename_i z9 <;> first | rfl | (rw [if_pos z9]; done) | (rw [if_neg z9]; done))) (hj_65_1 _ _ _ hw hS hl)
    · refine lv_iload hx hb dL_act_38 (lv_at hl 0 rfl) ?_
      refine lv_iconst (v := 2) hx hb dL_act_40 (by decide) ?_
      refine lv_ishr hx hb dL_act_41 ?_
      refine lv_iload_n hx hb dL_act_42 rfl (lv_at hl 2 rfl) ?_
      have hj_53_23 : ∀ (H : Heap) (locs : List Loc) (ls : Array Slot), kW D cy base ad n nc g H → va_S (kA base) s.heap H locs → lv_has ls 8 [(4, .int (v1 >>> ((6 : Int32) &&& 31))), (3, .int (lowF v1 (52 : Int32))), (2, .int (b2 (decide (((v1 >>> ((18 : Int32) &&& 31)) &&& (7 : Int32)) = (7 : Int32))))), (0, .ref (ad 0)), (1, .int v1)] → W p l e (kR 10 12 100) s m args below meth c H locs 0 0 Q (F0 m 53 ls [.int (if (decide (((v1 >>> ((18 : Int32) &&& 31)) &&& (7 : Int32)) = (7 : Int32))) = true then (10 : Int32) else (8 : Int32)), .int ((v1 >>> ((6 : Int32) &&& 31)) >>> ((2 : Int32) &&& 31))]) := by
        intro H locs ls hw hS hl
        refine kx_do0 (st1 := [.int (lowF ((v1 >>> ((6 : Int32) &&& 31)) >>> ((2 : Int32) &&& 31)) (if (decide (((v1 >>> ((18 : Int32) &&& 31)) &&& (7 : Int32)) = (7 : Int32))) = true then (10 : Int32) else (8 : Int32)))]) (kx_cs (As := [.int ((v1 >>> ((6 : Int32) &&& 31)) >>> ((2 : Int32) &&& 31)), .int (if (decide (((v1 >>> ((18 : Int32) &&& 31)) &&& (7 : Int32)) = (7 : Int32))) = true then (10 : Int32) else (8 : Int32))]) (rest := []) hF hG hw hS hl.1 (c_L_low l hfl D cy base ad n nc g ((v1 >>> ((6 : Int32) &&& 31)) >>> ((2 : Int32) &&& 31)) (if (decide (((v1 >>> ((18 : Int32) &&& 31)) &&& (7 : Int32)) = (7 : Int32))) = true then (10 : Int32) else (8 : Int32)) (by first | decide +kernel | (cases odd <;> decide +kernel) | (split <;> decide +kernel))) gL_act_L_low rfl rfl rfl hd_L_low ⟨Nat.le_of_ble_eq_true rfl, Nat.le_of_ble_eq_true rfl⟩ rfl rfl (Nat.le_of_ble_eq_true rfl) dL_act_53 ⟨Nat.le_of_ble_eq_true rfl, Nat.le_of_ble_eq_true rfl⟩) hS rfl (fun H locs hw hS => ?_)
        refine lv_goto (tgt := 65) hx hb dL_act_56 (by decide) ?_
        exact kx_top (v := (if ((v1 >>> ((6 : Int32) &&& 31)) &&& (3 : Int32)) = (0 : Int32) then (if (decide (((v1 >>> ((18 : Int32) &&& 31)) &&& (7 : Int32)) = (7 : Int32))) = true then (lowF ((v1 >>> ((6 : Int32) &&& 31)) >>> ((2 : Int32) &&& 31)) (10 : Int32)) else (lowF ((v1 >>> ((6 : Int32) &&& 31)) >>> ((2 : Int32) &&& 31)) (8 : Int32))) else (((v1 >>> ((6 : Int32) &&& 31)) >>> ((2 : Int32) &&& 31)) &&& (1 : Int32)))) (by first | (simp only [bq, decide_eq_true c_35, if_pos c_35]; done) | (simp only [bq, decide_eq_true c_35, if_pos c_35]; rfl) | (simp [bq, decide_eq_true c_35, if_pos c_35]; done) | (simp [bq, decide_eq_true c_35, if_pos c_35]; split <;> rename_i z9 <;> first | rfl | (rw [if_pos z9]; done) | (rw [if_neg z9]; done))) (hj_65_1 _ _ _ hw hS hl)
      refine kb_eq (tgt := 51) hx hb dL_act_43 (by decide) (fun c_43 => ?_) (fun c_43 => ?_)
      · refine lv_bipush (v := 8) hx hb dL_act_51 (by decide) ?_
        exact kx_top (v := (if (decide (((v1 >>> ((18 : Int32) &&& 31)) &&& (7 : Int32)) = (7 : Int32))) = true then (10 : Int32) else (8 : Int32))) (by first | (simp only [bq, c_43]; done) | (simp only [bq, c_43]; rfl) | (simp [bq, c_43]; done)) (hj_53_23 _ _ _ hw hS hl)
      · refine lv_bipush (v := 10) hx hb dL_act_46 (by decide) ?_
        refine lv_goto (tgt := 53) hx hb dL_act_48 (by decide) ?_
        exact kx_top (v := (if (decide (((v1 >>> ((18 : Int32) &&& 31)) &&& (7 : Int32)) = (7 : Int32))) = true then (10 : Int32) else (8 : Int32))) (by first | (simp only [bq, c_43]; done) | (simp only [bq, c_43]; rfl) | (simp [bq, c_43]; done)) (hj_53_23 _ _ _ hw hS hl)
  refine lv_icmp_ne (tgt := 16) hx hb dL_act_9 (by decide) (fun c_9 => ?_) (fun c_9 => ?_)
  · refine lv_iconst (v := 0) hx hb dL_act_16 (by decide) ?_
    exact kx_top (v := (b2 (decide (((v1 >>> ((18 : Int32) &&& 31)) &&& (7 : Int32)) = (7 : Int32))))) (by first | (simp only [bq, decide_eq_false c_9, if_neg c_9]; done) | (simp only [bq, decide_eq_false c_9, if_neg c_9]; rfl) | (simp [bq, decide_eq_false c_9, if_neg c_9]; done)) (hj_17_0 _ _ _ hw hS hl)
  · refine lv_iconst (v := 1) hx hb dL_act_12 (by decide) ?_
    refine lv_goto (tgt := 17) hx hb dL_act_13 (by decide) ?_
    exact kx_top (v := (b2 (decide (((v1 >>> ((18 : Int32) &&& 31)) &&& (7 : Int32)) = (7 : Int32))))) (by first | (simp only [bq, decide_eq_true c_9, if_pos c_9]; done) | (simp only [bq, decide_eq_true c_9, if_pos c_9]; rfl) | (simp [bq, decide_eq_true c_9, if_pos c_9]; done)) (hj_17_0 _ _ _ hw hS hl)
