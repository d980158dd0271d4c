/-! .. of finds and claims -/
theorem isC_lt {n nc : Nat} {g : sg} {y : Int32} (h : kRl n nc g g) (hy : isF nc y = true) : y.toNatClampNeg < nc := isF_lt hy (Nat.le_trans h.c20 (by decide))
theorem op_see {n nc : Nat} {g gB : sg} (h : kRl n nc g g) (x set : Int32) (hB : gB = if kd3 (isF n x) (inn set 0 16777215 && decide ((set &&& g (100 + 3 * x.toNatClampNeg) 3) = 0)) (decide (g (100 + 3 * x.toNatClampNeg) 9 = 0)) = 0 then sU (sU g (100 + 3 * x.toNatClampNeg) 8 (g (100 + 3 * x.toNatClampNeg) 8 ||| set)) 40 0 (bits (g (100 + 3 * x.toNatClampNeg) 8 ||| set)) else g) :
    opR n nc n nc g gB (kd3 (isF n x) (inn set 0 16777215 && decide ((set &&& g (100 + 3 * x.toNatClampNeg) 3) = 0)) (decide (g (100 + 3 * x.toNatClampNeg) 9 = 0))) (bits (g (100 + 3 * x.toNatClampNeg) 8 ||| set)) (kd3 (isF n x) (inn set 0 16777215 && decide ((set &&& gB 63 x.toNatClampNeg) = 0)) (decide (gB 65 x.toNatClampNeg = 0))) (bits (gB 62 x.toNatClampNeg ||| set)) (mk (kd3 (isF n x) (inn set 0 16777215 && decide ((set &&& gB 63 x.toNatClampNeg) = 0)) (decide (gB 65 x.toNatClampNeg = 0))) (sU (sU gB 9 0 0) 62 x.toNatClampNeg (gB 62 x.toNatClampNeg ||| set)) gB) := by
  refine op_mk (fun g' => kd3 (isF n x) (inn set 0 16777215 && decide ((set &&& g' 63 x.toNatClampNeg) = 0)) (decide (g' 65 x.toNatClampNeg = 0))) (fun g' => bits (g' 62 x.toNatClampNeg ||| set)) (fun g' => sU (sU g' 9 0 0) 62 x.toNatClampNeg (g' 62 x.toNatClampNeg ||| set)) h hB (fun g' hr => kd3_cg (fun hx => ?_)) (fun _ => mE.sw (by omega)) (fun c g' hr _ => ?_) (fun _ g' e => e.t.u (by rw [e 62 (by omega) (by omega) (by omega)])) (fun _ g' => ((cX.rf g').m (by omega)).m (by omega)) (fun _ => ?_) (fun c => ?_)
  · have hi := isF_lt hx h.n30
    rw [hr.F hi 3 63 (by decide) rfl (by decide), hr.F hi 9 65 (by decide) rfl (by decide)]
    exact ⟨rfl, rfl⟩
  · have hi := isF_lt (kd3_0.mp c).1 h.n30
    show bits (g' 62 x.toNatClampNeg ||| set) = _
    rw [hr.F hi 8 62 (by decide) rfl (by decide)]
  · show sU (sU g 9 0 0) 62 _ _ 9 0 = 0
    rw [sU_ne (by omega), sU_s]
  · obtain ⟨c1, c2, c3⟩ := kd3_0.mp c
    have hi := isF_lt c1 h.n30
    have hb := inn_sB (and_l c2)
    have e8 := h.F hi 8 62 (by decide) rfl (by decide)
    have hw := (h.W _ hi).2.2.2.1
    obtain ⟨hN, hS, hV, hF, hR, hH, hW, hC, hY, hZ⟩ := id h
    have n30 := h.n30
    exact ⟨((hN.c (by omega)).m (by omega)).m (by omega), ((hS.c (by omega)).m (by omega)).m (by omega), (hV.m (by omega)).m (by omega), (hF.m (by omega)).p _ 8 rfl (by decide) (by decide) (by rw [e8]), ((hR.c n30 (by omega)).m (by omega)).m (by omega), ((hH.c n30 (by omega)).m (by omega)).m (by omega), (hW.m (by omega)).w (sB_or hw hb), ((hC.c (by omega)).m (by omega)).m (by omega), (hY.m (by omega)).m (by omega), (hZ.m (by omega)).m (by omega)⟩
theorem op_send {n nc : Nat} {g gB : sg} (h : kRl n nc g g) (x room : Int32) (hB : gB = if kd2 (isF n x && inn room 0 5) (decide (g (100 + 3 * x.toNatClampNeg) 9 = 0) && !decide (g (100 + 3 * x.toNatClampNeg) 10 = room)) = 0 then sU (sU (sU g (100 + 3 * x.toNatClampNeg) 9 1) (100 + 3 * x.toNatClampNeg) 10 room) 40 0 (g (100 + 3 * x.toNatClampNeg) 10) else g) :
    opR n nc n nc g gB (kd2 (isF n x && inn room 0 5) (decide (g (100 + 3 * x.toNatClampNeg) 9 = 0) && !decide (g (100 + 3 * x.toNatClampNeg) 10 = room))) (g (100 + 3 * x.toNatClampNeg) 10) (kd2 (isF n x && inn room 0 5) (decide (gB 65 x.toNatClampNeg = 0) && !decide (gB 66 x.toNatClampNeg = room))) (gB 66 x.toNatClampNeg) (mk (kd2 (isF n x && inn room 0 5) (decide (gB 65 x.toNatClampNeg = 0) && !decide (gB 66 x.toNatClampNeg = room))) (sU (sU (sU gB 9 0 0) 65 x.toNatClampNeg 1) 67 x.toNatClampNeg room) gB) := by
  have hK : ∀ g', kRl n nc g g' → kd2 (isF n x && inn room 0 5) (decide (g' 65 x.toNatClampNeg = 0) && !decide (g' 66 x.toNatClampNeg = room)) = kd2 (isF n x && inn room 0 5) (decide (g (100 + 3 * x.toNatClampNeg) 9 = 0) && !decide (g (100 + 3 * x.toNatClampNeg) 10 = room)) := by
    intro g' hr
    refine kd2_cg (fun hx => ?_)
    have hi := isF_lt (and_l hx) h.n30
    rw [hr.F hi 9 65 (by decide) rfl (by decide), hr.rm hi]
    by_cases a : g' 65 x.toNatClampNeg = 0
    · rw [if_neg (by rw [a]; decide)]
    · rw [decide_eq_false a, Bool.false_and, Bool.false_and]
  have hst : ∀ g', kRl n nc g g' → kd2 (isF n x && inn room 0 5) (decide (g (100 + 3 * x.toNatClampNeg) 9 = 0) && !decide (g (100 + 3 * x.toNatClampNeg) 10 = room)) = 0 → x.toNatClampNeg < n ∧ g' 65 x.toNatClampNeg = 0 ∧ g (100 + 3 * x.toNatClampNeg) 10 = g' 66 x.toNatClampNeg := by
    intro g' hr c
    obtain ⟨c1, c2⟩ := kd2_0.mp c
    have hi := isF_lt (and_l c1) h.n30
    have a : g' 65 x.toNatClampNeg = 0 := by
      rw [← hr.F hi 9 65 (by decide) rfl (by decide)]
      exact of_decide_eq_true (and_l c2)
    exact ⟨hi, a, by rw [hr.rm hi, if_neg (by rw [a]; decide)]⟩
  refine op_mk (fun g' => kd2 (isF n x && inn room 0 5) (decide (g' 65 x.toNatClampNeg = 0) && !decide (g' 66 x.toNatClampNeg = room))) (fun g' => g' 66 x.toNatClampNeg) (fun g' => sU (sU (sU g' 9 0 0) 65 x.toNatClampNeg 1) 67 x.toNatClampNeg room) h hB hK (fun _ => (mE.sw (by omega)).c (by omega)) (fun c g' hr _ => (hst g' hr c).2.2.symm) (fun _ g' e => (e.t.u rfl).u rfl) (fun _ g' => (((cX.rf g').m (by omega)).m (by omega)).m (by omega)) (fun _ => ?_) (fun c => ?_)
  · show sU (sU (sU g 9 0 0) 65 _ _) 67 _ _ 9 0 = 0
    rw [sU_ne (by omega), sU_ne (by omega), sU_s]
  · obtain ⟨hi, a, a2⟩ := hst g h c
    obtain ⟨hN, hS, hV, hF, hR, hH, hW, hC, hY, hZ⟩ := id h
    have n30 := h.n30
    refine ⟨(((hN.c (by omega)).c (by omega)).m (by omega)).m (by omega) |>.m (by omega), (((hS.c (by omega)).c (by omega)).m (by omega)).m (by omega) |>.m (by omega), ((hV.m (by omega)).m (by omega)).m (by omega), (((hF.m (by omega)).p _ 9 rfl (by decide) (by decide) rfl).c n30 (by omega)).m (by omega), ?_, ((((hH.c n30 (by omega)).c n30 (by omega)).m (by omega)).m (by omega)).m (by omega), ((hW.m (by omega)).s ⟨1, by decide, rfl⟩).m (by omega), ((((hC.c (by omega)).c (by omega)).m (by omega)).m (by omega)).m (by omega), ((hY.m (by omega)).m (by omega)).m (by omega), ((hZ.m (by omega)).m (by omega)).m (by omega)⟩
    intro i hi2
    by_cases e : i = x.toNatClampNeg
    · subst e
      rw [sU_s, sU_ne (by omega), sU_s, if_pos (Or.inl rfl), sU_s]
    · rw [sU_ne (by omega), sU_ne (by omega), sU_ne (by omega), sU_ne (by omega), sU_ne (by omega), sU_ne (by omega), sU_ne (by omega), sU_ne (by omega), sU_ne (by omega), sU_ne (by omega), sU_ne (by omega)]
      exact hR i hi2
theorem op_hold {n nc : Nat} {g gB : sg} (h : kRl n nc g g) (x : Int32) (is : Bool) (hB : gB = if kd2 (isF n x) (cHere g x.toNatClampNeg) = 0 then sU (sU g (100 + 3 * x.toNatClampNeg) 12 (b2 is)) 40 0 (b2 (!decide (g (100 + 3 * x.toNatClampNeg) 12 = 0))) else g) :
    opR n nc n nc g gB (kd2 (isF n x) (cHere g x.toNatClampNeg)) (b2 (!decide (g (100 + 3 * x.toNatClampNeg) 12 = 0))) (kd2 (isF n x) (mHere gB x.toNatClampNeg)) (b2 (!decide (gB 69 x.toNatClampNeg = 0))) (mk (kd2 (isF n x) (mHere gB x.toNatClampNeg)) (sU (sU gB 9 0 0) 69 x.toNatClampNeg (b2 is)) gB) := by
  refine op_mk (fun g' => kd2 (isF n x) (mHere g' x.toNatClampNeg)) (fun g' => b2 (!decide (g' 69 x.toNatClampNeg = 0))) (fun g' => sU (sU g' 9 0 0) 69 x.toNatClampNeg (b2 is)) h hB (fun g' hr => kd2_cg (fun hx => (hr.here (isF_lt hx h.n30)).symm)) (fun _ => mE.sw (by omega)) (fun c g' hr _ => ?_) (fun _ g' e => e.t.u rfl) (fun _ g' => ((cX.rf g').m (by omega)).m (by omega)) (fun _ => ?_) (fun c => ?_)
  · show b2 (!decide (g' 69 x.toNatClampNeg = 0)) = _
    rw [hr.F (isF_lt (kd2_0.mp c).1 h.n30) 12 69 (by decide) rfl (by decide)]
  · show sU (sU g 9 0 0) 69 _ _ 9 0 = 0
    rw [sU_ne (by omega), sU_s]
  · obtain ⟨c1, c2⟩ := kd2_0.mp c
    have hi := isF_lt c1 h.n30
    obtain ⟨hN, hS, hV, hF, hR, hH, hW, hC, hY, hZ⟩ := id h
    have n30 := h.n30
    exact ⟨((hN.c (by omega)).m (by omega)).m (by omega), ((hS.c (by omega)).m (by omega)).m (by omega), (hV.m (by omega)).m (by omega), (hF.m (by omega)).p _ 12 rfl (by decide) (by decide) rfl, ((hR.c n30 (by omega)).m (by omega)).m (by omega), ((hH.c n30 (by omega)).m (by omega)).m (by omega), (hW.m (by omega)).h (by cases is; exact Or.inl rfl; exact Or.inr rfl), ((hC.c (by omega)).m (by omega)).m (by omega), (hY.m (by omega)).m (by omega), (hZ.m (by omega)).m (by omega)⟩
theorem max_sw (a b : Int32) : (if a < b then b else a) = if b ≤ a then a else b := by
  by_cases h : a < b
  · rw [if_pos h, if_neg (Int32.not_le.mpr h)]
  · rw [if_neg h, if_pos (Int32.not_lt.mp h)]
theorem op_extend {n nc : Nat} {g gB : sg} (h : kRl n nc g g) (x many : Int32) (hB : gB = if kd3 (isF n x) (inn many 1 365) (cHere g x.toNatClampNeg && !decide (g (100 + 3 * x.toNatClampNeg) 0 = 7)) = 0 then sU (sU g (100 + 3 * x.toNatClampNeg) 11 (if g (100 + 3 * x.toNatClampNeg) 11 < g 0 10 + many then g 0 10 + many else g (100 + 3 * x.toNatClampNeg) 11)) 40 0 (if g (100 + 3 * x.toNatClampNeg) 11 < g 0 10 + many then g 0 10 + many else g (100 + 3 * x.toNatClampNeg) 11) else g) :
    opR n nc n nc g gB (kd3 (isF n x) (inn many 1 365) (cHere g x.toNatClampNeg && !decide (g (100 + 3 * x.toNatClampNeg) 0 = 7))) (if g (100 + 3 * x.toNatClampNeg) 11 < g 0 10 + many then g 0 10 + many else g (100 + 3 * x.toNatClampNeg) 11) (kd3 (isF n x) (inn many 1 365) (mHere gB x.toNatClampNeg && !decide (gB 59 x.toNatClampNeg = 7))) (if gB 9 1 + many ≤ gB 68 x.toNatClampNeg then gB 68 x.toNatClampNeg else gB 9 1 + many) (mk (kd3 (isF n x) (inn many 1 365) (mHere gB x.toNatClampNeg && !decide (gB 59 x.toNatClampNeg = 7))) (sU (sU gB 9 0 0) 68 x.toNatClampNeg (if gB 9 1 + many ≤ gB 68 x.toNatClampNeg then gB 68 x.toNatClampNeg else gB 9 1 + many)) gB) := by
  have hv : ∀ g', kRl n nc g g' → x.toNatClampNeg < n → (if g' 9 1 + many ≤ g' 68 x.toNatClampNeg then g' 68 x.toNatClampNeg else g' 9 1 + many) = (if g (100 + 3 * x.toNatClampNeg) 11 < g 0 10 + many then g 0 10 + many else g (100 + 3 * x.toNatClampNeg) 11) := by
    intro g' hr hi
    rw [max_sw, hr.F hi 11 68 (by decide) rfl (by decide), hr.day]
  refine op_mk (fun g' => kd3 (isF n x) (inn many 1 365) (mHere g' x.toNatClampNeg && !decide (g' 59 x.toNatClampNeg = 7))) (fun g' => if g' 9 1 + many ≤ g' 68 x.toNatClampNeg then g' 68 x.toNatClampNeg else g' 9 1 + many) (fun g' => sU (sU g' 9 0 0) 68 x.toNatClampNeg (if g' 9 1 + many ≤ g' 68 x.toNatClampNeg then g' 68 x.toNatClampNeg else g' 9 1 + many)) h hB (fun g' hr => kd3_cg (fun hx => ?_)) (fun _ => mE.sw (by omega)) (fun c g' hr _ => hv g' hr (isF_lt (kd3_0.mp c).1 h.n30)) (fun _ g' e => e.t.u (by rw [e 9 (by omega) (by omega) (by omega), e 68 (by omega) (by omega) (by omega)])) (fun _ g' => ((cX.rf g').m (by omega)).m (by omega)) (fun _ => ?_) (fun c => ?_)
  · have hi := isF_lt hx h.n30
    rw [hr.here hi, hr.F hi 0 59 (by decide) rfl (by decide)]
    exact ⟨rfl, rfl⟩
  · show sU (sU g 9 0 0) 68 _ _ 9 0 = 0
    rw [sU_ne (by omega), sU_s]
  · obtain ⟨c1, c2, c3⟩ := kd3_0.mp c
    have hi := isF_lt c1 h.n30
    have e := hv g h hi
    obtain ⟨hN, hS, hV, hF, hR, hH, hW, hC, hY, hZ⟩ := id h
    have n30 := h.n30
    exact ⟨((hN.c (by omega)).m (by omega)).m (by omega), ((hS.c (by omega)).m (by omega)).m (by omega), (hV.m (by omega)).m (by omega), (hF.m (by omega)).p _ 11 rfl (by decide) (by decide) e.symm, ((hR.c n30 (by omega)).m (by omega)).m (by omega), ((hH.c n30 (by omega)).m (by omega)).m (by omega), (hW.m (by omega)).m (by omega), ((hC.c (by omega)).m (by omega)).m (by omega), (hY.m (by omega)).m (by omega), (hZ.m (by omega)).m (by omega)⟩
theorem over_st {g : sg} {nc i : Nat} (h : mOver g nc i = true) : g 65 i = 0 := of_decide_eq_true (and_l (and_l (a := mOv0 g i) h))
theorem op_sell {n nc : Nat} {g gB : sg} (h : kRl n nc g g) (x price : Int32) (hB : gB = if kd3 (isF n x) (inn price 1 9999) (cOver g nc x.toNatClampNeg && !decide (g (100 + 3 * x.toNatClampNeg) 0 = 7)) = 0 then sU (sU (sU (sU (sU g (100 + 3 * x.toNatClampNeg) 9 4) (100 + 3 * x.toNatClampNeg) 13 price) (100 + 3 * x.toNatClampNeg) 14 (g 0 10)) 0 14 (g 0 14 + price)) 40 0 (g 0 14 + price) else g) :
    opR n nc n nc g gB (kd3 (isF n x) (inn price 1 9999) (cOver g nc x.toNatClampNeg && !decide (g (100 + 3 * x.toNatClampNeg) 0 = 7))) (g 0 14 + price) (kd3 (isF n x) (inn price 1 9999) (mOver gB nc x.toNatClampNeg && !decide (gB 59 x.toNatClampNeg = 7))) (gB 9 37 + price) (mk (kd3 (isF n x) (inn price 1 9999) (mOver gB nc x.toNatClampNeg && !decide (gB 59 x.toNatClampNeg = 7))) (sU (sU (sU (sU (sU gB 9 0 0) 65 x.toNatClampNeg 4) 70 x.toNatClampNeg price) 71 x.toNatClampNeg (gB 9 1)) 9 37 (gB 9 37 + price)) gB) := by
  refine op_mk (fun g' => kd3 (isF n x) (inn price 1 9999) (mOver g' nc x.toNatClampNeg && !decide (g' 59 x.toNatClampNeg = 7))) (fun g' => g' 9 37 + price) (fun g' => sU (sU (sU (sU (sU g' 9 0 0) 65 x.toNatClampNeg 4) 70 x.toNatClampNeg price) 71 x.toNatClampNeg (g' 9 1)) 9 37 (g' 9 37 + price)) h hB (fun g' hr => kd3_cg (fun hx => ?_)) (fun _ => (((mE.sw (by omega)).c (by omega)).c (by omega)).c (by omega)) (fun c g' hr _ => ?_) (fun _ g' e => (((e.t.u rfl).u rfl).u (by rw [e 9 (by omega) (by omega) (by omega)])).u (by rw [e 9 (by omega) (by omega) (by omega)])) (fun _ g' => (((((cX.rf g').m (by omega)).m (by omega)).m (by omega)).m (by omega)).m (by omega)) (fun _ => ?_) (fun c => ?_)
  · have hi := isF_lt hx h.n30
    rw [hr.over hi, hr.F hi 0 59 (by decide) rfl (by decide)]
    exact ⟨rfl, rfl⟩
  · show g' 9 37 + price = _
    rw [hr.2.1.2.2.2.2.2.2.2.2.2]
  · show sU (sU (sU (sU (sU g 9 0 0) 65 _ _) 70 _ _) 71 _ _) 9 37 _ 9 0 = 0
    rw [sU_ne (by omega), sU_ne (by omega), sU_ne (by omega), sU_ne (by omega), sU_s]
  · obtain ⟨c1, c2, c3⟩ := kd3_0.mp c
    have hi := isF_lt c1 h.n30
    have h0 : g 65 x.toNatClampNeg = 0 := over_st (nc := nc) (by rw [← h.over hi]; exact and_l c3)
    have e14 : g 0 14 = g 9 37 := h.2.1.2.2.2.2.2.2.2.2.2
    have ed := h.day
    obtain ⟨hN, hS, hV, hF, hR, hH, hW, hC, hY, hZ⟩ := id h
    have n30 := h.n30
    rw [e14, ed]
    exact ⟨((((((((hN.c (by omega)).c (by omega)).c (by omega)).c (by omega)).m (by omega)).m (by omega)).m (by omega)).m (by omega)).m (by omega), ((((((hS.c (by omega)).c (by omega)).c (by omega)).m (by omega)).m (by omega)).m (by omega)).m (by omega) |>.p (by omega), ((((hV.m (by omega)).m (by omega)).m (by omega)).m (by omega)).m (by omega), ((((hF.m (by omega)).p _ 9 rfl (by decide) (by decide) rfl).p _ 13 rfl (by decide) (by decide) rfl).p _ 14 rfl (by decide) (by decide) rfl).c n30 (by omega) |>.m (by omega), ((((((hR.c n30 (by omega)).c n30 (by omega)).c n30 (by omega)).c n30 (by omega)).m (by omega)).st (by rw [sU_ne (by omega), h0]; decide) (by decide)).m (by omega) |>.m (by omega) |>.m (by omega), ((((((((hH.c n30 (by omega)).c n30 (by omega)).c n30 (by omega)).c n30 (by omega)).m (by omega)).m (by omega)).m (by omega)).m (by omega)).m (by omega), ((((hW.m (by omega)).s ⟨4, by decide, rfl⟩).m (by omega)).m (by omega)).m (by omega), ((((((((hC.c (by omega)).c (by omega)).c (by omega)).c (by omega)).m (by omega)).m (by omega)).m (by omega)).m (by omega)).m (by omega), ((((hY.m (by omega)).m (by omega)).m (by omega)).m (by omega)).m (by omega), ((((hZ.m (by omega)).m (by omega)).m (by omega)).m (by omega)).m (by omega)⟩
theorem op_destroy {n nc : Nat} {g gB : sg} (h : kRl n nc g g) (x : Int32) (hB : gB = if kd2 (isF n x) (cOver g nc x.toNatClampNeg) = 0 then sU (sU g (100 + 3 * x.toNatClampNeg) 9 5) 40 0 (g (100 + 3 * x.toNatClampNeg) 10) else g) :
    opR n nc n nc g gB (kd2 (isF n x) (cOver g nc x.toNatClampNeg)) (g (100 + 3 * x.toNatClampNeg) 10) (kd2 (isF n x) (mOver gB nc x.toNatClampNeg)) (gB 66 x.toNatClampNeg) (mk (kd2 (isF n x) (mOver gB nc x.toNatClampNeg)) (sU (sU gB 9 0 0) 65 x.toNatClampNeg 5) gB) := by
  have hst : ∀ g', kRl n nc g g' → kd2 (isF n x) (cOver g nc x.toNatClampNeg) = 0 → x.toNatClampNeg < n ∧ g' 65 x.toNatClampNeg = 0 := by
    intro g' hr c
    have hi := isF_lt (kd2_0.mp c).1 h.n30
    exact ⟨hi, over_st (nc := nc) (by rw [← hr.over hi]; exact (kd2_0.mp c).2)⟩
  refine op_mk (fun g' => kd2 (isF n x) (mOver g' nc x.toNatClampNeg)) (fun g' => g' 66 x.toNatClampNeg) (fun g' => sU (sU g' 9 0 0) 65 x.toNatClampNeg 5) h hB (fun g' hr => kd2_cg (fun hx => (hr.over (isF_lt hx h.n30)).symm)) (fun _ => mE.sw (by omega)) (fun c g' hr _ => ?_) (fun _ g' e => e.t.u rfl) (fun _ g' => ((cX.rf g').m (by omega)).m (by omega)) (fun _ => ?_) (fun c => ?_)
  · obtain ⟨hi, h0⟩ := hst g' hr c
    show g' 66 x.toNatClampNeg = _
    rw [hr.rm hi, if_neg (by rw [h0]; decide)]
  · show sU (sU g 9 0 0) 65 _ _ 9 0 = 0
    rw [sU_ne (by omega), sU_s]
  · obtain ⟨hi, h0⟩ := hst g h c
    obtain ⟨hN, hS, hV, hF, hR, hH, hW, hC, hY, hZ⟩ := id h
    have n30 := h.n30
    exact ⟨((hN.c (by omega)).m (by omega)).m (by omega), ((hS.c (by omega)).m (by omega)).m (by omega), (hV.m (by omega)).m (by omega), (hF.m (by omega)).p _ 9 rfl (by decide) (by decide) rfl, ((hR.c n30 (by omega)).m (by omega)).st (by rw [sU_ne (by omega), h0]; decide) (by decide), ((hH.c n30 (by omega)).m (by omega)).m (by omega), (hW.m (by omega)).s ⟨5, by decide, rfl⟩, ((hC.c (by omega)).m (by omega)).m (by omega), (hY.m (by omega)).m (by omega), (hZ.m (by omega)).m (by omega)⟩
theorem op_say {n nc : Nat} {g gB : sg} (h : kRl n nc g g) (x set : Int32) (hB : gB = if kd3 (isF nc x) (inn set 0 16777215) (decide (g (200 + x.toNatClampNeg) 7 = 0)) = 0 then sU (sU g (200 + x.toNatClampNeg) 5 (g (200 + x.toNatClampNeg) 5 ||| set)) 40 0 (bits (g (200 + x.toNatClampNeg) 5 ||| set)) else g) :
    opR n nc n nc g gB (kd3 (isF nc x) (inn set 0 16777215) (decide (g (200 + x.toNatClampNeg) 7 = 0))) (bits (g (200 + x.toNatClampNeg) 5 ||| set)) (kd3 (isF nc x) (inn set 0 16777215) (decide (gB 82 x.toNatClampNeg = 0))) (bits (gB 80 x.toNatClampNeg ||| set)) (mk (kd3 (isF nc x) (inn set 0 16777215) (decide (gB 82 x.toNatClampNeg = 0))) (sU (sU gB 9 0 0) 80 x.toNatClampNeg (gB 80 x.toNatClampNeg ||| set)) gB) := by
  refine op_mk (fun g' => kd3 (isF nc x) (inn set 0 16777215) (decide (g' 82 x.toNatClampNeg = 0))) (fun g' => bits (g' 80 x.toNatClampNeg ||| set)) (fun g' => sU (sU g' 9 0 0) 80 x.toNatClampNeg (g' 80 x.toNatClampNeg ||| set)) h hB (fun g' hr => kd3_cg (fun hx => ⟨rfl, by rw [hr.C (isC_lt h hx) 7 82 (by decide) rfl (by decide)]⟩)) (fun _ => mE.sw (by omega)) (fun c g' hr _ => ?_) (fun _ g' e => e.t.u (by rw [e 80 (by omega) (by omega) (by omega)])) (fun _ g' => ((cX.rf g').m (by omega)).m (by omega)) (fun _ => ?_) (fun c => ?_)
  · show bits (g' 80 x.toNatClampNeg ||| set) = _
    rw [hr.C (isC_lt h (kd3_0.mp c).1) 5 80 (by decide) rfl (by decide)]
  · show sU (sU g 9 0 0) 80 _ _ 9 0 = 0
    rw [sU_ne (by omega), sU_s]
  · obtain ⟨c1, c2, c3⟩ := kd3_0.mp c
    have hj := isC_lt h c1
    have e5 := h.C hj 5 80 (by decide) rfl (by decide)
    have hw := (h.Y _ hj).2.2.2.1
    obtain ⟨hN, hS, hV, hF, hR, hH, hW, hC, hY, hZ⟩ := id h
    have n30 := h.n30
    exact ⟨((hN.c (by omega)).m (by omega)).m (by omega), ((hS.c (by omega)).m (by omega)).m (by omega), (hV.m (by omega)).m (by omega), ((hF.c n30 (by omega)).m (by omega)).m (by omega), ((hR.c n30 (by omega)).m (by omega)).m (by omega), ((hH.c n30 (by omega)).m (by omega)).m (by omega), (hW.m (by omega)).m (by omega), (hC.m (by omega)).p _ 5 rfl (by decide) (by decide) (by rw [e5]), (hY.m (by omega)).w (sB_or hw (inn_sB c2)), (hZ.m (by omega)).m (by omega)⟩
theorem op_tell {n nc : Nat} {g gB : sg} (h : kRl n nc g g) (x set : Int32) (hB : gB = if kd3 (isF nc x) (inn set 0 16777215) (decide (g (200 + x.toNatClampNeg) 7 = 0)) = 0 then sU (sU (sU g (200 + x.toNatClampNeg) 5 (g (200 + x.toNatClampNeg) 5 ||| set)) (200 + x.toNatClampNeg) 6 (g (200 + x.toNatClampNeg) 6 ||| set)) 40 0 (bits (g (200 + x.toNatClampNeg) 6 ||| set)) else g) :
    opR n nc n nc g gB (kd3 (isF nc x) (inn set 0 16777215) (decide (g (200 + x.toNatClampNeg) 7 = 0))) (bits (g (200 + x.toNatClampNeg) 6 ||| set)) (kd3 (isF nc x) (inn set 0 16777215) (decide (gB 82 x.toNatClampNeg = 0))) (bits (gB 81 x.toNatClampNeg ||| set)) (mk (kd3 (isF nc x) (inn set 0 16777215) (decide (gB 82 x.toNatClampNeg = 0))) (sU (sU (sU gB 9 0 0) 80 x.toNatClampNeg (gB 80 x.toNatClampNeg ||| set)) 81 x.toNatClampNeg (gB 81 x.toNatClampNeg ||| set)) gB) := by
  refine op_mk (fun g' => kd3 (isF nc x) (inn set 0 16777215) (decide (g' 82 x.toNatClampNeg = 0))) (fun g' => bits (g' 81 x.toNatClampNeg ||| set)) (fun g' => sU (sU (sU g' 9 0 0) 80 x.toNatClampNeg (g' 80 x.toNatClampNeg ||| set)) 81 x.toNatClampNeg (g' 81 x.toNatClampNeg ||| set)) h hB (fun g' hr => kd3_cg (fun hx => ⟨rfl, by rw [hr.C (isC_lt h hx) 7 82 (by decide) rfl (by decide)]⟩)) (fun _ => (mE.sw (by omega)).c (by omega)) (fun c g' hr _ => ?_) (fun _ g' e => (e.t.u (by rw [e 80 (by omega) (by omega) (by omega)])).u (by rw [e 81 (by omega) (by omega) (by omega)])) (fun _ g' => (((cX.rf g').m (by omega)).m (by omega)).m (by omega)) (fun _ => ?_) (fun c => ?_)
  · show bits (g' 81 x.toNatClampNeg ||| set) = _
    rw [hr.C (isC_lt h (kd3_0.mp c).1) 6 81 (by decide) rfl (by decide)]
  · show sU (sU (sU g 9 0 0) 80 _ _) 81 _ _ 9 0 = 0
    rw [sU_ne (by omega), sU_ne (by omega), sU_s]
  · obtain ⟨c1, c2, c3⟩ := kd3_0.mp c
    have hj := isC_lt h c1
    have e5 := h.C hj 5 80 (by decide) rfl (by decide)
    have e6 := h.C hj 6 81 (by decide) rfl (by decide)
    have hw := (h.Y _ hj).2.2.2.1
    have ht := (h.Y _ hj).2.2.2.2.1
    obtain ⟨hN, hS, hV, hF, hR, hH, hW, hC, hY, hZ⟩ := id h
    have n30 := h.n30
    exact ⟨((((hN.c (by omega)).c (by omega)).m (by omega)).m (by omega)).m (by omega), ((((hS.c (by omega)).c (by omega)).m (by omega)).m (by omega)).m (by omega), ((hV.m (by omega)).m (by omega)).m (by omega), ((((hF.c n30 (by omega)).c n30 (by omega)).m (by omega)).m (by omega)).m (by omega), ((((hR.c n30 (by omega)).c n30 (by omega)).m (by omega)).m (by omega)).m (by omega), ((((hH.c n30 (by omega)).c n30 (by omega)).m (by omega)).m (by omega)).m (by omega), ((hW.m (by omega)).m (by omega)).m (by omega), ((hC.m (by omega)).p _ 5 rfl (by decide) (by decide) (by rw [e5])).p _ 6 rfl (by decide) (by decide) (by rw [e6]), ((hY.m (by omega)).w (sB_or hw (inn_sB c2))).t (sB_or ht (inn_sB c2)), ((hZ.m (by omega)).m (by omega)).m (by omega)⟩
theorem mEnds_e {m m' : sg} (e : mE m m') (j : Nat) (st fi : Int32) : mE (mEnds m j st fi) (mEnds m' j st fi) := by
  unfold mEnds
  exact ((e.u rfl).u (by rw [e 9 (by omega) (by omega) (by omega)])).u rfl
theorem mEnds_x {c m : sg} (h : cX c m) (j : Nat) (st fi : Int32) : cX c (mEnds m j st fi) := by
  unfold mEnds
  exact ((h.m (by omega)).m (by omega)).m (by omega)
theorem op_withdraw {n nc : Nat} {g gB : sg} (h : kRl n nc g g) (x : Int32) (hB : gB = if kd2 (isF nc x) (decide (g (200 + x.toNatClampNeg) 7 = 0)) = 0 then sU (sU (sU g (200 + x.toNatClampNeg) 7 2) (200 + x.toNatClampNeg) 9 (g 0 10)) 40 0 (g 0 10) else g) :
    opR n nc n nc g gB (kd2 (isF nc x) (decide (g (200 + x.toNatClampNeg) 7 = 0))) (g 0 10) (kd2 (isF nc x) (decide (gB 82 x.toNatClampNeg = 0))) (gB 9 1) (mk (kd2 (isF nc x) (decide (gB 82 x.toNatClampNeg = 0))) (mEnds (sU gB 9 0 0) x.toNatClampNeg 2 (-1)) gB) := by
  refine op_mk (fun g' => kd2 (isF nc x) (decide (g' 82 x.toNatClampNeg = 0))) (fun g' => g' 9 1) (fun g' => mEnds (sU g' 9 0 0) x.toNatClampNeg 2 (-1)) h hB (fun g' hr => kd2_cg (fun hx => by rw [hr.C (isC_lt h hx) 7 82 (by decide) rfl (by decide)])) (fun _ => (mE.sw (by omega)).c (by omega)) (fun c g' hr _ => hr.day.symm) (fun _ g' e => mEnds_e e.t _ _ _) (fun _ g' => mEnds_x ((cX.rf g').m (by omega)) _ _ _) (fun _ => ?_) (fun c => ?_)
  · show mEnds (sU g 9 0 0) _ _ _ 9 0 = 0
    unfold mEnds
    rw [sU_ne (by omega), sU_ne (by omega), sU_ne (by omega), sU_s]
  · obtain ⟨c1, c2⟩ := kd2_0.mp c
    have hj := isC_lt h c1
    have e7 := h.C hj 7 82 (by decide) rfl (by decide)
    have h0 : g 82 x.toNatClampNeg = 0 := by rw [← e7]; exact of_decide_eq_true c2
    have hs := (h.Y _ hj).2.2.2.2.2 h0
    have ed := h.day
    obtain ⟨hN, hS, hV, hF, hR, hH, hW, hC, hY, hZ⟩ := id h
    have n30 := h.n30
    unfold mEnds
    rw [sU_ne (g := g) (k := 9) (j := 0) (k' := 9) (j' := 1) (by omega), ed]
    refine ⟨(((((hN.c (by omega)).c (by omega)).m (by omega)).m (by omega)).m (by omega)).m (by omega), (((((hS.c (by omega)).c (by omega)).m (by omega)).m (by omega)).m (by omega)).m (by omega), (((hV.m (by omega)).m (by omega)).m (by omega)).m (by omega), (((((hF.c n30 (by omega)).c n30 (by omega)).m (by omega)).m (by omega)).m (by omega)).m (by omega), (((((hR.c n30 (by omega)).c n30 (by omega)).m (by omega)).m (by omega)).m (by omega)).m (by omega), (((((hH.c n30 (by omega)).c n30 (by omega)).m (by omega)).m (by omega)).m (by omega)).m (by omega), (((hW.m (by omega)).m (by omega)).m (by omega)).m (by omega), (((hC.m (by omega)).p _ 7 rfl (by decide) (by decide) rfl).p _ 9 rfl (by decide) (by decide) rfl).k ?_, (((hY.m (by omega)).s (by decide)).m (by omega)).f (Or.inr rfl), (((hZ.m (by omega)).m (by omega)).m (by omega)).m (by omega)⟩
    show (-1 : Int32) = sU (sU (sU g 9 0 0) 82 x.toNatClampNeg 2) 83 x.toNatClampNeg (g 9 1) 84 x.toNatClampNeg
    rw [sU_ne (by omega), sU_ne (by omega), sU_ne (by omega), hs]
