/-! .. release, payOut, lose, turnUp, pass -/
theorem srv_open {m : sg} {nc i j : Nat} (h : mServe m nc i j = true) : m 82 j = 0 := of_decide_eq_true (and_l (and_l (a := mCnd m i j) h))
/-- the end of a claim that is SERVED -/
theorem rC.ends {nc : Nat} {c m : sg} (h : rC nc c m) {x : Nat} {st d fi d' : Int32} (hd : d = d') : rC nc (sU (sU (sU c (200 + x) 7 st) (200 + x) 9 d) (200 + x) 8 fi) (sU (sU (sU m 82 x st) 83 x d') 84 x fi) :=
  ((h.p _ 7 rfl (by decide) (by decide) rfl).p _ 9 rfl (by decide) (by decide) hd).p _ 8 rfl (by decide) (by decide) rfl
theorem kRl.rew {n nc : Nat} {c m : sg} (h : kRl n nc c m) {i : Nat} (hi : i < n) : (c (100 + 3 * i) 4 * c 5 (c (100 + 3 * i) 0).toNatClampNeg) / 100 = mRew m i := by
  unfold mRew
  rw [h.F hi 4 64 (by decide) rfl (by decide), h.F hi 0 59 (by decide) rfl (by decide), h.2.1.2.2.2.2.1]
theorem mRew_e {m m' : sg} (e : mE m m') (i : Nat) : mRew m' i = mRew m i := by
  unfold mRew
  rw [e 64 (by omega) (by omega) (by omega), e 55 (by omega) (by omega) (by omega), e 59 (by omega) (by omega) (by omega)]
theorem op_release {n nc : Nat} {g gB : sg} (h : kRl n nc g g) (x y : Int32) (hB : gB = if kd2 (isF n x && isF nc y) (decide (g (100 + 3 * x.toNatClampNeg) 9 = 0) && (decide (g (100 + 3 * x.toNatClampNeg) 12 = 0) && cServe g nc x.toNatClampNeg y.toNatClampNeg)) = 0 then sU (sU (sU (sU (sU (sU (sU g (100 + 3 * x.toNatClampNeg) 9 3) (200 + y.toNatClampNeg) 7 1) (200 + y.toNatClampNeg) 9 (g 0 10)) (200 + y.toNatClampNeg) 8 x) 0 12 (g 0 12 + 5)) 0 13 (g 0 13 + ((g (100 + 3 * x.toNatClampNeg) 4 * g 5 (g (100 + 3 * x.toNatClampNeg) 0).toNatClampNeg) / 100))) 40 0 (5 + ((g (100 + 3 * x.toNatClampNeg) 4 * g 5 (g (100 + 3 * x.toNatClampNeg) 0).toNatClampNeg) / 100)) else g) :
    opR n nc n nc g gB (kd2 (isF n x && isF nc y) (decide (g (100 + 3 * x.toNatClampNeg) 9 = 0) && (decide (g (100 + 3 * x.toNatClampNeg) 12 = 0) && cServe g nc x.toNatClampNeg y.toNatClampNeg))) (5 + ((g (100 + 3 * x.toNatClampNeg) 4 * g 5 (g (100 + 3 * x.toNatClampNeg) 0).toNatClampNeg) / 100)) (kd2 (isF n x && isF nc y) (decide (gB 65 x.toNatClampNeg = 0) && (decide (gB 69 x.toNatClampNeg = 0) && mServe gB nc x.toNatClampNeg y.toNatClampNeg))) (5 + mRew gB x.toNatClampNeg) (mk (kd2 (isF n x && isF nc y) (decide (gB 65 x.toNatClampNeg = 0) && (decide (gB 69 x.toNatClampNeg = 0) && mServe gB nc x.toNatClampNeg y.toNatClampNeg))) (mEnds (sU (sU (sU (sU gB 9 0 0) 9 35 (gB 9 35 + 5)) 9 36 (gB 9 36 + mRew gB x.toNatClampNeg)) 65 x.toNatClampNeg 3) y.toNatClampNeg 1 x) gB) := by
  have hK : ∀ g', kRl n nc g g' → kd2 (isF n x && isF nc y) (decide (g' 65 x.toNatClampNeg = 0) && (decide (g' 69 x.toNatClampNeg = 0) && mServe g' nc x.toNatClampNeg y.toNatClampNeg)) = kd2 (isF n x && isF nc y) (decide (g (100 + 3 * x.toNatClampNeg) 9 = 0) && (decide (g (100 + 3 * x.toNatClampNeg) 12 = 0) && cServe g nc x.toNatClampNeg y.toNatClampNeg)) := by
    intro g' hr
    refine kd2_cg (fun hx => ?_)
    have hi := isF_lt (and_l hx) h.n30
    have hj := isC_lt h (and_r hx)
    rw [hr.F hi 9 65 (by decide) rfl (by decide), hr.F hi 12 69 (by decide) rfl (by decide), hr.serve hi hj]
  refine op_mk (fun g' => kd2 (isF n x && isF nc y) (decide (g' 65 x.toNatClampNeg = 0) && (decide (g' 69 x.toNatClampNeg = 0) && mServe g' nc x.toNatClampNeg y.toNatClampNeg))) (fun g' => 5 + mRew g' x.toNatClampNeg) (fun g' => mEnds (sU (sU (sU (sU g' 9 0 0) 9 35 (g' 9 35 + 5)) 9 36 (g' 9 36 + mRew g' x.toNatClampNeg)) 65 x.toNatClampNeg 3) y.toNatClampNeg 1 x) h hB hK (fun _ => (((((mE.sw (by omega)).c (by omega)).c (by omega)).c (by omega)).c (by omega)).c (by omega)) (fun c g' hr _ => ?_) (fun _ g' e => mEnds_e (((e.t.u (by rw [e 9 (by omega) (by omega) (by omega)])).u (by rw [e 9 (by omega) (by omega) (by omega), mRew_e e])).u rfl) _ _ _) (fun _ g' => mEnds_x (((((cX.rf g').m (by omega)).m (by omega)).m (by omega)).m (by omega)) _ _ _) (fun _ => ?_) (fun c => ?_)
  · show 5 + mRew g' x.toNatClampNeg = _
    rw [← hr.rew (isF_lt (and_l (kd2_0.mp c).1) h.n30)]
  · show mEnds (sU (sU (sU (sU g 9 0 0) 9 35 _) 9 36 _) 65 _ _) _ _ _ 9 0 = 0
    unfold mEnds
    rw [sU_ne (by omega), sU_ne (by omega), sU_ne (by omega), sU_ne (by omega), sU_ne (by omega), sU_ne (by omega), sU_s]
  · obtain ⟨c1, c2⟩ := kd2_0.mp c
    have hi := isF_lt (and_l c1) h.n30
    have hj := isC_lt h (and_r c1)
    have h0 : g 65 x.toNatClampNeg = 0 := by rw [← h.F hi 9 65 (by decide) rfl (by decide)]; exact of_decide_eq_true (and_l c2)
    have er := h.rew hi
    have ed := h.day
    have e12 : g 0 12 = g 9 35 := h.2.1.2.2.2.2.2.2.2.1
    have e13' : g 0 13 = g 9 36 := h.2.1.2.2.2.2.2.2.2.2.1
    obtain ⟨hN, hS, hV, hF, hR, hH, hW, hC, hY, hZ⟩ := id h
    have n30 := h.n30
    rw [er, e12, e13', ed]
    unfold mEnds
    rw [show (sU (sU (sU (sU g 9 0 0) 9 35 (g 9 35 + 5)) 9 36 (g 9 36 + mRew g x.toNatClampNeg)) 65 x.toNatClampNeg 3) 9 1 = g 9 1 from by rw [sU_ne (by omega), sU_ne (by omega), sU_ne (by omega), sU_ne (by omega)]]
    refine ⟨?_, ?_, ?_, ?_, ?_, ?_, ?_, ?_, ?_, ?_⟩
    · exact ((((((((((((hN.c (by omega)).c (by omega)).c (by omega)).c (by omega)).c (by omega)).c (by omega)).m (by omega)).m (by omega)).m (by omega)).m (by omega)).m (by omega)).m (by omega)).m (by omega)
    · exact (((((((((((hS.c (by omega)).c (by omega)).c (by omega)).c (by omega)).m (by omega)).p (j := 12) (j' := 35) (by omega)).p (j := 13) (j' := 36) (by omega)).m (by omega)).m (by omega)).m (by omega)).m (by omega))
    · exact ((((((hV.m (by omega)).m (by omega)).m (by omega)).m (by omega)).m (by omega)).m (by omega)).m (by omega)
    · exact ((((((((((((hF.m (by omega)).m (by omega)).m (by omega)).p _ 9 rfl (by decide) (by decide) rfl).c n30 (by omega)).c n30 (by omega)).c n30 (by omega)).c n30 (by omega)).c n30 (by omega)).m (by omega)).m (by omega)).m (by omega))
    · exact (((((((((((((hR.c n30 (by omega)).c n30 (by omega)).c n30 (by omega)).c n30 (by omega)).c n30 (by omega)).c n30 (by omega)).m (by omega)).m (by omega)).m (by omega)).st (by rw [sU_ne (by omega), sU_ne (by omega), sU_ne (by omega), h0]; decide) (by decide)).m (by omega)).m (by omega)).m (by omega))
    · exact ((((((((((((hH.c n30 (by omega)).c n30 (by omega)).c n30 (by omega)).c n30 (by omega)).c n30 (by omega)).c n30 (by omega)).m (by omega)).m (by omega)).m (by omega)).m (by omega)).m (by omega)).m (by omega)).m (by omega)
    · exact ((((((hW.m (by omega)).m (by omega)).m (by omega)).s ⟨3, by decide, rfl⟩).m (by omega)).m (by omega)).m (by omega)
    · exact ((((((hC.c (by omega)).m (by omega)).m (by omega)).m (by omega)).m (by omega)).ends rfl).c (by omega) |>.c (by omega)
    · exact ((((((hY.m (by omega)).m (by omega)).m (by omega)).m (by omega)).s (by decide)).m (by omega)).f (Or.inl (by rw [sU_ne (by omega), sU_s]; decide))
    · exact ((((((hZ.m (by omega)).m (by omega)).m (by omega)).m (by omega)).m (by omega)).m (by omega)).m (by omega)
theorem mFee_c (p : Int32) : (if p < 5 then p else 5) = if 5 ≤ p then 5 else p := by
  by_cases h : p < 5
  · rw [if_pos h, if_neg (Int32.not_le.mpr h)]
  · rw [if_neg h, if_pos (Int32.not_lt.mp h)]
theorem kRl.fee {n nc : Nat} {c m : sg} (h : kRl n nc c m) {i : Nat} (hi : i < n) : (if c (100 + 3 * i) 13 < 5 then c (100 + 3 * i) 13 else 5) = mFee m i := by
  unfold mFee
  rw [h.F hi 13 70 (by decide) rfl (by decide), mFee_c]
theorem op_payOut {n nc : Nat} {g gB : sg} (h : kRl n nc g g) (x y : Int32) (hB : gB = if kd2 (isF n x && isF nc y) (decide (g (100 + 3 * x.toNatClampNeg) 9 = 4) && (decide (g 0 10 - g (100 + 3 * x.toNatClampNeg) 14 ≤ 365) && cServe g nc x.toNatClampNeg y.toNatClampNeg)) = 0 then sU (sU (sU (sU (sU (sU (sU g (100 + 3 * x.toNatClampNeg) 9 6) (200 + y.toNatClampNeg) 7 1) (200 + y.toNatClampNeg) 9 (g 0 10)) (200 + y.toNatClampNeg) 8 x) 0 12 (g 0 12 + (if g (100 + 3 * x.toNatClampNeg) 13 < 5 then g (100 + 3 * x.toNatClampNeg) 13 else 5))) 0 14 (g 0 14 - g (100 + 3 * x.toNatClampNeg) 13)) 40 0 (g (100 + 3 * x.toNatClampNeg) 13 - (if g (100 + 3 * x.toNatClampNeg) 13 < 5 then g (100 + 3 * x.toNatClampNeg) 13 else 5)) else g) :
    opR n nc n nc g gB (kd2 (isF n x && isF nc y) (decide (g (100 + 3 * x.toNatClampNeg) 9 = 4) && (decide (g 0 10 - g (100 + 3 * x.toNatClampNeg) 14 ≤ 365) && cServe g nc x.toNatClampNeg y.toNatClampNeg))) (g (100 + 3 * x.toNatClampNeg) 13 - (if g (100 + 3 * x.toNatClampNeg) 13 < 5 then g (100 + 3 * x.toNatClampNeg) 13 else 5)) (kd2 (isF n x && isF nc y) (decide (gB 65 x.toNatClampNeg = 4) && ((!decide (365 < gB 9 1 - gB 71 x.toNatClampNeg)) && mServe gB nc x.toNatClampNeg y.toNatClampNeg))) (gB 70 x.toNatClampNeg - mFee gB x.toNatClampNeg) (mk (kd2 (isF n x && isF nc y) (decide (gB 65 x.toNatClampNeg = 4) && ((!decide (365 < gB 9 1 - gB 71 x.toNatClampNeg)) && mServe gB nc x.toNatClampNeg y.toNatClampNeg))) (mEnds (sU (sU (sU (sU gB 9 0 0) 9 35 (gB 9 35 + mFee gB x.toNatClampNeg)) 9 37 (gB 9 37 - gB 70 x.toNatClampNeg)) 65 x.toNatClampNeg 6) y.toNatClampNeg 1 x) gB) := by
  have hK : ∀ g', kRl n nc g g' → kd2 (isF n x && isF nc y) (decide (g' 65 x.toNatClampNeg = 4) && ((!decide (365 < g' 9 1 - g' 71 x.toNatClampNeg)) && mServe g' nc x.toNatClampNeg y.toNatClampNeg)) = kd2 (isF n x && isF nc y) (decide (g (100 + 3 * x.toNatClampNeg) 9 = 4) && (decide (g 0 10 - g (100 + 3 * x.toNatClampNeg) 14 ≤ 365) && cServe g nc x.toNatClampNeg y.toNatClampNeg)) := by
    intro g' hr
    refine kd2_cg (fun hx => ?_)
    have hi := isF_lt (and_l hx) h.n30
    have hj := isC_lt h (and_r hx)
    rw [hr.F hi 9 65 (by decide) rfl (by decide), hr.F hi 14 71 (by decide) rfl (by decide), hr.serve hi hj, hr.day, dec_le]
  refine op_mk (fun g' => kd2 (isF n x && isF nc y) (decide (g' 65 x.toNatClampNeg = 4) && ((!decide (365 < g' 9 1 - g' 71 x.toNatClampNeg)) && mServe g' nc x.toNatClampNeg y.toNatClampNeg))) (fun g' => g' 70 x.toNatClampNeg - mFee g' x.toNatClampNeg) (fun g' => mEnds (sU (sU (sU (sU g' 9 0 0) 9 35 (g' 9 35 + mFee g' x.toNatClampNeg)) 9 37 (g' 9 37 - g' 70 x.toNatClampNeg)) 65 x.toNatClampNeg 6) y.toNatClampNeg 1 x) h hB hK (fun _ => (((((mE.sw (by omega)).c (by omega)).c (by omega)).c (by omega)).c (by omega)).c (by omega)) (fun c g' hr _ => ?_) (fun _ g' e => mEnds_e (((e.t.u (by unfold mFee; rw [e 9 (by omega) (by omega) (by omega), e 70 (by omega) (by omega) (by omega)])).u (by rw [e 9 (by omega) (by omega) (by omega), e 70 (by omega) (by omega) (by omega)])).u rfl) _ _ _) (fun _ g' => mEnds_x (((((cX.rf g').m (by omega)).m (by omega)).m (by omega)).m (by omega)) _ _ _) (fun _ => ?_) (fun c => ?_)
  · have hi := isF_lt (and_l (kd2_0.mp c).1) h.n30
    show g' 70 x.toNatClampNeg - mFee g' x.toNatClampNeg = _
    rw [hr.fee hi, hr.F hi 13 70 (by decide) rfl (by decide)]
  · show mEnds (sU (sU (sU (sU g 9 0 0) 9 35 _) 9 37 _) 65 _ _) _ _ _ 9 0 = 0
    unfold mEnds
    rw [sU_ne (by omega), sU_ne (by omega), sU_ne (by omega), sU_ne (by omega), sU_ne (by omega), sU_ne (by omega), sU_s]
  · obtain ⟨c1, c2⟩ := kd2_0.mp c
    have hi := isF_lt (and_l c1) h.n30
    have hj := isC_lt h (and_r c1)
    have h0 : g 65 x.toNatClampNeg = 4 := by rw [← h.F hi 9 65 (by decide) rfl (by decide)]; exact of_decide_eq_true (and_l c2)
    have ed := h.day
    have e12 : g 0 12 = g 9 35 := h.2.1.2.2.2.2.2.2.2.1
    have e14 : g 0 14 = g 9 37 := h.2.1.2.2.2.2.2.2.2.2.2
    have ef := h.fee hi
    have ep := h.F hi 13 70 (by decide) rfl (by decide)
    obtain ⟨hN, hS, hV, hF, hR, hH, hW, hC, hY, hZ⟩ := id h
    have n30 := h.n30
    rw [ef, ep, e12, e14, ed]
    unfold mEnds
    rw [show (sU (sU (sU (sU g 9 0 0) 9 35 (g 9 35 + mFee g x.toNatClampNeg)) 9 37 (g 9 37 - g 70 x.toNatClampNeg)) 65 x.toNatClampNeg 6) 9 1 = g 9 1 from by rw [sU_ne (by omega), sU_ne (by omega), sU_ne (by omega), sU_ne (by omega)]]
    refine ⟨?_, ?_, ?_, ?_, ?_, ?_, ?_, ?_, ?_, ?_⟩
    · exact ((((((((((((hN.c (by omega)).c (by omega)).c (by omega)).c (by omega)).c (by omega)).c (by omega)).m (by omega)).m (by omega)).m (by omega)).m (by omega)).m (by omega)).m (by omega)).m (by omega)
    · exact (((((((((((hS.c (by omega)).c (by omega)).c (by omega)).c (by omega)).m (by omega)).p (j := 12) (j' := 35) (by omega)).p (j := 14) (j' := 37) (by omega)).m (by omega)).m (by omega)).m (by omega)).m (by omega))
    · exact ((((((hV.m (by omega)).m (by omega)).m (by omega)).m (by omega)).m (by omega)).m (by omega)).m (by omega)
    · exact ((((((((((((hF.m (by omega)).m (by omega)).m (by omega)).p _ 9 rfl (by decide) (by decide) rfl).c n30 (by omega)).c n30 (by omega)).c n30 (by omega)).c n30 (by omega)).c n30 (by omega)).m (by omega)).m (by omega)).m (by omega))
    · exact (((((((((((((hR.c n30 (by omega)).c n30 (by omega)).c n30 (by omega)).c n30 (by omega)).c n30 (by omega)).c n30 (by omega)).m (by omega)).m (by omega)).m (by omega)).st (by rw [sU_ne (by omega), sU_ne (by omega), sU_ne (by omega), h0]; decide) (by decide)).m (by omega)).m (by omega)).m (by omega))
    · exact ((((((((((((hH.c n30 (by omega)).c n30 (by omega)).c n30 (by omega)).c n30 (by omega)).c n30 (by omega)).c n30 (by omega)).m (by omega)).m (by omega)).m (by omega)).m (by omega)).m (by omega)).m (by omega)).m (by omega)
    · exact ((((((hW.m (by omega)).m (by omega)).m (by omega)).s ⟨6, by decide, rfl⟩).m (by omega)).m (by omega)).m (by omega)
    · exact ((((((hC.c (by omega)).m (by omega)).m (by omega)).m (by omega)).m (by omega)).ends rfl).c (by omega) |>.c (by omega)
    · exact ((((((hY.m (by omega)).m (by omega)).m (by omega)).m (by omega)).s (by decide)).m (by omega)).f (Or.inl (by rw [sU_ne (by omega), sU_s]; decide))
    · exact ((((((hZ.m (by omega)).m (by omega)).m (by omega)).m (by omega)).m (by omega)).m (by omega)).m (by omega)
/-! lose -/
theorem lsS_o (g : sg) (room : Int32) (K : Nat) {k : Nat} (h : k ≠ 65) : lsS g room K k = g k := by
  funext j
  unfold lsS
  rw [if_neg (fun q => h q.1)]
theorem lsS_65 (g : sg) (room : Int32) (K j : Nat) : lsS g room K 65 j = if j < K ∧ lsB g room j = true then 2 else g 65 j := by
  unfold lsS
  by_cases h : j < K ∧ lsB g room j = true
  · rw [if_pos ⟨rfl, h⟩, if_pos h]
  · rw [if_neg (fun q => h q.2), if_neg h]
theorem lsS_e {m m' : sg} (e : mE m m') (room : Int32) (K : Nat) : mE (lsS m room K) (lsS m' room K) := by
  intro k h1 h2 h3
  funext j
  unfold lsS lsB
  rw [e 65 (by omega) (by omega) (by omega), e 67 (by omega) (by omega) (by omega), e k h1 h2 h3]
theorem lcS_row9 (g : sg) (room : Int32) {n i : Nat} (hn : n ≤ 30) (hi : i < n) : lcS g room n 30 (100 + 3 * i) 9 = if lcB g room i then 2 else g (100 + 3 * i) 9 := by
  unfold lcS
  have e : (100 + 3 * i - 100) / 3 = i := by omega
  rw [e]
  by_cases h : lcB g room i
  · rw [if_pos ⟨rfl, by omega, by omega, by omega, hi, hn, h⟩, if_pos h]
  · rw [if_neg (fun q => h q.2.2.2.2.2.2), if_neg h]
theorem lcS_ne (g : sg) (room : Int32) (n K : Nat) {k j : Nat} (h : j ≠ 9 ∨ k < 100 ∨ (k - 100) % 3 ≠ 0 ∨ 190 ≤ k) : lcS g room n K k j = g k j := by
  unfold lcS
  rw [if_neg (by rintro ⟨h1, h2, h3, h4, h5, h6, -⟩; omega)]
theorem op_lose {n nc : Nat} {g gB : sg} (h : kRl n nc g g) (room : Int32) (hB : gB = if kd1 (inn room 0 5) = 0 then sU (lcS g room n 30) 40 0 (lcN g room n 30) else g) :
    opR n nc n nc g gB (kd1 (inn room 0 5)) (lcN g room n 30) (kd1 (inn room 0 5)) (lsN gB room n) (mk (kd1 (inn room 0 5)) (lsS (sU gB 9 0 0) room n) gB) := by
  have n30 := h.n30
  have hb : ∀ g', kRl n nc g g' → ∀ i, i < n → (lcB g room i ↔ lsB g' room i = true) := by
    intro g' hr i hi
    unfold lcB lsB
    rw [hr.F hi 9 65 (by decide) rfl (by decide), hr.rm hi, Bool.and_eq_true, decide_eq_true_iff, decide_eq_true_iff]
    constructor
    · rintro ⟨a, b⟩
      rw [if_pos (Or.inl a)] at b
      exact ⟨a, b⟩
    · rintro ⟨a, b⟩
      rw [if_pos (Or.inl a)]
      exact ⟨a, b⟩
  refine op_mk (fun _ => kd1 (inn room 0 5)) (fun g' => lsN g' room n) (fun g' => lsS (sU g' 9 0 0) room n) h hB (fun _ _ => rfl) (fun _ k h1 h2 h3 => lcS_row _ _ _ _ (by omega)) (fun c g' hr _ => ?_) (fun _ g' e => lsS_e e.t _ _) (fun _ g' k hk => ?_) (fun _ => ?_) (fun c => ?_)
  · have key : ∀ k, k ≤ n → lcN g room n k = lsN g' room k := by
      intro k
      induction k with
      | zero => intro _; rfl
      | succ k ih =>
        intro hk
        show lcN g room n k + (if k < n ∧ lcB g room k then 1 else 0) = lsN g' room k + (if lsB g' room k = true then 1 else 0)
        rw [ih (by omega)]
        have hb1 := hb g' hr k (by omega)
        by_cases a : lsB g' room k = true
        · rw [if_pos a, if_pos ⟨by omega, hb1.mpr a⟩]
        · rw [if_neg a, if_neg (fun q => a (hb1.mp q.2))]
    have up : ∀ d, lcN g room n (n + d) = lcN g room n n := by
      intro d
      induction d with
      | zero => rfl
      | succ d ih => rw [show n + (d + 1) = n + d + 1 from rfl, lcN_n (by omega), ih]
    show lsN g' room n = lcN g room n 30
    rw [← key n (Nat.le_refl n), ← up (30 - n), show n + (30 - n) = 30 from by omega]
  · show lsS (sU g' 9 0 0) room n k = g' k
    rw [lsS_o _ _ _ (by omega), sU_row _ _ _ (by omega)]
  · show lsS (sU g 9 0 0) room n 9 0 = 0
    rw [lsS_o _ _ _ (by decide), sU_s]
  · have hB0 : ∀ i, lsB (sU g 9 0 0) room i = lsB g room i := fun i => by
      unfold lsB
      rw [sU_row _ _ _ (by decide), sU_row _ _ _ (by decide)]
    have e65 : ∀ i, lsS (sU g 9 0 0) room n 65 i = if i < n ∧ lsB g room i = true then 2 else g 65 i := fun i => by rw [lsS_65, hB0, sU_row _ _ _ (by decide)]
    have eo : ∀ k, k ≠ 65 → k ≠ 9 → lsS (sU g 9 0 0) room n k = g k := fun k h1 h2 => by rw [lsS_o _ _ _ h1, sU_row _ _ _ h2]
    have e9 : ∀ j, j ≠ 0 → lsS (sU g 9 0 0) room n 9 j = g 9 j := fun j hj => by rw [lsS_o _ _ _ (by decide), sU_j _ _ _ _ hj]
    have ec : ∀ k, k < 100 ∨ 200 ≤ k → lcS g room n 30 k = g k := fun k hk => lcS_row _ _ _ _ hk
    obtain ⟨⟨n1, n2, n3, n4, n5, n6, n7, n8⟩, ⟨s1, s2, s3, s4, s5, s6, s7, s8, s9, s0⟩, ⟨v1, v2, v3, v4⟩, hF, hR, hH, hW, hC, hY, hZ⟩ := id h
    refine ⟨⟨n1, n2, ?_, ?_, ?_, ?_, ?_, ?_⟩, ⟨?_, ?_, ?_, ?_, ?_, ?_, ?_, ?_, ?_, ?_⟩, ⟨?_, ?_, ?_, ?_⟩, ?_, ?_, ?_, ?_, ?_, ?_, ?_⟩
    · rw [ec 0 (by omega)]; exact n3
    · rw [e9 8 (by omega)]; exact n4
    · rw [ec 0 (by omega)]; exact n5
    · rw [e9 25 (by omega)]; exact n6
    · rw [ec 6 (by omega)]; exact n7
    · rw [ec 7 (by omega)]; exact n8
    · rw [ec 1 (by omega), eo 52 (by omega) (by omega)]; exact s1
    · rw [ec 2 (by omega), eo 53 (by omega) (by omega)]; exact s2
    · rw [ec 3 (by omega), eo 56 (by omega) (by omega)]; exact s3
    · rw [ec 4 (by omega), eo 54 (by omega) (by omega)]; exact s4
    · rw [ec 5 (by omega), eo 55 (by omega) (by omega)]; exact s5
    · rw [ec 0 (by omega), e9 1 (by omega)]; exact s6
    · rw [ec 0 (by omega), e9 7 (by omega)]; exact s7
    · rw [ec 0 (by omega), e9 35 (by omega)]; exact s8
    · rw [ec 0 (by omega), e9 36 (by omega)]; exact s9
    · rw [ec 0 (by omega), e9 37 (by omega)]; exact s0
    · rw [e9 1 (by omega)]; exact v1
    · rw [e9 7 (by omega)]; exact v2
    · rw [eo 52 (by omega) (by omega)]; exact v3
    · rw [eo 56 (by omega) (by omega)]; exact v4
    · intro i hi f hf h0
      have hb1 := hb g h i hi
      by_cases e : f = 9
      · subst e
        rw [show fk 9 = 65 from rfl, e65, lcS_row9 _ _ n30 hi]
        by_cases a : lsB g room i = true
        · rw [if_pos (hb1.mpr a), if_pos ⟨hi, a⟩]
        · rw [if_neg (fun q => a (hb1.mp q)), if_neg (fun q => a q.2)]
          exact hF i hi 9 hf h0
      · have hr := fk_rg f hf h0
        rw [lcS_ne _ _ _ _ (Or.inl e), eo _ (fun q => e (fk_inj f hf 9 (by decide) q h0)) (by omega)]
        exact hF i hi f hf h0
    · intro i hi
      have hb1 := hb g h i hi
      rw [lcS_10, e65, eo 66 (by omega) (by omega), eo 67 (by omega) (by omega)]
      by_cases a : lsB g room i = true
      · rw [if_pos (show i < n ∧ lsB g room i = true from ⟨hi, a⟩), if_pos (show (2 : Int32) = 1 ∨ (2 : Int32) = 2 from Or.inr rfl), hR i hi, if_pos (Or.inl (of_decide_eq_true (and_l a)))]
      · rw [if_neg (show ¬ (i < n ∧ lsB g room i = true) from fun q => a q.2)]
        exact hR i hi
    · intro i hi
      obtain ⟨k, k1, k2, k3⟩ := hH i hi
      refine ⟨k, k1, ?_, fun p hp => ?_⟩
      · rw [eo 72 (by omega) (by omega)]; exact k2
      · rw [lcS_ne _ _ _ _ (by omega), lcS_ne _ _ _ _ (by omega), eo 73 (by omega) (by omega), eo 74 (by omega) (by omega)]
        exact k3 p hp
    · intro i hi
      rw [eo 59 (by omega) (by omega), eo 60 (by omega) (by omega), eo 61 (by omega) (by omega), eo 62 (by omega) (by omega), eo 63 (by omega) (by omega), e65, eo 69 (by omega) (by omega)]
      obtain ⟨a1, a2, a3, a4, a5, a6, a7⟩ := hW i hi
      refine ⟨a1, a2, a3, a4, a5, ?_, a7⟩
      by_cases a : i < n ∧ lsB g room i = true
      · rw [if_pos a]; exact ⟨2, by decide, rfl⟩
      · rw [if_neg a]; exact a6
    · intro j hj
      rw [ec _ (by omega)]
      refine ⟨(hC j hj).1, fun f hf h0 => ?_⟩
      have := ck_rg f hf h0
      rw [eo _ (by omega) (by omega)]
      exact (hC j hj).2 f hf h0
    · intro j hj
      rw [eo 76 (by omega) (by omega), eo 77 (by omega) (by omega), eo 79 (by omega) (by omega), eo 80 (by omega) (by omega), eo 81 (by omega) (by omega), eo 82 (by omega) (by omega), eo 84 (by omega) (by omega)]
      exact hY j hj
    · refine ⟨fun i hi => ?_, ?_⟩
      · rw [eo 72 (by omega) (by omega), eo 69 (by omega) (by omega), eo 70 (by omega) (by omega), eo 71 (by omega) (by omega), e65, if_neg (by omega)]
        exact hZ.1 i hi
      · rw [eo 83 (by omega) (by omega)]
        exact hZ.2
/-! a coming -/
theorem mComes_65 (g : sg) (i : Nat) (r : Int32) : mComes g i r 65 = upd (g 65) i 0 := rfl
theorem mComes_66 (g : sg) (i : Nat) (r : Int32) : mComes g i r 66 = upd (g 66) i r := rfl
theorem mComes_72 (g : sg) (i : Nat) (r : Int32) : mComes g i r 72 = upd (g 72) i (cmH (g 72 i)) := rfl
theorem mComes_73 (g : sg) (i : Nat) (r : Int32) : mComes g i r 73 = cmR (g 73) (12 * i) (g 72 i) r := rfl
theorem mComes_74 (g : sg) (i : Nat) (r : Int32) : mComes g i r 74 = cmR (g 74) (12 * i) (g 72 i) (g 9 1) := rfl
theorem mComes_e {m m' : sg} (e : mE m m') (i : Nat) (r : Int32) : mE (mComes m i r) (mComes m' i r) := by
  intro k h1 h2 h3
  unfold mComes
  rw [e 73 (by omega) (by omega) (by omega), e 74 (by omega) (by omega) (by omega), e 72 (by omega) (by omega) (by omega), e 9 (by omega) (by omega) (by omega), e 65 (by omega) (by omega) (by omega), e 66 (by omega) (by omega) (by omega), e k h1 h2 h3]
theorem mComes_x {c m : sg} (h : cX c m) (i : Nat) (r : Int32) : cX c (mComes m i r) := fun k hk => (mComes_row m i r (by omega)).trans (h k hk)
/-- a row of hands apart stays -/
theorem cmR_o {r : Nat → Int32} {o q : Nat} {h v : Int32} (hh : ∃ k : Nat, k ≤ 12 ∧ h = nI k) (hq : q < o ∨ o + 12 ≤ q) : cmR r o h v q = r q := by
  obtain ⟨k, hk, rfl⟩ := hh
  unfold cmR
  by_cases c : nI k = 12
  · rw [if_pos c, if_neg (by omega), if_neg (by omega)]
  · have : k ≠ 12 := fun z => c (by rw [z]; rfl)
    rw [if_neg c, cl_nI (by omega), if_neg (by omega)]
theorem cmR_r {r r' : Nat → Int32} {o o' k : Nat} {v : Int32} (hk : k ≤ 12) (h : ∀ p, p < k → r (o + p) = r' (o' + p)) {k' : Nat} (hk' : cmH (nI k) = nI k') (hk2 : k' ≤ 12) : ∀ p, p < k' → cmR r o (nI k) v (o + p) = cmR r' o' (nI k) v (o' + p) := by
  intro p hp
  unfold cmR
  unfold cmH at hk'
  by_cases c : nI k = 12
  · have e : k = 12 := (nI_eq (a := k) (b := 12) (by omega) (by omega)).mp c
    rw [if_pos c] at hk'
    rw [if_pos c, if_pos c]
    by_cases c1 : 1 ≤ p ∧ p ≤ 10
    · rw [if_pos (by omega), if_pos (by omega)]
      exact h (p + 1) (by omega)
    · rw [if_neg (show ¬ (o + 1 ≤ o + p ∧ o + p ≤ o + 10) by omega), if_neg (show ¬ (o' + 1 ≤ o' + p ∧ o' + p ≤ o' + 10) by omega)]
      by_cases c2 : p = 11
      · rw [if_pos (show o + p = o + 11 by omega), if_pos (show o' + p = o' + 11 by omega)]
      · rw [if_neg (show ¬ o + p = o + 11 by omega), if_neg (show ¬ o' + p = o' + 11 by omega)]
        exact h p (by omega)
  · rw [if_neg c, nI_1] at hk'
    have e := (nI_eq (by omega) (by omega)).mp hk'
    rw [if_neg c, if_neg c, cl_nI (by omega)]
    by_cases c1 : p = k
    · rw [if_pos (by omega), if_pos (by omega)]
    · rw [if_neg (by omega), if_neg (by omega)]
      exact h p (by omega)
theorem kRl.comes {n nc : Nat} {c m : sg} (h : kRl n nc c m) {i : Nat} (hi : i < n) (room : Int32) {day : Int32} (hd : day = m 9 1) : kRl n nc (cComes c i room day) (mComes m i room) := by
  subst hd
  have n30 := h.n30
  have hh := h.hdm
  have eo : ∀ k, k ≠ 73 ∧ k ≠ 74 ∧ k ≠ 72 ∧ k ≠ 65 ∧ k ≠ 66 → mComes m i room k = m k := fun k hk => mComes_row m i room hk
  have ec : ∀ k, k < 100 ∨ 200 ≤ k → cComes c i room (m 9 1) k = c k := fun k hk => cComes_row _ _ _ _ hk (by omega)
  have eF : ∀ t f, t < n → cComes c i room (m 9 1) (100 + 3 * t) f = if t = i then upd (upd (upd (c (100 + 3 * i)) 9 0) 10 room) 7 (cmH (c (100 + 3 * i) 7)) f else c (100 + 3 * t) f := by
    intro t f ht
    unfold cComes
    rw [if_neg (by omega), if_neg (by omega)]
    by_cases e : t = i
    · subst e
      rw [if_pos rfl, if_pos rfl]
    · rw [if_neg (by omega), if_neg e]
  obtain ⟨⟨n1, n2, n3, n4, n5, n6, n7, n8⟩, ⟨s1, s2, s3, s4, s5, s6, s7, s8, s9, s0⟩, ⟨v1, v2, v3, v4⟩, hF, hR, hH, hW, hC, hY, hZ⟩ := id h
  refine ⟨⟨n1, n2, ?_, ?_, ?_, ?_, ?_, ?_⟩, ⟨?_, ?_, ?_, ?_, ?_, ?_, ?_, ?_, ?_, ?_⟩, ⟨?_, ?_, ?_, ?_⟩, ?_, ?_, ?_, ?_, ?_, ?_, ?_⟩
  · rw [ec 0 (by omega)]; exact n3
  · rw [eo 9 (by omega)]; exact n4
  · rw [ec 0 (by omega)]; exact n5
  · rw [eo 9 (by omega)]; exact n6
  · rw [ec 6 (by omega)]; exact n7
  · rw [ec 7 (by omega)]; exact n8
  · rw [ec 1 (by omega), eo 52 (by omega)]; exact s1
  · rw [ec 2 (by omega), eo 53 (by omega)]; exact s2
  · rw [ec 3 (by omega), eo 56 (by omega)]; exact s3
  · rw [ec 4 (by omega), eo 54 (by omega)]; exact s4
  · rw [ec 5 (by omega), eo 55 (by omega)]; exact s5
  · rw [ec 0 (by omega), eo 9 (by omega)]; exact s6
  · rw [ec 0 (by omega), eo 9 (by omega)]; exact s7
  · rw [ec 0 (by omega), eo 9 (by omega)]; exact s8
  · rw [ec 0 (by omega), eo 9 (by omega)]; exact s9
  · rw [ec 0 (by omega), eo 9 (by omega)]; exact s0
  · rw [eo 9 (by omega)]; exact v1
  · rw [eo 9 (by omega)]; exact v2
  · rw [eo 52 (by omega)]; exact v3
  · rw [eo 56 (by omega)]; exact v4
  · intro t ht f hf h0
    rw [eF t f ht]
    have hr := fk_rg f hf h0
    by_cases e : t = i
    · subst e
      rw [if_pos rfl]
      by_cases f7 : f = 7
      · subst f7
        rw [show fk 7 = 72 from rfl, mComes_72, pk_us, pk_us, h.F ht 7 72 (by decide) rfl (by decide)]
      · rw [pk_un f7, pk_un hr.2.2.2.2]
        by_cases f9 : f = 9
        · subst f9
          rw [show fk 9 = 65 from rfl, mComes_65, pk_us, pk_us]
        · rw [pk_un f9]
          have a1 : fk f ≠ 72 := fun q => f7 (fk_inj f hf 7 (by decide) q h0)
          have a2 : fk f ≠ 65 := fun q => f9 (fk_inj f hf 9 (by decide) q h0)
          rw [eo _ (by omega)]
          exact hF t ht f hf h0
    · rw [if_neg e]
      by_cases f7 : f = 7
      · subst f7
        rw [show fk 7 = 72 from rfl, mComes_72, pk_un e]
        exact hF t ht 7 hf h0
      · by_cases f9 : f = 9
        · subst f9
          rw [show fk 9 = 65 from rfl, mComes_65, pk_un e]
          exact hF t ht 9 hf h0
        · have a1 : fk f ≠ 72 := fun q => f7 (fk_inj f hf 7 (by decide) q h0)
          have a2 : fk f ≠ 65 := fun q => f9 (fk_inj f hf 9 (by decide) q h0)
          rw [eo _ (by omega)]
          exact hF t ht f hf h0
  · intro t ht
    rw [eF t 10 ht, mComes_65, mComes_66, eo 67 (by omega)]
    by_cases e : t = i
    · subst e
      rw [if_pos rfl, pk_un (by decide), pk_us, pk_us, if_neg (by decide), pk_us]
    · rw [if_neg e, pk_un e, pk_un e]
      exact hR t ht
  · intro t ht
    obtain ⟨k, k1, k2, k3⟩ := hH t ht
    rw [mComes_72, mComes_73, mComes_74]
    by_cases e : t = i
    · subst e
      obtain ⟨k', q1, q2⟩ := cmH_ok ⟨k, k1, k2⟩
      refine ⟨k', q1, by rw [pk_us]; exact q2, fun p hp => ?_⟩
      unfold cComes
      rw [if_pos rfl, if_neg (by omega), if_pos rfl, h.F ht 7 72 (by decide) rfl (by decide), k2]
      rw [k2] at q2
      have a := cmR_r (r := c (100 + 3 * t + 1)) (r' := m 73) (o := 0) (o' := 12 * t) (v := room) k1 (fun p hp => by rw [Nat.zero_add]; exact (k3 p hp).1) q2 q1 p hp
      have b := cmR_r (r := c (100 + 3 * t + 2)) (r' := m 74) (o := 0) (o' := 12 * t) (v := m 9 1) k1 (fun p hp => by rw [Nat.zero_add]; exact (k3 p hp).2) q2 q1 p hp
      rw [Nat.zero_add] at a b
      exact ⟨a, b⟩
    · refine ⟨k, k1, by rw [pk_un e]; exact k2, fun p hp => ?_⟩
      unfold cComes
      rw [if_neg (by omega), if_neg (by omega), if_neg (by omega), if_neg (by omega), if_neg (by omega), if_neg (by omega), cmR_o (hh i hi) (by omega), cmR_o (hh i hi) (by omega)]
      exact k3 p hp
  · intro t ht
    rw [eo 59 (by omega), eo 60 (by omega), eo 61 (by omega), eo 62 (by omega), eo 63 (by omega), eo 69 (by omega), mComes_65]
    obtain ⟨a1, a2, a3, a4, a5, a6, a7⟩ := hW t ht
    refine ⟨a1, a2, a3, a4, a5, ?_, a7⟩
    by_cases e : t = i
    · subst e; rw [pk_us]; exact ⟨0, by decide, rfl⟩
    · rw [pk_un e]; exact a6
  · intro j hj
    rw [ec _ (by omega)]
    refine ⟨(hC j hj).1, fun f hf h0 => ?_⟩
    have := ck_rg f hf h0
    rw [eo _ (by omega)]
    exact (hC j hj).2 f hf h0
  · intro j hj
    rw [eo 76 (by omega), eo 77 (by omega), eo 79 (by omega), eo 80 (by omega), eo 81 (by omega), eo 82 (by omega), eo 84 (by omega)]
    exact hY j hj
  · refine ⟨fun t ht => ?_, ?_⟩
    · rw [mComes_72, mComes_65, pk_un (by omega), pk_un (by omega), eo 69 (by omega), eo 70 (by omega), eo 71 (by omega)]
      exact hZ.1 t ht
    · rw [eo 83 (by omega)]
      exact hZ.2
theorem op_turnUp {n nc : Nat} {g gB : sg} (h : kRl n nc g g) (x room : Int32) (hB : gB = if kd2 (isF n x && inn room 0 5) (decide (g (100 + 3 * x.toNatClampNeg) 9 = 2)) = 0 then sU (cComes g x.toNatClampNeg room (g 0 10)) 40 0 (cmH (g (100 + 3 * x.toNatClampNeg) 7)) else g) :
    opR n nc n nc g gB (kd2 (isF n x && inn room 0 5) (decide (g (100 + 3 * x.toNatClampNeg) 9 = 2))) (cmH (g (100 + 3 * x.toNatClampNeg) 7)) (kd2 (isF n x && inn room 0 5) (decide (gB 65 x.toNatClampNeg = 2))) (cmH (gB 72 x.toNatClampNeg)) (mk (kd2 (isF n x && inn room 0 5) (decide (gB 65 x.toNatClampNeg = 2))) (mComes (sU gB 9 0 0) x.toNatClampNeg room) gB) := by
  have n30 := h.n30
  refine op_mk (fun g' => kd2 (isF n x && inn room 0 5) (decide (g' 65 x.toNatClampNeg = 2))) (fun g' => cmH (g' 72 x.toNatClampNeg)) (fun g' => mComes (sU g' 9 0 0) x.toNatClampNeg room) h hB (fun g' hr => kd2_cg (fun hx => by rw [hr.F (isF_lt (and_l hx) n30) 9 65 (by decide) rfl (by decide)])) (fun c k h1 h2 h3 => cComes_row _ _ _ _ (by omega) (by have := isF_lt (and_l (kd2_0.mp c).1) n30; omega)) (fun c g' hr _ => ?_) (fun _ g' e => mComes_e e.t _ _) (fun _ g' => mComes_x ((cX.rf g').m (by omega)) _ _) (fun _ => ?_) (fun c => ?_)
  · show cmH (g' 72 x.toNatClampNeg) = _
    rw [hr.F (isF_lt (and_l (kd2_0.mp c).1) n30) 7 72 (by decide) rfl (by decide)]
  · show mComes (sU g 9 0 0) x.toNatClampNeg room 9 0 = 0
    rw [mComes_row _ _ _ (by decide), sU_s]
  · exact (h.t 0).comes (isF_lt (and_l (kd2_0.mp c).1) n30) room (by rw [sU_ne (by omega)]; exact h.day)
