/-! days on either side; a find more, a claim more -/
theorem sU_id (g : sg) (k j : Nat) : sU g k j (g k j) = g := by
  funext a b
  unfold sU
  by_cases e : a = k ∧ b = j
  · rw [if_pos e, e.1, e.2]
  · rw [if_neg e]
theorem mBag_e {m m' : sg} (e : mE m m') (K : Nat) : mE (mBag m K) (mBag m' K) := by
  induction K with
  | zero => exact e
  | succ K ih =>
    unfold mBag
    rw [ih 65 (by omega) (by omega) (by omega), ih 67 (by omega) (by omega) (by omega)]
    by_cases c : mBag m K 65 K = 1
    · rw [if_pos c, if_pos c]; exact mComes_e ih _ _
    · rw [if_neg c, if_neg c]; exact ih
theorem mBag_x {c m : sg} (h : cX c m) (K : Nat) : cX c (mBag m K) := fun k hk => (mBag_row m K (by omega)).trans (h k hk)
theorem mEr_e {m m' : sg} (e : mE m m') (K : Nat) : mE (mEr m K) (mEr m' K) := by
  induction K with
  | zero => exact e
  | succ K ih =>
    unfold mEr
    rw [ih 82 (by omega) (by omega) (by omega), ih 9 (by omega) (by omega) (by omega), ih 83 (by omega) (by omega) (by omega), ih 80 (by omega) (by omega) (by omega), ih 81 (by omega) (by omega) (by omega)]
    exact ((ih.u rfl).u rfl).u rfl
theorem mEr_x {c m : sg} (h : cX c m) (K : Nat) : cX c (mEr m K) := fun k hk => (mEr_row m K (by omega)).trans (h k hk)
theorem mDay_e {m m' : sg} (e : mE m m') (n nc : Nat) : mE (mDay m n nc) (mDay m' n nc) := by
  unfold mDay
  exact mEr_e (mBag_e (e.u (by rw [e 9 (by omega) (by omega) (by omega)])) n) nc
theorem mDays_e {m m' : sg} (e : mE m m') (n nc K : Nat) : mE (mDays m n nc K) (mDays m' n nc K) := by
  induction K with
  | zero => exact e
  | succ K ih => exact mDay_e ih n nc
theorem mDays_x {c m : sg} (h : cX c m) (n nc K : Nat) : cX c (mDays m n nc K) := by
  induction K with
  | zero => exact h
  | succ K ih =>
    show cX c (mDay (mDays m n nc K) n nc)
    unfold mDay
    exact mEr_x (mBag_x (ih.m (by omega)) n) nc
theorem mDays_90 (m : sg) (n nc K : Nat) : mDays m n nc K 9 0 = m 9 0 := by
  induction K with
  | zero => rfl
  | succ K ih => exact (mDay_9 _ _ _ (by decide)).trans ih
theorem er_cb (st d f : Int32) : erC st d f = erB st d f := by
  unfold erC erB
  by_cases h : st = 1
  · rw [decide_eq_true h]; rfl
  · rw [decide_eq_false h]; rfl
theorem kRl.bag {n nc : Nat} {c m : sg} (h : kRl n nc c m) : ∀ k, k ≤ n → kRl n nc (cBag c n k) (mBag m k)
  | 0, _ => h
  | k + 1, hk => by
    have ih := h.bag k (by omega)
    have e9 := ih.F (i := k) (by omega) 9 65 (by decide) rfl (by decide)
    have e10 := ih.rm (i := k) (by omega)
    unfold cBag mBag
    rw [if_pos (by omega), e9]
    by_cases a : mBag m k 65 k = 1
    · rw [if_pos (Or.inl a)] at e10
      rw [if_pos a, if_pos a, e10]
      exact ih.comes (by omega) _ ih.day
    · rw [if_neg a, if_neg a]
      exact ih
theorem cBag_up (c : sg) (n d : Nat) : cBag c n (n + d) = cBag c n n := by
  induction d with
  | zero => rfl
  | succ d ih =>
    show (if n + d < n then _ else cBag c n (n + d)) = _
    rw [if_neg (by omega), ih]
theorem kRl.er {n nc : Nat} {c m : sg} (h : kRl n nc c m) : ∀ k, k ≤ nc → kRl n nc (cEr c nc k) (mEr m k)
  | 0, _ => h
  | k + 1, hk => by
    have ih := h.er k (by omega)
    have e7 := ih.C (j := k) (by omega) 7 82 (by decide) rfl (by decide)
    have e9 := ih.C (j := k) (by omega) 9 83 (by decide) rfl (by decide)
    have ed := ih.day
    unfold cEr mEr
    rw [if_pos (by omega)]
    unfold cErs
    rw [e7, e9, ed, er_cb]
    generalize cEr c nc k = c1 at ih ⊢
    generalize mEr m k = m1 at ih ⊢
    by_cases a : erB (m1 82 k) (m1 9 1) (m1 83 k) = true
    · rw [if_pos a, if_pos a, if_pos a, if_pos a]
      obtain ⟨hN, hS, hV, hF, hR, hH, hW, hC, hY, hZ⟩ := id ih
      have n30 := ih.n30
      exact ⟨(((((hN.c (by omega)).c (by omega)).c (by omega)).m (by omega)).m (by omega)).m (by omega), (((((hS.c (by omega)).c (by omega)).c (by omega)).m (by omega)).m (by omega)).m (by omega), ((hV.m (by omega)).m (by omega)).m (by omega), (((((hF.c n30 (by omega)).c n30 (by omega)).c n30 (by omega)).m (by omega)).m (by omega)).m (by omega), (((((hR.c n30 (by omega)).c n30 (by omega)).c n30 (by omega)).m (by omega)).m (by omega)).m (by omega), (((((hH.c n30 (by omega)).c n30 (by omega)).c n30 (by omega)).m (by omega)).m (by omega)).m (by omega), ((hW.m (by omega)).m (by omega)).m (by omega), ((hC.p _ 7 rfl (by decide) (by decide) rfl).p _ 5 rfl (by decide) (by decide) rfl).p _ 6 rfl (by decide) (by decide) rfl, ((hY.s (by decide)).w (fun k _ => b_0 k)).t (fun k _ => b_0 k), ((hZ.m (by omega)).m (by omega)).m (by omega)⟩
    · rw [if_neg a, if_neg a, if_neg a, if_neg a, sU_id]
      rw [sU_id, sU_id]
      exact ih
theorem cEr_up (c : sg) (nc d : Nat) : cEr c nc (nc + d) = cEr c nc nc := by
  induction d with
  | zero => rfl
  | succ d ih =>
    show (if nc + d < nc then _ else cEr c nc (nc + d)) = _
    rw [if_neg (by omega), ih]
theorem mDay_91 (m : sg) (n nc : Nat) : mDay m n nc 9 1 = m 9 1 + 1 := by
  unfold mDay
  rw [mEr_row _ _ (by decide), mBag_row _ _ (by decide), sU_s]
theorem kRl.dayOn {n nc : Nat} {c m : sg} (h : kRl n nc c m) (hd : (m 9 1).toInt + 1 ≤ 9999) : kRl n nc (cDay c n nc) (mDay m n nc) := by
  have n30 := h.n30
  have c20 := h.c20
  have r1 : kRl n nc (sU c 0 10 (c 0 10 + 1)) (sU m 9 1 (m 9 1 + 1)) := by
    obtain ⟨hN, hS, ⟨v1, v2, v3, v4⟩, -⟩ := id h
    have e1 : (1 : Int32).toInt = 1 := rfl
    have hv := vp_in_iff.mp v1
    rw [h.day]
    refine h.g (fun k hk => sU_row _ _ _ (by omega)) (fun k h1 h2 => sU_row _ _ _ (by omega)) ((hN.c (by omega)).m (by omega)) (hS.p (by omega)) ⟨?_, ?_, ?_, ?_⟩
    · rw [sU_s, vp_in_iff, ti_add (by omega) (by omega)]
      omega
    · rw [sU_ne (by omega)]; exact v2
    · rw [sU_row _ _ _ (by omega)]; exact v3
    · rw [sU_row _ _ _ (by omega)]; exact v4
  have r2 := r1.bag n (Nat.le_refl n)
  have r3 := r2.er nc (Nat.le_refl nc)
  unfold cDay mDay
  have e1 := cBag_up (sU c 0 10 (c 0 10 + 1)) n (30 - n)
  rw [show n + (30 - n) = 30 from by omega] at e1
  rw [e1]
  have e2 := cEr_up (cBag (sU c 0 10 (c 0 10 + 1)) n n) nc (20 - nc)
  rw [show nc + (20 - nc) = 20 from by omega] at e2
  rw [e2]
  exact r3
theorem kRl.days {n nc : Nat} {c m : sg} (h : kRl n nc c m) : ∀ k : Nat, (m 9 1).toInt + (k : Int) ≤ 9999 → kRl n nc (cDays c n nc k) (mDays m n nc k) ∧ (mDays m n nc k 9 1).toInt = (m 9 1).toInt + (k : Int)
  | 0, _ => ⟨h, by show (m 9 1).toInt = _; omega⟩
  | k + 1, hk => by
    obtain ⟨ih1, ih2⟩ := h.days k (by omega)
    have e1 : (1 : Int32).toInt = 1 := rfl
    have hv := vp_in_iff.mp ih1.2.2.1.1
    refine ⟨ih1.dayOn (by omega), ?_⟩
    show (mDay (mDays m n nc k) n nc 9 1).toInt = _
    rw [mDay_91, ti_add (by omega) (by omega)]
    omega
theorem op_pass {n nc : Nat} {g gB : sg} (h : kRl n nc g g) (many : Int32) (hB : gB = if kd2 (inn many 1 400) (decide (g 0 10 + many ≤ 9999)) = 0 then sU (cDays g n nc many.toNatClampNeg) 40 0 (cDays g n nc many.toNatClampNeg 0 10) else g) :
    opR n nc n nc g gB (kd2 (inn many 1 400) (decide (g 0 10 + many ≤ 9999))) (cDays g n nc many.toNatClampNeg 0 10) (kd2 (inn many 1 400) (decide (gB 9 1 + many ≤ 9999))) (mDays (sU gB 9 0 0) n nc many.toNatClampNeg 9 1) (mk (kd2 (inn many 1 400) (decide (gB 9 1 + many ≤ 9999))) (mDays (sU gB 9 0 0) n nc many.toNatClampNeg) gB) := by
  have hd : kd2 (inn many 1 400) (decide (g 0 10 + many ≤ 9999)) = 0 → ∀ g', kRl n nc g g' → (sU g' 9 0 0 9 1).toInt + (many.toNatClampNeg : Int) ≤ 9999 := by
    intro c g' hr
    obtain ⟨c1, c2⟩ := kd2_0.mp c
    have c2 := of_decide_eq_true c2
    obtain ⟨k, hk, rfl⟩ := inn_ex c1 (N := 400) rfl (by decide)
    have hv := vp_in_iff.mp hr.2.2.1.1
    rw [sU_ne (by omega), cl_nI (by omega), ← hr.day]
    rw [← hr.day] at hv
    have e9 : (9999 : Int32).toInt = 9999 := rfl
    have ek : (nI k).toInt = k := nI_toInt (by omega)
    rw [Int32.le_iff_toInt_le, ti_add (by omega) (by omega)] at c2
    omega
  refine op_mk (fun g' => kd2 (inn many 1 400) (decide (g' 9 1 + many ≤ 9999))) (fun g' => mDays (sU g' 9 0 0) n nc many.toNatClampNeg 9 1) (fun g' => mDays (sU g' 9 0 0) n nc many.toNatClampNeg) h hB (fun g' hr => by rw [hr.day]) (fun _ k h1 h2 h3 => cDays_row _ _ _ h2 (by omega) h.n30 _) (fun c g' hr _ => ((hr.t 0).days _ (hd c g' hr)).1.day.symm) (fun _ g' e => mDays_e e.t _ _ _) (fun _ g' => mDays_x ((cX.rf g').m (by omega)) _ _ _) (fun _ => ?_) (fun c => ((h.t 0).days _ (hd c g h)).1)
  exact (mDays_90 _ _ _ _).trans (sU_s _ _ _ _)
/-- a coming forgets where it was; the globals beside it -/
theorem cComes_10 (g : sg) (n : Nat) (room day v : Int32) : cComes (sU g (100 + 3 * n) 10 v) n room day = cComes g n room day := by
  funext k j
  unfold cComes
  rw [sU_ne (g := g) (k' := 100 + 3 * n) (j' := 7) (by omega)]
  by_cases h1 : k = 100 + 3 * n + 1
  · rw [if_pos h1, if_pos h1, sU_row _ _ _ (by omega)]
  · rw [if_neg h1, if_neg h1]
    by_cases h2 : k = 100 + 3 * n + 2
    · rw [if_pos h2, if_pos h2, sU_row _ _ _ (by omega)]
    · rw [if_neg h2, if_neg h2]
      by_cases h3 : k = 100 + 3 * n
      · subst h3
        rw [if_pos rfl, if_pos rfl, sU_ne (g := g) (k' := 100 + 3 * n) (j' := 7) (by omega)]
        by_cases a : j = 7
        · subst a; rw [pk_us, pk_us]
        · rw [pk_un a, pk_un a]
          by_cases b : j = 10
          · subst b; rw [pk_us, pk_us]
          · rw [pk_un b, pk_un b]
            by_cases d : j = 9
            · subst d; rw [pk_us, pk_us]
            · rw [pk_un d, pk_un d, sU_ne (by omega)]
      · rw [if_neg h3, if_neg h3, sU_row _ _ _ h3]
theorem cComes_lo (g : sg) {n : Nat} (hn : n < 30) (room day : Int32) {k j : Nat} {v : Int32} (hk : k < 100) : sU (cComes g n room day) k j v = cComes (sU g k j v) n room day := by
  funext a b
  by_cases e : a = k
  · subst e
    rw [cComes_row _ _ _ _ (Or.inl hk) hn]
    unfold sU
    rw [cComes_row _ _ _ _ (Or.inl hk) hn]
  · rw [sU_row _ _ _ e]
    unfold cComes
    rw [sU_row _ _ _ e, sU_row g j v (by omega : 100 + 3 * n ≠ k)]
theorem mFindT_e {m m' : sg} (e : mE m m') (n : Nat) (kind place dago set secret value : Int32) : mE (mFindT m n kind place dago set secret value) (mFindT m' n kind place dago set secret value) := by
  unfold mFindT
  rw [e 9 (by omega) (by omega) (by omega), e 54 (by omega) (by omega) (by omega)]
  exact (((((((e.u rfl).u rfl).u rfl).u rfl).u rfl).u rfl).u rfl).u rfl
theorem mFind_e {m m' : sg} (e : mE m m') (n : Nat) (kind place dago set secret value room : Int32) : mE (mFind m n kind place dago set secret value room) (mFind m' n kind place dago set secret value room) := by
  unfold mFind
  exact (mComes_e (mFindT_e e n kind place dago set secret value) n room).u rfl
theorem mFind_x {c m : sg} (h : cX c m) (n : Nat) (kind place dago set secret value room : Int32) : cX c (mFind m n kind place dago set secret value room) := by
  unfold mFind mFindT
  exact (mComes_x ((((((((h.m (by omega)).m (by omega)).m (by omega)).m (by omega)).m (by omega)).m (by omega)).m (by omega)).m (by omega)) n room).m (by omega)
theorem mClaim_e {m m' : sg} (e : mE m m') (nc : Nat) (kind place fr to set : Int32) : mE (mClaim m nc kind place fr to set) (mClaim m' nc kind place fr to set) := by
  unfold mClaim
  exact (((((((((e.u rfl).u rfl).u rfl).u rfl).u rfl).u rfl).u rfl).u rfl).u rfl).u rfl
theorem mClaim_x {c m : sg} (h : cX c m) (nc : Nat) (kind place fr to set : Int32) : cX c (mClaim m nc kind place fr to set) := by
  unfold mClaim
  exact (((((((((h.m (by omega)).m (by omega)).m (by omega)).m (by omega)).m (by omega)).m (by omega)).m (by omega)).m (by omega)).m (by omega)).m (by omega)
theorem fk_all : ∀ f, f < 15 → fk f ≠ 0 → f = 0 ∨ f = 1 ∨ f = 2 ∨ f = 3 ∨ f = 4 ∨ f = 7 ∨ f = 8 ∨ f = 9 ∨ f = 11 ∨ f = 12 ∨ f = 13 ∨ f = 14 := by decide +kernel
theorem ck_all : ∀ f, f < 10 → ck f ≠ 0 → f = 1 ∨ f = 2 ∨ f = 3 ∨ f = 4 ∨ f = 5 ∨ f = 6 ∨ f = 7 ∨ f = 8 ∨ f = 9 := by decide +kernel
/-- the ranges of a find as it is told -/
theorem find_rg {day dago : Int32} (hd : vp_in day 10000) (h : inn dago 0 day = true) : vp_in (day - dago) 10000 := by
  obtain ⟨h1, h2⟩ := inn_toInt h
  have e0 : (0 : Int32).toInt = 0 := rfl
  have hv := vp_in_iff.mp hd
  rw [vp_in_iff, ti_sub (by omega) (by omega)]
  omega
theorem mComes_98 (m : sg) (i : Nat) (r v : Int32) : sU (mComes m i r) 9 8 v = mComes (sU m 9 8 v) i r := by
  funext a b
  by_cases e : a = 9
  · subst e
    rw [mComes_row (sU m 9 8 v) _ _ (by decide)]
    unfold sU
    rw [mComes_row m _ _ (by decide)]
  · rw [sU_row _ _ _ e]
    unfold mComes
    rw [sU_row m 8 v (by decide : 73 ≠ 9), sU_row m 8 v (by decide : 74 ≠ 9), sU_row m 8 v (by decide : 72 ≠ 9), sU_row m 8 v (by decide : 65 ≠ 9), sU_row m 8 v (by decide : 66 ≠ 9), sU_row m 8 v e, sU_ne (g := m) (k' := 9) (j' := 1) (by omega)]
theorem kRl.find {n nc : Nat} {g : sg} (h : kRl n nc g g) (hn : n < 30) (kind place dago set secret value room : Int32) (hk : inn kind 0 7 = true) (hp : inn place 0 9 = true) (hd : inn dago 0 (g 9 1) = true) (hs : sB set) (ht : sB secret) : kRl (n + 1) nc (cFind g n kind place dago set secret value room) (mFind g n kind place dago set secret value room) := by
  have ed := h.day
  unfold cFind mFind
  rw [mComes_98, cComes_lo _ hn _ _ (by decide), cComes_lo _ hn _ _ (by decide)]
  generalize hm1 : sU (mFindT g n kind place dago set secret value) 9 8 (nI n + 1) = m1
  rw [← cComes_10 _ n room (g 0 10) (m1 66 n)]
  generalize hc1 : sU (sU (sU (cFind0 g n kind place dago set secret value) 6 n 1) 0 8 (nI n + 1)) (100 + 3 * n) 10 (m1 66 n) = c1
  have c_lo : ∀ k, k < 100 → k ≠ 0 → k ≠ 6 → c1 k = g k := by
    intro k h1 h2 h3
    rw [← hc1, sU_row _ _ _ (by omega), sU_row _ _ _ (by omega), sU_row _ _ _ (by omega)]
    unfold cFind0
    rw [sU_row _ _ _ (by omega)]
    exact gF_o (by omega)
  have c_00 : ∀ j, j ≠ 8 → c1 0 j = g 0 j := by
    intro j hj
    rw [← hc1, sU_ne (by omega), sU_ne (by omega), sU_ne (by omega)]
    unfold cFind0
    rw [sU_ne (by omega), gF_o (by omega)]
  have c_08 : c1 0 8 = nI n + 1 := by
    rw [← hc1, sU_ne (by omega), sU_s]
  have c_6 : ∀ j, c1 6 j = if j = n then 1 else g 6 j := by
    intro j
    rw [← hc1, sU_ne (by omega), sU_ne (by omega)]
    by_cases e : j = n
    · subst e; rw [sU_s, if_pos rfl]
    · rw [sU_ne (by omega), if_neg e]
      unfold cFind0
      rw [sU_ne (by omega), gF_o (by omega)]
  have c_hi : ∀ k, 100 ≤ k → (k < 100 + 3 * n ∨ 200 ≤ k) → c1 k = g k := by
    intro k h1 h2
    rw [← hc1, sU_row _ _ _ (by omega), sU_row _ _ _ (by omega), sU_row _ _ _ (by omega)]
    unfold cFind0
    rw [sU_row _ _ _ (by omega)]
    exact gF_o (by omega)
  have c_n : ∀ f, f ≠ 10 → f ≠ 11 → c1 (100 + 3 * n) f = rowF kind place (g 0 10 - dago) secret value set f := by
    intro f h1 h2
    rw [← hc1, sU_ne (by omega), sU_ne (by omega), sU_ne (by omega)]
    unfold cFind0
    rw [sU_ne (by omega), gF_n]
  have c_10 : c1 (100 + 3 * n) 10 = m1 66 n := by rw [← hc1, sU_s]
  have c_11 : c1 (100 + 3 * n) 11 = g 0 10 + (if kind = 7 then 1 else g 4 kind.toNatClampNeg) := by
    rw [← hc1, sU_ne (by omega), sU_ne (by omega), sU_ne (by omega)]
    unfold cFind0
    rw [sU_s]
  have m_o : ∀ k, k ≠ 9 → k ≠ 59 → k ≠ 60 → k ≠ 61 → k ≠ 62 → k ≠ 63 → k ≠ 64 → k ≠ 68 → m1 k = g k := by
    intro k h1 h2 h3 h4 h5 h6 h7 h8
    rw [← hm1, sU_row _ _ _ h1]
    unfold mFindT
    rw [sU_row _ _ _ h8, sU_row _ _ _ h7, sU_row _ _ _ h6, sU_row _ _ _ h5, sU_row _ _ _ h4, sU_row _ _ _ h3, sU_row _ _ _ h2, sU_row _ _ _ h1]
  have m_9 : ∀ j, j ≠ 0 → j ≠ 8 → m1 9 j = g 9 j := by
    intro j h1 h2
    rw [← hm1, sU_ne (by omega)]
    unfold mFindT
    rw [sU_ne (by omega), sU_ne (by omega), sU_ne (by omega), sU_ne (by omega), sU_ne (by omega), sU_ne (by omega), sU_ne (by omega), sU_ne (by omega)]
  have m_98 : m1 9 8 = nI n + 1 := by rw [← hm1, sU_s]
  have m_t : ∀ k i, k ≠ 9 → i ≠ n → m1 k i = g k i := by
    intro k i h1 h2
    rw [← hm1, sU_ne (by omega)]
    unfold mFindT
    rw [sU_ne (by omega), sU_ne (by omega), sU_ne (by omega), sU_ne (by omega), sU_ne (by omega), sU_ne (by omega), sU_ne (by omega), sU_ne (by omega)]
  have m59 : m1 59 n = kind := by rw [← hm1]; unfold mFindT; rw [sU_ne (by omega), sU_ne (by omega), sU_ne (by omega), sU_ne (by omega), sU_ne (by omega), sU_ne (by omega), sU_ne (by omega), sU_s]
  have m60 : m1 60 n = place := by rw [← hm1]; unfold mFindT; rw [sU_ne (by omega), sU_ne (by omega), sU_ne (by omega), sU_ne (by omega), sU_ne (by omega), sU_ne (by omega), sU_s]
  have m61 : m1 61 n = g 9 1 - dago := by rw [← hm1]; unfold mFindT; rw [sU_ne (by omega), sU_ne (by omega), sU_ne (by omega), sU_ne (by omega), sU_ne (by omega), sU_s]
  have m62 : m1 62 n = set := by rw [← hm1]; unfold mFindT; rw [sU_ne (by omega), sU_ne (by omega), sU_ne (by omega), sU_ne (by omega), sU_s]
  have m63 : m1 63 n = secret := by rw [← hm1]; unfold mFindT; rw [sU_ne (by omega), sU_ne (by omega), sU_ne (by omega), sU_s]
  have m64 : m1 64 n = value := by rw [← hm1]; unfold mFindT; rw [sU_ne (by omega), sU_ne (by omega), sU_s]
  have m68 : m1 68 n = g 9 1 + (if kind = 7 then 1 else g 54 kind.toNatClampNeg) := by rw [← hm1]; unfold mFindT; rw [sU_ne (by omega), sU_s]
  obtain ⟨⟨n1, n2, n3, n4, n5, n6, n7, n8⟩, ⟨s1, s2, s3, s4, s5, s6, s7, s8, s9, s0⟩, ⟨v1, v2, v3, v4⟩, hF, hR, hH, hW, hC, hY, hZ⟩ := id h
  obtain ⟨z1, z2, z3, z4, z5⟩ := hZ.1 n (Nat.le_refl n)
  have m65 : m1 65 n = 0 := by rw [m_o 65 (by decide) (by decide) (by decide) (by decide) (by decide) (by decide) (by decide) (by decide)]; exact z5
  have m69 : m1 69 n = 0 := by rw [m_o 69 (by decide) (by decide) (by decide) (by decide) (by decide) (by decide) (by decide) (by decide)]; exact z2
  have m72 : m1 72 n = 0 := by rw [m_o 72 (by decide) (by decide) (by decide) (by decide) (by decide) (by decide) (by decide) (by decide)]; exact z1
  have hrel : kRl (n + 1) nc c1 m1 := by
    refine ⟨⟨by omega, n2, ?_, ?_, ?_, ?_, ?_, ?_⟩, ⟨?_, ?_, ?_, ?_, ?_, ?_, ?_, ?_, ?_, ?_⟩, ⟨?_, ?_, ?_, ?_⟩, ?_, ?_, ?_, ?_, ?_, ?_, ?_⟩
    · rw [c_08, nI_1]
    · rw [m_98, nI_1]
    · rw [c_00 9 (by decide)]; exact n5
    · rw [m_9 25 (by decide) (by decide)]; exact n6
    · intro j
      rw [c_6]
      by_cases e : j = n
      · rw [if_pos e, if_pos (by omega)]
      · rw [if_neg e, n7 j]
        by_cases e2 : j < n
        · rw [if_pos e2, if_pos (by omega)]
        · rw [if_neg e2, if_neg (by omega)]
    · rw [c_lo 7 (by decide) (by decide) (by decide)]; exact n8
    · rw [c_lo 1 (by decide) (by decide) (by decide), m_o 52 (by decide) (by decide) (by decide) (by decide) (by decide) (by decide) (by decide) (by decide)]; exact s1
    · rw [c_lo 2 (by decide) (by decide) (by decide), m_o 53 (by decide) (by decide) (by decide) (by decide) (by decide) (by decide) (by decide) (by decide)]; exact s2
    · rw [c_lo 3 (by decide) (by decide) (by decide), m_o 56 (by decide) (by decide) (by decide) (by decide) (by decide) (by decide) (by decide) (by decide)]; exact s3
    · rw [c_lo 4 (by decide) (by decide) (by decide), m_o 54 (by decide) (by decide) (by decide) (by decide) (by decide) (by decide) (by decide) (by decide)]; exact s4
    · rw [c_lo 5 (by decide) (by decide) (by decide), m_o 55 (by decide) (by decide) (by decide) (by decide) (by decide) (by decide) (by decide) (by decide)]; exact s5
    · rw [c_00 10 (by decide), m_9 1 (by decide) (by decide)]; exact s6
    · rw [c_00 11 (by decide), m_9 7 (by decide) (by decide)]; exact s7
    · rw [c_00 12 (by decide), m_9 35 (by decide) (by decide)]; exact s8
    · rw [c_00 13 (by decide), m_9 36 (by decide) (by decide)]; exact s9
    · rw [c_00 14 (by decide), m_9 37 (by decide) (by decide)]; exact s0
    · rw [m_9 1 (by decide) (by decide)]; exact v1
    · rw [m_9 7 (by decide) (by decide)]; exact v2
    · rw [m_o 52 (by decide) (by decide) (by decide) (by decide) (by decide) (by decide) (by decide) (by decide)]; exact v3
    · rw [m_o 56 (by decide) (by decide) (by decide) (by decide) (by decide) (by decide) (by decide) (by decide)]; exact v4
    · intro i hi f hf h0
      have hr := fk_rg f hf h0
      by_cases e : i = n
      · subst e
        rcases fk_all f hf h0 with rfl | rfl | rfl | rfl | rfl | rfl | rfl | rfl | rfl | rfl | rfl | rfl
        · rw [c_n 0 (by decide) (by decide)]; exact m59.symm
        · rw [c_n 1 (by decide) (by decide)]; exact m60.symm
        · rw [c_n 2 (by decide) (by decide), ed]; exact m61.symm
        · rw [c_n 3 (by decide) (by decide)]; exact m63.symm
        · rw [c_n 4 (by decide) (by decide)]; exact m64.symm
        · rw [c_n 7 (by decide) (by decide)]; exact m72.symm
        · rw [c_n 8 (by decide) (by decide)]; exact m62.symm
        · rw [c_n 9 (by decide) (by decide)]; exact m65.symm
        · rw [c_11, ed, s4]; exact m68.symm
        · rw [c_n 12 (by decide) (by decide)]; exact m69.symm
        · rw [c_n 13 (by decide) (by decide), show fk 13 = 70 from rfl, m_o 70 (by decide) (by decide) (by decide) (by decide) (by decide) (by decide) (by decide) (by decide)]; exact z3.symm
        · rw [c_n 14 (by decide) (by decide), show fk 14 = 71 from rfl, m_o 71 (by decide) (by decide) (by decide) (by decide) (by decide) (by decide) (by decide) (by decide)]; exact z4.symm
      · rw [c_hi _ (by omega) (by omega), m_t _ _ (by omega) e]
        exact hF i (by omega) f hf h0
    · intro i hi
      by_cases e : i = n
      · subst e
        rw [c_10, m65, if_neg (by decide)]
      · rw [c_hi _ (by omega) (by omega), m_t _ _ (by decide) e, m_t _ _ (by decide) e, m_t _ _ (by decide) e]
        exact hR i (by omega)
    · intro i hi
      by_cases e : i = n
      · subst e
        exact ⟨0, by decide, m72, fun p hp => absurd hp (by omega)⟩
      · obtain ⟨k, k1, k2, k3⟩ := hH i (by omega)
        refine ⟨k, k1, by rw [m_t _ _ (by decide) e]; exact k2, fun p hp => ?_⟩
        rw [c_hi _ (by omega) (by omega), c_hi _ (by omega) (by omega), m_o 73 (by decide) (by decide) (by decide) (by decide) (by decide) (by decide) (by decide) (by decide), m_o 74 (by decide) (by decide) (by decide) (by decide) (by decide) (by decide) (by decide) (by decide)]
        exact k3 p hp
    · intro i hi
      by_cases e : i = n
      · subst e
        rw [m59, m60, m61, m62, m63, m65, m69]
        exact ⟨inn_vp hk (by decide), inn_vp hp (by decide), find_rg v1 hd, hs, ht, ⟨0, by decide, rfl⟩, Or.inl rfl⟩
      · rw [m_t 59 _ (by decide) e, m_t 60 _ (by decide) e, m_t 61 _ (by decide) e, m_t 62 _ (by decide) e, m_t 63 _ (by decide) e, m_t 65 _ (by decide) e, m_t 69 _ (by decide) e]
        exact hW i (by omega)
    · intro j hj
      rw [c_hi _ (by omega) (by omega)]
      refine ⟨(hC j hj).1, fun f hf h0 => ?_⟩
      have := ck_rg f hf h0
      rw [m_o _ (by omega) (by omega) (by omega) (by omega) (by omega) (by omega) (by omega) (by omega)]
      exact (hC j hj).2 f hf h0
    · intro j hj
      rw [m_o 76 (by decide) (by decide) (by decide) (by decide) (by decide) (by decide) (by decide) (by decide), m_o 77 (by decide) (by decide) (by decide) (by decide) (by decide) (by decide) (by decide) (by decide), m_o 79 (by decide) (by decide) (by decide) (by decide) (by decide) (by decide) (by decide) (by decide), m_o 80 (by decide) (by decide) (by decide) (by decide) (by decide) (by decide) (by decide) (by decide), m_o 81 (by decide) (by decide) (by decide) (by decide) (by decide) (by decide) (by decide) (by decide), m_o 82 (by decide) (by decide) (by decide) (by decide) (by decide) (by decide) (by decide) (by decide), m_o 84 (by decide) (by decide) (by decide) (by decide) (by decide) (by decide) (by decide) (by decide)]
      exact hY j hj
    · refine ⟨fun i hi => ?_, ?_⟩
      · rw [m_t 72 _ (by decide) (by omega), m_t 69 _ (by decide) (by omega), m_t 70 _ (by decide) (by omega), m_t 71 _ (by decide) (by omega), m_t 65 _ (by decide) (by omega)]
        exact hZ.1 i (by omega)
      · rw [m_o 83 (by decide) (by decide) (by decide) (by decide) (by decide) (by decide) (by decide) (by decide)]
        exact hZ.2
  exact hrel.comes (by omega) room (by rw [m_9 1 (by decide) (by decide)]; exact ed)
theorem op_find {n nc : Nat} {g gB : sg} (h : kRl n nc g g) (kind place dago set secret value room : Int32) (hB : gB = if kd3 (inn kind 0 7 && (inn place 0 9 && inn room 0 5)) (inn dago 0 (g 0 10) && (inn value 0 9999 && (inn set 0 16777215 && (inn secret 0 16777215 && decide ((set &&& secret) = 0))))) (!decide (nI n = 30)) = 0 then sU (cFind g n kind place dago set secret value room) 40 0 (nI n) else g) :
    opR n nc (n + 1) nc g gB (kd3 (inn kind 0 7 && (inn place 0 9 && inn room 0 5)) (inn dago 0 (g 0 10) && (inn value 0 9999 && (inn set 0 16777215 && (inn secret 0 16777215 && decide ((set &&& secret) = 0))))) (!decide (nI n = 30))) (nI n) (kd3 (inn kind 0 7 && (inn place 0 9 && inn room 0 5)) (inn dago 0 (gB 9 1) && (inn value 0 9999 && (inn set 0 16777215 && (inn secret 0 16777215 && decide ((set &&& secret) = 0))))) (!decide (nI n = 30))) (nI n) (mk (kd3 (inn kind 0 7 && (inn place 0 9 && inn room 0 5)) (inn dago 0 (gB 9 1) && (inn value 0 9999 && (inn set 0 16777215 && (inn secret 0 16777215 && decide ((set &&& secret) = 0))))) (!decide (nI n = 30))) (mFind gB n kind place dago set secret value room) gB) := by
  have hn : kd3 (inn kind 0 7 && (inn place 0 9 && inn room 0 5)) (inn dago 0 (g 0 10) && (inn value 0 9999 && (inn set 0 16777215 && (inn secret 0 16777215 && decide ((set &&& secret) = 0))))) (!decide (nI n = 30)) = 0 → n < 30 := fun c => nlt_of (kd3_0.mp c).2.2 h.n30 rfl
  refine op_mk (fun g' => kd3 (inn kind 0 7 && (inn place 0 9 && inn room 0 5)) (inn dago 0 (g' 9 1) && (inn value 0 9999 && (inn set 0 16777215 && (inn secret 0 16777215 && decide ((set &&& secret) = 0))))) (!decide (nI n = 30))) (fun _ => nI n) (fun g' => mFind g' n kind place dago set secret value room) h hB (fun g' hr => by rw [hr.day]) (fun c k h1 h2 h3 => ?_) (fun _ _ _ _ => rfl) (fun _ g' e => mFind_e e n kind place dago set secret value room) (fun _ g' => mFind_x (cX.rf g') n kind place dago set secret value room) (fun _ => ?_) (fun c => ?_)
  · show cFind g n kind place dago set secret value room k = g k
    unfold cFind
    rw [sU_row _ _ _ (by omega), sU_row _ _ _ (by omega), cComes_row _ _ _ _ (Or.inl h2) (hn c)]
    unfold cFind0
    rw [sU_row _ _ _ (by omega)]
    exact gF_o (by omega)
  · show mFind g n kind place dago set secret value room 9 0 = 0
    unfold mFind
    rw [sU_ne (by omega), mComes_row _ _ _ (by decide)]
    unfold mFindT
    rw [sU_ne (by omega), sU_ne (by omega), sU_ne (by omega), sU_ne (by omega), sU_ne (by omega), sU_ne (by omega), sU_ne (by omega), sU_s]
  · obtain ⟨c1, c2, c3⟩ := kd3_0.mp c
    have c4 := and_r (and_r c2)
    exact h.find (hn c) _ _ _ _ _ _ _ (and_l c1) (and_l (and_r c1)) (by rw [← h.day]; exact and_l c2) (inn_sB (and_l c4)) (inn_sB (and_l (and_r c4)))
theorem kRl.claim {n nc : Nat} {g : sg} (h : kRl n nc g g) (hn : nc < 20) (kind place fr to set : Int32) (hk : inn kind 0 7 = true) (hp : inn place 0 9 = true) (ht : vp_in to 10000) (hs : sB set) : kRl n (nc + 1) (cClaim g nc kind place fr to set) (mClaim g nc kind place fr to set) := by
  generalize hm1 : mClaim g nc kind place fr to set = m1
  generalize hc1 : cClaim g nc kind place fr to set = c1
  have n30 := h.n30
  have c_lo : ∀ k, k < 200 + nc → k ≠ 0 → k ≠ 7 → c1 k = g k := by
    intro k h1 h2 h3
    rw [← hc1]
    unfold cClaim
    rw [sU_row _ _ _ (by omega), sU_row _ _ _ (by omega)]
    exact gC_o (by omega)
  have c_00 : ∀ j, j ≠ 9 → c1 0 j = g 0 j := by
    intro j hj
    rw [← hc1]
    unfold cClaim
    rw [sU_ne (by omega), sU_ne (by omega), gC_o (by omega)]
  have c_09 : c1 0 9 = nI nc + 1 := by
    rw [← hc1]
    unfold cClaim
    rw [sU_s]
  have c_7 : ∀ j, c1 7 j = if j = nc then 1 else g 7 j := by
    intro j
    rw [← hc1]
    unfold cClaim
    rw [sU_ne (by omega)]
    by_cases e : j = nc
    · subst e; rw [sU_s, if_pos rfl]
    · rw [sU_ne (by omega), if_neg e, gC_o (by omega)]
  have c_n : ∀ f, c1 (200 + nc) f = rowC (nI nc) kind place fr to set f := by
    intro f
    rw [← hc1]
    unfold cClaim
    rw [sU_ne (by omega), sU_ne (by omega), gC_n]
  have m_o : ∀ k, k ≠ 9 → (k < 76 ∨ 84 < k ∨ k = 83) → m1 k = g k := by
    intro k h1 h2
    rw [← hm1]
    unfold mClaim
    rw [sU_row _ _ _ (by omega), sU_row _ _ _ (by omega), sU_row _ _ _ (by omega), sU_row _ _ _ (by omega), sU_row _ _ _ (by omega), sU_row _ _ _ (by omega), sU_row _ _ _ (by omega), sU_row _ _ _ (by omega), sU_row _ _ _ (by omega), sU_row _ _ _ (by omega)]
  have m_9 : ∀ j, j ≠ 0 → j ≠ 25 → m1 9 j = g 9 j := by
    intro j h1 h2
    rw [← hm1]
    unfold mClaim
    rw [sU_ne (by omega), sU_ne (by omega), sU_ne (by omega), sU_ne (by omega), sU_ne (by omega), sU_ne (by omega), sU_ne (by omega), sU_ne (by omega), sU_ne (by omega), sU_ne (by omega)]
  have m_925 : m1 9 25 = nI nc + 1 := by
    rw [← hm1]
    unfold mClaim
    rw [sU_s]
  have m_t : ∀ k i, k ≠ 9 → i ≠ nc → m1 k i = g k i := by
    intro k i h1 h2
    rw [← hm1]
    unfold mClaim
    rw [sU_ne (by omega), sU_ne (by omega), sU_ne (by omega), sU_ne (by omega), sU_ne (by omega), sU_ne (by omega), sU_ne (by omega), sU_ne (by omega), sU_ne (by omega), sU_ne (by omega)]
  have m76 : m1 76 nc = kind := by rw [← hm1]; unfold mClaim; rw [sU_ne (by omega), sU_ne (by omega), sU_ne (by omega), sU_ne (by omega), sU_ne (by omega), sU_ne (by omega), sU_ne (by omega), sU_ne (by omega), sU_s]
  have m77 : m1 77 nc = place := by rw [← hm1]; unfold mClaim; rw [sU_ne (by omega), sU_ne (by omega), sU_ne (by omega), sU_ne (by omega), sU_ne (by omega), sU_ne (by omega), sU_ne (by omega), sU_s]
  have m78 : m1 78 nc = fr := by rw [← hm1]; unfold mClaim; rw [sU_ne (by omega), sU_ne (by omega), sU_ne (by omega), sU_ne (by omega), sU_ne (by omega), sU_ne (by omega), sU_s]
  have m79 : m1 79 nc = to := by rw [← hm1]; unfold mClaim; rw [sU_ne (by omega), sU_ne (by omega), sU_ne (by omega), sU_ne (by omega), sU_ne (by omega), sU_s]
  have m80 : m1 80 nc = set := by rw [← hm1]; unfold mClaim; rw [sU_ne (by omega), sU_ne (by omega), sU_ne (by omega), sU_ne (by omega), sU_s]
  have m81 : m1 81 nc = 0 := by rw [← hm1]; unfold mClaim; rw [sU_ne (by omega), sU_ne (by omega), sU_ne (by omega), sU_s]
  have m82 : m1 82 nc = 0 := by rw [← hm1]; unfold mClaim; rw [sU_ne (by omega), sU_ne (by omega), sU_s]
  have m84 : m1 84 nc = -1 := by rw [← hm1]; unfold mClaim; rw [sU_ne (by omega), sU_s]
  obtain ⟨⟨n1, n2, n3, n4, n5, n6, n7, n8⟩, ⟨s1, s2, s3, s4, s5, s6, s7, s8, s9, s0⟩, ⟨v1, v2, v3, v4⟩, hF, hR, hH, hW, hC, hY, hZ⟩ := id h
  refine ⟨⟨n1, by omega, ?_, ?_, ?_, ?_, ?_, ?_⟩, ⟨?_, ?_, ?_, ?_, ?_, ?_, ?_, ?_, ?_, ?_⟩, ⟨?_, ?_, ?_, ?_⟩, ?_, ?_, ?_, ?_, ?_, ?_, ?_⟩
  · rw [c_00 8 (by decide)]; exact n3
  · rw [m_9 8 (by decide) (by decide)]; exact n4
  · rw [c_09, nI_1]
  · rw [m_925, nI_1]
  · rw [c_lo 6 (by omega) (by decide) (by decide)]; exact n7
  · intro j
    rw [c_7]
    by_cases e : j = nc
    · rw [if_pos e, if_pos (by omega)]
    · rw [if_neg e, n8 j]
      by_cases e2 : j < nc
      · rw [if_pos e2, if_pos (by omega)]
      · rw [if_neg e2, if_neg (by omega)]
  · rw [c_lo 1 (by omega) (by decide) (by decide), m_o 52 (by decide) (by decide)]; exact s1
  · rw [c_lo 2 (by omega) (by decide) (by decide), m_o 53 (by decide) (by decide)]; exact s2
  · rw [c_lo 3 (by omega) (by decide) (by decide), m_o 56 (by decide) (by decide)]; exact s3
  · rw [c_lo 4 (by omega) (by decide) (by decide), m_o 54 (by decide) (by decide)]; exact s4
  · rw [c_lo 5 (by omega) (by decide) (by decide), m_o 55 (by decide) (by decide)]; exact s5
  · rw [c_00 10 (by decide), m_9 1 (by decide) (by decide)]; exact s6
  · rw [c_00 11 (by decide), m_9 7 (by decide) (by decide)]; exact s7
  · rw [c_00 12 (by decide), m_9 35 (by decide) (by decide)]; exact s8
  · rw [c_00 13 (by decide), m_9 36 (by decide) (by decide)]; exact s9
  · rw [c_00 14 (by decide), m_9 37 (by decide) (by decide)]; exact s0
  · rw [m_9 1 (by decide) (by decide)]; exact v1
  · rw [m_9 7 (by decide) (by decide)]; exact v2
  · rw [m_o 52 (by decide) (by decide)]; exact v3
  · rw [m_o 56 (by decide) (by decide)]; exact v4
  · intro i hi f hf h0
    have := fk_rg f hf h0
    rw [c_lo _ (by omega) (by omega) (by omega), m_o _ (by omega) (by omega)]
    exact hF i hi f hf h0
  · intro i hi
    rw [c_lo _ (by omega) (by omega) (by omega), m_o 65 (by decide) (by decide), m_o 66 (by decide) (by decide), m_o 67 (by decide) (by decide)]
    exact hR i hi
  · intro i hi
    rw [c_lo _ (by omega) (by omega) (by omega), c_lo (100 + 3 * i + 2) (by omega) (by omega) (by omega), m_o 72 (by decide) (by decide), m_o 73 (by decide) (by decide), m_o 74 (by decide) (by decide)]
    exact hH i hi
  · intro i hi
    rw [m_o 59 (by decide) (by decide), m_o 60 (by decide) (by decide), m_o 61 (by decide) (by decide), m_o 62 (by decide) (by decide), m_o 63 (by decide) (by decide), m_o 65 (by decide) (by decide), m_o 69 (by decide) (by decide)]
    exact hW i hi
  · intro j hj
    by_cases e : j = nc
    · subst e
      refine ⟨by rw [c_n]; rfl, fun f hf h0 => ?_⟩
      rw [c_n]
      rcases ck_all f hf h0 with rfl | rfl | rfl | rfl | rfl | rfl | rfl | rfl | rfl
      · exact m76.symm
      · exact m77.symm
      · exact m78.symm
      · exact m79.symm
      · exact m80.symm
      · exact m81.symm
      · exact m82.symm
      · exact m84.symm
      · rw [show ck 9 = 83 from rfl, m_o 83 (by decide) (by decide), hZ.2 j (Nat.le_refl j)]
        rfl
    · rw [c_lo _ (by omega) (by omega) (by omega)]
      refine ⟨(hC j (by omega)).1, fun f hf h0 => ?_⟩
      have := ck_rg f hf h0
      rw [m_t _ _ (by omega) e]
      exact (hC j (by omega)).2 f hf h0
  · intro j hj
    by_cases e : j = nc
    · subst e
      rw [m76, m77, m79, m80, m81, m82, m84]
      exact ⟨inn_vp hk (by decide), inn_vp hp (by decide), ht, hs, fun k _ => b_0 k, fun _ => rfl⟩
    · rw [m_t 76 _ (by decide) e, m_t 77 _ (by decide) e, m_t 79 _ (by decide) e, m_t 80 _ (by decide) e, m_t 81 _ (by decide) e, m_t 82 _ (by decide) e, m_t 84 _ (by decide) e]
      exact hY j (by omega)
  · refine ⟨fun i hi => ?_, fun j hj => ?_⟩
    · rw [m_o 72 (by decide) (by decide), m_o 69 (by decide) (by decide), m_o 70 (by decide) (by decide), m_o 71 (by decide) (by decide), m_o 65 (by decide) (by decide)]
      exact hZ.1 i hi
    · rw [m_o 83 (by decide) (by decide)]
      exact hZ.2 j (by omega)
theorem to_rg {day fr to : Int32} (hd : vp_in day 10000) (h1 : inn fr 0 day = true) (h2 : inn to fr day = true) : vp_in to 10000 := by
  obtain ⟨a1, a2⟩ := inn_toInt h1
  obtain ⟨b1, b2⟩ := inn_toInt h2
  have e0 : (0 : Int32).toInt = 0 := rfl
  have hv := vp_in_iff.mp hd
  rw [vp_in_iff]
  omega
theorem op_claim {n nc : Nat} {g gB : sg} (h : kRl n nc g g) (kind place fr to set : Int32) (hB : gB = if kd3 (inn kind 0 7 && inn place 0 9) (inn fr 0 (g 0 10) && (inn to fr (g 0 10) && inn set 0 16777215)) (!decide (nI nc = 20)) = 0 then sU (cClaim g nc kind place fr to set) 40 0 (nI nc) else g) :
    opR n nc n (nc + 1) g gB (kd3 (inn kind 0 7 && inn place 0 9) (inn fr 0 (g 0 10) && (inn to fr (g 0 10) && inn set 0 16777215)) (!decide (nI nc = 20))) (nI nc) (kd3 (inn kind 0 7 && inn place 0 9) (inn fr 0 (gB 9 1) && (inn to fr (gB 9 1) && inn set 0 16777215)) (!decide (nI nc = 20))) (nI nc) (mk (kd3 (inn kind 0 7 && inn place 0 9) (inn fr 0 (gB 9 1) && (inn to fr (gB 9 1) && inn set 0 16777215)) (!decide (nI nc = 20))) (mClaim gB nc kind place fr to set) gB) := by
  refine op_mk (fun g' => kd3 (inn kind 0 7 && inn place 0 9) (inn fr 0 (g' 9 1) && (inn to fr (g' 9 1) && inn set 0 16777215)) (!decide (nI nc = 20))) (fun _ => nI nc) (fun g' => mClaim g' nc kind place fr to set) h hB (fun g' hr => by rw [hr.day]) (fun c k h1 h2 h3 => ?_) (fun _ _ _ _ => rfl) (fun _ g' e => mClaim_e e nc kind place fr to set) (fun _ g' => mClaim_x (cX.rf g') nc kind place fr to set) (fun _ => ?_) (fun c => ?_)
  · show cClaim g nc kind place fr to set k = g k
    unfold cClaim
    rw [sU_row _ _ _ (by omega), sU_row _ _ _ (by omega)]
    exact gC_o (by omega)
  · show mClaim g nc kind place fr to set 9 0 = 0
    unfold mClaim
    rw [sU_ne (by omega), sU_ne (by omega), sU_ne (by omega), sU_ne (by omega), sU_ne (by omega), sU_ne (by omega), sU_ne (by omega), sU_ne (by omega), sU_ne (by omega), sU_s]
  · obtain ⟨c1, c2, c3⟩ := kd3_0.mp c
    have hv : vp_in (g 0 10) 10000 := by rw [h.day]; exact h.2.2.1.1
    exact h.claim (nlt_of c3 h.c20 rfl) _ _ _ _ _ (and_l c1) (and_r c1) (to_rg hv (and_l c2) (and_l (and_r c2))) (inn_sB (and_r (and_r c2)))
