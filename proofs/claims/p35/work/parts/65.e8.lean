/-! What is told of two stores that differ in the scores' row alone; what the law's act keeps. -/
section E8S
variable {g g' : sg} {n nc : Nat}
theorem cSc_e (h : E8 g g') (i j : Nat) : cSc g i j = cSc g' i j := by
  unfold cSc
  rw [h.F i, h.C j, h 2 (by decide), h 3 (by decide), h 1 (by decide)]
theorem cCnd_e (h : E8 g g') (i j : Nat) : cCnd g i j = cCnd g' i j := by
  unfold cCnd
  rw [cSc_e h, h.C j, h 0 (by decide)]
theorem cPrv_e (h : E8 g g') (i j : Nat) : cPrv g i j = cPrv g' i j := by
  unfold cPrv
  rw [h.F i, h.C j]
theorem cBt_e (h : E8 g g') (i j k : Nat) : cBt g i j k = cBt g' i j k := by
  unfold cBt
  rw [cSc_e h, cSc_e h, cPrv_e h, h.C k]
theorem cBeaten_e (h : E8 g g') (nc i j : Nat) : cBeaten g nc i j = cBeaten g' nc i j := by
  unfold cBeaten
  rw [show cBt g i j = cBt g' i j from funext (cBt_e h i j)]
theorem cServe_e (h : E8 g g') (nc i j : Nat) : cServe g nc i j = cServe g' nc i j := by
  unfold cServe
  rw [cCnd_e h, cPrv_e h, cBeaten_e h]
theorem cHere_e (h : E8 g g') (i : Nat) : cHere g i = cHere g' i := by
  unfold cHere
  rw [h.F i]
theorem cAsk_e (h : E8 g g') (j i : Nat) : cAsk g j i = cAsk g' j i := by
  unfold cAsk
  rw [cHere_e h, cCnd_e h]
theorem cOver_e (h : E8 g g') (nc i : Nat) : cOver g nc i = cOver g' nc i := by
  unfold cOver cOv0
  rw [h.F i, h 0 (by decide), show (fun j => cCnd g i j) = fun j => cCnd g' i j from funext (cCnd_e h i)]
theorem tg_e (h : E8 g g') {K : Nat} (hK : K ≠ 8) (w o : Int32) : E8 (tg g K w o) (tg g' K w o) := by
  unfold tg
  rw [h K hK]
  exact (h.u K _ rfl).u K _ rfl
theorem cComes_e (h : E8 g g') (i : Nat) {r d r' d' : Int32} (hr : r = r') (hd : d = d') : E8 (cComes g i r d) (cComes g' i r' d') := by
  subst hr; subst hd
  intro k hk
  unfold cComes
  rw [h k hk, h.F i]
theorem lcS_e (h : E8 g g') (room : Int32) (n K : Nat) : E8 (lcS g room n K) (lcS g' room n K) := by
  intro k hk
  funext j
  unfold lcS lcB
  rw [h.F ((k - 100) / 3), h k hk]
theorem lcN_e (h : E8 g g') (room : Int32) (n : Nat) : ∀ K, lcN g room n K = lcN g' room n K
  | 0 => rfl
  | K + 1 => by
    unfold lcN lcB
    rw [lcN_e h room n K, h.F K]
theorem cBag_e (h : E8 g g') (n : Nat) : ∀ K, E8 (cBag g n K) (cBag g' n K)
  | 0 => h
  | K + 1 => by
    have ih := cBag_e h n K
    unfold cBag
    by_cases a : K < n
    · rw [if_pos a, if_pos a, ih.F K]
      by_cases b : cBag g' n K (100 + 3 * K) 9 = 1
      · rw [if_pos b, if_pos b]
        exact cComes_e ih K rfl (by rw [ih 0 (by decide)])
      · rw [if_neg b, if_neg b]; exact ih
    · rw [if_neg a, if_neg a]; exact ih
theorem cErs_e (h : E8 g g') (j : Nat) {d d' : Int32} (hd : d = d') : E8 (cErs g j d) (cErs g' j d') := by
  subst hd
  unfold cErs
  rw [h.C j]
  by_cases c : erC (g' (200 + j) 7) d (g' (200 + j) 9) = true
  · rw [if_pos c, if_pos c]; exact ((h.u _ _ rfl).u _ _ rfl).u _ _ rfl
  · rw [if_neg c, if_neg c]; exact h
theorem cEr_e (h : E8 g g') (nc : Nat) : ∀ K, E8 (cEr g nc K) (cEr g' nc K)
  | 0 => h
  | K + 1 => by
    have ih := cEr_e h nc K
    unfold cEr
    by_cases a : K < nc
    · rw [if_pos a, if_pos a]; exact cErs_e ih K (by rw [ih 0 (by decide)])
    · rw [if_neg a, if_neg a]; exact ih
theorem cDay_e (h : E8 g g') (n nc : Nat) : E8 (cDay g n nc) (cDay g' n nc) := by
  unfold cDay
  exact cEr_e (cBag_e (h.u 0 10 (by rw [h 0 (by decide)])) n 30) nc 20
theorem cDays_e (h : E8 g g') (n nc : Nat) : ∀ K, E8 (cDays g n nc K) (cDays g' n nc K)
  | 0 => h
  | K + 1 => by
    unfold cDays
    exact cDay_e (cDays_e h n nc K) n nc
theorem gF_e (h : E8 g g') (n : Nat) {r r' : Nat → Int32} (hr : r = r') : E8 (gF g n r) (gF g' n r') := by
  subst hr
  intro k hk
  funext j
  unfold gF
  rw [h k hk]
theorem cFind_e (h : E8 g g') (n : Nat) (kind place dago set secret value room : Int32) : E8 (cFind g n kind place dago set secret value room) (cFind g' n kind place dago set secret value room) := by
  unfold cFind cFind0
  refine ((cComes_e (((gF_e h n (by rw [h 0 (by decide)])).u _ _ ?_)) n rfl (by rw [h 0 (by decide)])).u _ _ rfl).u _ _ rfl
  rw [h 0 (by decide), h 4 (by decide)]
theorem cClaim_e (h : E8 g g') (nc : Nat) (kind place fr to set : Int32) : E8 (cClaim g nc kind place fr to set) (cClaim g' nc kind place fr to set) := by
  unfold cClaim
  refine (E8.u (fun k hk => ?_) _ _ rfl).u _ _ rfl
  funext j
  unfold gC
  rw [h k hk]
theorem auC_e (h : E8 g g') (room : Int32) (n : Nat) : ∀ K, auC g room n K = auC g' room n K
  | 0 => rfl
  | K + 1 => by
    unfold auC
    rw [auC_e h room n K, h.F K]
/-! candidates -/
theorem anyB_c {f f' : Nat → Bool} : ∀ {K : Nat}, (∀ t, t < K → f t = f' t) → anyB f K = anyB f' K
  | 0, _ => rfl
  | K + 1, h => by
    unfold anyB
    rw [anyB_c (K := K) (fun t ht => h t (by omega)), h K (by omega)]
theorem cntB_c {f f' : Nat → Bool} : ∀ {K : Nat}, (∀ t, t < K → f t = f' t) → cntB f K = cntB f' K
  | 0, _ => rfl
  | K + 1, h => by
    unfold cntB
    rw [cntB_c (K := K) (fun t ht => h t (by omega)), h K (by omega)]
theorem fstI_c {f f' : Nat → Bool} : ∀ {K : Nat}, (∀ t, t < K → f t = f' t) → fstI f K = fstI f' K
  | 0, _ => rfl
  | K + 1, h => by
    unfold fstI
    rw [fstI_c (K := K) (fun t ht => h t (by omega)), h K (by omega), anyB_c (K := K) (fun t ht => h t (by omega))]
/-- the noted scores -/
def cs (g : sg) (n j t : Nat) : Int32 := if (decide (t < n) && cAsk g j t) = true then cSc g t j else -1
theorem cNS_8 (g : sg) (n j : Nat) {t : Nat} (ht : t < 30) : cNS g n j 30 8 t = cs g n j t := by
  unfold cNS
  rw [if_pos ⟨rfl, ht⟩]
  rfl
theorem cs_e (h : E8 g g') (n j t : Nat) : cs g n j t = cs g' n j t := by
  unfold cs
  rw [cAsk_e h, cSc_e h]
theorem cNS_e (h : E8 g g') (n j : Nat) : E8 (cNS g n j 30) (cNS g' n j 30) := by
  intro k hk
  rw [cNS_row _ _ _ _ hk, cNS_row _ _ _ _ hk]
  exact h k hk
theorem cNS_o (g : sg) (n j : Nat) : E8 (cNS g n j 30) g := fun k hk => cNS_row _ _ _ _ hk
theorem cand_e (h : E8 g g') (n j : Nat) (place : Int32) : fstI (cdB (cNS g n j 30) place) 30 = fstI (cdB (cNS g' n j 30) place) 30 := by
  refine fstI_c (fun t ht => ?_)
  unfold cdB
  rw [cNS_8 g n j ht, cNS_8 g' n j ht, cs_e h, cntB_c (f := cbB (cNS g n j 30) t) (f' := cbB (cNS g' n j 30) t) (fun i hi => ?_)]
  unfold cbB
  rw [cNS_8 g n j ht, cNS_8 g' n j ht, cNS_8 g n j hi, cNS_8 g' n j hi, cs_e h, cs_e h]
theorem askN_e (h : E8 g g') (n j : Nat) : askN g n j = askN g' n j := by
  funext t
  unfold askN
  rw [cAsk_e h]
theorem cFar_e (h : E8 g g') (n j : Nat) (many : Int32) (w : Nat) : cFar (cNS g n j 30) n many w = cFar (cNS g' n j 30) n many w := by
  unfold cFar
  rw [cntB_c (f := nwB (cNS g n j 30) n w) (f' := nwB (cNS g' n j 30) n w) (fun t ht => ?_)]
  unfold nwB
  rw [cNS_8 g n j ht, cNS_8 g' n j ht, cs_e h, (cNS_e h n j).F t]
theorem cQ_e (h : E8 g g') (n j : Nat) (said many : Int32) : ∀ K, cQ (cNS g n j 30) n said many K = cQ (cNS g' n j 30) n said many K
  | 0 => rfl
  | K + 1 => by
    unfold cQ
    rw [cQ_e h n j said many K, cFar_e h]
/-! answers and stores -/
def R2 (q q' : Int32 × sg) : Prop := q.1 = q'.1 ∧ E8 q.2 q'.2
def R4 (r r' : Int32 × Nat × Nat × sg) : Prop := r.1 = r'.1 ∧ r.2.1 = r'.2.1 ∧ r.2.2.1 = r'.2.2.1 ∧ E8 r.2.2.2 r'.2.2.2
theorem oR_e {K K' V V' : Int32} {G G' : sg} (hK : K = K') (hV : V = V') (hG : E8 G G') (h : E8 g g') : R2 (oR K V G g) (oR K' V' G' g') := by
  subst hK; subst hV
  unfold oR
  by_cases c : K = 0
  · rw [if_pos c, if_pos c]; exact ⟨rfl, hG⟩
  · rw [if_neg c, if_neg c]; exact ⟨rfl, h⟩
theorem l2_e {q q' : Int32 × sg} (h : R2 q q') : R4 (l2 n nc q) (l2 n nc q') := ⟨h.1, rfl, rfl, h.2⟩
theorem de_0 (h : E8 g g') (a1 b1 : Int32) : R2 (dF_0 n nc g a1 b1) (dF_0 n nc g' a1 b1) := by
  unfold dF_0
  exact oR_e (by simp only [h.F, h.F1, h.F2, h.C, h 0 (by decide), h 1 (by decide), h 2 (by decide), h 3 (by decide), h 4 (by decide), h 5 (by decide), cSc_e h, cPrv_e h, cOver_e h, cServe_e h, cHere_e h, cand_e h, cQ_e h, askN_e h, auC_e h, lcN_e h]) (by rw [tb_e (h 1 (by decide))]) (tg_e h (by decide) _ _) h
theorem de_1 (h : E8 g g') (a1 b1 : Int32) : R2 (dF_1 n nc g a1 b1) (dF_1 n nc g' a1 b1) := by
  unfold dF_1
  exact oR_e (by simp only [h.F, h.F1, h.F2, h.C, h 0 (by decide), h 1 (by decide), h 2 (by decide), h 3 (by decide), h 4 (by decide), h 5 (by decide), cSc_e h, cPrv_e h, cOver_e h, cServe_e h, cHere_e h, cand_e h, cQ_e h, askN_e h, auC_e h, lcN_e h]) (by rw [tb_e (h 2 (by decide))]) (tg_e h (by decide) _ _) h
theorem de_2 (h : E8 g g') (a1 b1 c1 : Int32) : R2 (dF_2 n nc g a1 b1 c1) (dF_2 n nc g' a1 b1 c1) := by
  unfold dF_2
  exact oR_e (by simp only [h.F, h.F1, h.F2, h.C, h 0 (by decide), h 1 (by decide), h 2 (by decide), h 3 (by decide), h 4 (by decide), h 5 (by decide), cSc_e h, cPrv_e h, cOver_e h, cServe_e h, cHere_e h, cand_e h, cQ_e h, askN_e h, auC_e h, lcN_e h]) (by simp only [h.F, h.F1, h.F2, h.C, h 0 (by decide), h 1 (by decide), h 2 (by decide), h 3 (by decide), h 4 (by decide), h 5 (by decide), cSc_e h, cPrv_e h, cOver_e h, cServe_e h, cHere_e h, cand_e h, cQ_e h, askN_e h, auC_e h, lcN_e h]) ((E8.u (E8.u h _ _ (by simp only [h.F, h.F1, h.F2, h.C, h 0 (by decide), h 1 (by decide), h 2 (by decide), h 3 (by decide), h 4 (by decide), h 5 (by decide), cSc_e h, cPrv_e h, cOver_e h, cServe_e h, cHere_e h, cand_e h, cQ_e h, askN_e h, auC_e h, lcN_e h])) _ _ (by simp only [h.F, h.F1, h.F2, h.C, h 0 (by decide), h 1 (by decide), h 2 (by decide), h 3 (by decide), h 4 (by decide), h 5 (by decide), cSc_e h, cPrv_e h, cOver_e h, cServe_e h, cHere_e h, cand_e h, cQ_e h, askN_e h, auC_e h, lcN_e h]))) h
theorem de_3 (h : E8 g g') (a1 b1 : Int32) : R2 (dF_3 n nc g a1 b1) (dF_3 n nc g' a1 b1) := by
  unfold dF_3
  exact oR_e (by simp only [h.F, h.F1, h.F2, h.C, h 0 (by decide), h 1 (by decide), h 2 (by decide), h 3 (by decide), h 4 (by decide), h 5 (by decide), cSc_e h, cPrv_e h, cOver_e h, cServe_e h, cHere_e h, cand_e h, cQ_e h, askN_e h, auC_e h, lcN_e h]) (by simp only [h.F, h.F1, h.F2, h.C, h 0 (by decide), h 1 (by decide), h 2 (by decide), h 3 (by decide), h 4 (by decide), h 5 (by decide), cSc_e h, cPrv_e h, cOver_e h, cServe_e h, cHere_e h, cand_e h, cQ_e h, askN_e h, auC_e h, lcN_e h]) ((E8.u h _ _ (by simp only [h.F, h.F1, h.F2, h.C, h 0 (by decide), h 1 (by decide), h 2 (by decide), h 3 (by decide), h 4 (by decide), h 5 (by decide), cSc_e h, cPrv_e h, cOver_e h, cServe_e h, cHere_e h, cand_e h, cQ_e h, askN_e h, auC_e h, lcN_e h]))) h
theorem de_4 (h : E8 g g') (a1 : Int32) : R2 (dF_4 n nc g a1) (dF_4 n nc g' a1) := by
  unfold dF_4
  exact oR_e (by simp only [h.F, h.F1, h.F2, h.C, h 0 (by decide), h 1 (by decide), h 2 (by decide), h 3 (by decide), h 4 (by decide), h 5 (by decide), cSc_e h, cPrv_e h, cOver_e h, cServe_e h, cHere_e h, cand_e h, cQ_e h, askN_e h, auC_e h, lcN_e h]) (by simp only [h.F, h.F1, h.F2, h.C, h 0 (by decide), h 1 (by decide), h 2 (by decide), h 3 (by decide), h 4 (by decide), h 5 (by decide), cSc_e h, cPrv_e h, cOver_e h, cServe_e h, cHere_e h, cand_e h, cQ_e h, askN_e h, auC_e h, lcN_e h]) ((E8.u h _ _ (by simp only [h.F, h.F1, h.F2, h.C, h 0 (by decide), h 1 (by decide), h 2 (by decide), h 3 (by decide), h 4 (by decide), h 5 (by decide), cSc_e h, cPrv_e h, cOver_e h, cServe_e h, cHere_e h, cand_e h, cQ_e h, askN_e h, auC_e h, lcN_e h]))) h
theorem de_5 (h : E8 g g') (a1 b1 : Int32) : R2 (dF_5 n nc g a1 b1) (dF_5 n nc g' a1 b1) := by
  unfold dF_5
  exact oR_e (by simp only [h.F, h.F1, h.F2, h.C, h 0 (by decide), h 1 (by decide), h 2 (by decide), h 3 (by decide), h 4 (by decide), h 5 (by decide), cSc_e h, cPrv_e h, cOver_e h, cServe_e h, cHere_e h, cand_e h, cQ_e h, askN_e h, auC_e h, lcN_e h]) (by simp only [h.F, h.F1, h.F2, h.C, h 0 (by decide), h 1 (by decide), h 2 (by decide), h 3 (by decide), h 4 (by decide), h 5 (by decide), cSc_e h, cPrv_e h, cOver_e h, cServe_e h, cHere_e h, cand_e h, cQ_e h, askN_e h, auC_e h, lcN_e h]) ((E8.u h _ _ (by simp only [h.F, h.F1, h.F2, h.C, h 0 (by decide), h 1 (by decide), h 2 (by decide), h 3 (by decide), h 4 (by decide), h 5 (by decide), cSc_e h, cPrv_e h, cOver_e h, cServe_e h, cHere_e h, cand_e h, cQ_e h, askN_e h, auC_e h, lcN_e h]))) h
theorem de_6 (h : E8 g g') (a1 b1 : Int32) : R2 (dF_6 n nc g a1 b1) (dF_6 n nc g' a1 b1) := by
  unfold dF_6
  exact oR_e (by simp only [h.F, h.F1, h.F2, h.C, h 0 (by decide), h 1 (by decide), h 2 (by decide), h 3 (by decide), h 4 (by decide), h 5 (by decide), cSc_e h, cPrv_e h, cOver_e h, cServe_e h, cHere_e h, cand_e h, cQ_e h, askN_e h, auC_e h, lcN_e h]) (by simp only [h.F, h.F1, h.F2, h.C, h 0 (by decide), h 1 (by decide), h 2 (by decide), h 3 (by decide), h 4 (by decide), h 5 (by decide), cSc_e h, cPrv_e h, cOver_e h, cServe_e h, cHere_e h, cand_e h, cQ_e h, askN_e h, auC_e h, lcN_e h]) ((E8.u (E8.u h _ _ (by simp only [h.F, h.F1, h.F2, h.C, h 0 (by decide), h 1 (by decide), h 2 (by decide), h 3 (by decide), h 4 (by decide), h 5 (by decide), cSc_e h, cPrv_e h, cOver_e h, cServe_e h, cHere_e h, cand_e h, cQ_e h, askN_e h, auC_e h, lcN_e h])) _ _ (by simp only [h.F, h.F1, h.F2, h.C, h 0 (by decide), h 1 (by decide), h 2 (by decide), h 3 (by decide), h 4 (by decide), h 5 (by decide), cSc_e h, cPrv_e h, cOver_e h, cServe_e h, cHere_e h, cand_e h, cQ_e h, askN_e h, auC_e h, lcN_e h]))) h
theorem de_7 (h : E8 g g') (a1 : Int32) : R2 (dF_7 n nc g a1) (dF_7 n nc g' a1) := by
  unfold dF_7
  exact oR_e (by simp only [h.F, h.F1, h.F2, h.C, h 0 (by decide), h 1 (by decide), h 2 (by decide), h 3 (by decide), h 4 (by decide), h 5 (by decide), cSc_e h, cPrv_e h, cOver_e h, cServe_e h, cHere_e h, cand_e h, cQ_e h, askN_e h, auC_e h, lcN_e h]) (by simp only [h.F, h.F1, h.F2, h.C, h 0 (by decide), h 1 (by decide), h 2 (by decide), h 3 (by decide), h 4 (by decide), h 5 (by decide), cSc_e h, cPrv_e h, cOver_e h, cServe_e h, cHere_e h, cand_e h, cQ_e h, askN_e h, auC_e h, lcN_e h]) (lcS_e h _ _ _) h
theorem de_8 (h : E8 g g') (a1 b1 : Int32) : R2 (dF_8 n nc g a1 b1) (dF_8 n nc g' a1 b1) := by
  unfold dF_8
  exact oR_e (by simp only [h.F, h.F1, h.F2, h.C, h 0 (by decide), h 1 (by decide), h 2 (by decide), h 3 (by decide), h 4 (by decide), h 5 (by decide), cSc_e h, cPrv_e h, cOver_e h, cServe_e h, cHere_e h, cand_e h, cQ_e h, askN_e h, auC_e h, lcN_e h]) (by simp only [h.F, h.F1, h.F2, h.C, h 0 (by decide), h 1 (by decide), h 2 (by decide), h 3 (by decide), h 4 (by decide), h 5 (by decide), cSc_e h, cPrv_e h, cOver_e h, cServe_e h, cHere_e h, cand_e h, cQ_e h, askN_e h, auC_e h, lcN_e h]) (cComes_e h _ rfl (by rw [h 0 (by decide)])) h
theorem de_9 (h : E8 g g') (a1 b1 : Int32) : R2 (dF_9 n nc g a1 b1) (dF_9 n nc g' a1 b1) := by
  unfold dF_9
  exact oR_e (by simp only [h.F, h.F1, h.F2, h.C, h 0 (by decide), h 1 (by decide), h 2 (by decide), h 3 (by decide), h 4 (by decide), h 5 (by decide), cSc_e h, cPrv_e h, cOver_e h, cServe_e h, cHere_e h, cand_e h, cQ_e h, askN_e h, auC_e h, lcN_e h]) (by simp only [h.F, h.F1, h.F2, h.C, h 0 (by decide), h 1 (by decide), h 2 (by decide), h 3 (by decide), h 4 (by decide), h 5 (by decide), cSc_e h, cPrv_e h, cOver_e h, cServe_e h, cHere_e h, cand_e h, cQ_e h, askN_e h, auC_e h, lcN_e h]) ((E8.u h _ _ (by simp only [h.F, h.F1, h.F2, h.C, h 0 (by decide), h 1 (by decide), h 2 (by decide), h 3 (by decide), h 4 (by decide), h 5 (by decide), cSc_e h, cPrv_e h, cOver_e h, cServe_e h, cHere_e h, cand_e h, cQ_e h, askN_e h, auC_e h, lcN_e h]))) h
theorem de_10 (h : E8 g g') (a1 b1 : Int32) : R2 (dF_10 n nc g a1 b1) (dF_10 n nc g' a1 b1) := by
  unfold dF_10
  exact oR_e (by simp only [h.F, h.F1, h.F2, h.C, h 0 (by decide), h 1 (by decide), h 2 (by decide), h 3 (by decide), h 4 (by decide), h 5 (by decide), cSc_e h, cPrv_e h, cOver_e h, cServe_e h, cHere_e h, cand_e h, cQ_e h, askN_e h, auC_e h, lcN_e h]) (by simp only [h.F, h.F1, h.F2, h.C, h 0 (by decide), h 1 (by decide), h 2 (by decide), h 3 (by decide), h 4 (by decide), h 5 (by decide), cSc_e h, cPrv_e h, cOver_e h, cServe_e h, cHere_e h, cand_e h, cQ_e h, askN_e h, auC_e h, lcN_e h]) ((E8.u h _ _ (by simp only [h.F, h.F1, h.F2, h.C, h 0 (by decide), h 1 (by decide), h 2 (by decide), h 3 (by decide), h 4 (by decide), h 5 (by decide), cSc_e h, cPrv_e h, cOver_e h, cServe_e h, cHere_e h, cand_e h, cQ_e h, askN_e h, auC_e h, lcN_e h]))) h
theorem de_11 (h : E8 g g') (a1 b1 : Int32) : R2 (dF_11 n nc g a1 b1) (dF_11 n nc g' a1 b1) := by
  unfold dF_11
  exact oR_e (by simp only [h.F, h.F1, h.F2, h.C, h 0 (by decide), h 1 (by decide), h 2 (by decide), h 3 (by decide), h 4 (by decide), h 5 (by decide), cSc_e h, cPrv_e h, cOver_e h, cServe_e h, cHere_e h, cand_e h, cQ_e h, askN_e h, auC_e h, lcN_e h]) (by simp only [h.F, h.F1, h.F2, h.C, h 0 (by decide), h 1 (by decide), h 2 (by decide), h 3 (by decide), h 4 (by decide), h 5 (by decide), cSc_e h, cPrv_e h, cOver_e h, cServe_e h, cHere_e h, cand_e h, cQ_e h, askN_e h, auC_e h, lcN_e h]) ((E8.u (E8.u h _ _ (by simp only [h.F, h.F1, h.F2, h.C, h 0 (by decide), h 1 (by decide), h 2 (by decide), h 3 (by decide), h 4 (by decide), h 5 (by decide), cSc_e h, cPrv_e h, cOver_e h, cServe_e h, cHere_e h, cand_e h, cQ_e h, askN_e h, auC_e h, lcN_e h])) _ _ (by simp only [h.F, h.F1, h.F2, h.C, h 0 (by decide), h 1 (by decide), h 2 (by decide), h 3 (by decide), h 4 (by decide), h 5 (by decide), cSc_e h, cPrv_e h, cOver_e h, cServe_e h, cHere_e h, cand_e h, cQ_e h, askN_e h, auC_e h, lcN_e h]))) h
theorem de_12 (h : E8 g g') (a1 : Int32) : R2 (dF_12 n nc g a1) (dF_12 n nc g' a1) := by
  unfold dF_12
  exact oR_e (by simp only [h.F, h.F1, h.F2, h.C, h 0 (by decide), h 1 (by decide), h 2 (by decide), h 3 (by decide), h 4 (by decide), h 5 (by decide), cSc_e h, cPrv_e h, cOver_e h, cServe_e h, cHere_e h, cand_e h, cQ_e h, askN_e h, auC_e h, lcN_e h]) (by simp only [h.F, h.F1, h.F2, h.C, h 0 (by decide), h 1 (by decide), h 2 (by decide), h 3 (by decide), h 4 (by decide), h 5 (by decide), cSc_e h, cPrv_e h, cOver_e h, cServe_e h, cHere_e h, cand_e h, cQ_e h, askN_e h, auC_e h, lcN_e h]) ((E8.u (E8.u h _ _ (by simp only [h.F, h.F1, h.F2, h.C, h 0 (by decide), h 1 (by decide), h 2 (by decide), h 3 (by decide), h 4 (by decide), h 5 (by decide), cSc_e h, cPrv_e h, cOver_e h, cServe_e h, cHere_e h, cand_e h, cQ_e h, askN_e h, auC_e h, lcN_e h])) _ _ (by simp only [h.F, h.F1, h.F2, h.C, h 0 (by decide), h 1 (by decide), h 2 (by decide), h 3 (by decide), h 4 (by decide), h 5 (by decide), cSc_e h, cPrv_e h, cOver_e h, cServe_e h, cHere_e h, cand_e h, cQ_e h, askN_e h, auC_e h, lcN_e h]))) h
theorem de_13 (h : E8 g g') (a1 b1 : Int32) : R2 (dF_13 n nc g a1 b1) (dF_13 n nc g' a1 b1) := by
  unfold dF_13
  exact oR_e (by simp only [h.F, h.F1, h.F2, h.C, h 0 (by decide), h 1 (by decide), h 2 (by decide), h 3 (by decide), h 4 (by decide), h 5 (by decide), cSc_e h, cPrv_e h, cOver_e h, cServe_e h, cHere_e h, cand_e h, cQ_e h, askN_e h, auC_e h, lcN_e h]) (by simp only [h.F, h.F1, h.F2, h.C, h 0 (by decide), h 1 (by decide), h 2 (by decide), h 3 (by decide), h 4 (by decide), h 5 (by decide), cSc_e h, cPrv_e h, cOver_e h, cServe_e h, cHere_e h, cand_e h, cQ_e h, askN_e h, auC_e h, lcN_e h]) ((E8.u (E8.u (E8.u (E8.u (E8.u (E8.u h _ _ (by simp only [h.F, h.F1, h.F2, h.C, h 0 (by decide), h 1 (by decide), h 2 (by decide), h 3 (by decide), h 4 (by decide), h 5 (by decide), cSc_e h, cPrv_e h, cOver_e h, cServe_e h, cHere_e h, cand_e h, cQ_e h, askN_e h, auC_e h, lcN_e h])) _ _ (by simp only [h.F, h.F1, h.F2, h.C, h 0 (by decide), h 1 (by decide), h 2 (by decide), h 3 (by decide), h 4 (by decide), h 5 (by decide), cSc_e h, cPrv_e h, cOver_e h, cServe_e h, cHere_e h, cand_e h, cQ_e h, askN_e h, auC_e h, lcN_e h])) _ _ (by simp only [h.F, h.F1, h.F2, h.C, h 0 (by decide), h 1 (by decide), h 2 (by decide), h 3 (by decide), h 4 (by decide), h 5 (by decide), cSc_e h, cPrv_e h, cOver_e h, cServe_e h, cHere_e h, cand_e h, cQ_e h, askN_e h, auC_e h, lcN_e h])) _ _ (by simp only [h.F, h.F1, h.F2, h.C, h 0 (by decide), h 1 (by decide), h 2 (by decide), h 3 (by decide), h 4 (by decide), h 5 (by decide), cSc_e h, cPrv_e h, cOver_e h, cServe_e h, cHere_e h, cand_e h, cQ_e h, askN_e h, auC_e h, lcN_e h])) _ _ (by simp only [h.F, h.F1, h.F2, h.C, h 0 (by decide), h 1 (by decide), h 2 (by decide), h 3 (by decide), h 4 (by decide), h 5 (by decide), cSc_e h, cPrv_e h, cOver_e h, cServe_e h, cHere_e h, cand_e h, cQ_e h, askN_e h, auC_e h, lcN_e h])) _ _ (by simp only [h.F, h.F1, h.F2, h.C, h 0 (by decide), h 1 (by decide), h 2 (by decide), h 3 (by decide), h 4 (by decide), h 5 (by decide), cSc_e h, cPrv_e h, cOver_e h, cServe_e h, cHere_e h, cand_e h, cQ_e h, askN_e h, auC_e h, lcN_e h]))) h
theorem de_14 (h : E8 g g') (a1 b1 : Int32) : R2 (dF_14 n nc g a1 b1) (dF_14 n nc g' a1 b1) := by
  unfold dF_14
  exact oR_e (by simp only [h.F, h.F1, h.F2, h.C, h 0 (by decide), h 1 (by decide), h 2 (by decide), h 3 (by decide), h 4 (by decide), h 5 (by decide), cSc_e h, cPrv_e h, cOver_e h, cServe_e h, cHere_e h, cand_e h, cQ_e h, askN_e h, auC_e h, lcN_e h]) (by simp only [h.F, h.F1, h.F2, h.C, h 0 (by decide), h 1 (by decide), h 2 (by decide), h 3 (by decide), h 4 (by decide), h 5 (by decide), cSc_e h, cPrv_e h, cOver_e h, cServe_e h, cHere_e h, cand_e h, cQ_e h, askN_e h, auC_e h, lcN_e h]) ((E8.u h _ _ (by simp only [h.F, h.F1, h.F2, h.C, h 0 (by decide), h 1 (by decide), h 2 (by decide), h 3 (by decide), h 4 (by decide), h 5 (by decide), cSc_e h, cPrv_e h, cOver_e h, cServe_e h, cHere_e h, cand_e h, cQ_e h, askN_e h, auC_e h, lcN_e h]))) h
theorem de_15 (h : E8 g g') (a1 b1 : Int32) : R2 (dF_15 n nc g a1 b1) (dF_15 n nc g' a1 b1) := by
  unfold dF_15
  exact oR_e (by simp only [h.F, h.F1, h.F2, h.C, h 0 (by decide), h 1 (by decide), h 2 (by decide), h 3 (by decide), h 4 (by decide), h 5 (by decide), cSc_e h, cPrv_e h, cOver_e h, cServe_e h, cHere_e h, cand_e h, cQ_e h, askN_e h, auC_e h, lcN_e h]) (by simp only [h.F, h.F1, h.F2, h.C, h 0 (by decide), h 1 (by decide), h 2 (by decide), h 3 (by decide), h 4 (by decide), h 5 (by decide), cSc_e h, cPrv_e h, cOver_e h, cServe_e h, cHere_e h, cand_e h, cQ_e h, askN_e h, auC_e h, lcN_e h]) ((E8.u (E8.u (E8.u (E8.u h _ _ (by simp only [h.F, h.F1, h.F2, h.C, h 0 (by decide), h 1 (by decide), h 2 (by decide), h 3 (by decide), h 4 (by decide), h 5 (by decide), cSc_e h, cPrv_e h, cOver_e h, cServe_e h, cHere_e h, cand_e h, cQ_e h, askN_e h, auC_e h, lcN_e h])) _ _ (by simp only [h.F, h.F1, h.F2, h.C, h 0 (by decide), h 1 (by decide), h 2 (by decide), h 3 (by decide), h 4 (by decide), h 5 (by decide), cSc_e h, cPrv_e h, cOver_e h, cServe_e h, cHere_e h, cand_e h, cQ_e h, askN_e h, auC_e h, lcN_e h])) _ _ (by simp only [h.F, h.F1, h.F2, h.C, h 0 (by decide), h 1 (by decide), h 2 (by decide), h 3 (by decide), h 4 (by decide), h 5 (by decide), cSc_e h, cPrv_e h, cOver_e h, cServe_e h, cHere_e h, cand_e h, cQ_e h, askN_e h, auC_e h, lcN_e h])) _ _ (by simp only [h.F, h.F1, h.F2, h.C, h 0 (by decide), h 1 (by decide), h 2 (by decide), h 3 (by decide), h 4 (by decide), h 5 (by decide), cSc_e h, cPrv_e h, cOver_e h, cServe_e h, cHere_e h, cand_e h, cQ_e h, askN_e h, auC_e h, lcN_e h]))) h
theorem de_16 (h : E8 g g') (a1 : Int32) : R2 (dF_16 n nc g a1) (dF_16 n nc g' a1) := by
  unfold dF_16
  exact oR_e (by simp only [h.F, h.F1, h.F2, h.C, h 0 (by decide), h 1 (by decide), h 2 (by decide), h 3 (by decide), h 4 (by decide), h 5 (by decide), cSc_e h, cPrv_e h, cOver_e h, cServe_e h, cHere_e h, cand_e h, cQ_e h, askN_e h, auC_e h, lcN_e h]) (by simp only [h.F, h.F1, h.F2, h.C, h 0 (by decide), h 1 (by decide), h 2 (by decide), h 3 (by decide), h 4 (by decide), h 5 (by decide), cSc_e h, cPrv_e h, cOver_e h, cServe_e h, cHere_e h, cand_e h, cQ_e h, askN_e h, auC_e h, lcN_e h]) ((E8.u h _ _ (by simp only [h.F, h.F1, h.F2, h.C, h 0 (by decide), h 1 (by decide), h 2 (by decide), h 3 (by decide), h 4 (by decide), h 5 (by decide), cSc_e h, cPrv_e h, cOver_e h, cServe_e h, cHere_e h, cand_e h, cQ_e h, askN_e h, auC_e h, lcN_e h]))) h
theorem de_17 (h : E8 g g') (a1 b1 : Int32) : R2 (dF_17 n nc g a1 b1) (dF_17 n nc g' a1 b1) := by
  unfold dF_17
  exact oR_e (by simp only [h.F, h.F1, h.F2, h.C, h 0 (by decide), h 1 (by decide), h 2 (by decide), h 3 (by decide), h 4 (by decide), h 5 (by decide), cSc_e h, cPrv_e h, cOver_e h, cServe_e h, cHere_e h, cand_e h, cQ_e h, askN_e h, auC_e h, lcN_e h]) (by simp only [h.F, h.F1, h.F2, h.C, h 0 (by decide), h 1 (by decide), h 2 (by decide), h 3 (by decide), h 4 (by decide), h 5 (by decide), cSc_e h, cPrv_e h, cOver_e h, cServe_e h, cHere_e h, cand_e h, cQ_e h, askN_e h, auC_e h, lcN_e h]) ((E8.u (E8.u (E8.u (E8.u (E8.u (E8.u h _ _ (by simp only [h.F, h.F1, h.F2, h.C, h 0 (by decide), h 1 (by decide), h 2 (by decide), h 3 (by decide), h 4 (by decide), h 5 (by decide), cSc_e h, cPrv_e h, cOver_e h, cServe_e h, cHere_e h, cand_e h, cQ_e h, askN_e h, auC_e h, lcN_e h])) _ _ (by simp only [h.F, h.F1, h.F2, h.C, h 0 (by decide), h 1 (by decide), h 2 (by decide), h 3 (by decide), h 4 (by decide), h 5 (by decide), cSc_e h, cPrv_e h, cOver_e h, cServe_e h, cHere_e h, cand_e h, cQ_e h, askN_e h, auC_e h, lcN_e h])) _ _ (by simp only [h.F, h.F1, h.F2, h.C, h 0 (by decide), h 1 (by decide), h 2 (by decide), h 3 (by decide), h 4 (by decide), h 5 (by decide), cSc_e h, cPrv_e h, cOver_e h, cServe_e h, cHere_e h, cand_e h, cQ_e h, askN_e h, auC_e h, lcN_e h])) _ _ (by simp only [h.F, h.F1, h.F2, h.C, h 0 (by decide), h 1 (by decide), h 2 (by decide), h 3 (by decide), h 4 (by decide), h 5 (by decide), cSc_e h, cPrv_e h, cOver_e h, cServe_e h, cHere_e h, cand_e h, cQ_e h, askN_e h, auC_e h, lcN_e h])) _ _ (by simp only [h.F, h.F1, h.F2, h.C, h 0 (by decide), h 1 (by decide), h 2 (by decide), h 3 (by decide), h 4 (by decide), h 5 (by decide), cSc_e h, cPrv_e h, cOver_e h, cServe_e h, cHere_e h, cand_e h, cQ_e h, askN_e h, auC_e h, lcN_e h])) _ _ (by simp only [h.F, h.F1, h.F2, h.C, h 0 (by decide), h 1 (by decide), h 2 (by decide), h 3 (by decide), h 4 (by decide), h 5 (by decide), cSc_e h, cPrv_e h, cOver_e h, cServe_e h, cHere_e h, cand_e h, cQ_e h, askN_e h, auC_e h, lcN_e h]))) h
theorem de_18 (h : E8 g g') (a1 : Int32) : R2 (dF_18 n nc g a1) (dF_18 n nc g' a1) := by
  unfold dF_18
  exact oR_e (by simp only [h.F, h.F1, h.F2, h.C, h 0 (by decide), h 1 (by decide), h 2 (by decide), h 3 (by decide), h 4 (by decide), h 5 (by decide), cSc_e h, cPrv_e h, cOver_e h, cServe_e h, cHere_e h, cand_e h, cQ_e h, askN_e h, auC_e h, lcN_e h]) (congrFun (cDays_e h n nc _ 0 (by decide)) 10) (cDays_e h _ _ _) h
theorem de_19 (h : E8 g g') (a1 b1 : Int32) : R2 (dF_19 n nc g a1 b1) (dF_19 n nc g' a1 b1) := by
  unfold dF_19
  exact oR_e (by simp only [h.F, h.F1, h.F2, h.C, h 0 (by decide), h 1 (by decide), h 2 (by decide), h 3 (by decide), h 4 (by decide), h 5 (by decide), cSc_e h, cPrv_e h, cOver_e h, cServe_e h, cHere_e h, cand_e h, cQ_e h, askN_e h, auC_e h, lcN_e h]) (by simp only [h.F, h.F1, h.F2, h.C, h 0 (by decide), h 1 (by decide), h 2 (by decide), h 3 (by decide), h 4 (by decide), h 5 (by decide), cSc_e h, cPrv_e h, cOver_e h, cServe_e h, cHere_e h, cand_e h, cQ_e h, askN_e h, auC_e h, lcN_e h]) (h) h
theorem de_20 (h : E8 g g') (a1 b1 : Int32) : R2 (dF_20 n nc g a1 b1) (dF_20 n nc g' a1 b1) := by
  unfold dF_20
  exact oR_e (by simp only [h.F, h.F1, h.F2, h.C, h 0 (by decide), h 1 (by decide), h 2 (by decide), h 3 (by decide), h 4 (by decide), h 5 (by decide), cSc_e h, cPrv_e h, cOver_e h, cServe_e h, cHere_e h, cand_e h, cQ_e h, askN_e h, auC_e h, lcN_e h]) (by simp only [h.F, h.F1, h.F2, h.C, h 0 (by decide), h 1 (by decide), h 2 (by decide), h 3 (by decide), h 4 (by decide), h 5 (by decide), cSc_e h, cPrv_e h, cOver_e h, cServe_e h, cHere_e h, cand_e h, cQ_e h, askN_e h, auC_e h, lcN_e h]) (cNS_e h _ _) h
theorem de_21 (h : E8 g g') (a1 : Int32) : R2 (dF_21 n nc g a1) (dF_21 n nc g' a1) := by
  unfold dF_21
  exact oR_e (by simp only [h.F, h.F1, h.F2, h.C, h 0 (by decide), h 1 (by decide), h 2 (by decide), h 3 (by decide), h 4 (by decide), h 5 (by decide), cSc_e h, cPrv_e h, cOver_e h, cServe_e h, cHere_e h, cand_e h, cQ_e h, askN_e h, auC_e h, lcN_e h]) (by simp only [h.F, h.F1, h.F2, h.C, h 0 (by decide), h 1 (by decide), h 2 (by decide), h 3 (by decide), h 4 (by decide), h 5 (by decide), cSc_e h, cPrv_e h, cOver_e h, cServe_e h, cHere_e h, cand_e h, cQ_e h, askN_e h, auC_e h, lcN_e h]) (cNS_e h _ _) h
theorem de_22 (h : E8 g g') (a1 b1 : Int32) : R2 (dF_22 n nc g a1 b1) (dF_22 n nc g' a1 b1) := by
  unfold dF_22
  exact oR_e (by simp only [h.F, h.F1, h.F2, h.C, h 0 (by decide), h 1 (by decide), h 2 (by decide), h 3 (by decide), h 4 (by decide), h 5 (by decide), cSc_e h, cPrv_e h, cOver_e h, cServe_e h, cHere_e h, cand_e h, cQ_e h, askN_e h, auC_e h, lcN_e h]) (by simp only [h.F, h.F1, h.F2, h.C, h 0 (by decide), h 1 (by decide), h 2 (by decide), h 3 (by decide), h 4 (by decide), h 5 (by decide), cSc_e h, cPrv_e h, cOver_e h, cServe_e h, cHere_e h, cand_e h, cQ_e h, askN_e h, auC_e h, lcN_e h]) (h) h
theorem de_23 (h : E8 g g') (a1 : Int32) : R2 (dF_23 n nc g a1) (dF_23 n nc g' a1) := by
  unfold dF_23
  exact oR_e (by simp only [h.F, h.F1, h.F2, h.C, h 0 (by decide), h 1 (by decide), h 2 (by decide), h 3 (by decide), h 4 (by decide), h 5 (by decide), cSc_e h, cPrv_e h, cOver_e h, cServe_e h, cHere_e h, cand_e h, cQ_e h, askN_e h, auC_e h, lcN_e h]) (by simp only [h.F, h.F1, h.F2, h.C, h 0 (by decide), h 1 (by decide), h 2 (by decide), h 3 (by decide), h 4 (by decide), h 5 (by decide), cSc_e h, cPrv_e h, cOver_e h, cServe_e h, cHere_e h, cand_e h, cQ_e h, askN_e h, auC_e h, lcN_e h]) (h) h
theorem de_24 (h : E8 g g') (a1 b1 : Int32) : R2 (dF_24 n nc g a1 b1) (dF_24 n nc g' a1 b1) := by
  unfold dF_24
  exact oR_e (by simp only [h.F, h.F1, h.F2, h.C, h 0 (by decide), h 1 (by decide), h 2 (by decide), h 3 (by decide), h 4 (by decide), h 5 (by decide), cSc_e h, cPrv_e h, cOver_e h, cServe_e h, cHere_e h, cand_e h, cQ_e h, askN_e h, auC_e h, lcN_e h]) (by simp only [h.F, h.F1, h.F2, h.C, h 0 (by decide), h 1 (by decide), h 2 (by decide), h 3 (by decide), h 4 (by decide), h 5 (by decide), cSc_e h, cPrv_e h, cOver_e h, cServe_e h, cHere_e h, cand_e h, cQ_e h, askN_e h, auC_e h, lcN_e h]) (h) h
theorem de_25 (h : E8 g g') (a1 b1 c1 : Int32) : R2 (dF_25 n nc g a1 b1 c1) (dF_25 n nc g' a1 b1 c1) := by
  unfold dF_25
  exact oR_e (by simp only [h.F, h.F1, h.F2, h.C, h 0 (by decide), h 1 (by decide), h 2 (by decide), h 3 (by decide), h 4 (by decide), h 5 (by decide), cSc_e h, cPrv_e h, cOver_e h, cServe_e h, cHere_e h, cand_e h, cQ_e h, askN_e h, auC_e h, lcN_e h]) (by simp only [h.F, h.F1, h.F2, h.C, h 0 (by decide), h 1 (by decide), h 2 (by decide), h 3 (by decide), h 4 (by decide), h 5 (by decide), cSc_e h, cPrv_e h, cOver_e h, cServe_e h, cHere_e h, cand_e h, cQ_e h, askN_e h, auC_e h, lcN_e h]) (h) h
theorem de_26 (h : E8 g g') (a1 b1 : Int32) : R2 (dF_26 n nc g a1 b1) (dF_26 n nc g' a1 b1) := by
  unfold dF_26
  exact oR_e (by simp only [h.F, h.F1, h.F2, h.C, h 0 (by decide), h 1 (by decide), h 2 (by decide), h 3 (by decide), h 4 (by decide), h 5 (by decide), cSc_e h, cPrv_e h, cOver_e h, cServe_e h, cHere_e h, cand_e h, cQ_e h, askN_e h, auC_e h, lcN_e h]) (by simp only [h.F, h.F1, h.F2, h.C, h 0 (by decide), h 1 (by decide), h 2 (by decide), h 3 (by decide), h 4 (by decide), h 5 (by decide), cSc_e h, cPrv_e h, cOver_e h, cServe_e h, cHere_e h, cand_e h, cQ_e h, askN_e h, auC_e h, lcN_e h]) (h) h
theorem de_27 (h : E8 g g') (a1 : Int32) : R2 (dF_27 n nc g a1) (dF_27 n nc g' a1) := by
  unfold dF_27
  exact oR_e (by simp only [h.F, h.F1, h.F2, h.C, h 0 (by decide), h 1 (by decide), h 2 (by decide), h 3 (by decide), h 4 (by decide), h 5 (by decide), cSc_e h, cPrv_e h, cOver_e h, cServe_e h, cHere_e h, cand_e h, cQ_e h, askN_e h, auC_e h, lcN_e h]) (by simp only [h.F, h.F1, h.F2, h.C, h 0 (by decide), h 1 (by decide), h 2 (by decide), h 3 (by decide), h 4 (by decide), h 5 (by decide), cSc_e h, cPrv_e h, cOver_e h, cServe_e h, cHere_e h, cand_e h, cQ_e h, askN_e h, auC_e h, lcN_e h]) (h) h
theorem de_28 (h : E8 g g') (a1 : Int32) : R2 (dF_28 n nc g a1) (dF_28 n nc g' a1) := by
  unfold dF_28
  exact oR_e (by simp only [h.F, h.F1, h.F2, h.C, h 0 (by decide), h 1 (by decide), h 2 (by decide), h 3 (by decide), h 4 (by decide), h 5 (by decide), cSc_e h, cPrv_e h, cOver_e h, cServe_e h, cHere_e h, cand_e h, cQ_e h, askN_e h, auC_e h, lcN_e h]) (by simp only [h.F, h.F1, h.F2, h.C, h 0 (by decide), h 1 (by decide), h 2 (by decide), h 3 (by decide), h 4 (by decide), h 5 (by decide), cSc_e h, cPrv_e h, cOver_e h, cServe_e h, cHere_e h, cand_e h, cQ_e h, askN_e h, auC_e h, lcN_e h]) (h) h
theorem found_e (h : E8 g g') (b1 ago d1 e1 value room : Int32) : R4 (foundF n nc g b1 ago d1 e1 value room) (foundF n nc g' b1 ago d1 e1 value room) := by
  unfold foundF
  rw [h 0 (by decide)]
  split
  · exact ⟨rfl, rfl, rfl, cFind_e h n _ _ _ _ _ _ _⟩
  · exact ⟨rfl, rfl, rfl, h⟩
theorem claimed_e (h : E8 g g') (b1 fr to d1 : Int32) : R4 (claimedF n nc g b1 fr to d1) (claimedF n nc g' b1 fr to d1) := by
  unfold claimedF
  rw [h 0 (by decide)]
  split
  · exact ⟨rfl, rfl, rfl, cClaim_e h nc _ _ _ _ _⟩
  · exact ⟨rfl, rfl, rfl, h⟩
theorem itB {R : (Int32 × Nat × Nat × sg) → (Int32 × Nat × Nat × sg) → Prop} {c : Prop} {d : Decidable c} {a b a' b' : Int32 × Nat × Nat × sg} (ha : R a a') (hb : R b b') : R (@ite _ c d a b) (@ite _ c d a' b') := by
  by_cases q : c
  · rw [if_pos q, if_pos q]; exact ha
  · rw [if_neg q, if_neg q]; exact hb
theorem act_e (h : E8 g g') (v : Int32) : R4 (actF n nc g v) (actF n nc g' v) := by
  unfold actF actG
  exact (itB (itB (itB (itB (l2_e (de_18 h _)) (itB (itB (itB (l2_e (de_12 h _)) (itB (itB (l2_e (de_14 h _ _)) (itB (itB (l2_e (de_17 h _ _)) (l2_e (de_16 h _))) (l2_e (de_15 h _ _)))) (l2_e (de_13 h _ _)))) (l2_e (de_11 h _ _))) (l2_e (de_10 h _ _)))) (itB (itB (itB (itB (l2_e (de_9 h _ _)) (l2_e (de_8 h _ _))) (l2_e (de_7 h _))) (l2_e (de_6 h _ _))) (l2_e (de_5 h _ _)))) (itB (claimed_e h _ _ _ _) (found_e h _ _ _ _ _ _))) (itB (itB (l2_e (de_1 h _ _)) (itB (l2_e (de_2 h _ _ _)) (itB (l2_e (de_3 h _ _)) (l2_e (de_4 h _))))) (l2_e (de_0 h _ _))))
/-! what is kept -/
def PI (n nc : Nat) (g : sg) (r : Int32 × Nat × Nat × sg) : Prop := Inv r.2.1 r.2.2.1 r.2.2.2 ∧ (r.1 = -2100000000 → r.2 = (n, nc, g))
theorem oR_I {K V : Int32} {G : sg} (h : Inv n nc g) (hk : K = 0 → Inv n nc G ∧ gv V) : PI n nc g (l2 n nc (oR K V G g)) := by
  unfold oR
  by_cases c : K = 0
  · rw [if_pos c]
    exact ⟨(hk c).1, fun q => absurd q (gv_ne (hk c).2)⟩
  · rw [if_neg c]; exact ⟨h, fun _ => rfl⟩
theorem di_0 (h : Inv n nc g) (a1 b1 : Int32) : PI n nc g (l2 n nc (dF_0 n nc g a1 b1)) := by
  unfold dF_0
  exact oR_I h (fun c => ⟨iv_near h c, gv_b _⟩)
theorem di_1 (h : Inv n nc g) (a1 b1 : Int32) : PI n nc g (l2 n nc (dF_1 n nc g a1 b1)) := by
  unfold dF_1
  exact oR_I h (fun c => ⟨iv_alike h, gv_b _⟩)
theorem di_2 (h : Inv n nc g) (a1 b1 c1 : Int32) : PI n nc g (l2 n nc (dF_2 n nc g a1 b1 c1)) := by
  unfold dF_2
  exact oR_I h (fun c => iv_rule h c)
theorem di_3 (h : Inv n nc g) (a1 b1 : Int32) : PI n nc g (l2 n nc (dF_3 n nc g a1 b1)) := by
  unfold dF_3
  exact oR_I h (fun c => ⟨iv_stop h c, gv_bits _⟩)
theorem di_4 (h : Inv n nc g) (a1 : Int32) : PI n nc g (l2 n nc (dF_4 n nc g a1)) := by
  unfold dF_4
  exact oR_I h (fun c => iv_threshold h c)
theorem di_5 (h : Inv n nc g) (a1 b1 : Int32) : PI n nc g (l2 n nc (dF_5 n nc g a1 b1)) := by
  unfold dF_5
  exact oR_I h (fun c => ⟨iv_see h c, gv_bits _⟩)
theorem di_6 (h : Inv n nc g) (a1 b1 : Int32) : PI n nc g (l2 n nc (dF_6 n nc g a1 b1)) := by
  unfold dF_6
  exact oR_I h (fun c => iv_send h c)
theorem di_7 (h : Inv n nc g) (a1 : Int32) : PI n nc g (l2 n nc (dF_7 n nc g a1)) := by
  unfold dF_7
  exact oR_I h (fun c => ⟨iv_lose h _ 30, (gv_lose _ _ _ 30).elim fun m hm => ⟨m, by omega, hm.2⟩⟩)
theorem di_8 (h : Inv n nc g) (a1 b1 : Int32) : PI n nc g (l2 n nc (dF_8 n nc g a1 b1)) := by
  unfold dF_8
  exact oR_I h (fun c => iv_turnUp h c)
theorem di_9 (h : Inv n nc g) (a1 b1 : Int32) : PI n nc g (l2 n nc (dF_9 n nc g a1 b1)) := by
  unfold dF_9
  exact oR_I h (fun c => ⟨iv_hold h c, gv_b _⟩)
theorem di_10 (h : Inv n nc g) (a1 b1 : Int32) : PI n nc g (l2 n nc (dF_10 n nc g a1 b1)) := by
  unfold dF_10
  exact oR_I h (fun c => ⟨iv_say h c, gv_bits _⟩)
theorem di_11 (h : Inv n nc g) (a1 b1 : Int32) : PI n nc g (l2 n nc (dF_11 n nc g a1 b1)) := by
  unfold dF_11
  exact oR_I h (fun c => ⟨iv_tell h c, gv_bits _⟩)
theorem di_12 (h : Inv n nc g) (a1 : Int32) : PI n nc g (l2 n nc (dF_12 n nc g a1)) := by
  unfold dF_12
  exact oR_I h (fun c => ⟨iv_withdraw h c, gv_vp h.day (by decide)⟩)
theorem di_13 (h : Inv n nc g) (a1 b1 : Int32) : PI n nc g (l2 n nc (dF_13 n nc g a1 b1)) := by
  unfold dF_13
  exact oR_I h (fun c => iv_release h c)
theorem di_14 (h : Inv n nc g) (a1 b1 : Int32) : PI n nc g (l2 n nc (dF_14 n nc g a1 b1)) := by
  unfold dF_14
  exact oR_I h (fun c => iv_extend h c)
theorem di_15 (h : Inv n nc g) (a1 b1 : Int32) : PI n nc g (l2 n nc (dF_15 n nc g a1 b1)) := by
  unfold dF_15
  exact oR_I h (fun c => iv_sell h c)
theorem di_16 (h : Inv n nc g) (a1 : Int32) : PI n nc g (l2 n nc (dF_16 n nc g a1)) := by
  unfold dF_16
  exact oR_I h (fun c => iv_destroy h c)
theorem di_17 (h : Inv n nc g) (a1 b1 : Int32) : PI n nc g (l2 n nc (dF_17 n nc g a1 b1)) := by
  unfold dF_17
  exact oR_I h (fun c => iv_payOut h c)
theorem di_18 (h : Inv n nc g) (a1 : Int32) : PI n nc g (l2 n nc (dF_18 n nc g a1)) := by
  unfold dF_18
  exact oR_I h (fun c => iv_pass h c)
theorem found_I (h : Inv n nc g) (b1 ago d1 e1 value room : Int32) : PI n nc g (foundF n nc g b1 ago d1 e1 value room) := by
  unfold foundF
  split
  · rename_i c
    obtain ⟨i1, i2⟩ := iv_find h c
    exact ⟨i1, fun q => absurd q (gv_ne ⟨n, by omega, rfl⟩)⟩
  · exact ⟨h, fun _ => rfl⟩
theorem claimed_I (h : Inv n nc g) (b1 fr to d1 : Int32) : PI n nc g (claimedF n nc g b1 fr to d1) := by
  unfold claimedF
  split
  · rename_i c
    obtain ⟨i1, i2⟩ := iv_claim h c
    exact ⟨i1, fun q => absurd q (gv_ne ⟨nc, by omega, rfl⟩)⟩
  · exact ⟨h, fun _ => rfl⟩
theorem itA {P : (Int32 × Nat × Nat × sg) → Prop} {c : Prop} {d : Decidable c} {a b : Int32 × Nat × Nat × sg} (ha : P a) (hb : P b) : P (@ite _ c d a b) := by
  by_cases q : c
  · rw [if_pos q]; exact ha
  · rw [if_neg q]; exact hb
theorem act_I (h : Inv n nc g) (v : Int32) : PI n nc g (actF n nc g v) := by
  unfold actF actG
  exact (itA (itA (itA (itA (di_18 h _) (itA (itA (itA (di_12 h _) (itA (itA (di_14 h _ _) (itA (itA (di_17 h _ _) (di_16 h _)) (di_15 h _ _))) (di_13 h _ _))) (di_11 h _ _)) (di_10 h _ _))) (itA (itA (itA (itA (di_9 h _ _) (di_8 h _ _)) (di_7 h _)) (di_6 h _ _)) (di_5 h _ _))) (itA (claimed_I h _ _ _ _) (found_I h _ _ _ _ _ _))) (itA (itA (di_1 h _ _) (itA (di_2 h _ _ _) (itA (di_3 h _ _) (di_4 h _)))) (di_0 h _ _)))
end E8S
