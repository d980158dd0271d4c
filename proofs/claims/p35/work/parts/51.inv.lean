/-! What holds of one object's state between calls (p35): each find's and each claim's own facts, who is served and what is gone, the money. -/
def ksum (f : Nat → Nat) : Nat → Nat
  | 0 => 0
  | k + 1 => ksum f k + f k
theorem ksum_c {f f' : Nat → Nat} {n : Nat} (h : ∀ t, t < n → f' t = f t) : ksum f' n = ksum f n := by
  induction n with
  | zero => rfl
  | succ n ih => show ksum f' n + f' n = ksum f n + f n; rw [ih (fun t ht => h t (by omega)), h n (by omega)]
theorem ksum_u {f f' : Nat → Nat} {n i : Nat} (hi : i < n) (h : ∀ t, t < n → t ≠ i → f' t = f t) : ksum f' n + f i = ksum f n + f' i := by
  induction n with
  | zero => omega
  | succ n ih =>
    show ksum f' n + f' n + f i = ksum f n + f n + f' i
    by_cases e : i = n
    · subst e
      rw [ksum_c (f := f) (f' := f') (fun t ht => h t (by omega) (by omega))]
      omega
    · have := ih (by omega) (fun t ht hne => h t (by omega) hne)
      rw [h n (by omega) (by omega)]
      omega
theorem ksum_le {f : Nat → Nat} {n M : Nat} (h : ∀ t, t < n → f t ≤ M) : ksum f n ≤ n * M := by
  induction n with
  | zero => exact Nat.zero_le _
  | succ n ih =>
    have h1 := ih (fun t ht => h t (by omega))
    have h2 := h n (by omega)
    show ksum f n + f n ≤ (n + 1) * M
    rw [Nat.succ_mul]
    omega
theorem ksum_at {f : Nat → Nat} {n i : Nat} (hi : i < n) : f i ≤ ksum f n := by
  induction n with
  | zero => omega
  | succ n ih =>
    show f i ≤ ksum f n + f n
    by_cases e : i = n
    · subst e; omega
    · have := ih (by omega); omega
def gone (st : Int32) : Bool := decide (st = 3) || decide (st = 6)
def gn (g : sg) (i : Nat) : Nat := if gone (g (100 + 3 * i) 9) = true then 1 else 0
def sv (g : sg) (j : Nat) : Nat := if g (200 + j) 8 = -1 then 0 else 1
def sp (g : sg) (i : Nat) : Nat := if g (100 + 3 * i) 9 = 4 then (g (100 + 3 * i) 13).toNatClampNeg else 0
/-- a find's row and its hands, on a day -/
def fI (d : Int32) (R H1 H2 : Nat → Int32) : Prop :=
  vp_in (R 0) 8 ∧ vp_in (R 1) 10 ∧ vp_in (R 2) 10000 ∧ sB (R 8) ∧ sB (R 3) ∧ vp_in (R 4) 10000 ∧ vp_in (R 9) 7 ∧ vp_in (R 10) 6 ∧ vp_in (R 11) 20000 ∧ vp_in (R 13) 10000 ∧ (R 12 = 0 ∨ R 12 = 1) ∧
  ∃ h : Nat, 1 ≤ h ∧ h ≤ 12 ∧ R 7 = nI h ∧ (R 9 = 0 → H1 (h - 1) = R 10) ∧ (∀ j, j < h → H2 j ≤ d) ∧ (∀ j, j + 1 < h → H2 j ≤ H2 (j + 1))
/-- a claim's row, beside the finds' states -/
def cI (gs : Nat → Bool) (n j : Nat) (C : Nat → Int32) : Prop :=
  C 0 = nI j ∧ vp_in (C 1) 8 ∧ vp_in (C 2) 10 ∧ vp_in (C 4) 10000 ∧ sB (C 5) ∧ sB (C 6) ∧ vp_in (C 7) 4 ∧ (∀ k, bt (C 6) k = true → bt (C 5) k = true) ∧ (C 7 = 3 → C 5 = 0) ∧ (C 7 = 1 → C 8 ≠ -1) ∧ (C 7 = 0 → C 8 = -1) ∧
  (C 8 = -1 ∨ ∃ x, x < n ∧ C 8 = nI x ∧ gs x = true)
def gS (g : sg) : Nat → Bool := fun i => gone (g (100 + 3 * i) 9)
/-- the object's own numbers and rows -/
def oI (n nc : Nat) (g : sg) : Prop :=
  n ≤ 30 ∧ nc ≤ 20 ∧ g 0 8 = nI n ∧ g 0 9 = nI nc ∧ (∀ j, g 6 j = if j < n then 1 else 0) ∧ (∀ j, g 7 j = if j < nc then 1 else 0) ∧
  nSy (g 1) ∧ (∀ t, t < 4 → sB (g 3 t)) ∧ (∀ k, k < 8 → vp_in (g 4 k) 401) ∧ (∀ k, k < 8 → vp_in (g 5 k) 51) ∧ vp_in (g 0 10) 10000 ∧ vp_in (g 0 11) 201
def mI (n nc : Nat) (g : sg) : Prop :=
  ksum (gn g) n = ksum (sv g) nc ∧ ∃ F W P : Nat, g 0 12 = nI F ∧ g 0 13 = nI W ∧ g 0 14 = nI P ∧ F ≤ 5 * ksum (gn g) n ∧ W ≤ 5000 * ksum (gn g) n ∧ P = ksum (sp g) n
def Inv (n nc : Nat) (g : sg) : Prop :=
  oI n nc g ∧ (∀ i, i < n → fI (g 0 10) (g (100 + 3 * i)) (g (100 + 3 * i + 1)) (g (100 + 3 * i + 2))) ∧ (∀ j, j < nc → cI (gS g) n j (g (200 + j))) ∧ mI n nc g
theorem cI.mono {gs gs' : Nat → Bool} {n n' j : Nat} {C : Nat → Int32} (h : cI gs n j C) (hn : n ≤ n') (hg : ∀ x, x < n → gs x = true → gs' x = true) : cI gs' n' j C := by
  obtain ⟨h0, h1, h2, h3, h4, h5, h6, h7, h8, h9, h10, h11⟩ := h
  refine ⟨h0, h1, h2, h3, h4, h5, h6, h7, h8, h9, h10, h11.imp id ?_⟩
  rintro ⟨x, hx, e, hs⟩
  exact ⟨x, by omega, e, hg x hx hs⟩
/-- what the walks ask for -/
theorem Inv.fr {n nc : Nat} {g : sg} (h : Inv n nc g) : ∀ j, j < 30 → g 6 j = if j < n then 1 else 0 := fun j _ => h.1.2.2.2.2.1 j
theorem Inv.cr {n nc : Nat} {g : sg} (h : Inv n nc g) : ∀ j, j < 20 → g 7 j = if j < nc then 1 else 0 := fun j _ => h.1.2.2.2.2.2.1 j
theorem Inv.n30 {n nc : Nat} {g : sg} (h : Inv n nc g) : n ≤ 30 := h.1.1
theorem Inv.c20 {n nc : Nat} {g : sg} (h : Inv n nc g) : nc ≤ 20 := h.1.2.1
theorem Inv.R {n nc : Nat} {g : sg} (h : Inv n nc g) : cR n nc g :=
  ⟨fun i hi => ⟨(h.2.1 i hi).1, (h.2.1 i hi).2.1, (h.2.1 i hi).2.2.1, (h.2.1 i hi).2.2.2.1, (h.2.1 i hi).2.2.2.2.1⟩,
   fun j hj => ⟨(h.2.2.1 j hj).2.1, (h.2.2.1 j hj).2.2.1, (h.2.2.1 j hj).2.2.2.1, (h.2.2.1 j hj).2.2.2.2.1, (h.2.2.1 j hj).2.2.2.2.2.1, (h.2.2.1 j hj).1⟩, h.1.2.2.2.2.2.2.1⟩
theorem Inv.hh {n nc : Nat} {g : sg} (h : Inv n nc g) : ∀ i, i < n → ∃ h : Nat, h ≤ 12 ∧ g (100 + 3 * i) 7 = nI h := fun i hi => by
  obtain ⟨-, -, -, -, -, -, -, -, -, -, -, k, h1, h2, h3, -⟩ := h.2.1 i hi
  exact ⟨k, h2, h3⟩
theorem Inv.hz {n nc : Nat} {g : sg} (h : Inv n nc g) : ∀ i, i < n → g (100 + 3 * i) 12 = 0 ∨ g (100 + 3 * i) 12 = 1 := fun i hi => (h.2.1 i hi).2.2.2.2.2.2.2.2.2.2.1
theorem Inv.day {n nc : Nat} {g : sg} (h : Inv n nc g) : vp_in (g 0 10) 10000 := h.1.2.2.2.2.2.2.2.2.2.2.1
/-- all but the scores' row is the same -/
def E8 (g g' : sg) : Prop := ∀ k, k ≠ 8 → g k = g' k
theorem E8.rf (g : sg) : E8 g g := fun _ _ => rfl
theorem E8.sy {g g' : sg} (h : E8 g g') : E8 g' g := fun k hk => (h k hk).symm
theorem E8.tr {g g' g2 : sg} (h : E8 g g') (h2 : E8 g' g2) : E8 g g2 := fun k hk => (h k hk).trans (h2 k hk)
theorem E8.F {g g' : sg} (h : E8 g g') (i : Nat) : g (100 + 3 * i) = g' (100 + 3 * i) := h _ (by omega)
theorem E8.F1 {g g' : sg} (h : E8 g g') (i : Nat) : g (100 + 3 * i + 1) = g' (100 + 3 * i + 1) := h _ (by omega)
theorem E8.F2 {g g' : sg} (h : E8 g g') (i : Nat) : g (100 + 3 * i + 2) = g' (100 + 3 * i + 2) := h _ (by omega)
theorem E8.C {g g' : sg} (h : E8 g g') (j : Nat) : g (200 + j) = g' (200 + j) := h _ (by omega)
theorem E8.u {g g' : sg} (h : E8 g g') (k j : Nat) {v v' : Int32} (hv : v = v') : E8 (sU g k j v) (sU g' k j v') := by
  subst hv
  intro k' hk'
  funext j'
  unfold sU
  rw [h k' hk']
theorem Inv.glob {n nc : Nat} {g g' : sg} (h : Inv n nc g) (hk : ∀ k, 9 ≤ k → g' k = g k) (ho : oI n nc g') (h10 : g' 0 10 = g 0 10) (h12 : g' 0 12 = g 0 12) (h13 : g' 0 13 = g 0 13) (h14 : g' 0 14 = g 0 14) : Inv n nc g' := by
  obtain ⟨-, h2, h3, h4, F, W, P, m1, m2, m3, m4, m5, m6⟩ := h
  have eg : gn g' = gn g := by funext i; unfold gn; rw [hk _ (by omega)]
  have es : sv g' = sv g := by funext i; unfold sv; rw [hk _ (by omega)]
  have ep : sp g' = sp g := by funext i; unfold sp; rw [hk _ (by omega)]
  have eG : gS g' = gS g := by funext i; unfold gS; rw [hk _ (by omega)]
  refine ⟨ho, fun i hi => ?_, fun j hj => ?_, ?_, F, W, P, ?_, ?_, ?_, ?_, ?_, ?_⟩
  · rw [h10, hk _ (by omega), hk _ (by omega), hk _ (by omega)]; exact h2 i hi
  · rw [eG, hk _ (by omega)]; exact h3 j hj
  · rw [eg, es]; exact h4
  · rw [h12]; exact m1
  · rw [h13]; exact m2
  · rw [h14]; exact m3
  · rw [eg]; exact m4
  · rw [eg]; exact m5
  · rw [ep]; exact m6
theorem oI.same {n nc : Nat} {g g' : sg} (h : oI n nc g) (hk : ∀ k, k ≤ 7 → g' k = g k) : oI n nc g' := by
  unfold oI at h ⊢
  rw [hk 0 (by omega), hk 1 (by omega), hk 3 (by omega), hk 4 (by omega), hk 5 (by omega), hk 6 (by omega), hk 7 (by omega)]
  exact h
theorem Inv.e8 {n nc : Nat} {g g' : sg} (h : Inv n nc g) (e : E8 g g') : Inv n nc g' :=
  h.glob (fun k hk => (e k (by omega)).symm) (h.1.same (fun k hk => (e k (by omega)).symm)) (by rw [e 0 (by decide)]) (by rw [e 0 (by decide)]) (by rw [e 0 (by decide)]) (by rw [e 0 (by decide)])
/-- one find is another, but gone as before -/
theorem Inv.find1 {n nc i : Nat} {g g' : sg} (h : Inv n nc g) (hi : i < n) (ho : ∀ k, k ≠ 100 + 3 * i → k ≠ 100 + 3 * i + 1 → k ≠ 100 + 3 * i + 2 → g' k = g k) (hf : fI (g 0 10) (g' (100 + 3 * i)) (g' (100 + 3 * i + 1)) (g' (100 + 3 * i + 2))) (hg : gn g' i = gn g i) (hp : sp g' i = sp g i) : Inv n nc g' := by
  have hn := h.n30
  obtain ⟨h1, h2, h3, h4, F, W, P, m1, m2, m3, m4, m5, m6⟩ := h
  have e0 : g' 0 = g 0 := ho 0 (by omega) (by omega) (by omega)
  have eF : ∀ t, t ≠ i → g' (100 + 3 * t) = g (100 + 3 * t) := fun t ht => ho _ (by omega) (by omega) (by omega)
  have eC : ∀ j, g' (200 + j) = g (200 + j) := fun j => ho _ (by omega) (by omega) (by omega)
  have eg : ∀ t, gn g' t = gn g t := fun t => by
    by_cases e : t = i
    · subst e; exact hg
    · unfold gn; rw [eF t e]
  have ep : ∀ t, sp g' t = sp g t := fun t => by
    by_cases e : t = i
    · subst e; exact hp
    · unfold sp; rw [eF t e]
  have eG : ∀ t, gS g' t = gS g t := fun t => by
    have := eg t
    unfold gn at this
    unfold gS
    cases a : gone (g' (100 + 3 * t) 9) <;> cases b : gone (g (100 + 3 * t) 9) <;> rw [a, b] at this <;> first | rfl | (exact absurd this (by decide))
  have es : sv g' = sv g := by funext j; unfold sv; rw [eC]
  refine ⟨h1.same (fun k hk => ho k (by omega) (by omega) (by omega)), fun t ht => ?_, fun j hj => ?_, ?_, F, W, P, ?_, ?_, ?_, ?_, ?_, ?_⟩
  · rw [e0]
    by_cases e : t = i
    · subst e; exact hf
    · rw [eF t e, ho _ (by omega) (by omega) (by omega), ho (100 + 3 * t + 2) (by omega) (by omega) (by omega)]
      exact h2 t ht
  · rw [eC]
    exact (h3 j hj).mono (Nat.le_refl _) (fun x _ hx => by rw [eG]; exact hx)
  · rw [ksum_c (fun t _ => eg t), es]; exact h4
  · rw [e0]; exact m1
  · rw [e0]; exact m2
  · rw [e0]; exact m3
  · rw [ksum_c (fun t _ => eg t)]; exact m4
  · rw [ksum_c (fun t _ => eg t)]; exact m5
  · rw [ksum_c (fun t _ => ep t)]; exact m6
/-- one claim is another, but served as before -/
theorem Inv.claim1 {n nc j : Nat} {g g' : sg} (h : Inv n nc g) (ho : ∀ k, k ≠ 200 + j → g' k = g k) (hf : cI (gS g) n j (g' (200 + j))) (h8 : g' (200 + j) 8 = g (200 + j) 8) : Inv n nc g' := by
  have hn := h.n30
  obtain ⟨h1, h2, h3, h4, F, W, P, m1, m2, m3, m4, m5, m6⟩ := h
  have e0 : g' 0 = g 0 := ho 0 (by omega)
  have eF : ∀ t, t < n → g' (100 + 3 * t) = g (100 + 3 * t) := fun t ht => ho _ (by omega)
  have eg : ∀ t, t < n → gn g' t = gn g t := fun t ht => by unfold gn; rw [eF t ht]
  have ep : ∀ t, t < n → sp g' t = sp g t := fun t ht => by unfold sp; rw [eF t ht]
  have es : ∀ t, sv g' t = sv g t := fun t => by
    by_cases e : t = j
    · subst e; unfold sv; rw [h8]
    · unfold sv; rw [ho _ (by omega)]
  refine ⟨h1.same (fun k hk => ho k (by omega)), fun t ht => ?_, fun t ht => ?_, ?_, F, W, P, ?_, ?_, ?_, ?_, ?_, ?_⟩
  · rw [e0, eF t ht, ho (100 + 3 * t + 1) (by omega), ho (100 + 3 * t + 2) (by omega)]; exact h2 t ht
  · have hm : ∀ x, x < n → gS g x = true → gS g' x = true := fun x hx hs => by unfold gS at hs ⊢; rw [eF x hx]; exact hs
    by_cases e : t = j
    · subst e; exact hf.mono (Nat.le_refl _) hm
    · rw [ho _ (by omega)]; exact (h3 t ht).mono (Nat.le_refl _) hm
  · rw [ksum_c eg, ksum_c (fun t _ => es t)]; exact h4
  · rw [e0]; exact m1
  · rw [e0]; exact m2
  · rw [e0]; exact m3
  · rw [ksum_c eg]; exact m4
  · rw [ksum_c eg]; exact m5
  · rw [ksum_c ep]; exact m6
/-- a find and a claim: released or paid out -/
theorem Inv.serve {n nc i j : Nat} {g g' : sg} (h : Inv n nc g) (hi : i < n) (hj : j < nc) (ho : ∀ k, k ≠ 100 + 3 * i → k ≠ 200 + j → k ≠ 0 → g' k = g k) (ho0 : ∀ q, q ≠ 12 → q ≠ 13 → q ≠ 14 → g' 0 q = g 0 q)
    (hf : fI (g 0 10) (g' (100 + 3 * i)) (g (100 + 3 * i + 1)) (g (100 + 3 * i + 2))) (h9 : gone (g' (100 + 3 * i) 9) = true) (h9o : gone (g (100 + 3 * i) 9) = false)
    (hc : cI (gS g') n j (g' (200 + j))) (h8 : g' (200 + j) 8 = nI i) (h8o : g (200 + j) 8 = -1) {f w : Nat} (hF : g' 0 12 = g 0 12 + nI f) (hf5 : f ≤ 5) (hW : g' 0 13 = g 0 13 + nI w) (hw5 : w ≤ 5000) (hP : g' 0 14 = g 0 14 - nI (sp g i)) : Inv n nc g' := by
  have hn := h.n30
  obtain ⟨h1, h2, h3, h4, F, W, P, m1, m2, m3, m4, m5, m6⟩ := h
  have e10 : g' 0 10 = g 0 10 := ho0 10 (by decide) (by decide) (by decide)
  have eF : ∀ t, t < n → t ≠ i → g' (100 + 3 * t) = g (100 + 3 * t) := fun t ht hne => ho _ (by omega) (by omega) (by omega)
  have eH : ∀ t q, t < n → 1 ≤ q → q ≤ 2 → g' (100 + 3 * t + q) = g (100 + 3 * t + q) := fun t q ht _ _ => ho _ (by omega) (by omega) (by omega)
  have gi' : gn g' i = 1 := by unfold gn; rw [h9]; rfl
  have gi : gn g i = 0 := by unfold gn; rw [h9o]; rfl
  have s' : sv g' j = 1 := by
    unfold sv
    rw [h8, if_neg]
    intro q
    have := congrArg Int32.toInt q
    rw [nI_toInt (by omega)] at this
    have e : (-1 : Int32).toInt = -1 := rfl
    omega
  have s0 : sv g j = 0 := by unfold sv; rw [h8o]; rfl
  have pi' : sp g' i = 0 := by
    unfold sp
    rw [if_neg]
    intro q
    rw [q] at h9
    exact absurd h9 (by decide)
  have kg := ksum_u (f := gn g) (f' := gn g') hi (fun t ht hne => by unfold gn; rw [eF t ht hne])
  have ks := ksum_u (f := sv g) (f' := sv g') hj (fun t ht hne => by unfold sv; rw [ho _ (by omega) (by omega) (by omega)])
  have kp := ksum_u (f := sp g) (f' := sp g') hi (fun t ht hne => by unfold sp; rw [eF t ht hne])
  rw [gi', gi] at kg
  rw [s', s0] at ks
  rw [pi'] at kp
  have hgl : ksum (gn g) n ≤ n * 1 := ksum_le (fun t _ => by unfold gn; split <;> omega)
  refine ⟨?_, fun t ht => ?_, fun t ht => ?_, by omega, F + f, W + w, P - sp g i, ?_, ?_, ?_, by omega, by omega, by omega⟩
  · obtain ⟨a1, a2, a3, a4, a5, a6, a7, a8, a9, a10, a11, a12⟩ := h1
    refine ⟨a1, a2, ?_, ?_, ?_, ?_, ?_, ?_, ?_, ?_, ?_, ?_⟩
    · rw [ho0 8 (by decide) (by decide) (by decide)]; exact a3
    · rw [ho0 9 (by decide) (by decide) (by decide)]; exact a4
    · rw [ho 6 (by omega) (by omega) (by decide)]; exact a5
    · rw [ho 7 (by omega) (by omega) (by decide)]; exact a6
    · rw [ho 1 (by omega) (by omega) (by decide)]; exact a7
    · rw [ho 3 (by omega) (by omega) (by decide)]; exact a8
    · rw [ho 4 (by omega) (by omega) (by decide)]; exact a9
    · rw [ho 5 (by omega) (by omega) (by decide)]; exact a10
    · rw [e10]; exact a11
    · rw [ho0 11 (by decide) (by decide) (by decide)]; exact a12
  · rw [e10, eH t 1 ht (by omega) (by omega), eH t 2 ht (by omega) (by omega)]
    by_cases e : t = i
    · subst e; exact hf
    · rw [eF t ht e]; exact h2 t ht
  · by_cases e : t = j
    · subst e; exact hc
    · rw [ho _ (by omega) (by omega) (by omega)]
      refine (h3 t ht).mono (Nat.le_refl _) (fun x hx hs => ?_)
      unfold gS at hs ⊢
      by_cases q : x = i
      · subst q; exact h9
      · rw [eF x hx q]; exact hs
  · rw [hF, m1, nI_add]
  · rw [hW, m2, nI_add]
  · rw [hP, m3, pk_sub (by omega)]
theorem Inv.hs {n nc : Nat} {g : sg} (h : Inv n nc g) : ∀ t, t < 4 → sB (g 3 t) := h.1.2.2.2.2.2.2.2.1
theorem Inv.fj {n nc : Nat} {g : sg} (h : Inv n nc g) : ∀ j, g 6 j = if j < n then 1 else 0 := h.1.2.2.2.2.1
theorem Inv.cj {n nc : Nat} {g : sg} (h : Inv n nc g) : ∀ j, g 7 j = if j < nc then 1 else 0 := h.1.2.2.2.2.2.1
theorem Inv.fc {n nc : Nat} {g : sg} (h : Inv n nc g) : g 0 8 = nI n := h.1.2.2.1
theorem Inv.cc {n nc : Nat} {g : sg} (h : Inv n nc g) : g 0 9 = nI nc := h.1.2.2.2.1
theorem Inv.fj6 {n nc : Nat} {g : sg} (h : Inv n nc g) : ∀ j, g 6 j = 1 → j < 30 := fun j hj => by
  have h1 := h.fj j
  have h2 := h.n30
  rw [hj] at h1
  by_cases q : j < n
  · omega
  · rw [if_neg q] at h1; exact absurd h1 (by decide)
