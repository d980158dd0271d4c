/-! What a question answers where it isn't refused; sets of finds. -/
theorem kEx_no {K : Int32} {E : String} (h : kEx K E) (hK : K = 0) : False := by
  rcases h with ⟨-, h⟩ | ⟨-, h⟩ | ⟨-, h⟩ <;> rw [hK] at h <;> exact absurd h (by decide)
theorem of0 {g : sg} {k : Nat} (hk : k < 30) : (if (0 : Int32) = nI 0 then g (100 + 3 * (nI k).toNatClampNeg) 9 else if (0 : Int32) = nI 1 then g (100 + 3 * (nI k).toNatClampNeg) 10 else if (0 : Int32) = nI 2 then g (100 + 3 * (nI k).toNatClampNeg) 11 else if (0 : Int32) = nI 3 then g (100 + 3 * (nI k).toNatClampNeg) 8 else g (100 + 3 * (nI k).toNatClampNeg) 7) = g (100 + 3 * k) 9 := by
  rw [cl_nI (by omega)]
  exact if_pos (by decide +kernel)
theorem of1 {g : sg} {k : Nat} (hk : k < 30) : (if (1 : Int32) = nI 0 then g (100 + 3 * (nI k).toNatClampNeg) 9 else if (1 : Int32) = nI 1 then g (100 + 3 * (nI k).toNatClampNeg) 10 else if (1 : Int32) = nI 2 then g (100 + 3 * (nI k).toNatClampNeg) 11 else if (1 : Int32) = nI 3 then g (100 + 3 * (nI k).toNatClampNeg) 8 else g (100 + 3 * (nI k).toNatClampNeg) 7) = g (100 + 3 * k) 10 := by
  rw [cl_nI (by omega)]
  exact (if_neg (by decide +kernel)).trans (if_pos (by decide +kernel))
theorem of2 {g : sg} {k : Nat} (hk : k < 30) : (if (2 : Int32) = nI 0 then g (100 + 3 * (nI k).toNatClampNeg) 9 else if (2 : Int32) = nI 1 then g (100 + 3 * (nI k).toNatClampNeg) 10 else if (2 : Int32) = nI 2 then g (100 + 3 * (nI k).toNatClampNeg) 11 else if (2 : Int32) = nI 3 then g (100 + 3 * (nI k).toNatClampNeg) 8 else g (100 + 3 * (nI k).toNatClampNeg) 7) = g (100 + 3 * k) 11 := by
  rw [cl_nI (by omega)]
  exact (if_neg (by decide +kernel)).trans ((if_neg (by decide +kernel)).trans (if_pos (by decide +kernel)))
theorem of3 {g : sg} {k : Nat} (hk : k < 30) : (if (3 : Int32) = nI 0 then g (100 + 3 * (nI k).toNatClampNeg) 9 else if (3 : Int32) = nI 1 then g (100 + 3 * (nI k).toNatClampNeg) 10 else if (3 : Int32) = nI 2 then g (100 + 3 * (nI k).toNatClampNeg) 11 else if (3 : Int32) = nI 3 then g (100 + 3 * (nI k).toNatClampNeg) 8 else g (100 + 3 * (nI k).toNatClampNeg) 7) = g (100 + 3 * k) 8 := by
  rw [cl_nI (by omega)]
  exact (if_neg (by decide +kernel)).trans ((if_neg (by decide +kernel)).trans ((if_neg (by decide +kernel)).trans (if_pos (by decide +kernel))))
theorem of4 {g : sg} {k : Nat} (hk : k < 30) : (if (4 : Int32) = nI 0 then g (100 + 3 * (nI k).toNatClampNeg) 9 else if (4 : Int32) = nI 1 then g (100 + 3 * (nI k).toNatClampNeg) 10 else if (4 : Int32) = nI 2 then g (100 + 3 * (nI k).toNatClampNeg) 11 else if (4 : Int32) = nI 3 then g (100 + 3 * (nI k).toNatClampNeg) 8 else g (100 + 3 * (nI k).toNatClampNeg) 7) = g (100 + 3 * k) 7 := by
  rw [cl_nI (by omega)]
  exact (if_neg (by decide +kernel)).trans ((if_neg (by decide +kernel)).trans ((if_neg (by decide +kernel)).trans (if_neg (by decide +kernel))))
theorem oc0 {g : sg} {k : Nat} (hk : k < 30) : (if (0 : Int32) = nI 0 then g (200 + (nI k).toNatClampNeg) 7 else if (0 : Int32) = nI 1 then g (200 + (nI k).toNatClampNeg) 5 else if (0 : Int32) = nI 2 then g (200 + (nI k).toNatClampNeg) 6 else g (200 + (nI k).toNatClampNeg) 8) = g (200 + k) 7 := by
  rw [cl_nI (by omega)]
  exact if_pos (by decide +kernel)
theorem oc1 {g : sg} {k : Nat} (hk : k < 30) : (if (1 : Int32) = nI 0 then g (200 + (nI k).toNatClampNeg) 7 else if (1 : Int32) = nI 1 then g (200 + (nI k).toNatClampNeg) 5 else if (1 : Int32) = nI 2 then g (200 + (nI k).toNatClampNeg) 6 else g (200 + (nI k).toNatClampNeg) 8) = g (200 + k) 5 := by
  rw [cl_nI (by omega)]
  exact (if_neg (by decide +kernel)).trans (if_pos (by decide +kernel))
theorem oc2 {g : sg} {k : Nat} (hk : k < 30) : (if (2 : Int32) = nI 0 then g (200 + (nI k).toNatClampNeg) 7 else if (2 : Int32) = nI 1 then g (200 + (nI k).toNatClampNeg) 5 else if (2 : Int32) = nI 2 then g (200 + (nI k).toNatClampNeg) 6 else g (200 + (nI k).toNatClampNeg) 8) = g (200 + k) 6 := by
  rw [cl_nI (by omega)]
  exact (if_neg (by decide +kernel)).trans ((if_neg (by decide +kernel)).trans (if_pos (by decide +kernel)))
theorem oc3 {g : sg} {k : Nat} (hk : k < 30) : (if (3 : Int32) = nI 0 then g (200 + (nI k).toNatClampNeg) 7 else if (3 : Int32) = nI 1 then g (200 + (nI k).toNatClampNeg) 5 else if (3 : Int32) = nI 2 then g (200 + (nI k).toNatClampNeg) 6 else g (200 + (nI k).toNatClampNeg) 8) = g (200 + k) 8 := by
  rw [cl_nI (by omega)]
  exact (if_neg (by decide +kernel)).trans ((if_neg (by decide +kernel)).trans (if_neg (by decide +kernel)))
theorem mo0 {g : sg} : (if (0 : Int32) = nI 0 then g 0 12 else if (0 : Int32) = nI 1 then g 0 13 else g 0 14) = g 0 12 := if_pos (by decide +kernel)
theorem mo1 {g : sg} : (if (1 : Int32) = nI 0 then g 0 12 else if (1 : Int32) = nI 1 then g 0 13 else g 0 14) = g 0 13 := (if_neg (by decide +kernel)).trans (if_pos (by decide +kernel))
theorem mo2 {g : sg} : (if (2 : Int32) = nI 0 then g 0 12 else if (2 : Int32) = nI 1 then g 0 13 else g 0 14) = g 0 14 := (if_neg (by decide +kernel)).trans (if_neg (by decide +kernel))
section QF
variable {n nc : Nat} {g : sg}
theorem Inv.st (h : Inv n nc g) {k : Nat} (hk : k < n) : gv (g (100 + 3 * k) 9) := gv_vp (h.2.1 k hk).2.2.2.2.2.2.1 (by decide)
theorem d24_lt (h : Inv n nc g) {k : Nat} (hk : k < n) : (dF_24 n nc g (nI k) 0).1 = g (100 + 3 * k) 9 := by
  have hn := h.n30
  unfold dF_24
  rw [oR_y (kd2_0.mpr ⟨isF_of hk hn, by decide +kernel⟩)]
  exact of0 (by omega)
theorem isF_ge {k : Nat} (h : n ≤ k) (hk : k ≤ 30) (hn : n ≤ 30) : isF n (nI k) = false := isF_f2 (n := n) (L := n) (M := nI n) (nI_le h (by omega)) rfl (Nat.le_refl _) hn
theorem d24_ge (h : Inv n nc g) {k : Nat} (hk : k = n) : (dF_24 n nc g (nI k) 0).1 = -2100000000 := by
  have hn := h.n30
  unfold dF_24
  rw [isF_ge (by omega) (by omega) hn, oR_n (by decide +kernel)]
theorem d24_T (h : Inv n nc g) {k : Nat} (hk : k ≤ n) (c : (dF_24 n nc g (nI k) 0).1 < 0) : k = n := by
  by_cases e : k < n
  · rw [d24_lt h e] at c
    exact absurd (gv_0 (h.st e)) (Int32.not_le.mpr c)
  · omega
theorem d24_F (h : Inv n nc g) {k : Nat} (hk : k ≤ n) (c : ¬ (dF_24 n nc g (nI k) 0).1 < 0) : k < n := by
  by_cases e : k < n
  · exact e
  · rw [d24_ge h (by omega)] at c
    exact absurd (show (-2100000000 : Int32) < 0 by decide +kernel) c
theorem d26_lt (h : Inv n nc g) {k : Nat} (hk : k < nc) : (dF_26 n nc g (nI k) 0).1 = g (200 + k) 7 := by
  have hn := h.c20
  unfold dF_26
  rw [oR_y (kd2_0.mpr ⟨isF_of hk (by omega), by decide +kernel⟩)]
  exact oc0 (by omega)
theorem d26_T (h : Inv n nc g) {k : Nat} (hk : k ≤ nc) (c : (dF_26 n nc g (nI k) 0).1 < 0) : k = nc := by
  by_cases e : k < nc
  · rw [d26_lt h e] at c
    exact absurd (gv_0 (gv_vp (h.2.2.1 k e).2.2.2.2.2.2.1 (by decide))) (Int32.not_le.mpr c)
  · omega
theorem d26_F (h : Inv n nc g) {k : Nat} (hk : k ≤ nc) (c : ¬ (dF_26 n nc g (nI k) 0).1 < 0) : k < nc := by
  by_cases e : k < nc
  · exact e
  · have hn := h.c20
    unfold dF_26 at c
    rw [isF_ge (n := nc) (by omega) (by omega) (by omega), oR_n (by decide +kernel)] at c
    exact absurd (show (-2100000000 : Int32) < 0 by decide +kernel) c
theorem fI_h (h : Inv n nc g) {k : Nat} (hk : k < n) : ∃ h : Nat, 1 ≤ h ∧ h ≤ 12 ∧ g (100 + 3 * k) 7 = nI h ∧ (g (100 + 3 * k) 9 = 0 → g (100 + 3 * k + 1) (h - 1) = g (100 + 3 * k) 10) ∧ (∀ j, j < h → g (100 + 3 * k + 2) j ≤ g 0 10) ∧ (∀ j, j + 1 < h → g (100 + 3 * k + 2) j ≤ g (100 + 3 * k + 2) (j + 1)) := (h.2.1 k hk).2.2.2.2.2.2.2.2.2.2.2
theorem hand_K {k h q : Nat} (hn : n ≤ 30) (hk : k < n) (hh : g (100 + 3 * k) 7 = nI h) (h12 : h ≤ 12) (hq : q < h) : kd1 (isF n (nI k) && inn (nI q) 0 (g (100 + 3 * (nI k).toNatClampNeg) 7 - 1)) = 0 := by
  rw [cl_nI (by omega), hh]
  refine kd1_0.mpr ?_
  rw [isF_of hk hn]
  exact isF_of hq (by omega)
theorem hand_1 {k q : Nat} (hk : k < 30) (hq : q < 30) : (if true = true then g (100 + 3 * (nI k).toNatClampNeg + 2) (nI q).toNatClampNeg else g (100 + 3 * (nI k).toNatClampNeg + 1) (nI q).toNatClampNeg) = g (100 + 3 * k + 2) q := by
  rw [cl_nI (by omega), cl_nI (by omega)]
  exact if_pos rfl
theorem hand_0 {k q : Nat} (hk : k < 30) (hq : q < 30) : (if false = true then g (100 + 3 * (nI k).toNatClampNeg + 2) (nI q).toNatClampNeg else g (100 + 3 * (nI k).toNatClampNeg + 1) (nI q).toNatClampNeg) = g (100 + 3 * k + 1) q := by
  rw [cl_nI (by omega), cl_nI (by omega)]
  exact if_neg (by decide)
theorem d25_no {k h : Nat} (hn : n ≤ 30) (hk : k < n) (hh : g (100 + 3 * k) 7 = nI h) (h12 : h ≤ 12) : (dF_25 n nc g (nI k) (nI h) 0).1 = -2100000000 := by
  unfold dF_25
  rw [cl_nI (i := k) (by omega), hh]
  have e : inn (nI h) 0 (nI h - 1) = false := isF_ge (n := h) (Nat.le_refl _) (by omega) (by omega)
  rw [e, Bool.and_false, oR_n (by decide +kernel)]
theorem cov_0 {k : Nat} (c : cOver g nc k = true) : g (100 + 3 * k) 9 = 0 := of_decide_eq_true (and_l (and_l c))
theorem cov_d {k : Nat} (c : cOver g nc k = true) : ¬ g 0 10 ≤ g (100 + 3 * k) 11 := of_decide_eq_false (by simpa using and_l (and_r (and_l c)))
/-! sets of finds -/
def auA (g : sg) (n : Nat) : Nat → Int32
  | 0 => 0
  | r + 1 => auA g n r ||| auC g (nI r) n 30
def kpA (g : sg) : Nat → Int32
  | 0 => 0
  | k + 1 => kpA g k ||| (if g (100 + 3 * k) 9 = 0 then ((1 : Int32) <<< (nI k &&& 31)) else 0)
theorem auC_bt (g : sg) (room : Int32) (n i : Nat) : ∀ K, K ≤ 30 → (bt (auC g room n K) i = true ↔ i < K ∧ i < n ∧ g (100 + 3 * i) 9 = 0 ∧ g (100 + 3 * i) 10 = room)
  | 0, _ => by
    unfold auC
    rw [b_0]
    exact ⟨fun h => absurd h (by decide), fun h => absurd h.1 (by omega)⟩
  | K + 1, hK => by
    have ih := auC_bt g room n i K (by omega)
    have no : ¬ (K < n ∧ g (100 + 3 * K) 9 = 0 ∧ g (100 + 3 * K) 10 = room) → ((i < K ∧ i < n ∧ g (100 + 3 * i) 9 = 0 ∧ g (100 + 3 * i) 10 = room) ↔ (i < K + 1 ∧ i < n ∧ g (100 + 3 * i) 9 = 0 ∧ g (100 + 3 * i) 10 = room)) := by
      intro hno
      constructor
      · rintro ⟨a, b⟩; exact ⟨by omega, b⟩
      · rintro ⟨a, b⟩
        by_cases e : i = K
        · subst e; exact absurd b hno
        · exact ⟨by omega, b⟩
    unfold auC
    by_cases c1 : K < n
    · rw [if_pos c1]
      by_cases c2 : g (100 + 3 * K) 9 = 0
      · rw [if_pos c2]
        by_cases c3 : g (100 + 3 * K) 10 = room
        · rw [if_pos c3, b_or, b_pow (by omega), Bool.or_eq_true, ih, decide_eq_true_eq]
          constructor
          · rintro (⟨a, b⟩ | rfl)
            · exact ⟨by omega, b⟩
            · exact ⟨by omega, c1, c2, c3⟩
          · rintro ⟨a, b⟩
            by_cases e : i = K
            · exact Or.inr e
            · exact Or.inl ⟨by omega, b⟩
        · rw [if_neg c3, ih]; exact no (fun q => c3 q.2.2)
      · rw [if_neg c2, ih]; exact no (fun q => c2 q.2.1)
    · rw [if_neg c1, ih]; exact no (fun q => c1 q.1)
theorem auA_bt (g : sg) (n i : Nat) (hn : n ≤ 30) : ∀ R, R ≤ 6 → (bt (auA g n R) i = true ↔ i < n ∧ g (100 + 3 * i) 9 = 0 ∧ ∃ r, r < R ∧ g (100 + 3 * i) 10 = nI r)
  | 0, _ => by
    unfold auA
    rw [b_0]
    exact ⟨fun h => absurd h (by decide), fun ⟨_, _, r, h, _⟩ => absurd h (by omega)⟩
  | R + 1, hR => by
    have ih := auA_bt g n i hn R (by omega)
    unfold auA
    rw [b_or, Bool.or_eq_true, ih, auC_bt g (nI R) n i 30 (by decide)]
    constructor
    · rintro (⟨a, b, r, hr, e⟩ | ⟨a, b, c, d⟩)
      · exact ⟨a, b, r, by omega, e⟩
      · exact ⟨b, c, R, by omega, d⟩
    · rintro ⟨a, b, r, hr, e⟩
      by_cases q : r = R
      · subst q; exact Or.inr ⟨by omega, a, b, e⟩
      · exact Or.inl ⟨a, b, r, by omega, e⟩
theorem kpA_bt (g : sg) (i : Nat) : ∀ K, K ≤ 30 → (bt (kpA g K) i = true ↔ i < K ∧ g (100 + 3 * i) 9 = 0)
  | 0, _ => by
    unfold kpA
    rw [b_0]
    exact ⟨fun h => absurd h (by decide), fun h => absurd h.1 (by omega)⟩
  | K + 1, hK => by
    have ih := kpA_bt g i K (by omega)
    unfold kpA
    rw [b_or, Bool.or_eq_true, ih]
    by_cases c : g (100 + 3 * K) 9 = 0
    · rw [if_pos c, b_pow (by omega), decide_eq_true_eq]
      constructor
      · rintro (⟨a, b⟩ | rfl)
        · exact ⟨by omega, b⟩
        · exact ⟨by omega, c⟩
      · rintro ⟨a, b⟩
        by_cases e : i = K
        · exact Or.inr e
        · exact Or.inl ⟨by omega, b⟩
    · rw [if_neg c, b_0]
      constructor
      · rintro (⟨a, b⟩ | h)
        · exact ⟨by omega, b⟩
        · exact absurd h (by decide)
      · rintro ⟨a, b⟩
        by_cases e : i = K
        · subst e; exact absurd b c
        · exact Or.inl ⟨by omega, b⟩
theorem fin1 (h : Inv n nc g) {r : Nat} (hr : r < 6) : auA g n r &&& auC g (nI r) n 30 = 0 := by
  refine b_ext fun i hi => ?_
  rw [b_0, b_and]
  cases a : bt (auA g n r) i with
  | false => rfl
  | true =>
    cases b : bt (auC g (nI r) n 30) i with
    | false => rfl
    | true =>
      obtain ⟨-, -, r', hr', e⟩ := (auA_bt g n i h.n30 r (by omega)).mp a
      obtain ⟨-, -, -, e2⟩ := (auC_bt g (nI r) n i 30 (by decide)).mp b
      have := (nI_eq (a := r') (b := r) (by omega) (by omega)).mp (e.symm.trans e2)
      omega
theorem fin2 (h : Inv n nc g) : kpA g n = auA g n 6 := by
  refine b_ext fun i hi => ?_
  have h1 := kpA_bt g i n h.n30
  have h2 := auA_bt g n i h.n30 6 (by decide)
  have key : bt (kpA g n) i = true ↔ bt (auA g n 6) i = true := by
    rw [h1, h2]
    constructor
    · rintro ⟨a, b⟩
      obtain ⟨r, hr, e⟩ := vp_in_of (h.2.1 i a).2.2.2.2.2.2.2.1 (by decide)
      exact ⟨a, b, r, hr, e⟩
    · rintro ⟨a, b, -⟩; exact ⟨a, b⟩
  cases a : bt (kpA g n) i <;> cases b : bt (auA g n 6) i <;> rw [a, b] at key <;> first | rfl | (exact absurd (key.mp rfl) (by decide)) | (exact absurd (key.mpr rfl) (by decide))
theorem mon (h : Inv n nc g) : gv (g 0 12) ∧ gv (g 0 13) ∧ gv (g 0 14) := by
  have hn := h.n30
  have h2 := h.2.1
  obtain ⟨-, -, -, -, F, W, P, m1, m2, m3, m4, m5, m6⟩ := h
  have hgl : ksum (gn g) n ≤ n * 1 := ksum_le (fun t _ => by unfold gn; split <;> omega)
  have hb : ksum (sp g) n ≤ n * 10000 := ksum_le (fun t ht => by
    unfold sp
    split
    · obtain ⟨q, hq, e⟩ := vp_in_of (h2 t ht).2.2.2.2.2.2.2.2.2.1 (by decide)
      rw [e, cl_nI (by omega)]; omega
    · omega)
  exact ⟨⟨F, by omega, m1⟩, ⟨W, by omega, m2⟩, ⟨P, by omega, m3⟩⟩
theorem gv_nlt {v : Int32} (h : gv v) : ¬ v < 0 := Int32.not_lt.mpr (gv_0 h)
end QF
