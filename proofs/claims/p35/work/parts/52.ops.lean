/-! Each call keeps what holds, and answers a small number that isn't below 0. -/
theorem gone_0 : gone 0 = false := by decide +kernel
theorem gone_1 : gone 1 = false := by decide +kernel
theorem gone_2 : gone 2 = false := by decide +kernel
theorem gone_5 : gone 5 = false := by decide +kernel
def gv (v : Int32) : Prop := ∃ m : Nat, m < 2 ^ 30 ∧ v = nI m
theorem gv_b (b : Bool) : gv (b2 b) := by
  cases b
  · exact ⟨0, by decide, rfl⟩
  · exact ⟨1, by decide, rfl⟩
theorem gv_vp {x : Int32} {N : Nat} (h : vp_in x N) (hN : N ≤ 2 ^ 30) : gv x := by
  obtain ⟨i, hi, e⟩ := vp_in_of h (by omega)
  exact ⟨i, by omega, e⟩
theorem gv_ne {v : Int32} (h : gv v) : ¬ v = -2100000000 := by
  obtain ⟨m, hm, rfl⟩ := h
  intro q
  have := congrArg Int32.toInt q
  rw [nI_toInt (by omega)] at this
  have e : (-2100000000 : Int32).toInt = -2100000000 := rfl
  omega
theorem gv_0 {v : Int32} (h : gv v) : 0 ≤ v := by
  obtain ⟨m, hm, rfl⟩ := h
  exact nI_pos' (by omega)
theorem bsum_gv (x : Int32) : ∀ k, k ≤ 32 → ∃ m : Nat, m ≤ k ∧ bsum x k = nI m
  | 0, _ => ⟨0, by omega, rfl⟩
  | k + 1, hk => by
    obtain ⟨m, hm, e⟩ := bsum_gv x k (by omega)
    show ∃ m : Nat, m ≤ k + 1 ∧ bsum x k + ((x >>> (nI k &&& 31)) &&& 1) = nI m
    rw [e, bit_if x (by omega)]
    cases bt x k
    · exact ⟨m, by omega, by rw [if_neg (by decide)]; exact Int32.add_zero _⟩
    · exact ⟨m + 1, by omega, by rw [if_pos rfl, nI_1]⟩
theorem gv_bits (x : Int32) : gv (bits x) := by
  obtain ⟨m, hm, e⟩ := bsum_gv x 24 (by decide)
  exact ⟨m, by omega, e⟩
theorem inn_1 {v M : Int32} {N : Nat} (h : inn v 1 M = true) (hM : M.toInt < N) : vp_in v N := by
  obtain ⟨h1, h2⟩ := inn_toInt h
  rw [vp_in_iff]
  have : (1 : Int32).toInt = 1 := rfl
  omega
theorem inn_v {v M : Int32} {N : Nat} (h : inn v 0 M = true) (hM : M.toInt < N) : vp_in v N := by
  obtain ⟨h1, h2⟩ := inn_toInt h
  rw [vp_in_iff]
  have : (0 : Int32).toInt = 0 := rfl
  omega
theorem isF_cl {n : Nat} {x : Int32} (h : isF n x = true) (hn : n ≤ 30) : x.toNatClampNeg < n ∧ nI x.toNatClampNeg = x := by
  obtain ⟨i, hi, rfl⟩ := isF_ex h hn
  rw [nI_clamp (by omega)]
  exact ⟨hi, rfl⟩
/-! near, alike -/
def tr (r : Nat → Int32) (w o : Int32) : Nat → Int32 := upd (upd r w.toNatClampNeg (r w.toNatClampNeg ^^^ ((1 : Int32) <<< (o &&& 31)))) o.toNatClampNeg (r o.toNatClampNeg ^^^ ((1 : Int32) <<< (w &&& 31)))
theorem tg_K (g : sg) (K : Nat) (w o : Int32) : tg g K w o K = tr (g K) w o := by
  unfold tg tr
  rw [← upd_sU, ← upd_sU]
theorem tg_o (g : sg) {K k : Nat} (w o : Int32) (h : k ≠ K) : tg g K w o k = g k := by
  unfold tg
  rw [sU_row _ _ _ h, sU_row _ _ _ h]
theorem tb_e {g g' : sg} {K K' : Nat} (h : g K = g' K') (w o : Int32) : tb g K w o = tb g' K' w o := by
  unfold tb
  rw [h]
theorem tr_bt {r : Nat → Int32} {a b : Nat} (ha : a < 24) (hb : b < 24) (hab : a ≠ b) (x y : Nat) : bt (tr r (nI a) (nI b) x) y = (bt (r x) y ^^ (decide (x = a ∧ y = b) || decide (x = b ∧ y = a))) := by
  unfold tr
  rw [cl_nI (by omega), cl_nI (by omega)]
  unfold upd
  by_cases e : x = b
  · subst e
    rw [if_pos rfl, b_xor, b_pow (by omega)]
    congr 1
    have : ¬ x = a := fun q => hab q.symm
    simp [this]
  · rw [if_neg e]
    by_cases e2 : x = a
    · subst e2
      rw [if_pos rfl, b_xor, b_pow (by omega)]
      congr 1
      simp [e]
    · rw [if_neg e2]
      simp [e, e2]
theorem tr_sy {r : Nat → Int32} {a b : Nat} (ha : a < 24) (hb : b < 24) (hab : a ≠ b) (h : nSy r) : nSy (tr r (nI a) (nI b)) := by
  intro x y hx hy
  rw [tr_bt ha hb hab, tr_bt ha hb hab, h x y hx hy]
  congr 1
  rw [Bool.or_comm]
  congr 1
  · exact decide_eq_decide.mpr And.comm
  · exact decide_eq_decide.mpr And.comm
section OP
variable {n nc : Nat} {g : sg}
theorem iv_near (h : Inv n nc g) {w o : Int32} (c : kd2 (inn w 0 23 && inn o 0 23) (!decide (w = o)) = 0) : Inv n nc (tg g 1 w o) := by
  obtain ⟨c1, c2⟩ := kd2_0.mp c
  obtain ⟨a, ha, rfl⟩ := vp_in_of (inn_vp (N := 24) (and_l c1) (by decide)) (by decide)
  obtain ⟨b, hb, rfl⟩ := vp_in_of (inn_vp (N := 24) (and_r c1) (by decide)) (by decide)
  have hab : a ≠ b := by rintro rfl; simp at c2
  have e : ∀ k, k ≠ 1 → tg g 1 (nI a) (nI b) k = g k := fun k hk => tg_o _ _ _ hk
  have e0 := e 0 (by decide)
  obtain ⟨a1, a2, a3, a4, a5, a6, a7, a8, a9, a10, a11, a12⟩ := h.1
  refine h.glob (fun k hk => e k (by omega)) ⟨a1, a2, ?_, ?_, ?_, ?_, ?_, ?_, ?_, ?_, ?_, ?_⟩ (by rw [e0]) (by rw [e0]) (by rw [e0]) (by rw [e0])
  · rw [e0]; exact a3
  · rw [e0]; exact a4
  · rw [e 6 (by decide)]; exact a5
  · rw [e 7 (by decide)]; exact a6
  · rw [tg_K]; exact tr_sy ha hb hab a7
  · rw [e 3 (by decide)]; exact a8
  · rw [e 4 (by decide)]; exact a9
  · rw [e 5 (by decide)]; exact a10
  · rw [e0]; exact a11
  · rw [e0]; exact a12
theorem iv_alike (h : Inv n nc g) {w o : Int32} : Inv n nc (tg g 2 w o) := by
  have e : ∀ k, k ≠ 2 → tg g 2 w o k = g k := fun k hk => tg_o _ _ _ hk
  have e0 := e 0 (by decide)
  obtain ⟨a1, a2, a3, a4, a5, a6, a7, a8, a9, a10, a11, a12⟩ := h.1
  refine h.glob (fun k hk => e k (by omega)) ⟨a1, a2, ?_, ?_, ?_, ?_, ?_, ?_, ?_, ?_, ?_, ?_⟩ (by rw [e0]) (by rw [e0]) (by rw [e0]) (by rw [e0])
  · rw [e0]; exact a3
  · rw [e0]; exact a4
  · rw [e 6 (by decide)]; exact a5
  · rw [e 7 (by decide)]; exact a6
  · rw [e 1 (by decide)]; exact a7
  · rw [e 3 (by decide)]; exact a8
  · rw [e 4 (by decide)]; exact a9
  · rw [e 5 (by decide)]; exact a10
  · rw [e0]; exact a11
  · rw [e0]; exact a12
theorem vp_sU {g : sg} {K L q : Nat} {v : Int32} (h : ∀ k, k < L → vp_in (g K k) q) {j : Nat} (hv : vp_in v q) : ∀ k, k < L → vp_in (sU g K j v K k) q := by
  intro k hk
  by_cases e : k = j
  · subst e; rw [sU_s]; exact hv
  · rw [sU_j _ _ _ _ e]; exact h k hk
theorem iv_rule (h : Inv n nc g) {k t r : Int32} (c : kd2 (inn k 0 7) (inn t 1 400 && inn r 0 50) = 0) : Inv n nc (sU (sU g 4 k.toNatClampNeg t) 5 k.toNatClampNeg r) ∧ gv (g 4 k.toNatClampNeg) := by
  obtain ⟨c1, c2⟩ := kd2_0.mp c
  have hk : k.toNatClampNeg < 8 := vp_lt (inn_vp (N := 8) c1 (by decide))
  have e : ∀ q, q ≠ 4 → q ≠ 5 → sU (sU g 4 k.toNatClampNeg t) 5 k.toNatClampNeg r q = g q := fun q h1 h2 => by rw [sU_row _ _ _ h2, sU_row _ _ _ h1]
  have e0 := e 0 (by decide) (by decide)
  obtain ⟨a1, a2, a3, a4, a5, a6, a7, a8, a9, a10, a11, a12⟩ := h.1
  refine ⟨h.glob (fun k hk => e k (by omega) (by omega)) ⟨a1, a2, ?_, ?_, ?_, ?_, ?_, ?_, ?_, ?_, ?_, ?_⟩ (by rw [e0]) (by rw [e0]) (by rw [e0]) (by rw [e0]), gv_vp (a9 _ hk) (by decide)⟩
  · rw [e0]; exact a3
  · rw [e0]; exact a4
  · rw [e 6 (by decide) (by decide)]; exact a5
  · rw [e 7 (by decide) (by decide)]; exact a6
  · rw [e 1 (by decide) (by decide)]; exact a7
  · rw [e 3 (by decide) (by decide)]; exact a8
  · rw [sU_row _ _ _ (by decide)]
    exact vp_sU a9 (inn_1 (and_l c2) (by decide))
  · refine vp_sU (fun q hq => ?_) (inn_v (and_r c2) (by decide))
    rw [sU_row _ _ _ (by decide)]
    exact a10 q hq
  · rw [e0]; exact a11
  · rw [e0]; exact a12
theorem iv_stop (h : Inv n nc g) {t r : Int32} {b : Bool} (c : kd2 (inn t 0 3 && inn r 0 5) b = 0) : Inv n nc (sU g 3 t.toNatClampNeg (g 3 t.toNatClampNeg ||| ((1 : Int32) <<< (r &&& 31)))) := by
  obtain ⟨c1, c2⟩ := kd2_0.mp c
  have ht : t.toNatClampNeg < 4 := vp_lt (inn_vp (N := 4) (and_l c1) (by decide))
  have hr : vp_in r 6 := inn_vp (and_r c1) (by decide)
  have e : ∀ q, q ≠ 3 → sU g 3 t.toNatClampNeg (g 3 t.toNatClampNeg ||| ((1 : Int32) <<< (r &&& 31))) q = g q := fun q h1 => sU_row _ _ _ h1
  have e0 := e 0 (by decide)
  obtain ⟨a1, a2, a3, a4, a5, a6, a7, a8, a9, a10, a11, a12⟩ := h.1
  refine h.glob (fun k hk => e k (by omega)) ⟨a1, a2, ?_, ?_, ?_, ?_, ?_, ?_, ?_, ?_, ?_, ?_⟩ (by rw [e0]) (by rw [e0]) (by rw [e0]) (by rw [e0])
  · rw [e0]; exact a3
  · rw [e0]; exact a4
  · rw [e 6 (by decide)]; exact a5
  · rw [e 7 (by decide)]; exact a6
  · rw [e 1 (by decide)]; exact a7
  · intro q hq
    by_cases z : q = t.toNatClampNeg
    · rw [z, sU_s]; exact sB_or (a8 _ ht) (sB_pow hr (by decide))
    · rw [sU_j _ _ _ _ z]; exact a8 q hq
  · rw [e 4 (by decide)]; exact a9
  · rw [e 5 (by decide)]; exact a10
  · rw [e0]; exact a11
  · rw [e0]; exact a12
theorem iv_threshold (h : Inv n nc g) {q : Int32} (c : kd1 (inn q 1 200) = 0) : Inv n nc (sU g 0 11 q) ∧ gv (g 0 11) := by
  have e : ∀ k, k ≠ 0 → sU g 0 11 q k = g k := fun k h1 => sU_row _ _ _ h1
  have e0 : ∀ j, j ≠ 11 → sU g 0 11 q 0 j = g 0 j := fun j hj => sU_j _ _ _ _ hj
  obtain ⟨a1, a2, a3, a4, a5, a6, a7, a8, a9, a10, a11, a12⟩ := h.1
  refine ⟨h.glob (fun k hk => e k (by omega)) ⟨a1, a2, ?_, ?_, ?_, ?_, ?_, ?_, ?_, ?_, ?_, ?_⟩ (e0 _ (by decide)) (e0 _ (by decide)) (e0 _ (by decide)) (e0 _ (by decide)), gv_vp a12 (by decide)⟩
  · rw [e0 _ (by decide)]; exact a3
  · rw [e0 _ (by decide)]; exact a4
  · rw [e 6 (by decide)]; exact a5
  · rw [e 7 (by decide)]; exact a6
  · rw [e 1 (by decide)]; exact a7
  · rw [e 3 (by decide)]; exact a8
  · rw [e 4 (by decide)]; exact a9
  · rw [e 5 (by decide)]; exact a10
  · rw [e0 _ (by decide)]; exact a11
  · rw [sU_s]; exact inn_1 (kd1_0.mp c) (by decide)
/-! one find's row -/
theorem find1u (h : Inv n nc g) {i j : Nat} {v : Int32} (hi : i < n) (hf : fI (g 0 10) (upd (g (100 + 3 * i)) j v) (g (100 + 3 * i + 1)) (g (100 + 3 * i + 2))) (hg : j ≠ 9) (h13 : j ≠ 13) : Inv n nc (sU g (100 + 3 * i) j v) := by
  refine h.find1 hi (fun k h1 _ _ => sU_row _ _ _ h1) ?_ ?_ ?_
  · rw [← upd_sU, sU_row _ _ _ (by omega), sU_row _ _ _ (by omega)]; exact hf
  · unfold gn; rw [sU_j _ _ _ _ (Ne.symm hg)]
  · unfold sp; rw [sU_j _ _ _ _ (Ne.symm hg), sU_j _ _ _ _ (Ne.symm h13)]
theorem iv_see (h : Inv n nc g) {x set : Int32} {b : Bool} {B : Bool} (c : kd3 (isF n x) (inn set 0 16777215 && b) B = 0) : Inv n nc (sU g (100 + 3 * x.toNatClampNeg) 8 (g (100 + 3 * x.toNatClampNeg) 8 ||| set)) := by
  obtain ⟨c1, c2, -⟩ := kd3_0.mp c
  obtain ⟨hi, -⟩ := isF_cl c1 h.n30
  obtain ⟨f0, f1, f2, f3, f4, f5, f6, f7, f8, f9, f10, k, k1, k2, k3, k4, k5, k6⟩ := h.2.1 _ hi
  exact find1u h hi ⟨f0, f1, f2, sB_or f3 (inn_sB (and_l c2)), f4, f5, f6, f7, f8, f9, f10, k, k1, k2, k3, k4, k5, k6⟩ (by decide) (by decide)
theorem iv_hold (h : Inv n nc g) {x : Int32} {b is : Bool} (c : kd2 (isF n x) b = 0) : Inv n nc (sU g (100 + 3 * x.toNatClampNeg) 12 (b2 is)) := by
  obtain ⟨c1, -⟩ := kd2_0.mp c
  obtain ⟨hi, -⟩ := isF_cl c1 h.n30
  obtain ⟨f0, f1, f2, f3, f4, f5, f6, f7, f8, f9, f10, k, k1, k2, k3, k4, k5, k6⟩ := h.2.1 _ hi
  exact find1u h hi ⟨f0, f1, f2, f3, f4, f5, f6, f7, f8, f9, (by cases is; exact Or.inl rfl; exact Or.inr rfl), k, k1, k2, k3, k4, k5, k6⟩ (by decide) (by decide)
theorem iv_extend (h : Inv n nc g) {x many : Int32} {b : Bool} (c : kd3 (isF n x) (inn many 1 365) b = 0) : Inv n nc (sU g (100 + 3 * x.toNatClampNeg) 11 (if g (100 + 3 * x.toNatClampNeg) 11 < g 0 10 + many then g 0 10 + many else g (100 + 3 * x.toNatClampNeg) 11)) ∧ gv (if g (100 + 3 * x.toNatClampNeg) 11 < g 0 10 + many then g 0 10 + many else g (100 + 3 * x.toNatClampNeg) 11) := by
  obtain ⟨c1, c2, -⟩ := kd3_0.mp c
  obtain ⟨hi, -⟩ := isF_cl c1 h.n30
  obtain ⟨f0, f1, f2, f3, f4, f5, f6, f7, f8, f9, f10, k, k1, k2, k3, k4, k5, k6⟩ := h.2.1 _ hi
  have hv : vp_in (if g (100 + 3 * x.toNatClampNeg) 11 < g 0 10 + many then g 0 10 + many else g (100 + 3 * x.toNatClampNeg) 11) 20000 := by
    split
    · obtain ⟨d, hd, e⟩ := vp_in_of h.day (by decide)
      obtain ⟨m, hm, e2⟩ := vp_in_of (inn_1 (N := 366) c2 (by decide)) (by decide)
      rw [e, e2, nI_add]
      exact vp_in_nI (by omega) (by decide)
    · exact f8
  exact ⟨find1u h hi ⟨f0, f1, f2, f3, f4, f5, f6, f7, hv, f9, f10, k, k1, k2, k3, k4, k5, k6⟩ (by decide) (by decide), gv_vp hv (by decide)⟩
theorem iv_send (h : Inv n nc g) {x room : Int32} {b : Bool} (c : kd2 (isF n x && inn room 0 5) (decide (g (100 + 3 * x.toNatClampNeg) 9 = 0) && b) = 0) : Inv n nc (sU (sU g (100 + 3 * x.toNatClampNeg) 9 1) (100 + 3 * x.toNatClampNeg) 10 room) ∧ gv (g (100 + 3 * x.toNatClampNeg) 10) := by
  obtain ⟨c1, c2⟩ := kd2_0.mp c
  obtain ⟨hi, -⟩ := isF_cl (and_l c1) h.n30
  have h9 : g (100 + 3 * x.toNatClampNeg) 9 = 0 := of_decide_eq_true (and_l c2)
  obtain ⟨f0, f1, f2, f3, f4, f5, f6, f7, f8, f9, f10, k, k1, k2, k3, k4, k5, k6⟩ := h.2.1 _ hi
  refine ⟨h.find1 hi (fun k h1 _ _ => by rw [sU_row _ _ _ h1, sU_row _ _ _ h1]) ?_ ?_ ?_, gv_vp f7 (by decide)⟩
  · rw [← upd_sU, ← upd_sU, sU_row _ _ _ (by omega), sU_row _ _ _ (by omega), sU_row _ _ _ (by omega), sU_row _ _ _ (by omega)]
    exact ⟨f0, f1, f2, f3, f4, f5, (by show vp_in 1 7; unfold vp_in; decide +kernel), inn_v (and_r c1) (by decide), f8, f9, f10, k, k1, k2, k3, (fun q => absurd (show (1 : Int32) = 0 from q) (by decide)), k5, k6⟩
  · unfold gn; rw [sU_j _ _ _ _ (by decide), sU_s, h9, gone_1, gone_0]
  · unfold sp; rw [sU_j _ _ _ _ (by decide), sU_s, h9, if_neg (show ¬ (1 : Int32) = 4 by decide), if_neg (show ¬ (0 : Int32) = 4 by decide)]
theorem iv_destroy (h : Inv n nc g) {x : Int32} (c : kd2 (isF n x) (cOver g nc x.toNatClampNeg) = 0) : Inv n nc (sU g (100 + 3 * x.toNatClampNeg) 9 5) ∧ gv (g (100 + 3 * x.toNatClampNeg) 10) := by
  obtain ⟨c1, c2⟩ := kd2_0.mp c
  obtain ⟨hi, -⟩ := isF_cl c1 h.n30
  have h9 : g (100 + 3 * x.toNatClampNeg) 9 = 0 := of_decide_eq_true (and_l (and_l c2))
  obtain ⟨f0, f1, f2, f3, f4, f5, f6, f7, f8, f9, f10, k, k1, k2, k3, k4, k5, k6⟩ := h.2.1 _ hi
  refine ⟨h.find1 hi (fun k h1 _ _ => sU_row _ _ _ h1) ?_ ?_ ?_, gv_vp f7 (by decide)⟩
  · rw [← upd_sU, sU_row _ _ _ (by omega), sU_row _ _ _ (by omega)]
    exact ⟨f0, f1, f2, f3, f4, f5, (by show vp_in 5 7; unfold vp_in; decide +kernel), f7, f8, f9, f10, k, k1, k2, k3, (fun q => absurd (show (5 : Int32) = 0 from q) (by decide)), k5, k6⟩
  · unfold gn; rw [sU_s, h9, gone_5, gone_0]
  · unfold sp; rw [sU_s, h9, if_neg (show ¬ (5 : Int32) = 4 by decide), if_neg (show ¬ (0 : Int32) = 4 by decide)]
/-- a coming -/
theorem fI_come {d room : Int32} {R H1 H2 : Nat → Int32} (h : fI d R H1 H2) (hr : vp_in room 6) : fI d (upd (upd (upd R 9 0) 10 room) 7 (cmH (R 7))) (cmR H1 0 (R 7) room) (cmR H2 0 (R 7) d) := by
  obtain ⟨f0, f1, f2, f3, f4, f5, f6, f7, f8, f9, f10, k, k1, k2, k3, k4, k5, k6⟩ := h
  by_cases e : k = 12
  · have k12 : R 7 = 12 := by rw [k3, e]; rfl
    rw [k12]
    refine ⟨f0, f1, f2, f3, f4, f5, (by show vp_in 0 7; unfold vp_in; decide +kernel), hr, f8, f9, f10, 12, by decide, by decide, (by show cmH 12 = nI 12; decide +kernel), fun _ => ?_, fun j hj => ?_, fun j hj => ?_⟩
    · show cmR H1 0 12 room 11 = room
      unfold cmR
      rw [if_pos rfl, if_neg (by omega), if_pos rfl]
    · unfold cmR
      rw [if_pos rfl]
      by_cases a : 0 + 1 ≤ j ∧ j ≤ 0 + 10
      · rw [if_pos a]; exact k5 _ (by omega)
      · rw [if_neg a]
        by_cases b : j = 0 + 11
        · rw [if_pos b]; exact Int32.le_refl _
        · rw [if_neg b]; exact k5 _ (by omega)
    · unfold cmR
      rw [if_pos rfl, if_pos rfl]
      by_cases a : j = 0
      · subst a
        rw [if_neg (by omega), if_neg (by omega), if_pos (by omega)]
        exact Int32.le_trans (k6 0 (by omega)) (k6 1 (by omega))
      · rw [if_pos (by omega)]
        by_cases b : j = 10
        · subst b
          rw [if_neg (by omega), if_pos (by omega)]
          exact k5 _ (by omega)
        · rw [if_pos (by omega)]
          exact k6 _ (by omega)
  · have kl : k < 12 := by omega
    have k12 : ¬ R 7 = 12 := by
      rw [k3]
      intro q
      exact e ((nI_eq (a := k) (b := 12) (by omega) (by omega)).mp q)
    have kc : (R 7).toNatClampNeg = k := by rw [k3]; exact cl_nI (by omega)
    refine ⟨f0, f1, f2, f3, f4, f5, (by show vp_in 0 7; unfold vp_in; decide +kernel), hr, f8, f9, f10, k + 1, by omega, by omega, ?_, fun _ => ?_, fun j hj => ?_, fun j hj => ?_⟩
    · show cmH (R 7) = nI (k + 1)
      unfold cmH
      rw [if_neg k12, k3, nI_1]
    · show cmR H1 0 (R 7) room (k + 1 - 1) = room
      unfold cmR
      rw [if_neg k12, kc, if_pos (by omega)]
    · unfold cmR
      rw [if_neg k12, kc]
      by_cases a : j = 0 + k
      · rw [if_pos a]; exact Int32.le_refl _
      · rw [if_neg a]; exact k5 _ (by omega)
    · unfold cmR
      rw [if_neg k12, if_neg k12, kc, if_neg (by omega)]
      by_cases a : j + 1 = 0 + k
      · rw [if_pos a]; exact k5 _ (by omega)
      · rw [if_neg a]; exact k6 _ (by omega)
theorem iv_comes (h : Inv n nc g) {i : Nat} {room : Int32} (hi : i < n) (hr : vp_in room 6) (h9 : g (100 + 3 * i) 9 = 1 ∨ g (100 + 3 * i) 9 = 2) : Inv n nc (cComes g i room (g 0 10)) := by
  have e : cComes g i room (g 0 10) (100 + 3 * i) = upd (upd (upd (g (100 + 3 * i)) 9 0) 10 room) 7 (cmH (g (100 + 3 * i) 7)) := by unfold cComes; rw [if_neg (by omega), if_neg (by omega), if_pos rfl]
  have e1 : cComes g i room (g 0 10) (100 + 3 * i + 1) = cmR (g (100 + 3 * i + 1)) 0 (g (100 + 3 * i) 7) room := by unfold cComes; rw [if_pos rfl]
  have e2 : cComes g i room (g 0 10) (100 + 3 * i + 2) = cmR (g (100 + 3 * i + 2)) 0 (g (100 + 3 * i) 7) (g 0 10) := by unfold cComes; rw [if_neg (by omega), if_pos rfl]
  refine h.find1 hi (fun k h1 h2 h3 => by unfold cComes; rw [if_neg h2, if_neg h3, if_neg h1]) ?_ ?_ ?_
  · rw [e, e1, e2]; exact fI_come (h.2.1 i hi) hr
  · unfold gn; rw [e]; show (if gone 0 = true then 1 else 0) = _; rcases h9 with q | q <;> rw [q] <;> rfl
  · unfold sp; rw [e]; show (if (0 : Int32) = 4 then _ else 0) = _; rcases h9 with q | q <;> rw [q] <;> rfl
theorem iv_turnUp (h : Inv n nc g) {x room : Int32} (c : kd2 (isF n x && inn room 0 5) (decide (g (100 + 3 * x.toNatClampNeg) 9 = 2)) = 0) : Inv n nc (cComes g x.toNatClampNeg room (g 0 10)) ∧ gv (cmH (g (100 + 3 * x.toNatClampNeg) 7)) := by
  obtain ⟨c1, c2⟩ := kd2_0.mp c
  obtain ⟨hi, -⟩ := isF_cl (and_l c1) h.n30
  obtain ⟨q, hq, e⟩ := cmH_ok (h.hh _ hi)
  exact ⟨iv_comes h hi (inn_v (and_r c1) (by decide)) (Or.inr (of_decide_eq_true c2)), q, by omega, e⟩
theorem iv_lose (h : Inv n nc g) (room : Int32) : ∀ K, Inv n nc (lcS g room n K)
  | 0 => by rw [lcS_0]; exact h
  | K + 1 => by
    have ih := iv_lose h room K
    by_cases a : n ≤ K
    · rw [← lcS_n a]; exact ih
    · by_cases b : lcB g room K
      · have hi : K < n := by omega
        rw [← lcS_y hi h.n30 b.1 b.2]
        have h9 : lcS g room n K (100 + 3 * K) 9 = 1 := by rw [lcS_9]; exact b.1
        obtain ⟨f0, f1, f2, f3, f4, f5, f6, f7, f8, f9, f10, k, k1, k2, k3, k4, k5, k6⟩ := ih.2.1 _ hi
        refine ih.find1 hi (fun k h1 _ _ => sU_row _ _ _ h1) ?_ ?_ ?_
        · rw [← upd_sU, sU_row _ _ _ (by omega), sU_row _ _ _ (by omega)]
          exact ⟨f0, f1, f2, f3, f4, f5, (by show vp_in 2 7; unfold vp_in; decide +kernel), f7, f8, f9, f10, k, k1, k2, k3, (fun q => absurd (show (2 : Int32) = 0 from q) (by decide)), k5, k6⟩
        · unfold gn; rw [sU_s, h9, gone_2, gone_1]
        · unfold sp; rw [sU_s, h9, if_neg (show ¬ (2 : Int32) = 4 by decide), if_neg (show ¬ (1 : Int32) = 4 by decide)]
      · rw [← lcS_f b]; exact ih
theorem gv_lose (g : sg) (room : Int32) (n : Nat) : ∀ K, ∃ m : Nat, m ≤ K ∧ lcN g room n K = nI m
  | 0 => ⟨0, by omega, rfl⟩
  | K + 1 => by
    obtain ⟨m, hm, e⟩ := gv_lose g room n K
    show ∃ m : Nat, m ≤ K + 1 ∧ lcN g room n K + (if K < n ∧ lcB g room K then 1 else 0) = nI m
    rw [e]
    split
    · exact ⟨m + 1, by omega, nI_1 m⟩
    · exact ⟨m, by omega, Int32.add_zero _⟩
/-! one claim's row -/
theorem sub_or {a b c : Int32} (h : ∀ k, bt a k = true → bt b k = true) : ∀ k, bt (a ||| c) k = true → bt (b ||| c) k = true := by
  intro k hk
  rw [b_or, Bool.or_eq_true] at hk ⊢
  exact hk.imp (h k) id
theorem iv_say (h : Inv n nc g) {x set : Int32} (c : kd3 (isF nc x) (inn set 0 16777215) (decide (g (200 + x.toNatClampNeg) 7 = 0)) = 0) : Inv n nc (sU g (200 + x.toNatClampNeg) 5 (g (200 + x.toNatClampNeg) 5 ||| set)) := by
  obtain ⟨c1, c2, c3⟩ := kd3_0.mp c
  obtain ⟨hj, -⟩ := isF_cl c1 (Nat.le_trans h.c20 (by decide))
  have h7 : g (200 + x.toNatClampNeg) 7 = 0 := of_decide_eq_true c3
  obtain ⟨f0, f1, f2, f3, f4, f5, f6, f7, f8, f9, f10, f11⟩ := h.2.2.1 _ hj
  refine h.claim1 (fun k hk => sU_row _ _ _ hk) ?_ (sU_j _ _ _ _ (by decide))
  rw [← upd_sU]
  exact ⟨f0, f1, f2, f3, sB_or f4 (inn_sB c2), f5, f6, (fun k hk => by show bt (g (200 + x.toNatClampNeg) 5 ||| set) k = true; rw [b_or, f7 k hk]; rfl), (fun q => absurd ((show g (200 + x.toNatClampNeg) 7 = 3 from q).symm.trans h7) (by decide)), f9, f10, f11⟩
theorem iv_tell (h : Inv n nc g) {x set : Int32} (c : kd3 (isF nc x) (inn set 0 16777215) (decide (g (200 + x.toNatClampNeg) 7 = 0)) = 0) : Inv n nc (sU (sU g (200 + x.toNatClampNeg) 5 (g (200 + x.toNatClampNeg) 5 ||| set)) (200 + x.toNatClampNeg) 6 (g (200 + x.toNatClampNeg) 6 ||| set)) := by
  obtain ⟨c1, c2, c3⟩ := kd3_0.mp c
  obtain ⟨hj, -⟩ := isF_cl c1 (Nat.le_trans h.c20 (by decide))
  have h7 : g (200 + x.toNatClampNeg) 7 = 0 := of_decide_eq_true c3
  obtain ⟨f0, f1, f2, f3, f4, f5, f6, f7, f8, f9, f10, f11⟩ := h.2.2.1 _ hj
  refine h.claim1 (fun k hk => by rw [sU_row _ _ _ hk, sU_row _ _ _ hk]) ?_ (by rw [sU_j _ _ _ _ (by decide), sU_j _ _ _ _ (by decide)])
  rw [← upd_sU, ← upd_sU]
  exact ⟨f0, f1, f2, f3, sB_or f4 (inn_sB c2), sB_or f5 (inn_sB c2), f6, sub_or f7, (fun q => absurd ((show g (200 + x.toNatClampNeg) 7 = 3 from q).symm.trans h7) (by decide)), f9, f10, f11⟩
theorem iv_withdraw (h : Inv n nc g) {x : Int32} (c : kd2 (isF nc x) (decide (g (200 + x.toNatClampNeg) 7 = 0)) = 0) : Inv n nc (sU (sU g (200 + x.toNatClampNeg) 7 2) (200 + x.toNatClampNeg) 9 (g 0 10)) := by
  obtain ⟨c1, c3⟩ := kd2_0.mp c
  obtain ⟨hj, -⟩ := isF_cl c1 (Nat.le_trans h.c20 (by decide))
  obtain ⟨f0, f1, f2, f3, f4, f5, f6, f7, f8, f9, f10, f11⟩ := h.2.2.1 _ hj
  refine h.claim1 (fun k hk => by rw [sU_row _ _ _ hk, sU_row _ _ _ hk]) ?_ (by rw [sU_j _ _ _ _ (by decide), sU_j _ _ _ _ (by decide)])
  rw [← upd_sU, ← upd_sU]
  exact ⟨f0, f1, f2, f3, f4, f5, (by show vp_in 2 4; unfold vp_in; decide +kernel), f7, (fun q => absurd (show (2 : Int32) = 3 from q) (by decide)), (fun q => absurd (show (2 : Int32) = 1 from q) (by decide)), (fun q => absurd (show (2 : Int32) = 0 from q) (by decide)), f11⟩
/-! who is served -/
theorem cServe_open {g : sg} {nc i j : Nat} (c : cServe g nc i j = true) : g (200 + j) 7 = 0 := of_decide_eq_true (and_l (and_l c))
theorem rew_ok (h : Inv n nc g) {i : Nat} (hi : i < n) : ∃ w : Nat, w ≤ 5000 ∧ (g (100 + 3 * i) 4 * g 5 (g (100 + 3 * i) 0).toNatClampNeg) / 100 = nI w := by
  have hf := h.2.1 _ hi
  obtain ⟨v, hv, e1⟩ := vp_in_of hf.2.2.2.2.2.1 (by decide)
  obtain ⟨r, hr, e2⟩ := vp_in_of (h.1.2.2.2.2.2.2.2.2.2.1 _ (vp_lt hf.1)) (by decide)
  have hm : v * r ≤ 9999 * 50 := Nat.mul_le_mul (by omega) (by omega)
  refine ⟨v * r / 100, by omega, ?_⟩
  rw [e1, e2, pk_mul]
  exact pk_div (a := v * r) (d := 100) (by omega) (by decide) (by decide)
theorem cI_serve {gs gs' : Nat → Bool} {n i j : Nat} {C : Nat → Int32} (h : cI gs n j C) (hi : i < n) (hn : n ≤ 30) (hg : gs' i = true) (d : Int32) : cI gs' n j (upd (upd (upd C 7 1) 9 d) 8 (nI i)) := by
  obtain ⟨f0, f1, f2, f3, f4, f5, f6, f7, f8, f9, f10, f11⟩ := h
  refine ⟨f0, f1, f2, f3, f4, f5, (by show vp_in 1 4; unfold vp_in; decide +kernel), f7, (fun q => absurd (show (1 : Int32) = 3 from q) (by decide)), (fun _ q => ?_), (fun q => absurd (show (1 : Int32) = 0 from q) (by decide)), Or.inr ⟨i, hi, rfl, hg⟩⟩
  have := congrArg Int32.toInt (show nI i = -1 from q)
  rw [nI_toInt (by omega)] at this
  have e : (-1 : Int32).toInt = -1 := rfl
  omega
theorem iv_release (h : Inv n nc g) {x y : Int32} (c : kd2 (isF n x && isF nc y) (decide (g (100 + 3 * x.toNatClampNeg) 9 = 0) && (decide (g (100 + 3 * x.toNatClampNeg) 12 = 0) && cServe g nc x.toNatClampNeg y.toNatClampNeg)) = 0) :
    Inv n nc (sU (sU (sU (sU (sU (sU g (100 + 3 * x.toNatClampNeg) 9 3) (200 + y.toNatClampNeg) 7 1) (200 + y.toNatClampNeg) 9 (g 0 10)) (200 + y.toNatClampNeg) 8 x) 0 12 (g 0 12 + 5)) 0 13 (g 0 13 + ((g (100 + 3 * x.toNatClampNeg) 4 * g 5 (g (100 + 3 * x.toNatClampNeg) 0).toNatClampNeg) / 100))) ∧
    gv (5 + ((g (100 + 3 * x.toNatClampNeg) 4 * g 5 (g (100 + 3 * x.toNatClampNeg) 0).toNatClampNeg) / 100)) := by
  obtain ⟨c1, c2⟩ := kd2_0.mp c
  obtain ⟨hi, ex⟩ := isF_cl (and_l c1) h.n30
  obtain ⟨hj, -⟩ := isF_cl (and_r c1) (Nat.le_trans h.c20 (by decide))
  have h9 : g (100 + 3 * x.toNatClampNeg) 9 = 0 := of_decide_eq_true (and_l c2)
  have h7 := cServe_open (and_r (and_r c2))
  obtain ⟨w, hw, ew⟩ := rew_ok h hi
  have hn := h.n30
  rw [ew]
  refine ⟨?_, ⟨5 + w, by omega, nI_add 5 w⟩⟩
  generalize x.toNatClampNeg = i at hi h9 h7 ex
  generalize y.toNatClampNeg = j at hj h7
  subst ex
  obtain ⟨f0, f1, f2, f3, f4, f5, f6, f7, f8, f9, f10, k, k1, k2, k3, k4, k5, k6⟩ := h.2.1 _ hi
  have cj := h.2.2.1 _ hj
  have hC : sU (sU (sU (sU (sU (sU g (100 + 3 * i) 9 3) (200 + j) 7 1) (200 + j) 9 (g 0 10)) (200 + j) 8 (nI i)) 0 12 (g 0 12 + 5)) 0 13 (g 0 13 + nI w) (200 + j) = upd (upd (upd (g (200 + j)) 7 1) 9 (g 0 10)) 8 (nI i) := by
    rw [sU_row _ _ _ (by omega), sU_row _ _ _ (by omega), ← upd_sU, ← upd_sU, ← upd_sU, sU_row _ _ _ (by omega)]
  have hR : sU (sU (sU (sU (sU (sU g (100 + 3 * i) 9 3) (200 + j) 7 1) (200 + j) 9 (g 0 10)) (200 + j) 8 (nI i)) 0 12 (g 0 12 + 5)) 0 13 (g 0 13 + nI w) (100 + 3 * i) = upd (g (100 + 3 * i)) 9 3 := by
    rw [sU_row _ _ _ (by omega), sU_row _ _ _ (by omega), sU_row _ _ _ (by omega), sU_row _ _ _ (by omega), sU_row _ _ _ (by omega), ← upd_sU]
  have hO : ∀ q, q ≠ 12 → q ≠ 13 → sU (sU (sU (sU (sU (sU g (100 + 3 * i) 9 3) (200 + j) 7 1) (200 + j) 9 (g 0 10)) (200 + j) 8 (nI i)) 0 12 (g 0 12 + 5)) 0 13 (g 0 13 + nI w) 0 q = g 0 q := fun q h1 h2 => by
    rw [sU_j _ _ _ _ h2, sU_j _ _ _ _ h1, sU_row _ _ _ (by omega), sU_row _ _ _ (by omega), sU_row _ _ _ (by omega), sU_row _ _ _ (by omega)]
  have s0 : sp g i = 0 := by unfold sp; rw [h9]; rfl
  refine h.serve (f := 5) (w := w) hi hj (fun k h1 h2 h3 => by rw [sU_row _ _ _ h3, sU_row _ _ _ h3, sU_row _ _ _ h2, sU_row _ _ _ h2, sU_row _ _ _ h2, sU_row _ _ _ h1]) (fun q h1 h2 _ => hO q h1 h2) ?_ ?_ (by rw [h9]; rfl) ?_ ?_ (cj.2.2.2.2.2.2.2.2.2.2.1 h7) ?_ (by decide) ?_ hw ?_
  · rw [hR]
    exact ⟨f0, f1, f2, f3, f4, f5, (by show vp_in 3 7; unfold vp_in; decide +kernel), f7, f8, f9, f10, k, k1, k2, k3, (fun q => absurd (show (3 : Int32) = 0 from q) (by decide)), k5, k6⟩
  · rw [hR]; rfl
  · rw [hC]
    exact cI_serve cj hi hn (by unfold gS; rw [hR]; rfl) _
  · rw [hC]; rfl
  · rw [sU_j _ _ _ _ (by decide), sU_s]; rfl
  · rw [sU_s]
  · rw [hO 14 (by decide) (by decide), s0]; exact (Int32.sub_zero _).symm
theorem iv_payOut (h : Inv n nc g) {x y : Int32} (c : kd2 (isF n x && isF nc y) (decide (g (100 + 3 * x.toNatClampNeg) 9 = 4) && (decide (g 0 10 - g (100 + 3 * x.toNatClampNeg) 14 ≤ 365) && cServe g nc x.toNatClampNeg y.toNatClampNeg)) = 0) :
    Inv n nc (sU (sU (sU (sU (sU (sU g (100 + 3 * x.toNatClampNeg) 9 6) (200 + y.toNatClampNeg) 7 1) (200 + y.toNatClampNeg) 9 (g 0 10)) (200 + y.toNatClampNeg) 8 x) 0 12 (g 0 12 + (if g (100 + 3 * x.toNatClampNeg) 13 < 5 then g (100 + 3 * x.toNatClampNeg) 13 else 5))) 0 14 (g 0 14 - g (100 + 3 * x.toNatClampNeg) 13)) ∧
    gv (g (100 + 3 * x.toNatClampNeg) 13 - (if g (100 + 3 * x.toNatClampNeg) 13 < 5 then g (100 + 3 * x.toNatClampNeg) 13 else 5)) := by
  obtain ⟨c1, c2⟩ := kd2_0.mp c
  obtain ⟨hi, ex⟩ := isF_cl (and_l c1) h.n30
  obtain ⟨hj, -⟩ := isF_cl (and_r c1) (Nat.le_trans h.c20 (by decide))
  have h9 : g (100 + 3 * x.toNatClampNeg) 9 = 4 := of_decide_eq_true (and_l c2)
  have h7 := cServe_open (and_r (and_r c2))
  have hn := h.n30
  generalize x.toNatClampNeg = i at hi h9 h7 ex
  generalize y.toNatClampNeg = j at hj h7
  subst ex
  obtain ⟨f0, f1, f2, f3, f4, f5, f6, f7, f8, f9, f10, k, k1, k2, k3, k4, k5, k6⟩ := h.2.1 _ hi
  obtain ⟨pr, hpr, ep⟩ := vp_in_of f9 (by decide)
  obtain ⟨fe, hfe, hle, ef⟩ : ∃ fe : Nat, fe ≤ 5 ∧ fe ≤ pr ∧ (if nI pr < 5 then nI pr else (5 : Int32)) = nI fe := by
    by_cases z : nI pr < 5
    · rw [if_pos z]
      have := (nI_ltI (a := pr) (b := 5) (by omega) (by omega)).mp z
      exact ⟨pr, by omega, by omega, rfl⟩
    · rw [if_neg z]
      have : ¬ pr < 5 := fun q => z ((nI_ltI (a := pr) (b := 5) (by omega) (by omega)).mpr q)
      exact ⟨5, by omega, by omega, rfl⟩
  rw [ep, ef]
  refine ⟨?_, ⟨pr - fe, by omega, pk_sub hle⟩⟩
  have cj := h.2.2.1 _ hj
  have hC : sU (sU (sU (sU (sU (sU g (100 + 3 * i) 9 6) (200 + j) 7 1) (200 + j) 9 (g 0 10)) (200 + j) 8 (nI i)) 0 12 (g 0 12 + nI fe)) 0 14 (g 0 14 - nI pr) (200 + j) = upd (upd (upd (g (200 + j)) 7 1) 9 (g 0 10)) 8 (nI i) := by
    rw [sU_row _ _ _ (by omega), sU_row _ _ _ (by omega), ← upd_sU, ← upd_sU, ← upd_sU, sU_row _ _ _ (by omega)]
  have hR : sU (sU (sU (sU (sU (sU g (100 + 3 * i) 9 6) (200 + j) 7 1) (200 + j) 9 (g 0 10)) (200 + j) 8 (nI i)) 0 12 (g 0 12 + nI fe)) 0 14 (g 0 14 - nI pr) (100 + 3 * i) = upd (g (100 + 3 * i)) 9 6 := by
    rw [sU_row _ _ _ (by omega), sU_row _ _ _ (by omega), sU_row _ _ _ (by omega), sU_row _ _ _ (by omega), sU_row _ _ _ (by omega), ← upd_sU]
  have hO : ∀ q, q ≠ 12 → q ≠ 14 → sU (sU (sU (sU (sU (sU g (100 + 3 * i) 9 6) (200 + j) 7 1) (200 + j) 9 (g 0 10)) (200 + j) 8 (nI i)) 0 12 (g 0 12 + nI fe)) 0 14 (g 0 14 - nI pr) 0 q = g 0 q := fun q h1 h2 => by
    rw [sU_j _ _ _ _ h2, sU_j _ _ _ _ h1, sU_row _ _ _ (by omega), sU_row _ _ _ (by omega), sU_row _ _ _ (by omega), sU_row _ _ _ (by omega)]
  have s0 : sp g i = pr := by unfold sp; rw [h9, if_pos rfl, ep]; exact cl_nI (by omega)
  refine h.serve (f := fe) (w := 0) hi hj (fun k h1 h2 h3 => by rw [sU_row _ _ _ h3, sU_row _ _ _ h3, sU_row _ _ _ h2, sU_row _ _ _ h2, sU_row _ _ _ h2, sU_row _ _ _ h1]) (fun q h1 _ h2 => hO q h1 h2) ?_ ?_ (by rw [h9]; rfl) ?_ ?_ (cj.2.2.2.2.2.2.2.2.2.2.1 h7) ?_ hfe ?_ (by decide) ?_
  · rw [hR]
    exact ⟨f0, f1, f2, f3, f4, f5, (by show vp_in 6 7; unfold vp_in; decide +kernel), f7, f8, f9, f10, k, k1, k2, k3, (fun q => absurd (show (6 : Int32) = 0 from q) (by decide)), k5, k6⟩
  · rw [hR]; rfl
  · rw [hC]
    exact cI_serve cj hi hn (by unfold gS; rw [hR]; rfl) _
  · rw [hC]; rfl
  · rw [sU_j _ _ _ _ (by decide), sU_s]
  · rw [hO 13 (by decide) (by decide)]; exact (Int32.add_zero _).symm
  · rw [sU_s, s0]
theorem iv_sell (h : Inv n nc g) {x price : Int32} {b : Bool} (c : kd3 (isF n x) (inn price 1 9999) (cOver g nc x.toNatClampNeg && b) = 0) :
    Inv n nc (sU (sU (sU (sU g (100 + 3 * x.toNatClampNeg) 9 4) (100 + 3 * x.toNatClampNeg) 13 price) (100 + 3 * x.toNatClampNeg) 14 (g 0 10)) 0 14 (g 0 14 + price)) ∧ gv (g 0 14 + price) := by
  obtain ⟨c1, c2, c3⟩ := kd3_0.mp c
  obtain ⟨hi, -⟩ := isF_cl c1 h.n30
  have h9 : g (100 + 3 * x.toNatClampNeg) 9 = 0 := of_decide_eq_true (and_l (and_l (and_l c3)))
  have hn := h.n30
  obtain ⟨pr, hpr, ep⟩ := vp_in_of (inn_1 (N := 10000) c2 (by decide)) (by decide)
  subst ep
  generalize x.toNatClampNeg = i at hi h9
  obtain ⟨h1, h2, h3, h4, F, W, P, m1, m2, m3, m4, m5, m6⟩ := h
  obtain ⟨f0, f1, f2, f3, f4, f5, f6, f7, f8, f9, f10, k, k1, k2, k3, k4, k5, k6⟩ := h2 _ hi
  have hR : sU (sU (sU (sU g (100 + 3 * i) 9 4) (100 + 3 * i) 13 (nI pr)) (100 + 3 * i) 14 (g 0 10)) 0 14 (g 0 14 + nI pr) (100 + 3 * i) = upd (upd (upd (g (100 + 3 * i)) 9 4) 13 (nI pr)) 14 (g 0 10) := by
    rw [sU_row _ _ _ (by omega), ← upd_sU, ← upd_sU, ← upd_sU]
  have hk : ∀ k, k ≠ 100 + 3 * i → k ≠ 0 → sU (sU (sU (sU g (100 + 3 * i) 9 4) (100 + 3 * i) 13 (nI pr)) (100 + 3 * i) 14 (g 0 10)) 0 14 (g 0 14 + nI pr) k = g k := fun k a b => by
    rw [sU_row _ _ _ b, sU_row _ _ _ a, sU_row _ _ _ a, sU_row _ _ _ a]
  have h0 : ∀ q, q ≠ 14 → sU (sU (sU (sU g (100 + 3 * i) 9 4) (100 + 3 * i) 13 (nI pr)) (100 + 3 * i) 14 (g 0 10)) 0 14 (g 0 14 + nI pr) 0 q = g 0 q := fun q a => by
    rw [sU_j _ _ _ _ a, sU_row _ _ _ (by omega), sU_row _ _ _ (by omega), sU_row _ _ _ (by omega)]
  have h14 : sU (sU (sU (sU g (100 + 3 * i) 9 4) (100 + 3 * i) 13 (nI pr)) (100 + 3 * i) 14 (g 0 10)) 0 14 (g 0 14 + nI pr) 0 14 = g 0 14 + nI pr := sU_s _ _ _ _
  generalize sU (sU (sU (sU g (100 + 3 * i) 9 4) (100 + 3 * i) 13 (nI pr)) (100 + 3 * i) 14 (g 0 10)) 0 14 (g 0 14 + nI pr) = g' at hR hk h0 h14
  have eF : ∀ t, t < n → t ≠ i → g' (100 + 3 * t) = g (100 + 3 * t) := fun t ht hne => hk _ (by omega) (by omega)
  have eg : ∀ t, t < n → gn g' t = gn g t := fun t ht => by
    by_cases e : t = i
    · subst e; unfold gn; rw [hR, h9]; rfl
    · unfold gn; rw [eF t ht e]
  have es : sv g' = sv g := by funext j; unfold sv; rw [hk _ (by omega) (by omega)]
  have kp := ksum_u (f := sp g) (f' := sp g') hi (fun t ht hne => by unfold sp; rw [eF t ht hne])
  have p0 : sp g i = 0 := by unfold sp; rw [h9]; rfl
  have p1 : sp g' i = pr := by unfold sp; rw [hR]; show (if (4 : Int32) = 4 then (nI pr).toNatClampNeg else 0) = pr; rw [if_pos rfl]; exact cl_nI (by omega)
  rw [p0, p1] at kp
  have hb : ksum (sp g) n ≤ n * 10000 := ksum_le (fun t ht => by
    unfold sp
    split
    · obtain ⟨q, hq, e⟩ := vp_in_of (h2 t ht).2.2.2.2.2.2.2.2.2.1 (by decide)
      rw [e, cl_nI (by omega)]; omega
    · omega)
  refine ⟨⟨?_, fun t ht => ?_, fun t ht => ?_, ?_, F, W, P + pr, ?_, ?_, ?_, ?_, ?_, by omega⟩, ⟨P + pr, by omega, by rw [m3, nI_add]⟩⟩
  · obtain ⟨a1, a2, a3, a4, a5, a6, a7, a8, a9, a10, a11, a12⟩ := h1
    refine ⟨a1, a2, ?_, ?_, ?_, ?_, ?_, ?_, ?_, ?_, ?_, ?_⟩
    · rw [h0 8 (by decide)]; exact a3
    · rw [h0 9 (by decide)]; exact a4
    · rw [hk 6 (by omega) (by decide)]; exact a5
    · rw [hk 7 (by omega) (by decide)]; exact a6
    · rw [hk 1 (by omega) (by decide)]; exact a7
    · rw [hk 3 (by omega) (by decide)]; exact a8
    · rw [hk 4 (by omega) (by decide)]; exact a9
    · rw [hk 5 (by omega) (by decide)]; exact a10
    · rw [h0 10 (by decide)]; exact a11
    · rw [h0 11 (by decide)]; exact a12
  · rw [h0 10 (by decide), hk (100 + 3 * t + 1) (by omega) (by omega), hk (100 + 3 * t + 2) (by omega) (by omega)]
    by_cases e : t = i
    · subst e
      rw [hR]
      exact ⟨f0, f1, f2, f3, f4, f5, (by show vp_in 4 7; unfold vp_in; decide +kernel), f7, f8, vp_in_nI hpr (by decide), f10, k, k1, k2, k3, (fun q => absurd (show (4 : Int32) = 0 from q) (by decide)), k5, k6⟩
    · rw [eF t ht e]; exact h2 t ht
  · rw [hk _ (by omega) (by omega)]
    refine (h3 t ht).mono (Nat.le_refl _) (fun y hy hs => ?_)
    unfold gS at hs ⊢
    by_cases q : y = i
    · subst q; rw [h9] at hs; exact absurd hs (by decide)
    · rw [eF y hy q]; exact hs
  · rw [ksum_c eg, es]; exact h4
  · rw [h0 12 (by decide)]; exact m1
  · rw [h0 13 (by decide)]; exact m2
  · rw [h14, m3, nI_add]
  · rw [ksum_c eg]; exact m4
  · rw [ksum_c eg]; exact m5
/-! days -/
theorem iv_day1 (h : Inv n nc g) (hd : (g 0 10).toInt < 9999) : Inv n nc (sU g 0 10 (g 0 10 + 1)) := by
  have hn := h.n30
  obtain ⟨d, hdd, ed⟩ := vp_in_of h.day (by decide)
  have hlt : d < 9999 := by rw [ed, nI_toInt (by omega)] at hd; omega
  have hk : ∀ k, k ≠ 0 → sU g 0 10 (g 0 10 + 1) k = g k := fun k a => sU_row _ _ _ a
  have h0 : ∀ q, q ≠ 10 → sU g 0 10 (g 0 10 + 1) 0 q = g 0 q := fun q a => sU_j _ _ _ _ a
  have h10 : sU g 0 10 (g 0 10 + 1) 0 10 = g 0 10 + 1 := sU_s _ _ _ _
  generalize sU g 0 10 (g 0 10 + 1) = g' at hk h0 h10
  obtain ⟨h1, h2, h3, h4, F, W, P, m1, m2, m3, m4, m5, m6⟩ := h
  have eg : gn g' = gn g := by funext i; unfold gn; rw [hk _ (by omega)]
  have es : sv g' = sv g := by funext i; unfold sv; rw [hk _ (by omega)]
  have ep : sp g' = sp g := by funext i; unfold sp; rw [hk _ (by omega)]
  have eG : gS g' = gS g := by funext i; unfold gS; rw [hk _ (by omega)]
  have hle : g 0 10 ≤ g 0 10 + 1 := by rw [ed, nI_1]; exact nI_le (by omega) (by omega)
  refine ⟨?_, fun t ht => ?_, fun t ht => ?_, ?_, F, W, P, ?_, ?_, ?_, ?_, ?_, ?_⟩
  · obtain ⟨a1, a2, a3, a4, a5, a6, a7, a8, a9, a10, a11, a12⟩ := h1
    refine ⟨a1, a2, ?_, ?_, ?_, ?_, ?_, ?_, ?_, ?_, ?_, ?_⟩
    · rw [h0 8 (by decide)]; exact a3
    · rw [h0 9 (by decide)]; exact a4
    · rw [hk 6 (by decide)]; exact a5
    · rw [hk 7 (by decide)]; exact a6
    · rw [hk 1 (by decide)]; exact a7
    · rw [hk 3 (by decide)]; exact a8
    · rw [hk 4 (by decide)]; exact a9
    · rw [hk 5 (by decide)]; exact a10
    · rw [h10, ed, nI_1]; exact vp_in_nI (by omega) (by decide)
    · rw [h0 11 (by decide)]; exact a12
  · rw [h10, hk _ (by omega), hk _ (by omega), hk _ (by omega)]
    obtain ⟨f0, f1, f2, f3, f4, f5, f6, f7, f8, f9, f10, k, k1, k2, k3, k4, k5, k6⟩ := h2 t ht
    exact ⟨f0, f1, f2, f3, f4, f5, f6, f7, f8, f9, f10, k, k1, k2, k3, k4, fun j hj => Int32.le_trans (k5 j hj) hle, k6⟩
  · rw [eG, hk _ (by omega)]; exact h3 t ht
  · rw [eg, es]; exact h4
  · rw [h0 12 (by decide)]; exact m1
  · rw [h0 13 (by decide)]; exact m2
  · rw [h0 14 (by decide)]; exact m3
  · rw [eg]; exact m4
  · rw [eg]; exact m5
  · rw [ep]; exact m6
theorem iv_bag (h : Inv n nc g) : ∀ K, Inv n nc (cBag g n K)
  | 0 => h
  | K + 1 => by
    have ih := iv_bag h K
    unfold cBag
    by_cases a : K < n
    · rw [if_pos a]
      by_cases b : cBag g n K (100 + 3 * K) 9 = 1
      · rw [if_pos b]
        exact iv_comes ih a (ih.2.1 K a).2.2.2.2.2.2.2.1 (Or.inl b)
      · rw [if_neg b]; exact ih
    · rw [if_neg a]; exact ih
theorem iv_ers (h : Inv n nc g) {j : Nat} (hj : j < nc) (d : Int32) : Inv n nc (cErs g j d) := by
  unfold cErs
  by_cases c : erC (g (200 + j) 7) d (g (200 + j) 9) = true
  · rw [if_pos c]
    obtain ⟨f0, f1, f2, f3, f4, f5, f6, f7, f8, f9, f10, f11⟩ := h.2.2.1 _ hj
    refine h.claim1 (fun k hk => by rw [sU_row _ _ _ hk, sU_row _ _ _ hk, sU_row _ _ _ hk]) ?_ (by rw [sU_j _ _ _ _ (by decide), sU_j _ _ _ _ (by decide), sU_j _ _ _ _ (by decide)])
    rw [← upd_sU, ← upd_sU, ← upd_sU]
    have hz : sB 0 := fun k _ => b_0 k
    exact ⟨f0, f1, f2, f3, hz, hz, (by show vp_in 3 4; unfold vp_in; decide +kernel), (fun k hk => by rw [show upd (upd (upd (g (200 + j)) 7 3) 5 0) 6 0 6 = 0 from rfl, b_0] at hk; cases hk), (fun _ => rfl), (fun q => absurd (show (3 : Int32) = 1 from q) (by decide)), (fun q => absurd (show (3 : Int32) = 0 from q) (by decide)), f11⟩
  · rw [if_neg c]; exact h
theorem iv_er (h : Inv n nc g) : ∀ K, Inv n nc (cEr g nc K)
  | 0 => h
  | K + 1 => by
    have ih := iv_er h K
    unfold cEr
    by_cases a : K < nc
    · rw [if_pos a]; exact iv_ers ih a _
    · rw [if_neg a]; exact ih
theorem cBag_10 (g : sg) (n : Nat) (hn : n ≤ 30) (K : Nat) : cBag g n K 0 = g 0 := cBag_row g n (Or.inl (by decide)) hn K
theorem iv_days (h : Inv n nc g) {d : Nat} (hd : g 0 10 = nI d) : ∀ K, d + K ≤ 9999 → Inv n nc (cDays g n nc K) ∧ cDays g n nc K 0 10 = nI (d + K)
  | 0, _ => ⟨h, hd⟩
  | K + 1, hK => by
    obtain ⟨ih, e⟩ := iv_days h hd K (by omega)
    unfold cDays cDay
    refine ⟨iv_er (iv_bag (iv_day1 ih ?_) 30) 20, ?_⟩
    · rw [e, nI_toInt (by omega)]; omega
    · rw [cEr_row _ _ (by decide), cBag_10 _ _ h.n30, sU_s, e, nI_1]; rfl
theorem iv_pass (h : Inv n nc g) {many : Int32} (c : kd2 (inn many 1 400) (decide (g 0 10 + many ≤ 9999)) = 0) : Inv n nc (cDays g n nc many.toNatClampNeg) ∧ gv (cDays g n nc many.toNatClampNeg 0 10) := by
  obtain ⟨c1, c2⟩ := kd2_0.mp c
  obtain ⟨m, hm, rfl⟩ := vp_in_of (inn_1 (N := 401) c1 (by decide)) (by decide)
  obtain ⟨d, hd, e⟩ := vp_in_of h.day (by decide)
  have c2 := of_decide_eq_true c2
  rw [e, nI_add] at c2
  have hle : d + m ≤ 9999 := (nI_leI (a := d + m) (b := 9999) (by omega) (by omega)).mp c2
  rw [cl_nI (by omega)]
  obtain ⟨i1, i2⟩ := iv_days h e m hle
  exact ⟨i1, d + m, by omega, i2⟩
/-! a find, a claim more -/
theorem iv_find (h : Inv n nc g) {kind place dago set secret value room : Int32} (c : kd3 (inn kind 0 7 && (inn place 0 9 && inn room 0 5)) (inn dago 0 (g 0 10) && (inn value 0 9999 && (inn set 0 16777215 && (inn secret 0 16777215 && decide ((set &&& secret) = 0))))) (!decide (nI n = 30)) = 0) : Inv (n + 1) nc (cFind g n kind place dago set secret value room) ∧ n < 30 := by
  obtain ⟨c1, c2, c3⟩ := kd3_0.mp c
  have hn : n < 30 := nlt_of c3 h.n30 rfl
  refine ⟨?_, hn⟩
  have hkind : vp_in kind 8 := inn_v (and_l c1) (by decide)
  have hplace : vp_in place 10 := inn_v (and_l (and_r c1)) (by decide)
  have hroom : vp_in room 6 := inn_v (and_r (and_r c1)) (by decide)
  have hval : vp_in value 10000 := inn_v (and_l (and_r c2)) (by decide)
  have hset : sB set := inn_sB (and_l (and_r (and_r c2)))
  have hsec : sB secret := inn_sB (and_l (and_r (and_r (and_r c2))))
  obtain ⟨d, hd, ed⟩ := vp_in_of h.day (by decide)
  obtain ⟨a, ha, ea⟩ : ∃ a : Nat, a ≤ d ∧ dago = nI a := by
    have c9 := and_l c2
    rw [ed] at c9
    obtain ⟨i, hi, e⟩ := vp_in_of (inn_v (N := d + 1) c9 (by rw [nI_toInt (by omega)]; omega)) (by omega)
    exact ⟨i, by omega, e⟩
  have hday : vp_in (g 0 10 - dago) 10000 := by rw [ed, ea, pk_sub ha]; exact vp_in_nI (by omega) (by decide)
  have hlast : vp_in (g 0 10 + (if kind = 7 then 1 else g 4 kind.toNatClampNeg)) 20000 := by
    rw [ed]
    split
    · rw [nI_1]; exact vp_in_nI (by omega) (by decide)
    · obtain ⟨t, ht, et⟩ := vp_in_of (h.1.2.2.2.2.2.2.2.2.1 _ (vp_lt hkind)) (by decide)
      rw [et, nI_add]; exact vp_in_nI (by omega) (by decide)
  generalize hL : g 0 10 + (if kind = 7 then 1 else g 4 kind.toNatClampNeg) = L at hlast
  have e30 : (n : Nat) < 2 ^ 31 := by omega
  -- the rows
  have hk : ∀ k, k ≠ 100 + 3 * n → k ≠ 100 + 3 * n + 1 → k ≠ 100 + 3 * n + 2 → k ≠ 6 → k ≠ 0 → cFind g n kind place dago set secret value room k = g k := fun k q1 q2 q3 q4 q5 => by
    unfold cFind cComes cFind0
    rw [sU_row _ _ _ q5, sU_row _ _ _ q4]
    rw [if_neg q2, if_neg q3, if_neg q1, sU_row _ _ _ q1]
    funext j
    unfold gF
    rw [if_neg q1, if_neg q2, if_neg q3]
  have h0 : ∀ q, q ≠ 8 → cFind g n kind place dago set secret value room 0 q = g 0 q := fun q hq => by
    unfold cFind cComes cFind0
    rw [sU_j _ _ _ _ hq, sU_row _ _ _ (by decide)]
    rw [if_neg (by omega), if_neg (by omega), if_neg (by omega), sU_row _ _ _ (by omega)]
    unfold gF
    rw [if_neg (by omega), if_neg (by omega), if_neg (by omega)]
  have h08 : cFind g n kind place dago set secret value room 0 8 = nI (n + 1) := by unfold cFind; rw [sU_s, nI_1]
  have h6 : ∀ j, cFind g n kind place dago set secret value room 6 j = if j < n + 1 then 1 else 0 := fun j => by
    have h69 := h.1.2.2.2.2.1 j
    unfold cFind
    rw [sU_row _ _ _ (by decide)]
    by_cases q : j = n
    · subst q; rw [sU_s, if_pos (by omega)]
    · rw [sU_j _ _ _ _ q]
      unfold cComes cFind0
      rw [if_neg (by omega), if_neg (by omega), if_neg (by omega), sU_row _ _ _ (by omega)]
      unfold gF
      rw [if_neg (by omega), if_neg (by omega), if_neg (by omega), h69]
      by_cases z : j < n
      · rw [if_pos z, if_pos (by omega)]
      · rw [if_neg z, if_neg (by omega)]
  have eR0 : cFind0 g n kind place dago set secret value (100 + 3 * n) = upd (rowF kind place (g 0 10 - dago) secret value set) 11 L := by
    unfold cFind0
    rw [hL, ← upd_sU]
    congr 1
    funext j
    unfold gF
    rw [if_pos rfl]
  have eR1 : cFind0 g n kind place dago set secret value (100 + 3 * n + 1) = fun _ => 0 := by
    unfold cFind0
    rw [sU_row _ _ _ (by omega)]
    funext j
    unfold gF
    rw [if_neg (by omega), if_pos rfl]
  have eR2 : cFind0 g n kind place dago set secret value (100 + 3 * n + 2) = fun _ => 0 := by
    unfold cFind0
    rw [sU_row _ _ _ (by omega)]
    funext j
    unfold gF
    rw [if_neg (by omega), if_neg (by omega), if_pos rfl]
  have r7 : upd (rowF kind place (g 0 10 - dago) secret value set) 11 L 7 = 0 := rfl
  have eN : cFind g n kind place dago set secret value room (100 + 3 * n) = upd (upd (upd (upd (rowF kind place (g 0 10 - dago) secret value set) 11 L) 9 0) 10 room) 7 (cmH 0) := by
    unfold cFind
    rw [sU_row _ _ _ (by omega), sU_row _ _ _ (by omega)]
    unfold cComes
    rw [if_neg (by omega), if_neg (by omega), if_pos rfl, eR0, r7]
  have eN1 : cFind g n kind place dago set secret value room (100 + 3 * n + 1) = cmR (fun _ => 0) 0 0 room := by
    unfold cFind
    rw [sU_row _ _ _ (by omega), sU_row _ _ _ (by omega)]
    unfold cComes
    rw [if_pos rfl, eR0, eR1, r7]
  have eN2 : cFind g n kind place dago set secret value room (100 + 3 * n + 2) = cmR (fun _ => 0) 0 0 (g 0 10) := by
    unfold cFind
    rw [sU_row _ _ _ (by omega), sU_row _ _ _ (by omega)]
    unfold cComes
    rw [if_neg (by omega), if_pos rfl, eR0, eR2, r7]
  generalize cFind g n kind place dago set secret value room = g' at hk h0 h08 h6 eN eN1 eN2
  obtain ⟨h1, h2, h3, h4, F, W, P, m1, m2, m3, m4, m5, m6⟩ := h
  have eF : ∀ t, t < n → g' (100 + 3 * t) = g (100 + 3 * t) := fun t ht => hk _ (by omega) (by omega) (by omega) (by omega) (by omega)
  have eg : ∀ t, t < n → gn g' t = gn g t := fun t ht => by unfold gn; rw [eF t ht]
  have ep : ∀ t, t < n → sp g' t = sp g t := fun t ht => by unfold sp; rw [eF t ht]
  have gnn : gn g' n = 0 := by unfold gn; rw [eN]; rfl
  have spn : sp g' n = 0 := by unfold sp; rw [eN]; rfl
  have kg : ksum (gn g') (n + 1) = ksum (gn g) n := by show ksum (gn g') n + gn g' n = _; rw [ksum_c eg, gnn]; rfl
  have kp : ksum (sp g') (n + 1) = ksum (sp g) n := by show ksum (sp g') n + sp g' n = _; rw [ksum_c ep, spn]; rfl
  obtain ⟨a1, a2, a3, a4, a5, a6, a7, a8, a9, a10, a11, a12⟩ := h1
  have es : ∀ t, t < nc → sv g' t = sv g t := fun t ht => by unfold sv; rw [hk _ (by omega) (by omega) (by omega) (by omega) (by omega)]
  refine ⟨⟨by omega, a2, h08, ?_, h6, ?_, ?_, ?_, ?_, ?_, ?_, ?_⟩, fun t ht => ?_, fun t ht => ?_, ?_, F, W, P, ?_, ?_, ?_, ?_, ?_, ?_⟩
  · rw [h0 9 (by decide)]; exact a4
  · rw [hk 7 (by omega) (by omega) (by omega) (by decide) (by decide)]; exact a6
  · rw [hk 1 (by omega) (by omega) (by omega) (by decide) (by decide)]; exact a7
  · rw [hk 3 (by omega) (by omega) (by omega) (by decide) (by decide)]; exact a8
  · rw [hk 4 (by omega) (by omega) (by omega) (by decide) (by decide)]; exact a9
  · rw [hk 5 (by omega) (by omega) (by omega) (by decide) (by decide)]; exact a10
  · rw [h0 10 (by decide)]; exact a11
  · rw [h0 11 (by decide)]; exact a12
  · rw [h0 10 (by decide)]
    by_cases e : t = n
    · subst e
      rw [eN, eN1, eN2]
      refine ⟨hkind, hplace, hday, hset, hsec, hval, (by show vp_in 0 7; unfold vp_in; decide +kernel), hroom, hlast, (by show vp_in 0 10000; unfold vp_in; decide +kernel), Or.inl rfl, 1, by decide, by decide, (by show cmH 0 = nI 1; decide +kernel), fun _ => ?_, fun j hj => ?_, fun j hj => ?_⟩
      · show cmR (fun _ => 0) 0 0 room 0 = room
        unfold cmR
        rw [if_neg (by decide), if_pos (by decide)]
      · obtain rfl : j = 0 := by omega
        show cmR (fun _ => 0) 0 0 (g 0 10) 0 ≤ g 0 10
        unfold cmR
        rw [if_neg (by decide), if_pos (by decide)]
        exact Int32.le_refl _
      · omega
    · have ht2 : t < n := by omega
      rw [eF t ht2, hk (100 + 3 * t + 1) (by omega) (by omega) (by omega) (by omega) (by omega), hk (100 + 3 * t + 2) (by omega) (by omega) (by omega) (by omega) (by omega)]
      exact h2 t ht2
  · rw [hk _ (by omega) (by omega) (by omega) (by omega) (by omega)]
    exact (h3 t ht).mono (by omega) (fun x hx hs => by unfold gS at hs ⊢; rw [eF x hx]; exact hs)
  · rw [kg, ksum_c es]; exact h4
  · rw [h0 12 (by decide)]; exact m1
  · rw [h0 13 (by decide)]; exact m2
  · rw [h0 14 (by decide)]; exact m3
  · rw [kg]; exact m4
  · rw [kg]; exact m5
  · rw [kp]; exact m6
theorem iv_claim (h : Inv n nc g) {kind place fr to set : Int32} (c : kd3 (inn kind 0 7 && inn place 0 9) (inn fr 0 (g 0 10) && (inn to fr (g 0 10) && inn set 0 16777215)) (!decide (nI nc = 20)) = 0) : Inv n (nc + 1) (cClaim g nc kind place fr to set) ∧ nc < 20 := by
  obtain ⟨c1, c2, c3⟩ := kd3_0.mp c
  have hn : nc < 20 := nlt_of c3 h.c20 rfl
  refine ⟨?_, hn⟩
  have h30 := h.n30
  have hkind : vp_in kind 8 := inn_v (and_l c1) (by decide)
  have hplace : vp_in place 10 := inn_v (and_r c1) (by decide)
  have hset : sB set := inn_sB (and_r (and_r c2))
  obtain ⟨d, hd, ed⟩ := vp_in_of h.day (by decide)
  have hto : vp_in to 10000 := by
    obtain ⟨q1, q2⟩ := inn_toInt (and_l c2)
    obtain ⟨q3, q4⟩ := inn_toInt (and_l (and_r c2))
    rw [ed, nI_toInt (by omega)] at q4
    have : (0 : Int32).toInt = 0 := rfl
    rw [vp_in_iff]; omega
  have hk : ∀ k, k ≠ 200 + nc → k ≠ 7 → k ≠ 0 → cClaim g nc kind place fr to set k = g k := fun k q1 q2 q3 => by
    unfold cClaim
    rw [sU_row _ _ _ q3, sU_row _ _ _ q2]
    funext j
    unfold gC
    rw [if_neg q1]
  have h0 : ∀ q, q ≠ 9 → cClaim g nc kind place fr to set 0 q = g 0 q := fun q hq => by
    unfold cClaim
    rw [sU_j _ _ _ _ hq, sU_row _ _ _ (by decide)]
    unfold gC
    rw [if_neg (by omega)]
  have h09 : cClaim g nc kind place fr to set 0 9 = nI (nc + 1) := by unfold cClaim; rw [sU_s, nI_1]
  have h7 : ∀ j, cClaim g nc kind place fr to set 7 j = if j < nc + 1 then 1 else 0 := fun j => by
    have h79 := h.1.2.2.2.2.2.1 j
    unfold cClaim
    rw [sU_row _ _ _ (by decide)]
    by_cases q : j = nc
    · subst q; rw [sU_s, if_pos (by omega)]
    · rw [sU_j _ _ _ _ q]
      unfold gC
      rw [if_neg (by omega), h79]
      by_cases z : j < nc
      · rw [if_pos z, if_pos (by omega)]
      · rw [if_neg z, if_neg (by omega)]
  have eN : cClaim g nc kind place fr to set (200 + nc) = rowC (nI nc) kind place fr to set := by
    unfold cClaim
    rw [sU_row _ _ _ (by omega), sU_row _ _ _ (by omega)]
    funext j
    unfold gC
    rw [if_pos rfl]
  generalize cClaim g nc kind place fr to set = g' at hk h0 h09 h7 eN
  obtain ⟨h1, h2, h3, h4, F, W, P, m1, m2, m3, m4, m5, m6⟩ := h
  have eF : ∀ t, t < n → g' (100 + 3 * t) = g (100 + 3 * t) := fun t ht => hk _ (by omega) (by omega) (by omega)
  have eg : ∀ t, t < n → gn g' t = gn g t := fun t ht => by unfold gn; rw [eF t ht]
  have ep : ∀ t, t < n → sp g' t = sp g t := fun t ht => by unfold sp; rw [eF t ht]
  have es : ∀ t, t < nc → sv g' t = sv g t := fun t ht => by unfold sv; rw [hk _ (by omega) (by omega) (by omega)]
  have svn : sv g' nc = 0 := by unfold sv; rw [eN]; rfl
  have ks : ksum (sv g') (nc + 1) = ksum (sv g) nc := by show ksum (sv g') nc + sv g' nc = _; rw [ksum_c es, svn]; rfl
  have hz : sB 0 := fun k _ => b_0 k
  obtain ⟨a1, a2, a3, a4, a5, a6, a7, a8, a9, a10, a11, a12⟩ := h1
  refine ⟨⟨a1, by omega, ?_, h09, ?_, h7, ?_, ?_, ?_, ?_, ?_, ?_⟩, fun t ht => ?_, fun t ht => ?_, ?_, F, W, P, ?_, ?_, ?_, ?_, ?_, ?_⟩
  · rw [h0 8 (by decide)]; exact a3
  · rw [hk 6 (by omega) (by decide) (by decide)]; exact a5
  · rw [hk 1 (by omega) (by decide) (by decide)]; exact a7
  · rw [hk 3 (by omega) (by decide) (by decide)]; exact a8
  · rw [hk 4 (by omega) (by decide) (by decide)]; exact a9
  · rw [hk 5 (by omega) (by decide) (by decide)]; exact a10
  · rw [h0 10 (by decide)]; exact a11
  · rw [h0 11 (by decide)]; exact a12
  · rw [h0 10 (by decide), eF t ht, hk (100 + 3 * t + 1) (by omega) (by omega) (by omega), hk (100 + 3 * t + 2) (by omega) (by omega) (by omega)]
    exact h2 t ht
  · have hm : ∀ x, x < n → gS g x = true → gS g' x = true := fun x hx hs => by unfold gS at hs ⊢; rw [eF x hx]; exact hs
    by_cases e : t = nc
    · subst e
      rw [eN]
      exact ⟨rfl, hkind, hplace, hto, hset, hz, (by show vp_in 0 4; unfold vp_in; decide +kernel), (fun k hk => by rw [show rowC (nI t) kind place fr to set 6 = 0 from rfl, b_0] at hk; cases hk), (fun q => absurd (show (0 : Int32) = 3 from q) (by decide)), (fun q => absurd (show (0 : Int32) = 1 from q) (by decide)), (fun _ => rfl), Or.inl rfl⟩
    · rw [hk _ (by omega) (by omega) (by omega)]
      exact (h3 t (by omega)).mono (Nat.le_refl _) hm
  · rw [ksum_c eg, ks]; exact h4
  · rw [h0 12 (by decide)]; exact m1
  · rw [h0 13 (by decide)]; exact m2
  · rw [h0 14 (by decide)]; exact m3
  · rw [ksum_c eg]; exact m4
  · rw [ksum_c eg]; exact m5
  · rw [ksum_c ep]; exact m6
end OP
