/-! Each call on either side: what it answers, what it leaves. -/
def opR (n nc n' nc' : Nat) (g gB : sg) (K r Km Am : Int32) (gC : sg) : Prop := mE g gB ∧ Km = K ∧ (K = 0 → Am = r) ∧ gC 9 0 = K ∧ gC 40 0 = (if K = 0 then r else g 40 0) ∧ (K = 0 → kRl n' nc' gC gC) ∧ (¬ K = 0 → kRl n nc gC gC)
theorem op_mk {n nc n' nc' : Nat} {g gc gB : sg} {K r : Int32} (Km Am : sg → Int32) (Um : sg → sg) (h : kRl n nc g g) (hB : gB = if K = 0 then sU gc 40 0 r else g) (hK : ∀ g', kRl n nc g g' → Km g' = K) (h1 : K = 0 → mE g gc) (h2 : K = 0 → ∀ g', kRl n nc g g' → mE g g' → Am g' = r)
    (h3 : K = 0 → ∀ g', mE g g' → mE (Um g) (Um g')) (h4 : K = 0 → ∀ g', cX g' (Um g')) (h5 : K = 0 → Um g 9 0 = 0) (h6 : K = 0 → kRl n' nc' gc (Um g)) : opR n nc n' nc' g gB K r (Km gB) (Am gB) (mk (Km gB) (Um gB) gB) :=
  op_gen h (fun g' e => hK g' (h.e (cE.rf g) e)) h1 (fun c g' e => h2 c g' (h.e (cE.rf g) e) e) h3 h4 h5 h6 hB
/-- a call that asks alone -/
theorem op_ask {n nc : Nat} {g gc gB : sg} {K r : Int32} (Km Am : sg → Int32) (h : kRl n nc g g) (hB : gB = if K = 0 then sU gc 40 0 r else g) (hK : ∀ g', kRl n nc g g' → Km g' = K) (h1 : mE g gc) (h1c : cE g gc) (h2 : K = 0 → ∀ g', kRl n nc g g' → mE g g' → Am g' = r) : opR n nc n nc g gB K r (Km gB) (Am gB) (mk (Km gB) (sU gB 9 0 0) gB) :=
  op_mk Km Am (fun g' => sU g' 9 0 0) h hB hK (fun _ => h1) h2 (fun _ g' e => e.u rfl) (fun _ g' => (cX.rf g').m (by omega)) (fun _ => sU_s _ _ _ _) (fun _ => (h.e h1c (mE.rf g)).t 0)
theorem mE.sw {m : sg} {k j : Nat} {v : Int32} (hk : k < 9 ∨ k = 40 ∨ 100 ≤ k) : mE m (sU m k j v) := (mE.rf m).c hk
theorem mE.t {m m' : sg} (h : mE m m') : mE (sU m 9 0 0) (sU m' 9 0 0) := h.u rfl
theorem nI_K {n : Nat} {x : Int32} (hx : isF n x = true) (hn : n ≤ 30) : ∃ i, i < n ∧ x = nI i ∧ (nI i).toNatClampNeg = i := by
  obtain ⟨i, hi, e⟩ := isF_ex hx hn
  exact ⟨i, hi, e, cl_nI (by omega)⟩
theorem rowp {c m : sg} {k1 k2 j : Nat} {v : Int32} (h : c k1 = m k2) : sU c k1 j v k1 = sU m k2 j v k2 := by rw [← upd_sU, ← upd_sU, h]
/-! near, alike -/
def tr (r : Nat → Int32) (w o : Int32) : Nat → Int32 := upd (upd r w.toNatClampNeg (r w.toNatClampNeg ^^^ ((1 : Int32) <<< (o &&& 31)))) o.toNatClampNeg (r o.toNatClampNeg ^^^ ((1 : Int32) <<< (w &&& 31)))
theorem tg_K (g : sg) (K : Nat) (w o : Int32) : tg g K w o K = tr (g K) w o := by
  unfold tg tr
  rw [← upd_sU, ← upd_sU]
theorem tg_o (g : sg) {K k : Nat} (w o : Int32) (h : k ≠ K) : tg g K w o k = g k := by
  unfold tg
  rw [sU_row _ _ _ h, sU_row _ _ _ h]
theorem tg_e {m m' : sg} (e : mE m m') {K : Nat} (hK : 9 ≤ K ∧ K < 100 ∧ K ≠ 40) (w o : Int32) : mE (tg m K w o) (tg m' K w o) := by
  unfold tg
  rw [e K hK.1 hK.2.1 hK.2.2]
  exact (e.u rfl).u rfl
theorem tg_x (m : sg) {K : Nat} (hK : 40 < K ∧ K < 100) (w o : Int32) : cX m (tg m K w o) := by
  unfold tg
  exact ((cX.rf m).m (by omega)).m (by omega)
theorem tb_e {g g' : sg} {K K' : Nat} (h : g K = g' K') (w o : Int32) : tb g K w o = tb g' K' w o := by
  unfold tb
  rw [h]
theorem tr_sy {r : Nat → Int32} {a b : Nat} (ha : a < 24) (hb : b < 24) (hab : a ≠ b) (h : nSy r) : nSy (tr r (nI a) (nI b)) := by
  have key : ∀ x y, bt (tr r (nI a) (nI b) x) y = (bt (r x) y ^^ (decide (x = a ∧ y = b) || decide (x = b ∧ y = a))) := by
    intro x y
    unfold tr
    rw [cl_nI (by omega), cl_nI (by omega)]
    unfold upd
    by_cases e : x = b
    · subst e
      rw [if_pos rfl, b_xor, b_pow (by omega)]
      congr 1
      have : ¬ x = a := fun q => hab q.symm
      simp [this]
    · rw [if_neg e]
      by_cases e2 : x = a
      · subst e2
        rw [if_pos rfl, b_xor, b_pow (by omega)]
        congr 1
        simp [e]
      · rw [if_neg e2]
        simp [e, e2]
  intro x y hx hy
  rw [key, key, h x y hx hy]
  congr 1
  rw [Bool.or_comm]
  congr 1
  · exact decide_eq_decide.mpr And.comm
  · exact decide_eq_decide.mpr And.comm
theorem op_near {n nc : Nat} {g gB : sg} (h : kRl n nc g g) (w o : Int32) (hB : gB = if kd2 (inn w 0 23 && inn o 0 23) (!decide (w = o)) = 0 then sU (tg g 1 w o) 40 0 (b2 (tb g 1 w o)) else g) :
    opR n nc n nc g gB (kd2 (inn w 0 23 && inn o 0 23) (!decide (w = o))) (b2 (tb g 1 w o)) (kd2 (inn w 0 23 && inn o 0 23) (!decide (w = o))) (b2 (tb gB 52 w o)) (mk (kd2 (inn w 0 23 && inn o 0 23) (!decide (w = o))) (tg (sU gB 9 0 0) 52 w o) gB) := by
  refine op_mk (fun _ => kd2 (inn w 0 23 && inn o 0 23) (!decide (w = o))) (fun g' => b2 (tb g' 52 w o)) (fun g' => tg (sU g' 9 0 0) 52 w o) h hB (fun _ _ => rfl) (fun _ k h1 h2 h3 => tg_o _ _ _ (by omega)) (fun _ g' hr _ => by rw [tb_e (hr.2.1.1)]) (fun _ g' e => tg_e e.t (by omega) _ _) (fun _ g' => cX.tr ?_ (tg_x _ (by omega) _ _)) (fun _ => ?_) (fun c => ?_)
  · exact (cX.rf g').m (by omega)
  · show tg (sU g 9 0 0) 52 w o 9 0 = 0
    rw [tg_o _ _ _ (by decide), sU_s]
  · obtain ⟨c1, c2⟩ := kd2_0.mp c
    obtain ⟨a, ha, rfl⟩ := vp_in_of (inn_vp (N := 24) (and_l c1) (by decide)) (by decide)
    obtain ⟨b, hb, rfl⟩ := vp_in_of (inn_vp (N := 24) (and_r c1) (by decide)) (by decide)
    have hab : a ≠ b := by rintro rfl; simp at c2
    obtain ⟨⟨n1, n2, n3, n4, n5, n6, n7, n8⟩, ⟨s1, s2, s3, s4, s5, s6, s7, s8, s9, s0⟩, ⟨v1, v2, v3, v4⟩, -⟩ := id h
    have e0 : ∀ k, k ≠ 1 → tg g 1 (nI a) (nI b) k = g k := fun k hk => tg_o _ _ _ hk
    have em : ∀ k, k ≠ 52 → k ≠ 9 → tg (sU g 9 0 0) 52 (nI a) (nI b) k = g k := fun k h1 h2 => (tg_o _ _ _ h1).trans (sU_row _ _ _ h2)
    have e9 : ∀ j, j ≠ 0 → tg (sU g 9 0 0) 52 (nI a) (nI b) 9 j = g 9 j := fun j hj => by rw [tg_o _ _ _ (by decide), sU_j _ _ _ _ hj]
    have e52 : tg (sU g 9 0 0) 52 (nI a) (nI b) 52 = tr (g 52) (nI a) (nI b) := by rw [tg_K, sU_row _ _ _ (by decide)]
    refine h.g (fun k hk => e0 k (by omega)) (fun k h1 h2 => em k (by omega) (by omega)) ⟨n1, n2, ?_, ?_, ?_, ?_, ?_, ?_⟩ ⟨?_, ?_, ?_, ?_, ?_, ?_, ?_, ?_, ?_, ?_⟩ ⟨?_, ?_, ?_, ?_⟩
    · rw [e0 0 (by decide)]; exact n3
    · rw [e9 8 (by decide)]; exact n4
    · rw [e0 0 (by decide)]; exact n5
    · rw [e9 25 (by decide)]; exact n6
    · rw [e0 6 (by decide)]; exact n7
    · rw [e0 7 (by decide)]; exact n8
    · rw [e52, tg_K, s1]
    · rw [e0 2 (by decide), em 53 (by decide) (by decide)]; exact s2
    · rw [e0 3 (by decide), em 56 (by decide) (by decide)]; exact s3
    · rw [e0 4 (by decide), em 54 (by decide) (by decide)]; exact s4
    · rw [e0 5 (by decide), em 55 (by decide) (by decide)]; exact s5
    · rw [e0 0 (by decide), e9 1 (by decide)]; exact s6
    · rw [e0 0 (by decide), e9 7 (by decide)]; exact s7
    · rw [e0 0 (by decide), e9 35 (by decide)]; exact s8
    · rw [e0 0 (by decide), e9 36 (by decide)]; exact s9
    · rw [e0 0 (by decide), e9 37 (by decide)]; exact s0
    · rw [e9 1 (by decide)]; exact v1
    · rw [e9 7 (by decide)]; exact v2
    · rw [e52]; exact tr_sy ha hb hab v3
    · rw [em 56 (by decide) (by decide)]; exact v4
theorem op_alike {n nc : Nat} {g gB : sg} (h : kRl n nc g g) (w o : Int32) (hB : gB = if kd2 (inn w 0 7 && inn o 0 7) (!decide (w = o)) = 0 then sU (tg g 2 w o) 40 0 (b2 (tb g 2 w o)) else g) :
    opR n nc n nc g gB (kd2 (inn w 0 7 && inn o 0 7) (!decide (w = o))) (b2 (tb g 2 w o)) (kd2 (inn w 0 7 && inn o 0 7) (!decide (w = o))) (b2 (tb gB 53 w o)) (mk (kd2 (inn w 0 7 && inn o 0 7) (!decide (w = o))) (tg (sU gB 9 0 0) 53 w o) gB) := by
  refine op_mk (fun _ => kd2 (inn w 0 7 && inn o 0 7) (!decide (w = o))) (fun g' => b2 (tb g' 53 w o)) (fun g' => tg (sU g' 9 0 0) 53 w o) h hB (fun _ _ => rfl) (fun _ k h1 h2 h3 => tg_o _ _ _ (by omega)) (fun _ g' hr _ => by rw [tb_e (hr.2.1.2.1)]) (fun _ g' e => tg_e e.t (by omega) _ _) (fun _ g' => cX.tr ?_ (tg_x _ (by omega) _ _)) (fun _ => ?_) (fun c => ?_)
  · exact (cX.rf g').m (by omega)
  · show tg (sU g 9 0 0) 53 w o 9 0 = 0
    rw [tg_o _ _ _ (by decide), sU_s]
  · obtain ⟨⟨n1, n2, n3, n4, n5, n6, n7, n8⟩, ⟨s1, s2, s3, s4, s5, s6, s7, s8, s9, s0⟩, ⟨v1, v2, v3, v4⟩, -⟩ := id h
    have e0 : ∀ k, k ≠ 2 → tg g 2 w o k = g k := fun k hk => tg_o _ _ _ hk
    have em : ∀ k, k ≠ 53 → k ≠ 9 → tg (sU g 9 0 0) 53 w o k = g k := fun k h1 h2 => (tg_o _ _ _ h1).trans (sU_row _ _ _ h2)
    have e9 : ∀ j, j ≠ 0 → tg (sU g 9 0 0) 53 w o 9 j = g 9 j := fun j hj => by rw [tg_o _ _ _ (by decide), sU_j _ _ _ _ hj]
    refine h.g (fun k hk => e0 k (by omega)) (fun k h1 h2 => em k (by omega) (by omega)) ⟨n1, n2, ?_, ?_, ?_, ?_, ?_, ?_⟩ ⟨?_, ?_, ?_, ?_, ?_, ?_, ?_, ?_, ?_, ?_⟩ ⟨?_, ?_, ?_, ?_⟩
    · rw [e0 0 (by decide)]; exact n3
    · rw [e9 8 (by decide)]; exact n4
    · rw [e0 0 (by decide)]; exact n5
    · rw [e9 25 (by decide)]; exact n6
    · rw [e0 6 (by decide)]; exact n7
    · rw [e0 7 (by decide)]; exact n8
    · rw [e0 1 (by decide), em 52 (by decide) (by decide)]; exact s1
    · rw [tg_K, tg_K, sU_row _ _ _ (by decide), s2]
    · rw [e0 3 (by decide), em 56 (by decide) (by decide)]; exact s3
    · rw [e0 4 (by decide), em 54 (by decide) (by decide)]; exact s4
    · rw [e0 5 (by decide), em 55 (by decide) (by decide)]; exact s5
    · rw [e0 0 (by decide), e9 1 (by decide)]; exact s6
    · rw [e0 0 (by decide), e9 7 (by decide)]; exact s7
    · rw [e0 0 (by decide), e9 35 (by decide)]; exact s8
    · rw [e0 0 (by decide), e9 36 (by decide)]; exact s9
    · rw [e0 0 (by decide), e9 37 (by decide)]; exact s0
    · rw [e9 1 (by decide)]; exact v1
    · rw [e9 7 (by decide)]; exact v2
    · rw [em 52 (by decide) (by decide)]; exact v3
    · rw [em 56 (by decide) (by decide)]; exact v4
/-! rule, stop, threshold -/
theorem op_rule {n nc : Nat} {g gB : sg} (h : kRl n nc g g) (k t r : Int32) (hB : gB = if kd2 (inn k 0 7) (inn t 1 400 && inn r 0 50) = 0 then sU (sU (sU g 4 k.toNatClampNeg t) 5 k.toNatClampNeg r) 40 0 (g 4 k.toNatClampNeg) else g) :
    opR n nc n nc g gB (kd2 (inn k 0 7) (inn t 1 400 && inn r 0 50)) (g 4 k.toNatClampNeg) (kd2 (inn k 0 7) (inn t 1 400 && inn r 0 50)) (gB 54 k.toNatClampNeg) (mk (kd2 (inn k 0 7) (inn t 1 400 && inn r 0 50)) (sU (sU (sU gB 9 0 0) 54 k.toNatClampNeg t) 55 k.toNatClampNeg r) gB) := by
  refine op_mk (fun _ => kd2 (inn k 0 7) (inn t 1 400 && inn r 0 50)) (fun g' => g' 54 k.toNatClampNeg) (fun g' => sU (sU (sU g' 9 0 0) 54 k.toNatClampNeg t) 55 k.toNatClampNeg r) h hB (fun _ _ => rfl) (fun _ => (mE.sw (by omega)).c (by omega)) (fun _ g' hr _ => by rw [hr.2.1.2.2.2.1]) (fun _ g' e => (e.t.u rfl).u rfl) (fun _ g' => (((cX.rf g').m (by omega)).m (by omega)).m (by omega)) (fun _ => ?_) (fun c => ?_)
  · show sU (sU (sU g 9 0 0) 54 k.toNatClampNeg t) 55 k.toNatClampNeg r 9 0 = 0
    rw [sU_ne (by omega), sU_ne (by omega), sU_s]
  · obtain ⟨hN, ⟨s1, s2, s3, s4, s5, s6, s7, s8, s9, s0⟩, hV, -⟩ := id h
    refine h.g (fun k hk => ?_) (fun k h1 h2 => ?_) (((hN.c (by omega)).c (by omega)).m (by omega) |>.m (by omega) |>.m (by omega)) ⟨?_, ?_, ?_, ?_, ?_, ?_, ?_, ?_, ?_, ?_⟩ (((hV.m (by omega)).m (by omega)).m (by omega))
    · rw [sU_row _ _ _ (by omega), sU_row _ _ _ (by omega)]
    · rw [sU_row _ _ _ (by omega), sU_row _ _ _ (by omega), sU_row _ _ _ (by omega)]
    · rw [sU_row _ _ _ (by omega), sU_row _ _ _ (by omega), sU_row _ _ _ (by omega), sU_row _ _ _ (by omega), sU_row _ _ _ (by omega)]; exact s1
    · rw [sU_row _ _ _ (by omega), sU_row _ _ _ (by omega), sU_row _ _ _ (by omega), sU_row _ _ _ (by omega), sU_row _ _ _ (by omega)]; exact s2
    · rw [sU_row _ _ _ (by omega), sU_row _ _ _ (by omega), sU_row _ _ _ (by omega), sU_row _ _ _ (by omega), sU_row _ _ _ (by omega)]; exact s3
    · rw [sU_row (sU g 4 k.toNatClampNeg t) _ _ (by omega : 4 ≠ 5), sU_row (sU (sU g 9 0 0) 54 k.toNatClampNeg t) _ _ (by omega : 54 ≠ 55)]
      exact rowp (by rw [sU_row _ _ _ (by omega)]; exact s4)
    · exact rowp (by rw [sU_row _ _ _ (by omega), sU_row _ _ _ (by omega), sU_row _ _ _ (by omega)]; exact s5)
    · rw [sU_ne (by omega), sU_ne (by omega), sU_ne (by omega), sU_ne (by omega), sU_ne (by omega)]; exact s6
    · rw [sU_ne (by omega), sU_ne (by omega), sU_ne (by omega), sU_ne (by omega), sU_ne (by omega)]; exact s7
    · rw [sU_ne (by omega), sU_ne (by omega), sU_ne (by omega), sU_ne (by omega), sU_ne (by omega)]; exact s8
    · rw [sU_ne (by omega), sU_ne (by omega), sU_ne (by omega), sU_ne (by omega), sU_ne (by omega)]; exact s9
    · rw [sU_ne (by omega), sU_ne (by omega), sU_ne (by omega), sU_ne (by omega), sU_ne (by omega)]; exact s0
theorem op_stop {n nc : Nat} {g gB : sg} (h : kRl n nc g g) (t r : Int32) (hB : gB = if kd2 (inn t 0 3 && inn r 0 5) (!bq (g 3 t.toNatClampNeg) r) = 0 then sU (sU g 3 t.toNatClampNeg (g 3 t.toNatClampNeg ||| ((1 : Int32) <<< (r &&& 31)))) 40 0 (bits (g 3 t.toNatClampNeg ||| ((1 : Int32) <<< (r &&& 31)))) else g) :
    opR n nc n nc g gB (kd2 (inn t 0 3 && inn r 0 5) (!bq (g 3 t.toNatClampNeg) r)) (bits (g 3 t.toNatClampNeg ||| ((1 : Int32) <<< (r &&& 31)))) (kd2 (inn t 0 3 && inn r 0 5) (!bq (gB 56 t.toNatClampNeg) r)) (bits (gB 56 t.toNatClampNeg ||| ((1 : Int32) <<< (r &&& 31)))) (mk (kd2 (inn t 0 3 && inn r 0 5) (!bq (gB 56 t.toNatClampNeg) r)) (sU (sU gB 9 0 0) 56 t.toNatClampNeg (gB 56 t.toNatClampNeg ||| ((1 : Int32) <<< (r &&& 31)))) gB) := by
  refine op_mk (fun g' => kd2 (inn t 0 3 && inn r 0 5) (!bq (g' 56 t.toNatClampNeg) r)) (fun g' => bits (g' 56 t.toNatClampNeg ||| ((1 : Int32) <<< (r &&& 31)))) (fun g' => sU (sU g' 9 0 0) 56 t.toNatClampNeg (g' 56 t.toNatClampNeg ||| ((1 : Int32) <<< (r &&& 31)))) h hB (fun g' hr => by rw [hr.2.1.2.2.1]) (fun _ => mE.sw (by omega)) (fun _ g' hr _ => by rw [hr.2.1.2.2.1]) (fun _ g' e => e.t.u (by rw [e 56 (by omega) (by omega) (by omega)])) (fun _ g' => ((cX.rf g').m (by omega)).m (by omega)) (fun _ => ?_) (fun c => ?_)
  · show sU (sU g 9 0 0) 56 _ _ 9 0 = 0
    rw [sU_ne (by omega), sU_s]
  · obtain ⟨hN, ⟨s1, s2, s3, s4, s5, s6, s7, s8, s9, s0⟩, ⟨v1, v2, v3, v4⟩, -⟩ := id h
    obtain ⟨c1, c2⟩ := kd2_0.mp c
    have ht := inn_vp (N := 4) (and_l c1) (by decide)
    have hr := inn_vp (N := 6) (and_r c1) (by decide)
    refine h.g (fun k hk => ?_) (fun k h1 h2 => ?_) ((hN.c (by omega)).m (by omega) |>.m (by omega)) ⟨?_, ?_, ?_, ?_, ?_, ?_, ?_, ?_, ?_, ?_⟩ ⟨?_, ?_, ?_, ?_⟩
    · rw [sU_row _ _ _ (by omega)]
    · rw [sU_row _ _ _ (by omega), sU_row _ _ _ (by omega)]
    · rw [sU_row _ _ _ (by omega), sU_row _ _ _ (by omega), sU_row _ _ _ (by omega)]; exact s1
    · rw [sU_row _ _ _ (by omega), sU_row _ _ _ (by omega), sU_row _ _ _ (by omega)]; exact s2
    · rw [s3]
      exact rowp (by rw [sU_row _ _ _ (by omega)]; exact s3)
    · rw [sU_row _ _ _ (by omega), sU_row _ _ _ (by omega), sU_row _ _ _ (by omega)]; exact s4
    · rw [sU_row _ _ _ (by omega), sU_row _ _ _ (by omega), sU_row _ _ _ (by omega)]; exact s5
    · rw [sU_ne (by omega), sU_ne (by omega), sU_ne (by omega)]; exact s6
    · rw [sU_ne (by omega), sU_ne (by omega), sU_ne (by omega)]; exact s7
    · rw [sU_ne (by omega), sU_ne (by omega), sU_ne (by omega)]; exact s8
    · rw [sU_ne (by omega), sU_ne (by omega), sU_ne (by omega)]; exact s9
    · rw [sU_ne (by omega), sU_ne (by omega), sU_ne (by omega)]; exact s0
    · rw [sU_ne (by omega), sU_ne (by omega)]; exact v1
    · rw [sU_ne (by omega), sU_ne (by omega)]; exact v2
    · rw [sU_row _ _ _ (by omega), sU_row _ _ _ (by omega)]; exact v3
    · intro i hi
      refine sU_all (P := sB) ?_ (sB_or (v4 _ (vp_lt ht)) (sB_pow hr (by decide)))
      rw [sU_row _ _ _ (by omega)]
      exact v4 i hi
theorem op_threshold {n nc : Nat} {g gB : sg} (h : kRl n nc g g) (q : Int32) (hB : gB = if kd1 (inn q 1 200) = 0 then sU (sU g 0 11 q) 40 0 (g 0 11) else g) :
    opR n nc n nc g gB (kd1 (inn q 1 200)) (g 0 11) (kd1 (inn q 1 200)) (gB 9 7) (mk (kd1 (inn q 1 200)) (sU (sU gB 9 0 0) 9 7 q) gB) := by
  refine op_mk (fun _ => kd1 (inn q 1 200)) (fun g' => g' 9 7) (fun g' => sU (sU g' 9 0 0) 9 7 q) h hB (fun _ _ => rfl) (fun _ => mE.sw (by omega)) (fun _ g' hr _ => hr.th.symm) (fun _ g' e => e.t.u rfl) (fun _ g' => ((cX.rf g').m (by omega)).m (by omega)) (fun _ => ?_) (fun c => ?_)
  · show sU (sU g 9 0 0) 9 7 q 9 0 = 0
    rw [sU_ne (by omega), sU_s]
  · obtain ⟨hN, hS, ⟨v1, v2, v3, v4⟩, -⟩ := id h
    have c1 := inn_toInt (kd1_0.mp c)
    have e1 : (1 : Int32).toInt = 1 := rfl
    refine h.g (fun k hk => ?_) (fun k h1 h2 => ?_) ((hN.c (by omega)).m (by omega) |>.m (by omega)) ((hS.m (by omega)).p (by omega)) ⟨?_, ?_, ?_, ?_⟩
    · rw [sU_row _ _ _ (by omega)]
    · rw [sU_row _ _ _ (by omega), sU_row _ _ _ (by omega)]
    · rw [sU_ne (by omega), sU_ne (by omega)]; exact v1
    · rw [sU_s]; omega
    · rw [sU_row _ _ _ (by omega), sU_row _ _ _ (by omega)]; exact v3
    · rw [sU_row _ _ _ (by omega), sU_row _ _ _ (by omega)]; exact v4
/-! what is asked -/
theorem op_fit {n nc : Nat} {g gB : sg} (h : kRl n nc g g) (x y : Int32) (hB : gB = if kd1 (isF n x && isF nc y) = 0 then sU g 40 0 (cSc g x.toNatClampNeg y.toNatClampNeg) else g) :
    opR n nc n nc g gB (kd1 (isF n x && isF nc y)) (cSc g x.toNatClampNeg y.toNatClampNeg) (kd1 (isF n x && isF nc y)) (mSc gB x.toNatClampNeg y.toNatClampNeg) (mk (kd1 (isF n x && isF nc y)) (sU gB 9 0 0) gB) := by
  refine op_ask (fun _ => kd1 (isF n x && isF nc y)) (fun g' => mSc g' x.toNatClampNeg y.toNatClampNeg) h hB (fun _ _ => rfl) (mE.rf g) (cE.rf g) (fun c g' hr _ => ?_)
  have c1 := kd1_0.mp c
  exact (hr.sc (isF_lt (and_l c1) h.n30) (isF_lt (and_r c1) (Nat.le_trans h.c20 (by decide)))).symm
theorem op_isProven {n nc : Nat} {g gB : sg} (h : kRl n nc g g) (x y : Int32) (hB : gB = if kd1 (isF n x && isF nc y) = 0 then sU g 40 0 (b2 (cPrv g x.toNatClampNeg y.toNatClampNeg)) else g) :
    opR n nc n nc g gB (kd1 (isF n x && isF nc y)) (b2 (cPrv g x.toNatClampNeg y.toNatClampNeg)) (kd1 (isF n x && isF nc y)) (b2 (mPrv gB x.toNatClampNeg y.toNatClampNeg)) (mk (kd1 (isF n x && isF nc y)) (sU gB 9 0 0) gB) := by
  refine op_ask (fun _ => kd1 (isF n x && isF nc y)) (fun g' => b2 (mPrv g' x.toNatClampNeg y.toNatClampNeg)) h hB (fun _ _ => rfl) (mE.rf g) (cE.rf g) (fun c g' hr _ => ?_)
  have c1 := kd1_0.mp c
  show b2 (mPrv g' x.toNatClampNeg y.toNatClampNeg) = _
  rw [hr.prv (isF_lt (and_l c1) h.n30) (isF_lt (and_r c1) (Nat.le_trans h.c20 (by decide)))]
theorem op_isDue {n nc : Nat} {g gB : sg} (h : kRl n nc g g) (x : Int32) (hB : gB = if kd1 (isF n x) = 0 then sU g 40 0 (b2 (cOver g nc x.toNatClampNeg)) else g) :
    opR n nc n nc g gB (kd1 (isF n x)) (b2 (cOver g nc x.toNatClampNeg)) (kd1 (isF n x)) (b2 (mOver gB nc x.toNatClampNeg)) (mk (kd1 (isF n x)) (sU gB 9 0 0) gB) := by
  refine op_ask (fun _ => kd1 (isF n x)) (fun g' => b2 (mOver g' nc x.toNatClampNeg)) h hB (fun _ _ => rfl) (mE.rf g) (cE.rf g) (fun c g' hr _ => ?_)
  show b2 (mOver g' nc x.toNatClampNeg) = _
  rw [hr.over (isF_lt (kd1_0.mp c) h.n30)]
theorem op_ofFind {n nc : Nat} {g gB : sg} (h : kRl n nc g g) (x what : Int32) (hB : gB = if kd2 (isF n x) (inn what 0 4) = 0 then sU g 40 0 (if what = nI 0 then g (100 + 3 * x.toNatClampNeg) 9 else if what = nI 1 then g (100 + 3 * x.toNatClampNeg) 10 else if what = nI 2 then g (100 + 3 * x.toNatClampNeg) 11 else if what = nI 3 then g (100 + 3 * x.toNatClampNeg) 8 else g (100 + 3 * x.toNatClampNeg) 7) else g) :
    opR n nc n nc g gB (kd2 (isF n x) (inn what 0 4)) (if what = nI 0 then g (100 + 3 * x.toNatClampNeg) 9 else if what = nI 1 then g (100 + 3 * x.toNatClampNeg) 10 else if what = nI 2 then g (100 + 3 * x.toNatClampNeg) 11 else if what = nI 3 then g (100 + 3 * x.toNatClampNeg) 8 else g (100 + 3 * x.toNatClampNeg) 7) (kd2 (isF n x) (inn what 0 4)) (mOf gB x.toNatClampNeg what) (mk (kd2 (isF n x) (inn what 0 4)) (sU gB 9 0 0) gB) := by
  refine op_ask (fun _ => kd2 (isF n x) (inn what 0 4)) (fun g' => mOf g' x.toNatClampNeg what) h hB (fun _ _ => rfl) (mE.rf g) (cE.rf g) (fun c g' hr _ => ?_)
  have hi := isF_lt (kd2_0.mp c).1 h.n30
  show mOf g' x.toNatClampNeg what = _
  rw [hr.F hi 9 65 (by decide) rfl (by decide), hr.F hi 11 68 (by decide) rfl (by decide), hr.F hi 8 62 (by decide) rfl (by decide), hr.F hi 7 72 (by decide) rfl (by decide), hr.rm hi]
  unfold mOf
  congr 1
  by_cases a : g' 65 x.toNatClampNeg = 1
  · rw [if_pos a, if_pos (Or.inl a)]
  · rw [if_neg a]
    by_cases b : g' 65 x.toNatClampNeg = 2
    · rw [if_pos b, if_pos (Or.inr b)]
    · rw [if_neg b, if_neg (show ¬ (g' 65 x.toNatClampNeg = 1 ∨ g' 65 x.toNatClampNeg = 2) from fun q => q.elim a b)]
theorem op_hand {n nc : Nat} {g gB : sg} (h : kRl n nc g g) (x place : Int32) (isDay : Bool) (hB : gB = if kd1 (isF n x && inn place 0 (g (100 + 3 * x.toNatClampNeg) 7 - 1)) = 0 then sU g 40 0 (if isDay = true then g (100 + 3 * x.toNatClampNeg + 2) place.toNatClampNeg else g (100 + 3 * x.toNatClampNeg + 1) place.toNatClampNeg) else g) :
    opR n nc n nc g gB (kd1 (isF n x && inn place 0 (g (100 + 3 * x.toNatClampNeg) 7 - 1))) (if isDay = true then g (100 + 3 * x.toNatClampNeg + 2) place.toNatClampNeg else g (100 + 3 * x.toNatClampNeg + 1) place.toNatClampNeg) (kd1 (isF n x && inn place 0 (gB 72 x.toNatClampNeg - 1))) (if isDay = true then gB 74 (12 * x.toNatClampNeg + place.toNatClampNeg) else gB 73 (12 * x.toNatClampNeg + place.toNatClampNeg)) (mk (kd1 (isF n x && inn place 0 (gB 72 x.toNatClampNeg - 1))) (sU gB 9 0 0) gB) := by
  have hK : ∀ g', kRl n nc g g' → kd1 (isF n x && inn place 0 (g' 72 x.toNatClampNeg - 1)) = kd1 (isF n x && inn place 0 (g (100 + 3 * x.toNatClampNeg) 7 - 1)) := by
    intro g' hr
    refine kd1_cg ?_
    cases c : isF n x with
    | false => rw [Bool.false_and, Bool.false_and]
    | true => rw [hr.F (isF_lt c h.n30) 7 72 (by decide) rfl (by decide)]
  refine op_ask (fun g' => kd1 (isF n x && inn place 0 (g' 72 x.toNatClampNeg - 1))) (fun g' => if isDay = true then g' 74 (12 * x.toNatClampNeg + place.toNatClampNeg) else g' 73 (12 * x.toNatClampNeg + place.toNatClampNeg)) h hB hK (mE.rf g) (cE.rf g) (fun c g' hr _ => ?_)
  rw [← hK g' hr] at c
  have c1 := kd1_0.mp c
  have hi := isF_lt (and_l c1) h.n30
  obtain ⟨k, k1, k2, k3⟩ := hr.2.2.2.2.2.1 _ hi
  obtain ⟨p, p1, p2, p3⟩ := hand_ix (and_r c1) k2 k1
  have hp : place.toNatClampNeg = p := by rw [p2, p3]
  show (if isDay = true then g' 74 (12 * x.toNatClampNeg + place.toNatClampNeg) else g' 73 (12 * x.toNatClampNeg + place.toNatClampNeg)) = _
  rw [hp, (k3 p p1).1, (k3 p p1).2]
theorem op_ofClaim {n nc : Nat} {g gB : sg} (h : kRl n nc g g) (x what : Int32) (hB : gB = if kd2 (isF nc x) (inn what 0 3) = 0 then sU g 40 0 (if what = nI 0 then g (200 + x.toNatClampNeg) 7 else if what = nI 1 then g (200 + x.toNatClampNeg) 5 else if what = nI 2 then g (200 + x.toNatClampNeg) 6 else g (200 + x.toNatClampNeg) 8) else g) :
    opR n nc n nc g gB (kd2 (isF nc x) (inn what 0 3)) (if what = nI 0 then g (200 + x.toNatClampNeg) 7 else if what = nI 1 then g (200 + x.toNatClampNeg) 5 else if what = nI 2 then g (200 + x.toNatClampNeg) 6 else g (200 + x.toNatClampNeg) 8) (kd2 (isF nc x) (inn what 0 3)) (mOc gB x.toNatClampNeg what) (mk (kd2 (isF nc x) (inn what 0 3)) (sU gB 9 0 0) gB) := by
  refine op_ask (fun _ => kd2 (isF nc x) (inn what 0 3)) (fun g' => mOc g' x.toNatClampNeg what) h hB (fun _ _ => rfl) (mE.rf g) (cE.rf g) (fun c g' hr _ => ?_)
  have hj := isF_lt (kd2_0.mp c).1 (Nat.le_trans h.c20 (by decide))
  show mOc g' x.toNatClampNeg what = _
  rw [hr.C hj 7 82 (by decide) rfl (by decide), hr.C hj 5 80 (by decide) rfl (by decide), hr.C hj 6 81 (by decide) rfl (by decide), hr.C hj 8 84 (by decide) rfl (by decide)]
  rfl
theorem op_money {n nc : Nat} {g gB : sg} (h : kRl n nc g g) (what : Int32) (hB : gB = if kd1 (inn what 0 2) = 0 then sU g 40 0 (if what = nI 0 then g 0 12 else if what = nI 1 then g 0 13 else g 0 14) else g) :
    opR n nc n nc g gB (kd1 (inn what 0 2)) (if what = nI 0 then g 0 12 else if what = nI 1 then g 0 13 else g 0 14) (kd1 (inn what 0 2)) (mMo gB what) (mk (kd1 (inn what 0 2)) (sU gB 9 0 0) gB) := by
  refine op_ask (fun _ => kd1 (inn what 0 2)) (fun g' => mMo g' what) h hB (fun _ _ => rfl) (mE.rf g) (cE.rf g) (fun c g' hr _ => ?_)
  show mMo g' what = _
  rw [hr.2.1.2.2.2.2.2.2.2.1, hr.2.1.2.2.2.2.2.2.2.2.1, hr.2.1.2.2.2.2.2.2.2.2.2]
  rfl
theorem op_audit {n nc : Nat} {g gB : sg} (h : kRl n nc g g) (room : Int32) (hB : gB = if kd1 (inn room 0 5) = 0 then sU g 40 0 (auC g room n 30) else g) :
    opR n nc n nc g gB (kd1 (inn room 0 5)) (auC g room n 30) (kd1 (inn room 0 5)) (mAu gB room n) (mk (kd1 (inn room 0 5)) (sU gB 9 0 0) gB) := by
  refine op_ask (fun _ => kd1 (inn room 0 5)) (fun g' => mAu g' room n) h hB (fun _ _ => rfl) (mE.rf g) (cE.rf g) (fun c g' hr _ => ?_)
  have key : ∀ k, k ≤ n → auC g room n k = mAu g' room k := by
    intro k
    induction k with
    | zero => intro _; rfl
    | succ k ih =>
      intro hk
      have ih := ih (by omega)
      have e1 := hr.F (i := k) (by omega) 9 65 (by decide) rfl (by decide)
      have e2 := hr.rm (i := k) (by omega)
      show (if k < n then (if g (100 + 3 * k) 9 = 0 then (if g (100 + 3 * k) 10 = room then auC g room n k ||| ((1 : Int32) <<< (nI k &&& 31)) else auC g room n k) else auC g room n k) else auC g room n k) = mAu g' room k ||| (if g' 65 k = 0 then (if g' 66 k = room then (1 : Int32) <<< (nI k &&& 31) else 0) else 0)
      rw [if_pos (by omega), e1, ih]
      by_cases a : g' 65 k = 0
      · rw [if_neg (by rw [a]; decide)] at e2
        rw [if_pos a, if_pos a, e2]
        by_cases b : g' 66 k = room
        · rw [if_pos b, if_pos b]
        · rw [if_neg b, if_neg b, Int32.or_zero]
      · rw [if_neg a, if_neg a, Int32.or_zero]
  have up : ∀ d, auC g room n (n + d) = auC g room n n := by
    intro d
    induction d with
    | zero => rfl
    | succ d ih =>
      show (if n + d < n then _ else auC g room n (n + d)) = _
      rw [if_neg (by omega), ih]
  have hn := h.n30
  show mAu g' room n = auC g room n 30
  rw [← key n (Nat.le_refl n), ← up (30 - n), show n + (30 - n) = 30 from by omega]
theorem cE.ns (g : sg) (n j K : Nat) : cE g (cNS g n j K) := fun k hk => cNS_row g n j K (by omega)
theorem mE.ns (g : sg) (n j K : Nat) : mE g (cNS g n j K) := fun k h1 h2 h3 => cNS_row g n j K (by omega)
theorem mE.t0 {g g' : sg} (e : mE g g') : mE (sU g 9 0 0) (sU g' 9 0 0) := e.u rfl
theorem op_candidate {n nc : Nat} {g gB : sg} (h : kRl n nc g g) (x place : Int32) (hB : gB = if kd1 (isF nc x && !decide (place < 0)) = 0 then sU (cNS g n x.toNatClampNeg 30) 40 0 (fstI (cdB (cNS g n x.toNatClampNeg 30) place) 30) else g) :
    opR n nc n nc g gB (kd1 (isF nc x && !decide (place < 0))) (fstI (cdB (cNS g n x.toNatClampNeg 30) place) 30) (kd1 (isF nc x && !decide (place < 0))) (mCan (sU gB 9 0 0) n x.toNatClampNeg place n) (mk (kd1 (isF nc x && !decide (place < 0))) (sU gB 9 0 0) gB) := by
  refine op_ask (fun _ => kd1 (isF nc x && !decide (place < 0))) (fun g' => mCan (sU g' 9 0 0) n x.toNatClampNeg place n) h hB (fun _ _ => rfl) (mE.ns g n _ 30) (cE.ns g n _ 30) (fun c g' hr _ => ?_)
  exact ((hr.t 0).can (isF_lt (and_l (kd1_0.mp c)) (Nat.le_trans h.c20 (by decide)))).symm
theorem op_question {n nc : Nat} {g gB : sg} (h : kRl n nc g g) (x : Int32) (hB : gB = if kd1 (isF nc x) = 0 then sU (cNS g n x.toNatClampNeg 30) 40 0 ((cQ (cNS g n x.toNatClampNeg 30) n (g (200 + x.toNatClampNeg) 5) (cntB (askN g n x.toNatClampNeg) 30) 24).1) else g) :
    opR n nc n nc g gB (kd1 (isF nc x)) ((cQ (cNS g n x.toNatClampNeg 30) n (g (200 + x.toNatClampNeg) 5) (cntB (askN g n x.toNatClampNeg) 30) 24).1) (kd1 (isF nc x)) ((mQ (sU gB 9 0 0) n x.toNatClampNeg 24).1) (mk (kd1 (isF nc x)) (sU gB 9 0 0) gB) := by
  refine op_ask (fun _ => kd1 (isF nc x)) (fun g' => (mQ (sU g' 9 0 0) n x.toNatClampNeg 24).1) h hB (fun _ _ => rfl) (mE.ns g n _ 30) (cE.ns g n _ 30) (fun c g' hr _ => ?_)
  exact ((hr.t 0).q (isF_lt (kd1_0.mp c) (Nat.le_trans h.c20 (by decide)))).symm
