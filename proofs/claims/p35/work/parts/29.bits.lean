/-! how many bits: by the sum, by the folds -/
def nvl (k : Nat) : List Nat → Nat
  | [] => 0
  | f :: fs => f + 2 ^ k * nvl k fs
theorem nand_f (k : Nat) {r s q m : Nat} (hr : r < 2 ^ k) (hs : s < 2 ^ k) : (r + 2 ^ k * q) &&& (s + 2 ^ k * m) = (r &&& s) + 2 ^ k * (q &&& m) := by
  have hp : 0 < 2 ^ k := Nat.two_pow_pos k
  have e1 : (r + 2 ^ k * q) % 2 ^ k = r := by rw [Nat.add_mul_mod_self_left, Nat.mod_eq_of_lt hr]
  have e2 : (s + 2 ^ k * m) % 2 ^ k = s := by rw [Nat.add_mul_mod_self_left, Nat.mod_eq_of_lt hs]
  have e3 : (r + 2 ^ k * q) / 2 ^ k = q := by rw [Nat.add_mul_div_left _ _ hp, Nat.div_eq_of_lt hr, Nat.zero_add]
  have e4 : (s + 2 ^ k * m) / 2 ^ k = m := by rw [Nat.add_mul_div_left _ _ hp, Nat.div_eq_of_lt hs, Nat.zero_add]
  have h1 := Nat.and_mod_two_pow (a := r + 2 ^ k * q) (b := s + 2 ^ k * m) (n := k)
  have h2 := Nat.and_div_two_pow (a := r + 2 ^ k * q) (b := s + 2 ^ k * m) (n := k)
  rw [e1, e2] at h1
  rw [e3, e4] at h2
  have h3 := Nat.div_add_mod ((r + 2 ^ k * q) &&& (s + 2 ^ k * m)) (2 ^ k)
  rw [h1, h2] at h3
  omega
theorem nvl_and (k s : Nat) (hs : s < 2 ^ k) : ∀ (fs : List Nat) (n : Nat), (∀ f ∈ fs, f < 2 ^ k) → fs.length ≤ n → nvl k fs &&& nvl k (List.replicate n s) = nvl k (fs.map (· &&& s)) := by
  intro fs
  induction fs with
  | nil => intro n _ _; exact Nat.zero_and _
  | cons f fs ih =>
    intro n h hn
    cases n with
    | zero => exact absurd hn (by simp)
    | succ n =>
      have := ih n (fun x hx => h x (List.mem_cons_of_mem _ hx)) (by simpa using hn)
      show (f + 2 ^ k * nvl k fs) &&& (s + 2 ^ k * nvl k (List.replicate n s)) = (f &&& s) + 2 ^ k * nvl k (fs.map (· &&& s))
      rw [nand_f k (h f List.mem_cons_self) hs, this]
theorem m_1 : ∀ r, r < 4 → r &&& 1 = r % 2 := by decide +kernel
theorem m_3 : ∀ r, r < 16 → r &&& 3 = r % 4 := by decide +kernel
theorem m_15 : ∀ r, r < 256 → r &&& 15 = r % 16 := by decide +kernel
theorem m1' {a b : Nat} (ha : a ≤ 1) (hb : b ≤ 1) : (a + 2 * b) &&& 1 = a := by
  rw [m_1 _ (by omega)]
  omega
theorem m3' {a b : Nat} (ha : a < 4) (hb : b < 4) : (a + 4 * b) &&& 3 = a := by
  rw [m_3 _ (by omega)]
  omega
theorem m15' {a b : Nat} (ha : a < 16) (hb : b < 16) : (a + 16 * b) &&& 15 = a := by
  rw [m_15 _ (by omega)]
  omega
theorem nbD_v {C e0 e1 e2 : Nat} (h0 : e0 ≤ 8) (h1 : e1 ≤ 8) (h2 : e2 ≤ 8) (hC : C = e0 + 256 * (e1 + 256 * e2)) : (C + C / 256 + (C + C / 256) / 65536) % 64 = e0 + e1 + e2 := by
  have q1 : C / 256 = e1 + 256 * e2 := by omega
  rw [q1]
  have q2 : (C + (e1 + 256 * e2)) / 65536 = e2 := by omega
  rw [q2, hC]
  omega
def nsum (X : Nat) : Nat → Nat
  | 0 => 0
  | k + 1 => nsum X k + X / 2 ^ k % 2
def nval (b : Nat → Nat) : Nat → Nat
  | 0 => 0
  | k + 1 => nval b k + 2 ^ k * b k
def ncnt (b : Nat → Nat) : Nat → Nat
  | 0 => 0
  | k + 1 => ncnt b k + b k
theorem nval_of (X : Nat) : ∀ K, X % 2 ^ K = nval (fun k => X / 2 ^ k % 2) K
  | 0 => by simp [nval, Nat.mod_one]
  | K + 1 => by rw [Nat.mod_pow_succ, nval_of X K]; rfl
theorem nsum_of (X : Nat) : ∀ K, nsum X K = ncnt (fun k => X / 2 ^ k % 2) K
  | 0 => rfl
  | K + 1 => by unfold nsum ncnt; rw [nsum_of X K]
theorem nI_and {a b : Nat} (ha : a < 2 ^ 32) (hb : b < 2 ^ 32) : nI a &&& nI b = nI (a &&& b) := by
  have hab : a &&& b < 2 ^ 32 := Nat.lt_of_le_of_lt Nat.and_le_left ha
  apply Int32.toBitVec_inj.mp
  apply BitVec.eq_of_toNat_eq
  rw [Int32.toBitVec_and, BitVec.toNat_and, pk_tn ha, pk_tn hb, pk_tn hab]
def nbA (X : Nat) : Nat := X - (X / 2 &&& 1431655765)
def nbB (X : Nat) : Nat := (X &&& 858993459) + (X / 4 &&& 858993459)
def nbC (X : Nat) : Nat := (X + X / 16) &&& 252645135
theorem sB_nat {x : Int32} (h : sB x) : ∃ X : Nat, X < 2 ^ 24 ∧ x = nI X := by
  refine ⟨x.toBitVec.toNat, ?_, ?_⟩
  · exact Nat.lt_pow_two_of_testBit _ (fun i hi => h i hi)
  · apply Int32.toBitVec_inj.mp
    apply BitVec.eq_of_toNat_eq
    rw [pk_tn x.toBitVec.isLt]
theorem bsum_nat {X : Nat} (h : X < 2 ^ 31) : ∀ K, K ≤ 32 → bsum (nI X) K = nI (nsum X K)
  | 0, _ => rfl
  | K + 1, hK => by
    unfold bsum nsum
    rw [bsum_nat h K (by omega), pk_shrN h (nI K &&& 31) K (s_l K (by omega)), pk_andN (n := X / 2 ^ K) (m := 1) (Nat.lt_of_le_of_lt (Nat.div_le_self _ _) (by omega)) 1 (by decide), nI_add]
theorem m5_v : (1431655765 : Nat) = nvl 2 (List.replicate 16 1) := by decide +kernel
theorem m3_v : (858993459 : Nat) = nvl 4 (List.replicate 8 3) := by decide +kernel
theorem mF_v : (252645135 : Nat) = nvl 8 (List.replicate 4 15) := by decide +kernel
theorem nbA_v {b0 b1 b2 b3 b4 b5 b6 b7 b8 b9 b10 b11 b12 b13 b14 b15 b16 b17 b18 b19 b20 b21 b22 b23 : Nat} (h0 : b0 ≤ 1) (h1 : b1 ≤ 1) (h2 : b2 ≤ 1) (h3 : b3 ≤ 1) (h4 : b4 ≤ 1) (h5 : b5 ≤ 1) (h6 : b6 ≤ 1) (h7 : b7 ≤ 1) (h8 : b8 ≤ 1) (h9 : b9 ≤ 1) (h10 : b10 ≤ 1) (h11 : b11 ≤ 1) (h12 : b12 ≤ 1) (h13 : b13 ≤ 1) (h14 : b14 ≤ 1) (h15 : b15 ≤ 1) (h16 : b16 ≤ 1) (h17 : b17 ≤ 1) (h18 : b18 ≤ 1) (h19 : b19 ≤ 1) (h20 : b20 ≤ 1) (h21 : b21 ≤ 1) (h22 : b22 ≤ 1) (h23 : b23 ≤ 1) :
    nbA (nvl 1 [b0, b1, b2, b3, b4, b5, b6, b7, b8, b9, b10, b11, b12, b13, b14, b15, b16, b17, b18, b19, b20, b21, b22, b23]) = nvl 2 [b0 + b1, b2 + b3, b4 + b5, b6 + b7, b8 + b9, b10 + b11, b12 + b13, b14 + b15, b16 + b17, b18 + b19, b20 + b21, b22 + b23] := by
  have e : nvl 1 [b0, b1, b2, b3, b4, b5, b6, b7, b8, b9, b10, b11, b12, b13, b14, b15, b16, b17, b18, b19, b20, b21, b22, b23] / 2 = nvl 2 [b1 + 2 * b2, b3 + 2 * b4, b5 + 2 * b6, b7 + 2 * b8, b9 + 2 * b10, b11 + 2 * b12, b13 + 2 * b14, b15 + 2 * b16, b17 + 2 * b18, b19 + 2 * b20, b21 + 2 * b22, b23 + 2 * 0] := by
    simp only [nvl, Nat.reducePow]
    omega
  unfold nbA
  rw [e, m5_v, nvl_and 2 1 (by decide) _ 16 (by simp only [List.mem_cons, List.not_mem_nil, or_false, forall_eq_or_imp, forall_eq]; omega) (by simp)]
  simp only [List.map]
  rw [m1' (by omega) (by omega), m1' (by omega) (by omega), m1' (by omega) (by omega), m1' (by omega) (by omega), m1' (by omega) (by omega), m1' (by omega) (by omega), m1' (by omega) (by omega), m1' (by omega) (by omega), m1' (by omega) (by omega), m1' (by omega) (by omega), m1' (by omega) (by omega), m1' (by omega) (by omega)]
  clear e
  refine Nat.sub_eq_of_eq_add ?_
  simp only [nvl, Nat.reducePow]
  clear h0 h1 h2 h3 h4 h5 h6 h7 h8 h9 h10 h11 h12 h13 h14 h15 h16 h17 h18 h19 h20 h21 h22 h23
  omega
theorem nbB_v {c0 c1 c2 c3 c4 c5 c6 c7 c8 c9 c10 c11 : Nat} (h0 : c0 ≤ 2) (h1 : c1 ≤ 2) (h2 : c2 ≤ 2) (h3 : c3 ≤ 2) (h4 : c4 ≤ 2) (h5 : c5 ≤ 2) (h6 : c6 ≤ 2) (h7 : c7 ≤ 2) (h8 : c8 ≤ 2) (h9 : c9 ≤ 2) (h10 : c10 ≤ 2) (h11 : c11 ≤ 2) :
    nbB (nvl 2 [c0, c1, c2, c3, c4, c5, c6, c7, c8, c9, c10, c11]) = nvl 4 [c0 + c1, c2 + c3, c4 + c5, c6 + c7, c8 + c9, c10 + c11] := by
  have e1 : nvl 2 [c0, c1, c2, c3, c4, c5, c6, c7, c8, c9, c10, c11] = nvl 4 [c0 + 4 * c1, c2 + 4 * c3, c4 + 4 * c5, c6 + 4 * c7, c8 + 4 * c9, c10 + 4 * c11] := by
    simp only [nvl, Nat.reducePow]
    omega
  have e2 : nvl 2 [c0, c1, c2, c3, c4, c5, c6, c7, c8, c9, c10, c11] / 4 = nvl 4 [c1 + 4 * c2, c3 + 4 * c4, c5 + 4 * c6, c7 + 4 * c8, c9 + 4 * c10, c11 + 4 * 0] := by
    simp only [nvl, Nat.reducePow]
    omega
  unfold nbB
  rw [e2, e1, m3_v, nvl_and 4 3 (by decide) _ 8 (by simp only [List.mem_cons, List.not_mem_nil, or_false, forall_eq_or_imp, forall_eq]; omega) (by simp), nvl_and 4 3 (by decide) _ 8 (by simp only [List.mem_cons, List.not_mem_nil, or_false, forall_eq_or_imp, forall_eq]; omega) (by simp)]
  simp only [List.map]
  rw [m3' (a := c0) (by omega) (by omega), m3' (a := c2) (by omega) (by omega), m3' (a := c4) (by omega) (by omega), m3' (a := c6) (by omega) (by omega), m3' (a := c8) (by omega) (by omega), m3' (a := c10) (by omega) (by omega), m3' (a := c1) (by omega) (by omega), m3' (a := c3) (by omega) (by omega), m3' (a := c5) (by omega) (by omega), m3' (a := c7) (by omega) (by omega), m3' (a := c9) (by omega) (by omega), m3' (a := c11) (by omega) (by omega)]
  clear e1 e2
  simp only [nvl, Nat.reducePow]
  omega
theorem nbC_v {d0 d1 d2 d3 d4 d5 : Nat} (h0 : d0 ≤ 4) (h1 : d1 ≤ 4) (h2 : d2 ≤ 4) (h3 : d3 ≤ 4) (h4 : d4 ≤ 4) (h5 : d5 ≤ 4) : nbC (nvl 4 [d0, d1, d2, d3, d4, d5]) = nvl 8 [d0 + d1, d2 + d3, d4 + d5] := by
  have e : nvl 4 [d0, d1, d2, d3, d4, d5] + nvl 4 [d0, d1, d2, d3, d4, d5] / 16 = nvl 8 [(d0 + d1) + 16 * (d1 + d2), (d2 + d3) + 16 * (d3 + d4), (d4 + d5) + 16 * d5] := by
    simp only [nvl, Nat.reducePow]
    omega
  unfold nbC
  rw [e, mF_v, nvl_and 8 15 (by decide) _ 4 (by simp only [List.mem_cons, List.not_mem_nil, or_false, forall_eq_or_imp, forall_eq]; omega) (by simp)]
  simp only [List.map]
  rw [m15' (by omega) (by omega), m15' (by omega) (by omega), m15' (by omega) (by omega)]
theorem sh1_n {X : Nat} (h : X < 2 ^ 32) (s : Int32) (k : Nat) (hs : ((s.toUInt32 &&& Int32.toUInt32 31).toBitVec % 32).toNat = k) : sh1 (nI X) s = nI (X / 2 ^ k) := pk_ushrN h s k hs
theorem bc_bits {x : Int32} (h : sB x) : bits x = bc x := by
  obtain ⟨X, hX, rfl⟩ := sB_nat h
  have hb : ∀ k, X / 2 ^ k % 2 ≤ 1 := fun k => by omega
  have hs : bits (nI X) = nI (nsum X 24) := bsum_nat (by omega) 24 (by decide)
  have hv := nval_of X 24
  rw [Nat.mod_eq_of_lt hX] at hv
  rw [hs, nsum_of]
  generalize hbb : (fun k => X / 2 ^ k % 2) = b at hv ⊢
  have hb1 : ∀ k, b k ≤ 1 := fun k => by rw [← hbb]; exact hb k
  have eX : X = nvl 1 [b 0, b 1, b 2, b 3, b 4, b 5, b 6, b 7, b 8, b 9, b 10, b 11, b 12, b 13, b 14, b 15, b 16, b 17, b 18, b 19, b 20, b 21, b 22, b 23] := by
    rw [hv]
    simp only [nvl, nval, Nat.reducePow]
    omega
  have hA := nbA_v (hb1 0) (hb1 1) (hb1 2) (hb1 3) (hb1 4) (hb1 5) (hb1 6) (hb1 7) (hb1 8) (hb1 9) (hb1 10) (hb1 11) (hb1 12) (hb1 13) (hb1 14) (hb1 15) (hb1 16) (hb1 17) (hb1 18) (hb1 19) (hb1 20) (hb1 21) (hb1 22) (hb1 23)
  rw [← eX] at hA
  have t0 := hb1 0; have t1 := hb1 1; have t2 := hb1 2; have t3 := hb1 3; have t4 := hb1 4; have t5 := hb1 5; have t6 := hb1 6; have t7 := hb1 7; have t8 := hb1 8; have t9 := hb1 9; have t10 := hb1 10; have t11 := hb1 11; have t12 := hb1 12; have t13 := hb1 13; have t14 := hb1 14; have t15 := hb1 15; have t16 := hb1 16; have t17 := hb1 17; have t18 := hb1 18; have t19 := hb1 19; have t20 := hb1 20; have t21 := hb1 21; have t22 := hb1 22; have t23 := hb1 23
  have eA : bcA (nI X) = nI (nbA X) := by
    have h1 : X / 2 &&& 1431655765 ≤ X := Nat.le_trans Nat.and_le_left (Nat.div_le_self _ _)
    unfold bcA nbA
    rw [sh1_n (by omega) 1 1 (by decide), show (1431655765 : Int32) = nI 1431655765 from rfl, nI_and (by omega) (by decide), pk_sub h1]
  have hB := nbB_v (c0 := b 0 + b 1) (c1 := b 2 + b 3) (c2 := b 4 + b 5) (c3 := b 6 + b 7) (c4 := b 8 + b 9) (c5 := b 10 + b 11) (c6 := b 12 + b 13) (c7 := b 14 + b 15) (c8 := b 16 + b 17) (c9 := b 18 + b 19) (c10 := b 20 + b 21) (c11 := b 22 + b 23) (by omega) (by omega) (by omega) (by omega) (by omega) (by omega) (by omega) (by omega) (by omega) (by omega) (by omega) (by omega)
  rw [← hA] at hB
  have lA : nbA X < 2 ^ 24 := Nat.lt_of_le_of_lt (Nat.sub_le _ _) hX
  have eB : bcB (nI (nbA X)) = nI (nbB (nbA X)) := by
    unfold bcB nbB
    rw [sh1_n (by omega) 2 2 (by decide), show (858993459 : Int32) = nI 858993459 from rfl, nI_and (by omega) (by decide), nI_and (Nat.lt_of_le_of_lt (Nat.div_le_self _ _) (by omega)) (by decide), nI_add]
  have hC := nbC_v (d0 := b 0 + b 1 + (b 2 + b 3)) (d1 := b 4 + b 5 + (b 6 + b 7)) (d2 := b 8 + b 9 + (b 10 + b 11)) (d3 := b 12 + b 13 + (b 14 + b 15)) (d4 := b 16 + b 17 + (b 18 + b 19)) (d5 := b 20 + b 21 + (b 22 + b 23)) (by omega) (by omega) (by omega) (by omega) (by omega) (by omega)
  rw [← hB] at hC
  have lB : nbB (nbA X) < 2 ^ 24 := by
    rw [hB]
    simp only [nvl, Nat.reducePow]
    omega
  generalize nbB (nbA X) = B at hC lB eB
  have eC : bcC (nI B) = nI (nbC B) := by
    unfold bcC nbC
    rw [sh1_n (by omega) 4 4 (by decide), nI_add, show (252645135 : Int32) = nI 252645135 from rfl, nI_and (by omega) (by decide)]
  have eT : ncnt b 24 = b 0 + b 1 + b 2 + b 3 + b 4 + b 5 + b 6 + b 7 + b 8 + b 9 + b 10 + b 11 + b 12 + b 13 + b 14 + b 15 + b 16 + b 17 + b 18 + b 19 + b 20 + b 21 + b 22 + b 23 := by
    simp only [ncnt]
    omega
  generalize nbC B = C at hC eC
  simp only [nvl, Nat.reducePow] at hC
  have lC : C < 2 ^ 24 := by omega
  unfold bc
  rw [eA, eB, eC]
  unfold bcE bcD
  rw [sh1_n (by omega) 8 8 (by decide), nI_add, sh1_n (by omega) 16 16 (by decide), nI_add, pk_andN (m := 63) (by omega) 6 (by decide), eT]
  congr 1
  simp only [Nat.reducePow]
  rw [nbD_v (e0 := b 0 + b 1 + (b 2 + b 3) + (b 4 + b 5 + (b 6 + b 7))) (e1 := b 8 + b 9 + (b 10 + b 11) + (b 12 + b 13 + (b 14 + b 15))) (e2 := b 16 + b 17 + (b 18 + b 19) + (b 20 + b 21 + (b 22 + b 23))) (by omega) (by omega) (by omega) (by omega)]
  omega
