/-! What isQuiet asks: words told again, a hold told twice, a nearness turned twice change nothing. -/
theorem low_in {x : Int32} {k : Nat} (h0 : 0 < k) (hk : k < 2 ^ 31) : ∃ m : Nat, m < k ∧ lowF x (nI k) = nI m := by
  obtain ⟨j, hj, e⟩ := pk_andE x (m := 2147483647) 31 (by decide +kernel)
  refine ⟨j % k, Nat.mod_lt _ h0, ?_⟩
  unfold lowF
  rw [e]
  exact pk_rem (by omega) h0 hk
/-- the two words: another one than the first -/
theorem two_w (x y : Int32) : ∃ a b : Nat, a < 24 ∧ b < 24 ∧ a ≠ b ∧ lowF x 24 = nI a ∧ ((lowF x 24 + 1 + lowF y 23) - (lowF x 24 + 1 + lowF y 23) / 24 * 24) = nI b := by
  obtain ⟨a, ha, ea⟩ := low_in (x := x) (k := 24) (by decide) (by decide)
  obtain ⟨c, hc, ec⟩ := low_in (x := y) (k := 23) (by decide) (by decide)
  have ea : lowF x 24 = nI a := ea
  have ec : lowF y 23 = nI c := ec
  refine ⟨a, (a + 1 + c) % 24, ha, Nat.mod_lt _ (by decide), by omega, ea, ?_⟩
  rw [ea, ec, nI_1, nI_add]
  exact pk_rem (a := a + 1 + c) (d := 24) (by omega) (by decide) (by decide)
theorem oc2x (A B C E : Int32) : (if (2 : Int32) = nI 0 then A else if (2 : Int32) = nI 1 then B else if (2 : Int32) = nI 2 then C else E) = C := (if_neg (by decide +kernel)).trans ((if_neg (by decide +kernel)).trans (if_pos (by decide +kernel)))
section QU
variable {n nc : Nat} {g : sg}
/-! near, twice -/
theorem near_K {a b : Nat} (ha : a < 24) (hb : b < 24) (hab : a ≠ b) : kd2 (inn (nI a) 0 23 && inn (nI b) 0 23) (!decide (nI a = nI b)) = 0 := by
  refine kd2_0.mpr ⟨?_, ?_⟩
  · rw [Bool.and_eq_true]
    exact ⟨isF_of (n := 24) ha (by decide), isF_of (n := 24) hb (by decide)⟩
  · rw [decide_eq_false]
    · rfl
    · intro q
      exact hab ((nI_eq (a := a) (b := b) (by omega) (by omega)).mp q)
theorem tb_bt {a b : Nat} (ha : a < 24) (hb : b < 24) : tb g 1 (nI a) (nI b) = !(bt (g 1 a) b) := by
  unfold tb
  rw [cl_nI (by omega)]
  have h := bq_bt (g 1 a ^^^ ((1 : Int32) <<< (nI b &&& 31))) (k := b) (by omega)
  unfold bq at h
  rw [h, b_xor, b_pow (by omega), decide_eq_true rfl]
  cases bt (g 1 a) b <;> rfl
theorem near_ne (h : nSy (g 1)) {a b : Nat} (ha : a < 24) (hb : b < 24) (hab : a ≠ b) : ¬ b2 (tb g 1 (nI a) (nI b)) = b2 (tb (tg g 1 (nI a) (nI b)) 1 (nI b) (nI a)) := by
  have e1 := tb_bt (g := g) ha hb
  have e2 := tb_bt (g := tg g 1 (nI a) (nI b)) hb ha
  rw [tg_K, tr_bt ha hb hab] at e2
  rw [e1, e2, h b a hb ha]
  have d1 : (decide (b = a ∧ a = b) || decide (b = b ∧ a = a)) = true := by simp
  rw [d1]
  cases bt (g 1 a) b <;> decide
theorem near_bk {a b : Nat} (ha : a < 24) (hb : b < 24) (hab : a ≠ b) : tg (tg g 1 (nI a) (nI b)) 1 (nI b) (nI a) = g := by
  funext k
  by_cases e : k = 1
  · subst e
    funext x
    rw [tg_K, tg_K]
    refine b_ext fun y hy => ?_
    rw [tr_bt hb ha (Ne.symm hab), tr_bt ha hb hab]
    have : (decide (x = b ∧ y = a) || decide (x = a ∧ y = b)) = (decide (x = a ∧ y = b) || decide (x = b ∧ y = a)) := Bool.or_comm _ _
    rw [this]
    cases bt (g 1 x) y <;> cases (decide (x = a ∧ y = b) || decide (x = b ∧ y = a)) <;> rfl
  · rw [tg_o _ _ _ e, tg_o _ _ _ e]
/-! a hold, twice -/
theorem hold_y {k : Int32} {b : Int32} (c : kd2 (isF n k) (cHere g k.toNatClampNeg) = 0) : dF_9 n nc g k b = (b2 (!decide (g (100 + 3 * k.toNatClampNeg) 12 = 0)), sU g (100 + 3 * k.toNatClampNeg) 12 (b2 (decide (b = (1 : Int32))))) := oR_y c
theorem hold_n {k : Int32} {b : Int32} (c : ¬ kd2 (isF n k) (cHere g k.toNatClampNeg) = 0) : dF_9 n nc g k b = (-2100000000, g) := oR_n c
theorem sU_sU (g : sg) (k j : Nat) (v w : Int32) : sU (sU g k j v) k j w = sU g k j w := by
  funext k' j'
  unfold sU
  by_cases c : k' = k ∧ j' = j
  · rw [if_pos c, if_pos c]
  · rw [if_neg c, if_neg c, if_neg c]
theorem sU_id (g : sg) (k j : Nat) {v : Int32} (h : g k j = v) : sU g k j v = g := by
  funext k' j'
  unfold sU
  by_cases c : k' = k ∧ j' = j
  · rw [if_pos c, c.1, c.2, h]
  · rw [if_neg c]
def hd2 (n nc : Nat) (g : sg) (k : Int32) : Int32 × sg := dF_9 n nc (dF_9 n nc g k 1).2 k (b2 (decide ((dF_9 n nc g k 1).1 = 1)))
theorem hold_q (h : Inv n nc g) (k : Int32) : (hd2 n nc g k).2 = g ∧ (¬ (hd2 n nc g k).1 < 0 → (hd2 n nc g k).1 = 1) := by
  unfold hd2
  by_cases c : kd2 (isF n k) (cHere g k.toNatClampNeg) = 0
  · obtain ⟨c1, c2⟩ := kd2_0.mp c
    obtain ⟨hi, -⟩ := isF_cl c1 h.n30
    have hz := h.hz _ hi
    rw [hold_y c]
    have hh : kd2 (isF n k) (cHere (sU g (100 + 3 * k.toNatClampNeg) 12 (b2 (decide ((1 : Int32) = 1)))) k.toNatClampNeg) = 0 := by
      have : cHere (sU g (100 + 3 * k.toNatClampNeg) 12 (b2 (decide ((1 : Int32) = 1)))) k.toNatClampNeg = cHere g k.toNatClampNeg := by
        unfold cHere
        rw [sU_j _ _ _ _ (by decide)]
      rw [this]; exact c
    rw [hold_y hh, sU_s, sU_sU]
    refine ⟨sU_id g _ _ ?_, fun _ => (by decide +kernel : b2 (!decide (b2 (decide ((1 : Int32) = 1)) = 0)) = 1)⟩
    rcases hz with z | z
    · rw [z]; exact (by decide +kernel : (0 : Int32) = b2 (decide (b2 (decide (b2 (!decide ((0 : Int32) = 0)) = (1 : Int32))) = (1 : Int32))))
    · rw [z]; exact (by decide +kernel : (1 : Int32) = b2 (decide (b2 (decide (b2 (!decide ((1 : Int32) = 0)) = (1 : Int32))) = (1 : Int32))))
  · rw [hold_n c, hold_n c]
    exact ⟨rfl, fun q => absurd (show (-2100000000 : Int32) < 0 by decide +kernel) q⟩
/-! words told again -/
theorem bsum_31 {x : Int32} (h : sB x) : bsum x 31 = bits x := by
  have key : ∀ m, m ≤ 7 → bsum x (24 + m) = bsum x 24 := by
    intro m
    induction m with
    | zero => intro _; rfl
    | succ m ih =>
      intro hm
      show bsum x (24 + m) + ((x >>> (nI (24 + m) &&& 31)) &&& 1) = _
      rw [ih (by omega), bit_if x (by omega), h _ (by omega), if_neg (by decide)]
      exact Int32.add_zero _
  exact key 7 (by decide)
theorem or_same {a b : Int32} (h : ∀ k, bt b k = true → bt a k = true) : a ||| b = a := by
  refine b_ext fun k hk => ?_
  rw [b_or]
  cases c : bt b k with
  | false => rw [Bool.or_false]
  | true => rw [h k c]; rfl
def told2 (n nc : Nat) (g : sg) (i : Int32) : Int32 × sg := dF_11 n nc g i (dF_26 n nc g i 2).1
theorem tell_q (h : Inv n nc g) (i : Int32) (c : ¬ (dF_26 n nc g i 2).1 < 0) : (told2 n nc g i).2 = g ∧ (¬ (told2 n nc g i).1 < 0 → (told2 n nc g i).1 = bsum (dF_26 n nc g i 2).1 31) := by
  unfold told2
  have hc := h.c20
  by_cases ci : isF nc i = true
  · obtain ⟨hj, ei⟩ := isF_cl ci (Nat.le_trans hc (by decide))
    have e26 : (dF_26 n nc g i 2).1 = g (200 + i.toNatClampNeg) 6 := by
      unfold dF_26
      rw [oR_y (kd2_0.mpr ⟨ci, by decide +kernel⟩)]
      exact oc2x (g (200 + i.toNatClampNeg) 7) (g (200 + i.toNatClampNeg) 5) (g (200 + i.toNatClampNeg) 6) (g (200 + i.toNatClampNeg) 8)
    rw [e26]
    obtain ⟨f0, f1, f2, f3, f4, f5, f6, f7, f8, f9, f10, f11⟩ := h.2.2.1 _ hj
    unfold dF_11
    by_cases c9 : kd3 (isF nc i) (inn (g (200 + i.toNatClampNeg) 6) 0 16777215) (decide (g (200 + i.toNatClampNeg) 7 = 0)) = 0
    · rw [oR_y c9, or_same f7, or_same (fun _ q => q)]
      refine ⟨?_, fun _ => (bsum_31 f5).symm⟩
      show sU (sU g (200 + i.toNatClampNeg) 5 (g (200 + i.toNatClampNeg) 5)) (200 + i.toNatClampNeg) 6 (g (200 + i.toNatClampNeg) 6) = g
      rw [sU_id g _ 5 rfl, sU_id g _ 6 rfl]
    · rw [oR_n c9]
      exact ⟨rfl, fun q => absurd (show (-2100000000 : Int32) < 0 by decide +kernel) q⟩
  · have e26 : (dF_26 n nc g i 2).1 = -2100000000 := by
      unfold dF_26
      rw [oR_n (fun q => ci (kd2_0.mp q).1)]
    rw [e26] at c
    exact absurd (show (-2100000000 : Int32) < 0 by decide +kernel) c
end QU
