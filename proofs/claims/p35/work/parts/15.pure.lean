/-! plain facts on bits and sums -/
theorem b_1 (i : Nat) : bt 1 i = decide (i = 0) := by
  rcases Nat.lt_or_ge i 32 with h | h
  · exact (by decide +kernel : ∀ i, i < 32 → bt 1 i = decide (i = 0)) i h
  · rw [b_big h, decide_eq_false (by omega)]
theorem b_pow {k : Nat} (hk : k < 32) (i : Nat) : bt ((1 : Int32) <<< (nI k &&& 31)) i = decide (i = k) := by
  rcases Nat.lt_or_ge i 32 with h | h
  · rw [b_shl k hk 1 h, b_1]
    by_cases e : i = k
    · subst e; simp
    · rcases Nat.lt_or_ge i k with q | q
      · simp [Nat.not_le.mpr q, e]
      · simp [q, e]; omega
  · rw [b_big h, decide_eq_false (by omega)]
theorem and_1 (x : Int32) : (x &&& 1) = 1 ↔ bt x 0 = true := by
  constructor
  · intro h
    have h1 : bt (x &&& 1) 0 = bt 1 0 := by rw [h]
    rw [b_and, b_1] at h1
    simpa using h1
  · intro h
    refine b_ext fun i hi => ?_
    rw [b_and, b_1]
    by_cases e : i = 0
    · subst e; simp [h]
    · simp [e]
theorem bq_bt (x : Int32) {k : Nat} (hk : k < 32) : bq x (nI k) = bt x k := by
  unfold bq
  have h := and_1 (x >>> (nI k &&& 31))
  rw [b_sshr k hk x (by decide : 0 < 32)] at h
  simp only [Nat.add_zero, hk, if_true] at h
  cases hb : bt x k with
  | false => rw [decide_eq_false]; intro q; have := h.mp q; rw [hb] at this; cases this
  | true => rw [decide_eq_true]; exact h.mpr hb
theorem ne0_bt (x : Int32) : ¬ x = 0 ↔ ∃ k, k < 32 ∧ bt x k = true := by
  constructor
  · intro h
    apply Classical.byContradiction
    intro hn
    apply h
    refine b_ext fun i hi => ?_
    rw [b_0]
    cases hb : bt x i with
    | false => rfl
    | true => exact absurd ⟨i, hi, hb⟩ hn
  · rintro ⟨k, hk, hb⟩ h
    rw [h, b_0] at hb
    cases hb
/-- a bit, as it is asked by a mask -/
theorem mask_bq (x : Int32) {k : Nat} (hk : k < 32) : (¬ (x &&& ((1 : Int32) <<< (nI k &&& 31))) = 0) ↔ bq x (nI k) = true := by
  rw [bq_bt x hk, ne0_bt]
  constructor
  · rintro ⟨i, hi, h⟩
    rw [b_and, b_pow hk] at h
    simp only [Bool.and_eq_true, decide_eq_true_eq] at h
    rw [← h.2]; exact h.1
  · intro h
    exact ⟨k, hk, by rw [b_and, b_pow hk]; simp [h]⟩
