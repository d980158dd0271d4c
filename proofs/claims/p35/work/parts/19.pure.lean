def cHere (g : sg) (i : Nat) : Bool := (decide (g (100 + 3 * i) 9 = 0)) || ((decide (g (100 + 3 * i) 9 = 1)) || (decide (g (100 + 3 * i) 9 = 2)))
theorem sB_pow {r : Int32} {N : Nat} (h : vp_in r N) (hN : N ≤ 24) : sB ((1 : Int32) <<< (r &&& 31)) := by
  obtain ⟨k, hk, rfl⟩ := vp_in_of h (by omega)
  intro i hi
  rw [b_pow (by omega), decide_eq_false (by omega)]
theorem bq_t {x r : Int32} {N : Nat} (h : vp_in r N) (hN : N ≤ 24) (c : (x &&& ((1 : Int32) <<< (r &&& 31))) = 0) : bq x r = false := by
  have e := mask_eq x r h hN
  rw [decide_eq_true c] at e
  unfold bq
  simpa using e.symm
theorem bq_f {x r : Int32} {N : Nat} (h : vp_in r N) (hN : N ≤ 24) (c : ¬ (x &&& ((1 : Int32) <<< (r &&& 31))) = 0) : bq x r = true := by
  have e := mask_eq x r h hN
  rw [decide_eq_false c] at e
  unfold bq
  simpa using e.symm
def sh1 (x : Int32) (k : Int32) : Int32 := (x.toUInt32 >>> (k.toUInt32 &&& Int32.toUInt32 31)).toInt32
def bcA (x : Int32) : Int32 := x - (sh1 x 1 &&& 1431655765)
def bcB (x : Int32) : Int32 := (x &&& 858993459) + (sh1 x 2 &&& 858993459)
def bcC (x : Int32) : Int32 := (x + sh1 x 4) &&& 252645135
def bcD (x : Int32) : Int32 := x + sh1 x 8
def bcE (x : Int32) : Int32 := x + sh1 x 16
def bc (x : Int32) : Int32 := bcE (bcD (bcC (bcB (bcA x)))) &&& 63
