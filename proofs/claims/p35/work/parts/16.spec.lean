/-! the reference's stores behind its calls -/
def mFindT (g : sg) (n : Nat) (kind place dago set secret value : Int32) : sg := sU (sU (sU (sU (sU (sU (sU (sU g 9 0 0) 59 n kind) 60 n place) 61 n (g 9 1 - dago)) 62 n set) 63 n secret) 64 n value) 68 n (g 9 1 + (if kind = 7 then 1 else g 54 kind.toNatClampNeg))
def mFind (g : sg) (n : Nat) (kind place dago set secret value room : Int32) : sg := sU (mComes (mFindT g n kind place dago set secret value) n room) 9 8 (nI n + 1)
theorem lsS_0 (b : sg) (room : Int32) : lsS b room 0 = b := by funext k j; simp [lsS]
theorem lsS_s (b : sg) (room : Int32) (k : Nat) : sU (lsS b room k) 65 k (if (decide (b 65 k = 1) && decide (b 67 k = room)) = true then 2 else b 65 k) = lsS b room (k + 1) := by
  funext a t
  unfold sU lsS
  by_cases h : a = 65
  · subst h
    by_cases e : t = k
    · subst e
      simp only [true_and, and_true, if_true, Nat.lt_irrefl, false_and, if_false, Nat.lt_succ_self, lsB]
    · simp only [true_and, e, if_false]
      by_cases e2 : t < k
      · have : t < k + 1 := by omega
        simp [e2, this]
      · have : ¬ t < k + 1 := by omega
        simp [e2, this]
  · simp [h]
theorem cm_end {g : sg} {i h : Nat} {room : Int32} (hi : i < 30) (hh : g 72 i = nI h) (hlt : h < 12) : mComes g i room = sU (sU (sU (sU (sU g 65 i 0) 66 i room) 73 (12 * i + h) room) 74 (12 * i + h) (g 9 1)) 72 i (nI h + 1) := by
  have h12 : ¬ nI h = 12 := fun q => by
    have := (nI_eq (a := h) (b := 12) (by omega) (by omega)).mp q
    omega
  have hcl : (nI h).toNatClampNeg = h := nI_clamp (by omega)
  funext k t
  unfold mComes
  by_cases k1 : k = 73
  · subst k1; simp [cmR, hh, h12, hcl, sU]
  by_cases k2 : k = 74
  · subst k2; simp [cmR, hh, h12, hcl, sU]
  by_cases k3 : k = 72
  · subst k3; simp [cmH, hh, h12, upd, sU]
  by_cases k4 : k = 65
  · subst k4; simp [upd, sU]
  by_cases k5 : k = 66
  · subst k5; simp [upd, sU]
  simp [k1, k2, k3, k4, k5, sU]
theorem cm_end12 {g : sg} {i q : Nat} {room : Int32} (hi : i < 30) (hh : g 72 i = nI 12) (hq : q = 12 * i + 11) : mComes g i room = sU (sU (sU (sU (cmL (sU (sU g 65 i 0) 66 i room) i q) 72 i (nI 12 - 1)) 73 (12 * i + 11) room) 74 (12 * i + 11) (g 9 1)) 72 i (nI 12 - 1 + 1) := by
  subst hq
  have e1 : g 72 i = 12 := hh
  have e2 : (nI 12 - 1 + 1 : Int32) = 12 := by decide +kernel
  rw [e2]
  funext k t
  unfold mComes
  have key : ∀ (r : Nat → Int32) (v : Int32), cmR r (12 * i) 12 v t = if t = 12 * i + 11 then v else shR r (12 * i) (12 * i + 11) t := by
    intro r v
    unfold cmR shR
    simp only [if_true]
    by_cases a : t = 12 * i + 11
    · rw [if_neg (by omega), if_pos a, if_pos a]
    · rw [if_neg a, if_neg a]
      by_cases b : 12 * i + 1 ≤ t ∧ t < 12 * i + 11
      · rw [if_pos (by omega), if_pos b]
      · rw [if_neg (by omega), if_neg b]
  by_cases k1 : k = 73
  · subst k1
    have er : (sU (sU g 65 i 0) 66 i room) 73 = g 73 := by rw [sU_row _ _ _ (by decide), sU_row _ _ _ (by decide)]
    simp [e1, key, sU, cmL, er]
    try rw [show (fun j' => g 73 j') = g 73 from rfl]
  by_cases k2 : k = 74
  · subst k2
    have er : (sU (sU g 65 i 0) 66 i room) 74 = g 74 := by rw [sU_row _ _ _ (by decide), sU_row _ _ _ (by decide)]
    simp [e1, key, sU, cmL, er]
  by_cases k3 : k = 72
  · subst k3
    by_cases e : t = i
    · simp [cmH, e1, upd, sU, cmL, e]
    · simp [cmH, e1, upd, sU, cmL, e]
  by_cases k4 : k = 65
  · subst k4; simp [upd, sU, cmL]
  by_cases k5 : k = 66
  · subst k5; simp [upd, sU, cmL]
  simp [k1, k2, k3, k4, k5, sU, cmL]
def mClaim (g : sg) (nc : Nat) (kind place fr to set : Int32) : sg := sU (sU (sU (sU (sU (sU (sU (sU (sU (sU g 9 0 0) 76 nc kind) 77 nc place) 78 nc fr) 79 nc to) 80 nc set) 81 nc 0) 82 nc 0) 84 nc (-1)) 9 25 (nI nc + 1)
def mEnds (g : sg) (j : Nat) (st fi : Int32) : sg := sU (sU (sU g 82 j st) 83 j (g 9 1)) 84 j fi
