/-! the law's loop: laid by wip/whole/loopgen.py -/
theorem law_lt {i L : Nat} (hi : i < 9000) (hL : L ≤ 4096) : nI L - nI 8 < nI i ↔ L < i + 8 := by
  rw [Int32.lt_iff_toInt_lt, pk_sub_toInt (by omega) (by omega), nI_toInt (by omega)]
  omega
theorem law_head {p : Program} {l : Launch} {e : Env} {s : State} {m : MethodId} {args : Array Value} {below : List Frame} {meth : Method} {c : Code} {Q : State → Prop} {base : Nat} (hF : CallFix p m c cL_law 7 s args wsL_law RL) {b L : Nat} {xs : Nat → Int32} (hX : va_X b L xs s s.heap) (hbl : b < s.heap.size) (hbA : ¬ kA base b) (hL : L ≤ 4096) {i : Nat} (hi : i < 9000) {H : Heap} {locs : List Loc} {ls : Array Slot} {cells slots : Nat} {lv : List (Nat × Value)} (hS : va_S (kA base) s.heap H locs) (hl : lv_has ls 7 ((4, .int (nI i)) :: (0, .ref b) :: lv)) (kt : L < i + 8 → W p l e room_1 s m args below meth c H locs cells slots Q (F0 m 2394 ls [])) (kf : i + 8 ≤ L → W p l e room_1 s m args below meth c H locs cells slots Q (F0 m 40 ls [.int (xs i &&& 31)])) : W p l e room_1 s m args below meth c H locs cells slots Q (F0 m 23 ls []) := by
  have hx := hF.1
  have hb := hF.2.1
  refine lv_iload hx hb dL_law_23 (lv_at hl 0 rfl) ?_
  refine lv_aload_n hx hb dL_law_25 rfl (lv_at hl 1 rfl) ?_
  refine va_slen hx hb hX hbl hbA hS dL_law_26 ?_
  refine lv_bipush (v := nI 8) hx hb dL_law_27 (by decide) ?_
  refine lv_isub hx hb dL_law_29 ?_
  refine lv_icmp_gt (tgt := 2394) hx hb dL_law_30 (by decide) (fun h => kt ((law_lt hi hL).mp h)) (fun h => ?_)
  have h8 : i + 8 ≤ L := Nat.not_lt.mp (fun q => h ((law_lt hi hL).mpr q))
  refine lv_aload_n hx hb dL_law_33 rfl (lv_at hl 1 rfl) ?_
  refine lv_iload hx hb dL_law_34 (lv_at hl 0 rfl) ?_
  refine va_sld hx hb hX hbl hbA hS (vp_in_nI (by omega) (by omega)) dL_law_36 ?_
  rw [cl_nI (by omega)]
  refine lv_bipush (v := 31) hx hb dL_law_37 (by decide) ?_
  refine lv_iand hx hb dL_law_39 ?_
  exact kf h8
set_option maxHeartbeats 8000000 in
set_option maxRecDepth 100000 in
theorem law_loop {p : Program} {e : Env} {s : State} {m : MethodId} {args : Array Value} {below : List Frame} {meth : Method} {c : Code} {Q : State → Prop} {D : va_G} {cy : Nat → ClassId} {base : Nat} (l : Launch) (hfl : l.stackTraces = false) (hF : CallFix p m c cL_law 7 s args wsL_law RL) (hG : kG D cy base s) {b L : Nat} {xs : Nat → Int32} (hX : va_X b L xs s s.heap) (hbl : b < s.heap.size) (hbA : ¬ kA base b) (hL : L ≤ 4096) (hend : ∀ (H : Heap) (locs : List Loc) (ls : Array Slot) (cells slots : Nat), va_S (kA base) s.heap H locs → cells ≤ 601024 → slots ≤ 7293034 → W p l e room_1 s m args below meth c H locs cells slots Q (F0 m 2394 ls [])) : ∀ (k t : Nat), L < 8 * (t + k) → t + k ≤ 600 → ∀ (cells slots : Nat), cells + 12 * k ≤ 601024 → slots + 100 * k ≤ 7293034 → ∀ (H : Heap) (locs : List Loc) (ls : Array Slot) (ad : Nat → Nat) (n nc : Nat) (g : sg), kRl n nc g g → kW D cy base ad n nc g H → va_S (kA base) s.heap H locs → lv_has ls 7 [(4, .int (nI (8 * t))), (0, .ref b), (1, .ref (ad 0)), (2, .ref (ad 9)), (3, .ref (ad 40))] → W p l e room_1 s m args below meth c H locs cells slots Q (F0 m 23 ls []) := by
  intro k
  induction k with
  | zero =>
    intro t ht ht2 cells slots hc hs H locs ls ad n nc g hrel hw hS hl
    exact law_head hF hX hbl hbA hL (by omega) hS hl (fun _ => hend H locs ls cells slots hS (by omega) (by omega)) (fun h => absurd h (by omega))
  | succ k ih =>
    intro t ht ht2 cells slots hc hs H locs ls ad n nc g hrel hw hS hl
    refine law_head hF hX hbl hbA hL (by omega) hS hl (fun _ => hend H locs ls cells slots hS (by omega) (by omega)) (fun hi => ?_)
    have hx := hF.1
    have hb := hF.2.1
    have hc1 : cells + 12 ≤ 601024 := by omega
    have hc2 : slots + 100 ≤ 7293034 := by omega
    have kk : ∀ (H : Heap) (locs : List Loc) (ls : Array Slot) (ad : Nat → Nat) (n nc : Nat) (g : sg), kRl n nc g g → kW D cy base ad n nc g H → va_S (kA base) s.heap H locs → lv_has ls 7 [(4, .int (nI (8 * t))), (0, .ref b), (1, .ref (ad 0)), (2, .ref (ad 9)), (3, .ref (ad 40))] → W p l e room_1 s m args below meth c H locs (cells + 12) (slots + 100) Q (F0 m 2388 ls []) := by
      intro H locs ls ad n nc g hrel hw hS hl
      refine lv_iinc (v := nI (8 * (t + 1))) (k := 0) (lv' := [(4, .int (nI (8 * (t + 1)))), (0, .ref b), (1, .ref (ad 0)), (2, .ref (ad 9)), (3, .ref (ad 40))]) hx hb dL_law_2388 hl rfl (by rw [show Int32.ofInt 8 = nI 8 from by decide, nI_add]; rfl) (by decide) rfl (fun ls hl => ?_)
      refine lv_goto (tgt := 23) hx hb dL_law_2391 (by decide) ?_
      exact ih (t + 1) (by omega) (by omega) _ _ (by omega) (by omega) H locs ls ad n nc g hrel hw hS hl
    refine kx_sw (N := 31) (tgt := 2388) hx hb dL_law_40 rfl (by decide) (by decide) (fun _ => ?_) (fun j hj _ => ?_)
    · exact W.widen (by omega) (by omega) (kk H locs ls ad n nc g hrel hw hS hl)
    · match j, hj with
      | 0, _ => exact ⟨144, 184, rfl, by decide, arm_near l hfl hF hG hX hbl hbA hL (8 * t) hi hc1 hc2 kk hrel hw hS hl⟩
      | 1, _ => exact ⟨219, 259, rfl, by decide, arm_alike l hfl hF hG hX hbl hbA hL (8 * t) hi hc1 hc2 kk hrel hw hS hl⟩
      | 2, _ => exact ⟨294, 334, rfl, by decide, arm_rule l hfl hF hG hX hbl hbA hL (8 * t) hi hc1 hc2 kk hrel hw hS hl⟩
      | 3, _ => exact ⟨374, 414, rfl, by decide, arm_stop l hfl hF hG hX hbl hbA hL (8 * t) hi hc1 hc2 kk hrel hw hS hl⟩
      | 4, _ => exact ⟨442, 482, rfl, by decide, arm_threshold l hfl hF hG hX hbl hbA hL (8 * t) hi hc1 hc2 kk hrel hw hS hl⟩
      | 5, _ => exact ⟨498, 538, rfl, by decide, arm_find l hfl hF hG hX hbl hbA hL (8 * t) hi hc1 hc2 kk hrel hw hS hl⟩
      | 6, _ => exact ⟨630, 670, rfl, by decide, arm_see l hfl hF hG hX hbl hbA hL (8 * t) hi hc1 hc2 kk hrel hw hS hl⟩
      | 7, _ => exact ⟨698, 738, rfl, by decide, arm_send l hfl hF hG hX hbl hbA hL (8 * t) hi hc1 hc2 kk hrel hw hS hl⟩
      | 8, _ => exact ⟨766, 806, rfl, by decide, arm_lose l hfl hF hG hX hbl hbA hL (8 * t) hi hc1 hc2 kk hrel hw hS hl⟩
      | 9, _ => exact ⟨822, 862, rfl, by decide, arm_turnUp l hfl hF hG hX hbl hbA hL (8 * t) hi hc1 hc2 kk hrel hw hS hl⟩
      | 10, _ => exact ⟨890, 930, rfl, by decide, arm_hold l hfl hF hG hX hbl hbA hL (8 * t) hi hc1 hc2 kk hrel hw hS hl⟩
      | 11, _ => exact ⟨981, 1021, rfl, by decide, arm_claim l hfl hF hG hX hbl hbA hL (8 * t) hi hc1 hc2 kk hrel hw hS hl⟩
      | 12, _ => exact ⟨1085, 1125, rfl, by decide, arm_say l hfl hF hG hX hbl hbA hL (8 * t) hi hc1 hc2 kk hrel hw hS hl⟩
      | 13, _ => exact ⟨1153, 1193, rfl, by decide, arm_tell l hfl hF hG hX hbl hbA hL (8 * t) hi hc1 hc2 kk hrel hw hS hl⟩
      | 14, _ => exact ⟨1221, 1261, rfl, by decide, arm_withdraw l hfl hF hG hX hbl hbA hL (8 * t) hi hc1 hc2 kk hrel hw hS hl⟩
      | 15, _ => exact ⟨1277, 1317, rfl, by decide, arm_release l hfl hF hG hX hbl hbA hL (8 * t) hi hc1 hc2 kk hrel hw hS hl⟩
      | 16, _ => exact ⟨1345, 1385, rfl, by decide, arm_extend l hfl hF hG hX hbl hbA hL (8 * t) hi hc1 hc2 kk hrel hw hS hl⟩
      | 17, _ => exact ⟨1413, 1453, rfl, by decide, arm_sell l hfl hF hG hX hbl hbA hL (8 * t) hi hc1 hc2 kk hrel hw hS hl⟩
      | 18, _ => exact ⟨1481, 1521, rfl, by decide, arm_destroy l hfl hF hG hX hbl hbA hL (8 * t) hi hc1 hc2 kk hrel hw hS hl⟩
      | 19, _ => exact ⟨1537, 1577, rfl, by decide, arm_payOut l hfl hF hG hX hbl hbA hL (8 * t) hi hc1 hc2 kk hrel hw hS hl⟩
      | 20, _ => exact ⟨1605, 1645, rfl, by decide, arm_pass l hfl hF hG hX hbl hbA hL (8 * t) hi hc1 hc2 kk hrel hw hS hl⟩
      | 21, _ => exact ⟨1661, 1701, rfl, by decide, arm_today l hfl hF hG hX hbl hbA hL (8 * t) hi hc1 hc2 kk hrel hw hS hl⟩
      | 22, _ => exact ⟨1674, 1714, rfl, by decide, arm_fit l hfl hF hG hX hbl hbA hL (8 * t) hi hc1 hc2 kk hrel hw hS hl⟩
      | 23, _ => exact ⟨1742, 1782, rfl, by decide, arm_candidate l hfl hF hG hX hbl hbA hL (8 * t) hi hc1 hc2 kk hrel hw hS hl⟩
      | 24, _ => exact ⟨1810, 1850, rfl, by decide, arm_question l hfl hF hG hX hbl hbA hL (8 * t) hi hc1 hc2 kk hrel hw hS hl⟩
      | 25, _ => exact ⟨1866, 1906, rfl, by decide, arm_isProven l hfl hF hG hX hbl hbA hL (8 * t) hi hc1 hc2 kk hrel hw hS hl⟩
      | 26, _ => exact ⟨1941, 1981, rfl, by decide, arm_isDue l hfl hF hG hX hbl hbA hL (8 * t) hi hc1 hc2 kk hrel hw hS hl⟩
      | 27, _ => exact ⟨2004, 2044, rfl, by decide, arm_ofFind l hfl hF hG hX hbl hbA hL (8 * t) hi hc1 hc2 kk hrel hw hS hl⟩
      | 28, _ => exact ⟨2072, 2112, rfl, by decide, arm_hand l hfl hF hG hX hbl hbA hL (8 * t) hi hc1 hc2 kk hrel hw hS hl⟩
      | 29, _ => exact ⟨2168, 2208, rfl, by decide, arm_ofClaim l hfl hF hG hX hbl hbA hL (8 * t) hi hc1 hc2 kk hrel hw hS hl⟩
      | 30, _ => exact ⟨2236, 2276, rfl, by decide, arm_money l hfl hF hG hX hbl hbA hL (8 * t) hi hc1 hc2 kk hrel hw hS hl⟩
      | 31, _ => exact ⟨2292, 2332, rfl, by decide, arm_audit l hfl hF hG hX hbl hbA hL (8 * t) hi hc1 hc2 kk hrel hw hS hl⟩
      | j + 32, h => exact absurd h (by omega)
