/-! The law over two objects of the class (laid by wip/p35/mk_law.py). -/
/-- the room that t rounds take, behind the start's -/
def lwC (t : Nat) : Nat := (if t % 16 = 15 then 2700 else 0) + (if t % 6 = 4 then 2800 else 0) + (if t % 8 = 6 then 7400 else 0) + (if t % 10 = 7 then 40 else 0)
def lwS (t : Nat) : Nat := (if t % 16 = 15 then 16200 else 0) + (if t % 6 = 4 then 16800 else 0) + (if t % 8 = 6 then 44400 else 0) + (if t % 10 = 7 then 300 else 0)
def lwA : Nat → Nat
  | 0 => 18
  | t + 1 => lwA t + 24 + lwC t
def lwB : Nat → Nat
  | 0 => 400
  | t + 1 => lwB t + 200 + lwS t
theorem lwA_le : ∀ t, t < 161 → lwA t + 13000 ≤ 709830 := by decide +kernel
theorem lwB_le : ∀ t, t < 161 → lwB t + 78000 ≤ 6972341 := by decide +kernel
theorem rem_nI {t d : Nat} (ht : t < 2 ^ 31) (h0 : 0 < d) (hd : d < 2 ^ 31) : nI t - nI t / nI d * nI d = nI (t % d) := pk_rem ht h0 hd

section LAWS
variable {p : Program} {e : Env} {s : State} {m : MethodId} {args : Array Value} {below : List Frame} {meth : Method} {c : Code} {Q : State → Prop} {D : va_G} {cy : Nat → ClassId} {base : Nat → Prop}
set_option maxHeartbeats 4000000 in
theorem seg_alike (l : Launch) (hfl : l.stackTraces = false) (hF : CallFix p m c cL_law 7 s args wsL_law RL) (hG : kG D cy base s) {H : Heap} {locs : List Loc} {ls : Array Slot} {ad ae : Nat → Nat} {n nc : Nat} {g : sg} {b t : Nat} {V : Int32} (hI : Inv n nc g) (hw : k2 D cy base ad n nc g ae n nc g H) (hS : va_S (kA base) s.heap H locs) (ht : t < 160) {lv : List (Nat × Value)} (hl : lv_has ls 7 ((5, .int V) :: (3, .int 1) :: (4, .int (nI t)) :: (0, .ref b) :: (1, .ref (ad 0)) :: (2, .ref (ae 0)) :: lv)) {cells slots : Nat} (hc : cells + (if t % 16 = 15 then 2700 else 0) ≤ 709830) (hs : slots + (if t % 16 = 15 then 16200 else 0) ≤ 6972341)
    (kk : ∀ (H1 : Heap) (locs1 : List Loc), k2 D cy base ad n nc g ae n nc g H1 → va_S (kA base) s.heap H1 locs1 → W p l e room_1 s m args below meth c H1 locs1 (cells + (if t % 16 = 15 then 2700 else 0)) (slots + (if t % 16 = 15 then 16200 else 0)) Q (F0 m 116 ls [])) :
    W p l e room_1 s m args below meth c H locs cells slots Q (F0 m 90 ls []) := by
  have hx := hF.1
  have hb := hF.2.1
  have hown := hF.2.2.2.1
  have hts := hF.2.2.2.2
  refine lv_iload hx hb dL_law_90 (lv_at hl 2 rfl) ?_
  refine lv_bipush (v := nI 16) hx hb dL_law_92 (by decide) ?_
  refine lv_irem hx hb dL_law_94 (by decide +kernel) ?_
  rw [rem_nI (by omega) (by decide) (by decide)]
  refine lv_bipush (v := nI 15) hx hb dL_law_95 (by decide) ?_
  refine lv_icmp_ne (tgt := 116) hx hb dL_law_97 (by decide) (fun hne => ?_) (fun heq => ?_)
  · have hz : ¬ t % 16 = 15 := fun z => hne (by rw [z])
    rw [if_neg hz, if_neg hz] at kk
    exact kk H locs hw hS
  · have hz : t % 16 = 15 := (nI_eq (a := t % 16) (b := 15) (by omega) (by omega)).mp heq
    rw [if_pos hz] at hc hs
    rw [if_pos hz, if_pos hz] at kk
    refine lv_aload_n hx hb dL_law_100 rfl (lv_at hl 4 rfl) ?_
    refine lv_aload_n hx hb dL_law_101 rfl (lv_at hl 5 rfl) ?_
    refine lv_iload hx hb dL_law_102 (lv_at hl 0 rfl) ?_
    refine lv_iconst (v := 3) hx hb dL_law_104 (by decide) ?_
    refine lv_ishr hx hb dL_law_105 ?_
    refine lv_sipush (v := 1023) hx hb dL_law_106 (by decide) ?_
    refine lv_iand hx hb dL_law_109 ?_
    refine k2_both (As := [.ref (ad 0), .ref (ae 0), .int ((V >>> ((3 : Int32) &&& 31)) &&& 1023)]) (rest := []) hF hG hS hw hl.1 (c_L_areAlike l hfl D cy base ad ae n nc g _ hI) gL_law_L_areAlike rfl rfl rfl hd_L_areAlike ⟨Nat.le_of_ble_eq_true rfl, Nat.le_of_ble_eq_true rfl⟩ rfl rfl (Nat.le_of_ble_eq_true rfl) dL_law_110 ⟨hc, hs⟩ (fun H locs hw hS => ?_)
    refine lv_if_eq (tgt := 174) hx hb dL_law_113 (by decide) (fun c => absurd c (by decide)) (fun _ => ?_)
    exact kk _ _ hw hS
set_option maxHeartbeats 4000000 in
theorem seg_finds (l : Launch) (hfl : l.stackTraces = false) (hF : CallFix p m c cL_law 7 s args wsL_law RL) (hG : kG D cy base s) {H : Heap} {locs : List Loc} {ls : Array Slot} {ad ae : Nat → Nat} {n nc : Nat} {g : sg} {b t : Nat} {V : Int32} (hI : Inv n nc g) (hw : k2 D cy base ad n nc g ae n nc g H) (hS : va_S (kA base) s.heap H locs) (ht : t < 160) {lv : List (Nat × Value)} (hl : lv_has ls 7 ((5, .int V) :: (3, .int 1) :: (4, .int (nI t)) :: (0, .ref b) :: (1, .ref (ad 0)) :: (2, .ref (ae 0)) :: lv)) {cells slots : Nat} (hc : cells + (if t % 6 = 4 then 2800 else 0) ≤ 709830) (hs : slots + (if t % 6 = 4 then 16800 else 0) ≤ 6972341)
    (kk : ∀ (H1 : Heap) (locs1 : List Loc), k2 D cy base ad n nc g ae n nc g H1 → va_S (kA base) s.heap H1 locs1 → W p l e room_1 s m args below meth c H1 locs1 (cells + (if t % 6 = 4 then 2800 else 0)) (slots + (if t % 6 = 4 then 16800 else 0)) Q (F0 m 132 ls [])) :
    W p l e room_1 s m args below meth c H locs cells slots Q (F0 m 116 ls []) := by
  have hx := hF.1
  have hb := hF.2.1
  have hown := hF.2.2.2.1
  have hts := hF.2.2.2.2
  refine lv_iload hx hb dL_law_116 (lv_at hl 2 rfl) ?_
  refine lv_bipush (v := nI 6) hx hb dL_law_118 (by decide) ?_
  refine lv_irem hx hb dL_law_120 (by decide +kernel) ?_
  rw [rem_nI (by omega) (by decide) (by decide)]
  refine lv_iconst (v := nI 4) hx hb dL_law_121 (by decide) ?_
  refine lv_icmp_ne (tgt := 132) hx hb dL_law_122 (by decide) (fun hne => ?_) (fun heq => ?_)
  · have hz : ¬ t % 6 = 4 := fun z => hne (by rw [z])
    rw [if_neg hz, if_neg hz] at kk
    exact kk H locs hw hS
  · have hz : t % 6 = 4 := (nI_eq (a := t % 6) (b := 4) (by omega) (by omega)).mp heq
    rw [if_pos hz] at hc hs
    rw [if_pos hz, if_pos hz] at kk
    refine lv_aload_n hx hb dL_law_125 rfl (lv_at hl 4 rfl) ?_
    refine k2_ask (V := fun _ => b2 true) (G := fun gx => gx) (v1 := 1) hG hS hw (k2_sN (P := fun gx => kD True (some (.int (b2 true))) ad n nc gx) (As := [.ref (ad 0)]) (rest := []) hF hl.1 (fun b9 gx he => c_L_areFinds l hfl D cy b9 ad n nc gx (hI.e8 he)) gL_law_L_areFinds rfl rfl rfl hd_L_areFinds ⟨Nat.le_of_ble_eq_true rfl, Nat.le_of_ble_eq_true rfl⟩ rfl rfl (Nat.le_of_ble_eq_true rfl) dL_law_126 ⟨hc, hs⟩) (fun gx he => ⟨rfl, he⟩) (fun H locs hw hS => ?_)
    refine lv_if_eq (tgt := 174) hx hb dL_law_129 (by decide) (fun c => absurd c (by decide)) (fun _ => ?_)
    exact kk _ _ hw hS
set_option maxHeartbeats 4000000 in
theorem seg_claims (l : Launch) (hfl : l.stackTraces = false) (hF : CallFix p m c cL_law 7 s args wsL_law RL) (hG : kG D cy base s) {H : Heap} {locs : List Loc} {ls : Array Slot} {ad ae : Nat → Nat} {n nc : Nat} {g : sg} {b t : Nat} {V : Int32} (hI : Inv n nc g) (hw : k2 D cy base ad n nc g ae n nc g H) (hS : va_S (kA base) s.heap H locs) (ht : t < 160) {lv : List (Nat × Value)} (hl : lv_has ls 7 ((5, .int V) :: (3, .int 1) :: (4, .int (nI t)) :: (0, .ref b) :: (1, .ref (ad 0)) :: (2, .ref (ae 0)) :: lv)) {cells slots : Nat} (hc : cells + (if t % 8 = 6 then 7400 else 0) ≤ 709830) (hs : slots + (if t % 8 = 6 then 44400 else 0) ≤ 6972341)
    (kk : ∀ (H1 : Heap) (locs1 : List Loc), k2 D cy base ad n nc g ae n nc g H1 → va_S (kA base) s.heap H1 locs1 → W p l e room_1 s m args below meth c H1 locs1 (cells + (if t % 8 = 6 then 7400 else 0)) (slots + (if t % 8 = 6 then 44400 else 0)) Q (F0 m 149 ls [])) :
    W p l e room_1 s m args below meth c H locs cells slots Q (F0 m 132 ls []) := by
  have hx := hF.1
  have hb := hF.2.1
  have hown := hF.2.2.2.1
  have hts := hF.2.2.2.2
  refine lv_iload hx hb dL_law_132 (lv_at hl 2 rfl) ?_
  refine lv_bipush (v := nI 8) hx hb dL_law_134 (by decide) ?_
  refine lv_irem hx hb dL_law_136 (by decide +kernel) ?_
  rw [rem_nI (by omega) (by decide) (by decide)]
  refine lv_bipush (v := nI 6) hx hb dL_law_137 (by decide) ?_
  refine lv_icmp_ne (tgt := 149) hx hb dL_law_139 (by decide) (fun hne => ?_) (fun heq => ?_)
  · have hz : ¬ t % 8 = 6 := fun z => hne (by rw [z])
    rw [if_neg hz, if_neg hz] at kk
    exact kk H locs hw hS
  · have hz : t % 8 = 6 := (nI_eq (a := t % 8) (b := 6) (by omega) (by omega)).mp heq
    rw [if_pos hz] at hc hs
    rw [if_pos hz, if_pos hz] at kk
    refine lv_aload_n hx hb dL_law_142 rfl (lv_at hl 4 rfl) ?_
    refine k2_core hG hS hw (k2_sN (P := fun gx v u => v = some (.int 1) ∧ ∃ gy, E8 gx gy ∧ u = (ad, n, nc, gy)) (As := [.ref (ad 0)]) (rest := []) hF hl.1 (fun b9 gx he => c_L_areClaims l hfl D cy b9 ad n nc gx (hI.e8 he)) gL_law_L_areClaims rfl rfl rfl hd_L_areClaims ⟨Nat.le_of_ble_eq_true rfl, Nat.le_of_ble_eq_true rfl⟩ rfl rfl (Nat.le_of_ble_eq_true rfl) dL_law_143 ⟨hc, hs⟩) (fun g1 v u H locs he hp hw hS => ?_)
    obtain ⟨rfl, gy, hgy, rfl⟩ := hp
    have hw : k2 D cy base ad n nc g ae n nc g H := hw g (he.tr hgy)
    refine W.eq (g2 := F0 m 146 ls [.int 1]) rfl ?_
    refine lv_if_eq (tgt := 174) hx hb dL_law_146 (by decide) (fun c => absurd c (by decide)) (fun _ => ?_)
    exact kk _ _ hw hS
set_option maxHeartbeats 4000000 in
theorem seg_quiet (l : Launch) (hfl : l.stackTraces = false) (hF : CallFix p m c cL_law 7 s args wsL_law RL) (hG : kG D cy base s) {H : Heap} {locs : List Loc} {ls : Array Slot} {ad ae : Nat → Nat} {n nc : Nat} {g : sg} {b t : Nat} {V : Int32} (hI : Inv n nc g) (hw : k2 D cy base ad n nc g ae n nc g H) (hS : va_S (kA base) s.heap H locs) (ht : t < 160) {lv : List (Nat × Value)} (hl : lv_has ls 7 ((5, .int V) :: (3, .int 1) :: (4, .int (nI t)) :: (0, .ref b) :: (1, .ref (ad 0)) :: (2, .ref (ae 0)) :: lv)) {cells slots : Nat} (hc : cells + (if t % 10 = 7 then 40 else 0) ≤ 709830) (hs : slots + (if t % 10 = 7 then 300 else 0) ≤ 6972341)
    (kk : ∀ (H1 : Heap) (locs1 : List Loc), k2 D cy base ad n nc g ae n nc g H1 → va_S (kA base) s.heap H1 locs1 → W p l e room_1 s m args below meth c H1 locs1 (cells + (if t % 10 = 7 then 40 else 0)) (slots + (if t % 10 = 7 then 300 else 0)) Q (F0 m 170 ls [])) :
    W p l e room_1 s m args below meth c H locs cells slots Q (F0 m 149 ls []) := by
  have hx := hF.1
  have hb := hF.2.1
  have hown := hF.2.2.2.1
  have hts := hF.2.2.2.2
  refine lv_iload hx hb dL_law_149 (lv_at hl 2 rfl) ?_
  refine lv_bipush (v := nI 10) hx hb dL_law_151 (by decide) ?_
  refine lv_irem hx hb dL_law_153 (by decide +kernel) ?_
  rw [rem_nI (by omega) (by decide) (by decide)]
  refine lv_bipush (v := nI 7) hx hb dL_law_154 (by decide) ?_
  refine lv_icmp_ne (tgt := 170) hx hb dL_law_156 (by decide) (fun hne => ?_) (fun heq => ?_)
  · have hz : ¬ t % 10 = 7 := fun z => hne (by rw [z])
    rw [if_neg hz, if_neg hz] at kk
    exact kk H locs hw hS
  · have hz : t % 10 = 7 := (nI_eq (a := t % 10) (b := 7) (by omega) (by omega)).mp heq
    rw [if_pos hz] at hc hs
    rw [if_pos hz, if_pos hz] at kk
    refine lv_aload_n hx hb dL_law_159 rfl (lv_at hl 4 rfl) ?_
    refine lv_iload hx hb dL_law_160 (lv_at hl 0 rfl) ?_
    refine lv_iconst (v := 4) hx hb dL_law_162 (by decide) ?_
    refine lv_ishr hx hb dL_law_163 ?_
    refine k2_ask (V := fun _ => b2 true) (G := fun gx => gx) (v1 := 1) hG hS hw (k2_sN (P := fun gx => kD True (some (.int (b2 true))) ad n nc gx) (As := [.ref (ad 0), .int (V >>> ((4 : Int32) &&& 31))]) (rest := []) hF hl.1 (fun b9 gx he => c_L_isQuiet l hfl D cy b9 ad n nc gx _ (hI.e8 he)) gL_law_L_isQuiet rfl rfl rfl hd_L_isQuiet ⟨Nat.le_of_ble_eq_true rfl, Nat.le_of_ble_eq_true rfl⟩ rfl rfl (Nat.le_of_ble_eq_true rfl) dL_law_164 ⟨hc, hs⟩) (fun gx he => ⟨rfl, he⟩) (fun H locs hw hS => ?_)
    refine lv_if_eq (tgt := 174) hx hb dL_law_167 (by decide) (fun c => absurd c (by decide)) (fun _ => ?_)
    exact kk _ _ hw hS
set_option maxHeartbeats 4000000 in
/-- behind the acts: the checks, and on -/
theorem law_back (l : Launch) (hfl : l.stackTraces = false) (hF : CallFix p m c cL_law 7 s args wsL_law RL) (hG : kG D cy base s) {H : Heap} {locs : List Loc} {ls : Array Slot} {ad ae : Nat → Nat} {n nc : Nat} {g : sg} {b t : Nat} {V told : Int32} (hI : Inv n nc g) (hw : k2 D cy base ad n nc g ae n nc g H) (hS : va_S (kA base) s.heap H locs) (ht : t < 160) (hl : lv_has ls 7 [(6, .int told), (5, .int V), (3, .int 1), (4, .int (nI t)), (0, .ref b), (1, .ref (ad 0)), (2, .ref (ae 0))])
    (kk : ∀ (H1 : Heap) (locs1 : List Loc) (ls1 : Array Slot), k2 D cy base ad n nc g ae n nc g H1 → va_S (kA base) s.heap H1 locs1 → lv_has ls1 7 [(3, .int 1), (4, .int (nI (t + 1))), (0, .ref b), (1, .ref (ad 0)), (2, .ref (ae 0))] → W p l e room_1 s m args below meth c H1 locs1 (lwA (t + 1)) (lwB (t + 1)) Q (F0 m 21 ls1 [])) :
    W p l e room_1 s m args below meth c H locs (lwA t + 24) (lwB t + 200) Q (F0 m 80 ls []) := by
  have hx := hF.1
  have hb := hF.2.1
  have hA := lwA_le (t + 1) (by omega)
  have hB := lwB_le (t + 1) (by omega)
  have eA : lwA (t + 1) = lwA t + 24 + lwC t := rfl
  have eB : lwB (t + 1) = lwB t + 200 + lwS t := rfl
  unfold lwC at eA
  unfold lwS at eB
  refine lv_iconst (v := 1) hx hb dL_law_80 (by decide) ?_
  refine lv_goto (tgt := 85) hx hb dL_law_81 (by decide) ?_
  refine lv_istore_n (lv' := [(3, .int 1), (6, .int told), (5, .int V), (4, .int (nI t)), (0, .ref b), (1, .ref (ad 0)), (2, .ref (ae 0))]) hx hb dL_law_85 rfl hl (by decide) rfl (fun ls hl => ?_)
  have hl : lv_has ls 7 [(5, .int V), (3, .int 1), (4, .int (nI t)), (0, .ref b), (1, .ref (ad 0)), (2, .ref (ae 0)), (6, .int told)] := lv_sub hl [2, 0, 3, 4, 5, 6, 1] rfl
  refine lv_iload_n hx hb dL_law_86 rfl (lv_at hl 1 rfl) ?_
  refine lv_if_eq (tgt := 174) hx hb dL_law_87 (by decide) (fun c => absurd c (by decide)) (fun _ => ?_)
  refine seg_alike l hfl hF hG hI hw hS ht hl (by omega) (by omega) (fun H locs hw hS => ?_)
  refine seg_finds l hfl hF hG hI hw hS ht hl (by omega) (by omega) (fun H locs hw hS => ?_)
  refine seg_claims l hfl hF hG hI hw hS ht hl (by omega) (by omega) (fun H locs hw hS => ?_)
  refine seg_quiet l hfl hF hG hI hw hS ht hl (by omega) (by omega) (fun H locs hw hS => ?_)
  refine lv_iconst (v := 1) hx hb dL_law_170 (by decide) ?_
  refine lv_goto (tgt := 175) hx hb dL_law_171 (by decide) ?_
  refine lv_istore_n (lv' := [(3, .int 1), (5, .int V), (4, .int (nI t)), (0, .ref b), (1, .ref (ad 0)), (2, .ref (ae 0)), (6, .int told)]) hx hb dL_law_175 rfl hl (by decide) rfl (fun ls hl => ?_)
  refine lv_iinc (v := nI t + 1) (lv' := [(4, .int (nI t + 1)), (3, .int 1), (5, .int V), (0, .ref b), (1, .ref (ad 0)), (2, .ref (ae 0)), (6, .int told)]) hx hb dL_law_176 hl (k := 2) rfl rfl (by decide) rfl (fun ls hl => ?_)
  refine lv_goto (tgt := 21) hx hb dL_law_179 (by decide) ?_
  rw [nI_1] at hl
  refine W.widen (k := lwA (t + 1)) (n := lwB (t + 1)) (by omega) (by omega) ?_
  exact kk H locs ls hw hS (lv_sub hl [1, 0, 3, 4, 5] rfl)
set_option maxHeartbeats 8000000 in
set_option maxRecDepth 100000 in
/-- the loop -/
theorem law_loop (l : Launch) (hfl : l.stackTraces = false) (hF : CallFix p m c cL_law 7 s args wsL_law RL) (hG : kG D cy base s) {b L : Nat} {xs : Nat → Int32} (hX : va_X b L xs s s.heap) (hbl : b < s.heap.size) (hbA : ¬ kA base b) (hL : L ≤ 260)
    (hend : ∀ (H : Heap) (locs : List Loc) (ls : Array Slot) (cells slots : Nat), va_S (kA base) s.heap H locs → cells ≤ 709830 → slots ≤ 6972341 → W p l e room_1 s m args below meth c H locs cells slots Q (F0 m 215 ls [.int 1])) : ∀ (k t : Nat), t ≤ 160 → 160 < t + k → ∀ (H : Heap) (locs : List Loc) (ls : Array Slot) (ad ae : Nat → Nat) (n nc : Nat) (g : sg), Inv n nc g → k2 D cy base ad n nc g ae n nc g H → va_S (kA base) s.heap H locs → lv_has ls 7 [(3, .int 1), (4, .int (nI t)), (0, .ref b), (1, .ref (ad 0)), (2, .ref (ae 0))] → W p l e room_1 s m args below meth c H locs (lwA t) (lwB t) Q (F0 m 21 ls []) := by
  have hx := hF.1
  have hb := hF.2.1
  have hown := hF.2.2.2.1
  have hts := hF.2.2.2.2
  have k_80 := hts (.constant RL 80 (-2100000000)) (by decide +kernel)
  intro k
  induction k with
  | zero => intro t h1 h2; exact absurd h2 (by omega)
  | succ k ih =>
    intro t ht1 ht2 H locs ls ad ae n nc g hI hw hS hl
    have hA := lwA_le t (by omega)
    have hB := lwB_le t (by omega)
    refine lv_iload hx hb dL_law_21 (lv_at hl 1 rfl) ?_
    refine lv_sipush (v := nI 160) hx hb dL_law_23 (by decide) ?_
    refine lv_icmp_ge (tgt := 182) hx hb dL_law_26 (by decide) (fun cT => ?_) (fun cT => ?_)
    · have hc : lwA t + 2700 ≤ 709830 := by omega
      have hs : lwB t + 16200 ≤ 6972341 := by omega
      refine lv_iload_n hx hb dL_law_182 rfl (lv_at hl 0 rfl) ?_
      refine lv_if_eq (tgt := 214) hx hb dL_law_183 (by decide) (fun c => absurd c (by decide)) (fun _ => ?_)
      refine lv_aload_n hx hb dL_law_186 rfl (lv_at hl 3 rfl) ?_
      refine lv_aload_n hx hb dL_law_187 rfl (lv_at hl 4 rfl) ?_
      refine lv_bipush (v := 7) hx hb dL_law_188 (by decide) ?_
      refine k2_both (As := [.ref (ad 0), .ref (ae 0), .int 7]) (rest := []) hF hG hS hw hl.1 (c_L_areAlike l hfl D cy base ad ae n nc g 7 hI) gL_law_L_areAlike rfl rfl rfl hd_L_areAlike ⟨Nat.le_of_ble_eq_true rfl, Nat.le_of_ble_eq_true rfl⟩ rfl rfl (Nat.le_of_ble_eq_true rfl) dL_law_190 ⟨hc, hs⟩ (fun H locs hw hS => ?_)
      refine lv_if_eq (tgt := 214) hx hb dL_law_193 (by decide) (fun c => absurd c (by decide)) (fun _ => ?_)
      have hc : lwA t + 2700 + 2800 ≤ 709830 := by omega
      have hs : lwB t + 16200 + 16800 ≤ 6972341 := by omega
      refine lv_aload_n hx hb dL_law_196 rfl (lv_at hl 4 rfl) ?_
      refine k2_ask2 (V := fun _ => b2 true) (G := fun gx => gx) (v1 := 1) hG hS hw (k2_sN (P := fun gx => kD True (some (.int (b2 true))) ae n nc gx) (As := [.ref (ae 0)]) (rest := []) hF hl.1 (fun b9 gx he => c_L_areFinds l hfl D cy b9 ae n nc gx (hI.e8 he)) gL_law_L_areFinds rfl rfl rfl hd_L_areFinds ⟨Nat.le_of_ble_eq_true rfl, Nat.le_of_ble_eq_true rfl⟩ rfl rfl (Nat.le_of_ble_eq_true rfl) dL_law_197 ⟨hc, hs⟩) (fun gx he => ⟨rfl, he⟩) (fun H locs hw hS => ?_)
      refine lv_if_eq (tgt := 214) hx hb dL_law_200 (by decide) (fun c => absurd c (by decide)) (fun _ => ?_)
      have hc : lwA t + 2700 + 2800 + 7400 ≤ 709830 := by omega
      have hs : lwB t + 16200 + 16800 + 44400 ≤ 6972341 := by omega
      refine lv_aload_n hx hb dL_law_203 rfl (lv_at hl 4 rfl) ?_
      refine k2_core hG hS hw.sy (k2_sN (P := fun gx v u => v = some (.int 1) ∧ ∃ gy, E8 gx gy ∧ u = (ae, n, nc, gy)) (As := [.ref (ae 0)]) (rest := []) hF hl.1 (fun b9 gx he => c_L_areClaims l hfl D cy b9 ae n nc gx (hI.e8 he)) gL_law_L_areClaims rfl rfl rfl hd_L_areClaims ⟨Nat.le_of_ble_eq_true rfl, Nat.le_of_ble_eq_true rfl⟩ rfl rfl (Nat.le_of_ble_eq_true rfl) dL_law_204 ⟨hc, hs⟩) (fun g1 v u H locs he hp hw hS => ?_)
      obtain ⟨rfl, gy, hgy, rfl⟩ := hp
      refine W.eq (g2 := F0 m 207 ls [.int 1]) rfl ?_
      refine lv_if_eq (tgt := 214) hx hb dL_law_207 (by decide) (fun c => absurd c (by decide)) (fun _ => ?_)
      refine lv_iconst (v := 1) hx hb dL_law_210 (by decide) ?_
      refine lv_goto (tgt := 215) hx hb dL_law_211 (by decide) ?_
      exact hend _ _ _ _ _ hS hc hs
    · have ht : t < 160 := lt_nI (a := 160) (b := t) cT (by omega) (by omega)
      refine lv_iload_n hx hb dL_law_29 rfl (lv_at hl 0 rfl) ?_
      refine lv_if_eq (tgt := 182) hx hb dL_law_30 (by decide) (fun c => absurd c (by decide)) (fun _ => ?_)
      refine lv_aload_n hx hb dL_law_33 rfl (lv_at hl 2 rfl) ?_
      refine lv_iload hx hb dL_law_34 (lv_at hl 1 rfl) ?_
      refine lv_bipush (v := nI 61) hx hb dL_law_36 (by decide) ?_
      refine lv_irem hx hb dL_law_38 (by decide +kernel) ?_
      rw [rem_nI (by omega) (by decide) (by decide)]
      refine k2_cell (k := t % 61) (rest := []) (by omega) (by omega) hF hS hw hX hbl hbA hl.1 gL_law_L_cell ⟨Nat.le_of_ble_eq_true rfl, Nat.le_of_ble_eq_true rfl⟩ rfl (Nat.le_of_ble_eq_true rfl) dL_law_39 ⟨(show lwA t ≤ 709830 from by omega), (show lwB t ≤ 6972341 from by omega)⟩ (fun v0 H locs hw hS => ?_)
      refine lv_sipush (v := 2011) hx hb dL_law_42 (by decide) ?_
      refine lv_iload hx hb dL_law_45 (lv_at hl 1 rfl) ?_
      refine lv_bipush (v := 61) hx hb dL_law_47 (by decide) ?_
      refine lv_idiv hx hb dL_law_49 (by decide +kernel) ?_
      refine lv_imul hx hb dL_law_50 ?_
      refine lv_iadd hx hb dL_law_51 ?_
      obtain ⟨V, hV⟩ : ∃ V : Int32, V = v0 + 2011 * (nI t / 61) := ⟨_, rfl⟩
      rw [← hV]
      refine lv_istore (lv' := [(5, .int V), (3, .int 1), (4, .int (nI t)), (0, .ref b), (1, .ref (ad 0)), (2, .ref (ae 0))]) hx hb dL_law_52 hl (by decide) rfl (fun ls hl => ?_)
      clear hV
      refine lv_aload_n hx hb dL_law_54 rfl (lv_at hl 4 rfl) ?_
      refine lv_iload hx hb dL_law_55 (lv_at hl 0 rfl) ?_
      refine k2_act hG hS hw (k2_sN (P := fun gx => kLP (ad 0) (actF n nc gx V)) (As := [.ref (ad 0), .int V]) (rest := []) hF hl.1 (fun b9 gx he => c_L_act l hfl D cy b9 ad n nc gx V (hI.e8 he)) gL_law_L_act rfl rfl rfl hd_L_act ⟨Nat.le_of_ble_eq_true rfl, Nat.le_of_ble_eq_true rfl⟩ rfl rfl (Nat.le_of_ble_eq_true rfl) dL_law_57 ⟨(show lwA t + 12 ≤ 709830 from by omega), (show lwB t + 100 ≤ 6972341 from by omega)⟩) (fun ad2 H locs h0 hw hS => ?_)
      obtain ⟨hI2, hno⟩ := act_I hI V
      generalize hr9 : actF n nc g V = r at hw hI2 hno ⊢
      obtain ⟨told, n2, nc2, g2⟩ := r
      have hw : k2 D cy base ad2 n2 nc2 g2 ae n nc g H := hw
      have hI2 : Inv n2 nc2 g2 := hI2
      have hno : told = -2100000000 → (n2, nc2, g2) = (n, nc, g) := hno
      refine W.eq (g2 := F0 m 60 ls [.int told]) rfl ?_
      rw [← h0] at hl
      refine lv_istore (lv' := [(6, .int told), (5, .int V), (3, .int 1), (4, .int (nI t)), (0, .ref b), (1, .ref (ad2 0)), (2, .ref (ae 0))]) hx hb dL_law_60 hl (by decide) rfl (fun ls hl => ?_)
      refine lv_iload hx hb dL_law_62 (lv_at hl 0 rfl) ?_
      refine lv_ldc hx hb hown k_80 dL_law_64 ?_
      refine lv_icmp_eq (tgt := 80) hx hb dL_law_66 (by decide) (fun cE => ?_) (fun cE => ?_)
      · have e9 := hno cE
        cases e9
        refine W.widen (k := lwA t + 24) (n := lwB t + 200) (by omega) (by omega) ?_
        exact law_back l hfl hF hG hI hw hS ht hl (fun H locs ls hw hS hl => ih (t + 1) (by omega) (by omega) H locs ls ad2 ae n nc g hI hw hS hl)
      · refine lv_aload_n hx hb dL_law_69 rfl (lv_at hl 6 rfl) ?_
        refine lv_iload hx hb dL_law_70 (lv_at hl 1 rfl) ?_
        refine k2_act hG hS hw.sy (k2_sN (P := fun gx => kLP (ae 0) (actF n nc gx V)) (As := [.ref (ae 0), .int V]) (rest := []) hF hl.1 (fun b9 gx he => c_L_act l hfl D cy b9 ae n nc gx V (hI.e8 he)) gL_law_L_act rfl rfl rfl hd_L_act ⟨Nat.le_of_ble_eq_true rfl, Nat.le_of_ble_eq_true rfl⟩ rfl rfl (Nat.le_of_ble_eq_true rfl) dL_law_72 ⟨(show lwA t + 12 + 12 ≤ 709830 from by omega), (show lwB t + 100 + 100 ≤ 6972341 from by omega)⟩) (fun ae2 H locs h0 hw hS => ?_)
        rw [hr9] at hw ⊢
        have hw : k2 D cy base ad2 n2 nc2 g2 ae2 n2 nc2 g2 H := hw.sy
        refine W.eq (g2 := F0 m 75 ls [.int told]) rfl ?_
        rw [← h0] at hl
        refine lv_iload hx hb dL_law_75 (lv_at hl 0 rfl) ?_
        refine lv_icmp_ne (tgt := 84) hx hb dL_law_77 (by decide) (fun c => absurd rfl c) (fun _ => ?_)
        exact law_back l hfl hF hG hI2 hw hS ht hl (fun H locs ls hw hS hl => ih (t + 1) (by omega) (by omega) H locs ls ad2 ae2 n2 nc2 g2 hI2 hw hS hl)
end LAWS
