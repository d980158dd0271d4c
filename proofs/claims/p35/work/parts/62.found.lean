/-! a find, a claim, told by the law; what its act does (laid by wip/p35/kc_91act.py) -/
def kLP (a0 : Nat) (F : Int32 × Nat × Nat × sg) : Option Value → kS → Prop := fun r u => r = some (.int F.1) ∧ u.1 0 = a0 ∧ u.2 = F.2
theorem kLP_mk {a0 : Nat} {F : Int32 × Nat × Nat × sg} {ad2 : Nat → Nat} {v : Int32} {n nc : Nat} {g : sg} (h : F = (v, n, nc, g)) (h0 : ad2 0 = a0) : kLP a0 F (some (.int v)) (ad2, n, nc, g) := by
  subst h
  exact ⟨rfl, h0, rfl⟩
def foundF (n nc : Nat) (g : sg) (b1 ago d1 e1 value room : Int32) : Int32 × Nat × Nat × sg := if kd3 (inn (b1 - b1 / (10 : Int32) * (10 : Int32)) 0 7 && (inn (b1 / (10 : Int32)) 0 9 && inn room 0 5)) (inn ago 0 (g 0 10) && (inn value 0 9999 && (inn d1 0 16777215 && (inn e1 0 16777215 && decide ((d1 &&& e1) = 0))))) (!decide (nI n = 30)) = 0 then (nI n, n + 1, nc, (cFind g n (b1 - b1 / (10 : Int32) * (10 : Int32)) (b1 / (10 : Int32)) ago d1 e1 value room)) else (-2100000000, n, nc, g)
def claimedF (n nc : Nat) (g : sg) (b1 fr to d1 : Int32) : Int32 × Nat × Nat × sg := if kd3 (inn (b1 - b1 / (10 : Int32) * (10 : Int32)) 0 7 && inn (b1 / (10 : Int32)) 0 9) (inn fr 0 (g 0 10) && (inn to fr (g 0 10) && inn d1 0 16777215)) (!decide (nI nc = 20)) = 0 then (nI nc, n, nc + 1, (cClaim g nc (b1 - b1 / (10 : Int32) * (10 : Int32)) (b1 / (10 : Int32)) fr to d1)) else (-2100000000, n, nc, g)
def l2 (n nc : Nat) (q : Int32 × sg) : Int32 × Nat × Nat × sg := (q.1, n, nc, q.2)
theorem kLP_eq {a0 : Nat} {F F' : Int32 × Nat × Nat × sg} {r : Option Value} {u : kS} (h : F' = F) (hp : kLP a0 F r u) : kLP a0 F' r u := h ▸ hp
def actG (n nc : Nat) (g : sg) (odd : Bool) (how x its : Int32) : Int32 × Nat × Nat × sg := (if (7 : Int32) ≤ how then (if (15 : Int32) ≤ how then (if (26 : Int32) ≤ how then (if (45 : Int32) ≤ how then (l2 n nc (dF_18 n nc g (if odd = true then lowF x (500 : Int32) else (if ((x >>> ((7 : Int32) &&& 31)) &&& (3 : Int32)) = (0 : Int32) then ((1 : Int32) + lowF x (60 : Int32)) else ((1 : Int32) + lowF x (4 : Int32)))))) else (if (28 : Int32) ≤ how then (if (33 : Int32) ≤ how then (if how = (33 : Int32) then (l2 n nc (dF_12 n nc g (if odd = true then (lowF (x >>> ((4 : Int32) &&& 31)) (23 : Int32) - (1 : Int32)) else lowF (x >>> ((4 : Int32) &&& 31)) (8 : Int32)))) else (if (38 : Int32) ≤ how then (if how = (38 : Int32) then (l2 n nc (dF_14 n nc g (if odd = true then (lowF x (34 : Int32) - (1 : Int32)) else lowF x (10 : Int32)) ((b2 (!odd)) + (lowF (x >>> ((2 : Int32) &&& 31)) (if odd = true then (500 : Int32) else (30 : Int32)))))) else (if (41 : Int32) ≤ how then (if (43 : Int32) ≤ how then (l2 n nc (dF_17 n nc g (if odd = true then (lowF x (34 : Int32) - (1 : Int32)) else lowF x (10 : Int32)) (if odd = true then (lowF (x >>> ((4 : Int32) &&& 31)) (23 : Int32) - (1 : Int32)) else lowF (x >>> ((4 : Int32) &&& 31)) (8 : Int32)))) else (l2 n nc (dF_16 n nc g (if odd = true then (lowF x (34 : Int32) - (1 : Int32)) else lowF x (10 : Int32))))) else (l2 n nc (dF_15 n nc g (if odd = true then (lowF x (34 : Int32) - (1 : Int32)) else lowF x (10 : Int32)) (if odd = true then x else ((1 : Int32) + lowF (x >>> ((3 : Int32) &&& 31)) (9999 : Int32))))))) else (l2 n nc (dF_13 n nc g (if odd = true then (lowF x (34 : Int32) - (1 : Int32)) else lowF x (10 : Int32)) (if odd = true then (lowF (x >>> ((4 : Int32) &&& 31)) (23 : Int32) - (1 : Int32)) else lowF (x >>> ((4 : Int32) &&& 31)) (8 : Int32)))))) else (l2 n nc (dF_11 n nc g (if odd = true then (lowF (x >>> ((4 : Int32) &&& 31)) (23 : Int32) - (1 : Int32)) else lowF (x >>> ((4 : Int32) &&& 31)) (8 : Int32)) (fewF (x >>> ((6 : Int32) &&& 31)))))) else (l2 n nc (dF_10 n nc g (if odd = true then (lowF (x >>> ((4 : Int32) &&& 31)) (23 : Int32) - (1 : Int32)) else lowF (x >>> ((4 : Int32) &&& 31)) (8 : Int32)) (if odd = true then x else fewF (x >>> ((6 : Int32) &&& 31))))))) else (if (17 : Int32) ≤ how then (if (20 : Int32) ≤ how then (if (22 : Int32) ≤ how then (if (24 : Int32) ≤ how then (l2 n nc (dF_9 n nc g (if odd = true then (lowF x (34 : Int32) - (1 : Int32)) else lowF x (10 : Int32)) ((x >>> ((6 : Int32) &&& 31)) &&& (1 : Int32)))) else (l2 n nc (dF_8 n nc g (if odd = true then (lowF x (34 : Int32) - (1 : Int32)) else lowF x (10 : Int32)) (lowF (x >>> ((3 : Int32) &&& 31)) (if odd = true then (8 : Int32) else (6 : Int32)))))) else (l2 n nc (dF_7 n nc g (lowF (x >>> ((3 : Int32) &&& 31)) (if odd = true then (8 : Int32) else (6 : Int32)))))) else (l2 n nc (dF_6 n nc g (if odd = true then (lowF x (34 : Int32) - (1 : Int32)) else lowF x (10 : Int32)) (lowF (x >>> ((3 : Int32) &&& 31)) (if odd = true then (8 : Int32) else (6 : Int32)))))) else (l2 n nc (dF_5 n nc g (if odd = true then (lowF x (34 : Int32) - (1 : Int32)) else lowF x (10 : Int32)) (if odd = true then x else fewF (x >>> ((4 : Int32) &&& 31))))))) else (if (12 : Int32) ≤ how then (claimedF n nc g (its + (10 : Int32) * (lowF (x >>> ((3 : Int32) &&& 31)) (10 : Int32))) (lowF (x >>> ((5 : Int32) &&& 31)) (12 : Int32)) ((lowF (x >>> ((5 : Int32) &&& 31)) (12 : Int32)) + (lowF (x >>> ((7 : Int32) &&& 31)) (9 : Int32))) (if odd = true then x else fewF (x >>> ((4 : Int32) &&& 31)))) else (foundF n nc g (its + (10 : Int32) * (lowF (x >>> ((3 : Int32) &&& 31)) (if odd = true then (12 : Int32) else (10 : Int32)))) (lowF (x >>> ((5 : Int32) &&& 31)) (4 : Int32)) (if odd = true then x else fewF (x >>> ((2 : Int32) &&& 31))) (fewF (x >>> ((4 : Int32) &&& 31)) &&& (fewF (x >>> ((2 : Int32) &&& 31)) ^^^ (-1 : Int32))) (lowF (x >>> ((1 : Int32) &&& 31)) (10000 : Int32)) (lowF (x >>> ((6 : Int32) &&& 31)) (if odd = true then (8 : Int32) else (6 : Int32)))))) else (if (3 : Int32) ≤ how then (if how = (3 : Int32) then (l2 n nc (dF_1 n nc g (lowF x (8 : Int32)) (lowF (x >>> ((3 : Int32) &&& 31)) (8 : Int32)))) else (if how = (4 : Int32) then (l2 n nc (dF_2 n nc g (lowF x (8 : Int32)) ((b2 (!odd)) + (lowF (x >>> ((3 : Int32) &&& 31)) (60 : Int32))) (lowF (x >>> ((5 : Int32) &&& 31)) (if odd = true then (60 : Int32) else (51 : Int32))))) else (if how = (5 : Int32) then (l2 n nc (dF_3 n nc g (lowF x (if odd = true then (6 : Int32) else (4 : Int32))) (lowF (x >>> ((2 : Int32) &&& 31)) (6 : Int32)))) else (l2 n nc (dF_4 n nc g ((if odd = true then (0 : Int32) else (30 : Int32)) + (lowF x (if odd = true then (300 : Int32) else (60 : Int32))))))))) else (l2 n nc (dF_0 n nc g (lowF x (if odd = true then (26 : Int32) else (24 : Int32))) (lowF (x >>> ((5 : Int32) &&& 31)) (24 : Int32))))))
def itsF (odd : Bool) (x : Int32) : Int32 := (if (x &&& (3 : Int32)) = 0 then (if odd = true then lowF (x >>> ((2 : Int32) &&& 31)) (10 : Int32) else lowF (x >>> ((2 : Int32) &&& 31)) (8 : Int32)) else ((x >>> ((2 : Int32) &&& 31)) &&& (1 : Int32)))
def oddF (v : Int32) : Bool := decide (((v >>> ((18 : Int32) &&& 31)) &&& (7 : Int32)) = (7 : Int32))
def actF (n nc : Nat) (g : sg) (v : Int32) : Int32 × Nat × Nat × sg := actG n nc g (oddF v) (lowF v (52 : Int32)) (v >>> ((6 : Int32) &&& 31)) (itsF (oddF v) (v >>> ((6 : Int32) &&& 31)))
theorem hd_L_found : yL_found.cls ≠ "java/lang/invoke/MethodHandle" ∧ yL_found.cls ≠ "java/lang/invoke/VarHandle" ∧ (parseMethodDescriptor yL_found.desc).map (fun d => d.parameters.length) = some 7 := by decide +kernel
set_option maxHeartbeats 4000000 in
set_option maxRecDepth 100000 in
theorem c_L_found (l : Launch) (hfl : l.stackTraces = false) (D : va_G) (cy : Nat → ClassId) (base : Nat → Prop) (ad : Nat → Nat) (n nc : Nat) (g : sg) (b1 ago d1 e1 value room : Int32) (hfj : ∀ j, g 6 j = if j < n then 1 else 0) (hfc : g 0 8 = nI n) : kM l yL_found wsL_found (kR 9 12 100) D cy base ad n nc g [.ref (ad 0), .int b1, .int ago, .int d1, .int e1, .int value, .int room] (kLP (ad 0) (foundF n nc g b1 ago d1 e1 value room)) kNo 12 100 := by
  refine kx_methH (cc := cL_found) (maxL := 8) (ret := (some .int)) (hh := [(0, 20, 21, 78), (0, 20, 26, 81), (0, 20, 31, 83)]) (by decide) rfl (Nat.le_of_ble_eq_true rfl) ?_
  intro p e s m args below meth c ls hx hb hr hml hown hts hlk hT hG hl Q H locs hQ hw hS
  have hl : lv_has ls 8 [(0, .ref (ad 0)), (1, .int b1), (2, .int ago), (3, .int d1), (4, .int e1), (5, .int value), (6, .int room)] := hl
  have hown : s.vm.findClass RL = some m.cls := hown
  have hF : CallFix p m c cL_found 8 s args wsL_found RL := ⟨hx, hb, hml, hown, hts⟩
  have k_80 := hts (.constant RL 80 (-2100000000)) (by decide +kernel)
  refine lv_aload_n hx hb dL_found_0 rfl (lv_at hl 0 rfl) ?_
  refine lv_iload_n hx hb dL_found_1 rfl (lv_at hl 1 rfl) ?_
  refine lv_bipush (v := 10) hx hb dL_found_2 (by decide) ?_
  refine lv_irem hx hb dL_found_4 (by decide +kernel) ?_
  refine lv_iload_n hx hb dL_found_5 rfl (lv_at hl 1 rfl) ?_
  refine lv_bipush (v := 10) hx hb dL_found_6 (by decide) ?_
  refine lv_idiv hx hb dL_found_8 (by decide +kernel) ?_
  refine lv_iload_n hx hb dL_found_9 rfl (lv_at hl 2 rfl) ?_
  refine lv_iload_n hx hb dL_found_10 rfl (lv_at hl 3 rfl) ?_
  refine lv_iload hx hb dL_found_11 (lv_at hl 4 rfl) ?_
  refine lv_iload hx hb dL_found_13 (lv_at hl 5 rfl) ?_
  refine lv_iload hx hb dL_found_15 (lv_at hl 6 rfl) ?_
  refine kx_call (kx_cv (As := [.int (b1 - b1 / (10 : Int32) * (10 : Int32)), .int (b1 / (10 : Int32)), .int ago, .int d1, .int e1, .int value, .int room]) (rest := []) hF hG hw hS hl.1 kC_0 rfl (c_X2_find l hfl D cy base ad n nc g (b1 - b1 / (10 : Int32) * (10 : Int32)) (b1 / (10 : Int32)) ago d1 e1 value room hfj hfc) gL_found_X2_find rfl rfl rfl hd_X2_find ⟨Nat.le_of_ble_eq_true rfl, Nat.le_of_ble_eq_true rfl⟩ rfl rfl (Nat.le_of_ble_eq_true rfl) dL_found_17 ⟨Nat.le_of_ble_eq_true rfl, Nat.le_of_ble_eq_true rfl⟩) hS (fun E9 ce9 q9 H1 locs1 hX9 hw1 hS1 hc9 hv9 hcl9 => ?_) (fun v u H locs hp hw hS => ?_)
  · rcases hX9 with ⟨rfl, hk⟩ | ⟨rfl, hk⟩ | ⟨rfl, hk⟩
    · refine kx_cat0 hown hG hT ⟨by decide, by decide⟩ (by decide) mIO (hts (.classLink RL 78 "java/lang/IndexOutOfBoundsException") (by decide +kernel)) hc9 hv9 hcl9 ?_
      refine lv_astore (lv' := [(7, .ref q9), (0, .ref (ad 0)), (1, .int b1), (2, .int ago), (3, .int d1), (4, .int e1), (5, .int value), (6, .int room)]) hx hb dL_found_21 hl (by decide) rfl (fun ls hl => ?_)
      refine lv_ldc hx hb hown k_80 dL_found_23 ?_
      exact kx_retI hQ hx hb hr hlk hw1 hS1 (Nat.le_of_ble_eq_true rfl) (Nat.le_of_ble_eq_true rfl) dL_found_25 (kLP_mk (if_neg (fun q => by rw [q] at hk; revert hk; decide +kernel)) rfl)
    · refine kx_cat1 hown hG hT ⟨by decide, by decide⟩ (by decide) mIA (hts (.classLink RL 81 "java/lang/IllegalArgumentException") (by decide +kernel)) mIO nAO (by decide) (hts (.classLink RL 78 "java/lang/IndexOutOfBoundsException") (by decide +kernel)) hc9 hv9 hcl9 ?_
      refine lv_astore (lv' := [(7, .ref q9), (0, .ref (ad 0)), (1, .int b1), (2, .int ago), (3, .int d1), (4, .int e1), (5, .int value), (6, .int room)]) hx hb dL_found_26 hl (by decide) rfl (fun ls hl => ?_)
      refine lv_ldc hx hb hown k_80 dL_found_28 ?_
      exact kx_retI hQ hx hb hr hlk hw1 hS1 (Nat.le_of_ble_eq_true rfl) (Nat.le_of_ble_eq_true rfl) dL_found_30 (kLP_mk (if_neg (fun q => by rw [q] at hk; revert hk; decide +kernel)) rfl)
    · refine kx_cat2 hown hG hT ⟨by decide, by decide⟩ (by decide) mIS (hts (.classLink RL 83 "java/lang/IllegalStateException") (by decide +kernel)) mIO nSO (by decide) (hts (.classLink RL 78 "java/lang/IndexOutOfBoundsException") (by decide +kernel)) mIA nSA (by decide) (hts (.classLink RL 81 "java/lang/IllegalArgumentException") (by decide +kernel)) hc9 hv9 hcl9 ?_
      refine lv_astore (lv' := [(7, .ref q9), (0, .ref (ad 0)), (1, .int b1), (2, .int ago), (3, .int d1), (4, .int e1), (5, .int value), (6, .int room)]) hx hb dL_found_31 hl (by decide) rfl (fun ls hl => ?_)
      refine lv_ldc hx hb hown k_80 dL_found_33 ?_
      exact kx_retI hQ hx hb hr hlk hw1 hS1 (Nat.le_of_ble_eq_true rfl) (Nat.le_of_ble_eq_true rfl) dL_found_35 (kLP_mk (if_neg (fun q => by rw [q] at hk; revert hk; decide +kernel)) rfl)
  · obtain ⟨hok, rfl, ad2, hlo, rfl⟩ := hp
    have hw : kW D cy base ad2 (n + 1) (nc) (cFind g n (b1 - b1 / (10 : Int32) * (10 : Int32)) (b1 / (10 : Int32)) ago d1 e1 value room) H := hw
    refine W.eq (g2 := F0 m 20 ls [.int (nI n)]) rfl ?_
    exact kx_retI hQ hx hb hr hlk hw hS (Nat.le_of_ble_eq_true rfl) (Nat.le_of_ble_eq_true rfl) dL_found_20 (kLP_mk (if_pos hok) (hlo 0 (by decide)))
theorem hd_L_claimed : yL_claimed.cls ≠ "java/lang/invoke/MethodHandle" ∧ yL_claimed.cls ≠ "java/lang/invoke/VarHandle" ∧ (parseMethodDescriptor yL_claimed.desc).map (fun d => d.parameters.length) = some 5 := by decide +kernel
set_option maxHeartbeats 4000000 in
set_option maxRecDepth 100000 in
theorem c_L_claimed (l : Launch) (hfl : l.stackTraces = false) (D : va_G) (cy : Nat → ClassId) (base : Nat → Prop) (ad : Nat → Nat) (n nc : Nat) (g : sg) (b1 fr to d1 : Int32) (hcj : ∀ j, g 7 j = if j < nc then 1 else 0) (hfj6 : ∀ j, g 6 j = 1 → j < 30) (hcc : g 0 9 = nI nc) : kM l yL_claimed wsL_claimed (kR 9 12 100) D cy base ad n nc g [.ref (ad 0), .int b1, .int fr, .int to, .int d1] (kLP (ad 0) (claimedF n nc g b1 fr to d1)) kNo 12 100 := by
  refine kx_methH (cc := cL_claimed) (maxL := 6) (ret := (some .int)) (hh := [(0, 16, 17, 78), (0, 16, 22, 81), (0, 16, 27, 83)]) (by decide) rfl (Nat.le_of_ble_eq_true rfl) ?_
  intro p e s m args below meth c ls hx hb hr hml hown hts hlk hT hG hl Q H locs hQ hw hS
  have hl : lv_has ls 6 [(0, .ref (ad 0)), (1, .int b1), (2, .int fr), (3, .int to), (4, .int d1)] := hl
  have hown : s.vm.findClass RL = some m.cls := hown
  have hF : CallFix p m c cL_claimed 6 s args wsL_claimed RL := ⟨hx, hb, hml, hown, hts⟩
  have k_80 := hts (.constant RL 80 (-2100000000)) (by decide +kernel)
  refine lv_aload_n hx hb dL_claimed_0 rfl (lv_at hl 0 rfl) ?_
  refine lv_iload_n hx hb dL_claimed_1 rfl (lv_at hl 1 rfl) ?_
  refine lv_bipush (v := 10) hx hb dL_claimed_2 (by decide) ?_
  refine lv_irem hx hb dL_claimed_4 (by decide +kernel) ?_
  refine lv_iload_n hx hb dL_claimed_5 rfl (lv_at hl 1 rfl) ?_
  refine lv_bipush (v := 10) hx hb dL_claimed_6 (by decide) ?_
  refine lv_idiv hx hb dL_claimed_8 (by decide +kernel) ?_
  refine lv_iload_n hx hb dL_claimed_9 rfl (lv_at hl 2 rfl) ?_
  refine lv_iload_n hx hb dL_claimed_10 rfl (lv_at hl 3 rfl) ?_
  refine lv_iload hx hb dL_claimed_11 (lv_at hl 4 rfl) ?_
  refine kx_call (kx_cv (As := [.int (b1 - b1 / (10 : Int32) * (10 : Int32)), .int (b1 / (10 : Int32)), .int fr, .int to, .int d1]) (rest := []) hF hG hw hS hl.1 kC_0 rfl (c_X2_claim l hfl D cy base ad n nc g (b1 - b1 / (10 : Int32) * (10 : Int32)) (b1 / (10 : Int32)) fr to d1 hcj hfj6 hcc) gL_claimed_X2_claim rfl rfl rfl hd_X2_claim ⟨Nat.le_of_ble_eq_true rfl, Nat.le_of_ble_eq_true rfl⟩ rfl rfl (Nat.le_of_ble_eq_true rfl) dL_claimed_13 ⟨Nat.le_of_ble_eq_true rfl, Nat.le_of_ble_eq_true rfl⟩) hS (fun E9 ce9 q9 H1 locs1 hX9 hw1 hS1 hc9 hv9 hcl9 => ?_) (fun v u H locs hp hw hS => ?_)
  · rcases hX9 with ⟨rfl, hk⟩ | ⟨rfl, hk⟩ | ⟨rfl, hk⟩
    · refine kx_cat0 hown hG hT ⟨by decide, by decide⟩ (by decide) mIO (hts (.classLink RL 78 "java/lang/IndexOutOfBoundsException") (by decide +kernel)) hc9 hv9 hcl9 ?_
      refine lv_astore (lv' := [(5, .ref q9), (0, .ref (ad 0)), (1, .int b1), (2, .int fr), (3, .int to), (4, .int d1)]) hx hb dL_claimed_17 hl (by decide) rfl (fun ls hl => ?_)
      refine lv_ldc hx hb hown k_80 dL_claimed_19 ?_
      exact kx_retI hQ hx hb hr hlk hw1 hS1 (Nat.le_of_ble_eq_true rfl) (Nat.le_of_ble_eq_true rfl) dL_claimed_21 (kLP_mk (if_neg (fun q => by rw [q] at hk; revert hk; decide +kernel)) rfl)
    · refine kx_cat1 hown hG hT ⟨by decide, by decide⟩ (by decide) mIA (hts (.classLink RL 81 "java/lang/IllegalArgumentException") (by decide +kernel)) mIO nAO (by decide) (hts (.classLink RL 78 "java/lang/IndexOutOfBoundsException") (by decide +kernel)) hc9 hv9 hcl9 ?_
      refine lv_astore (lv' := [(5, .ref q9), (0, .ref (ad 0)), (1, .int b1), (2, .int fr), (3, .int to), (4, .int d1)]) hx hb dL_claimed_22 hl (by decide) rfl (fun ls hl => ?_)
      refine lv_ldc hx hb hown k_80 dL_claimed_24 ?_
      exact kx_retI hQ hx hb hr hlk hw1 hS1 (Nat.le_of_ble_eq_true rfl) (Nat.le_of_ble_eq_true rfl) dL_claimed_26 (kLP_mk (if_neg (fun q => by rw [q] at hk; revert hk; decide +kernel)) rfl)
    · refine kx_cat2 hown hG hT ⟨by decide, by decide⟩ (by decide) mIS (hts (.classLink RL 83 "java/lang/IllegalStateException") (by decide +kernel)) mIO nSO (by decide) (hts (.classLink RL 78 "java/lang/IndexOutOfBoundsException") (by decide +kernel)) mIA nSA (by decide) (hts (.classLink RL 81 "java/lang/IllegalArgumentException") (by decide +kernel)) hc9 hv9 hcl9 ?_
      refine lv_astore (lv' := [(5, .ref q9), (0, .ref (ad 0)), (1, .int b1), (2, .int fr), (3, .int to), (4, .int d1)]) hx hb dL_claimed_27 hl (by decide) rfl (fun ls hl => ?_)
      refine lv_ldc hx hb hown k_80 dL_claimed_29 ?_
      exact kx_retI hQ hx hb hr hlk hw1 hS1 (Nat.le_of_ble_eq_true rfl) (Nat.le_of_ble_eq_true rfl) dL_claimed_31 (kLP_mk (if_neg (fun q => by rw [q] at hk; revert hk; decide +kernel)) rfl)
  · obtain ⟨hok, rfl, ad2, hlo, rfl⟩ := hp
    have hw : kW D cy base ad2 (n) (nc + 1) (cClaim g nc (b1 - b1 / (10 : Int32) * (10 : Int32)) (b1 / (10 : Int32)) fr to d1) H := hw
    refine W.eq (g2 := F0 m 16 ls [.int (nI nc)]) rfl ?_
    exact kx_retI hQ hx hb hr hlk hw hS (Nat.le_of_ble_eq_true rfl) (Nat.le_of_ble_eq_true rfl) dL_claimed_16 (kLP_mk (if_pos hok) (hlo 0 (by decide)))
