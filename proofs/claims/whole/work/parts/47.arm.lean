/-! the arms of the law's switch: laid by wip/whole/lawgen.py -/
set_option maxHeartbeats 4000000 in
set_option maxRecDepth 100000 in
theorem arm_extend (l : Launch) (hfl : l.stackTraces = false) {p : Program} {e : Env} {s : State} {m : MethodId} {args : Array Value} {below : List Frame} {meth : Method} {c : Code} {Q : State → Prop} {D : va_G} {cy : Nat → ClassId} {base : Nat} (hF : CallFix p m c cL_law 7 s args wsL_law RL) (hG : kG D cy base s) {b L : Nat} {xs : Nat → Int32} (hX : va_X b L xs s s.heap) (hbl : b < s.heap.size) (hbA : ¬ kA base b) (hL : L ≤ 4096) (i : Nat) (hi : i + 8 ≤ L) {cells slots : Nat} (hc1 : cells + 12 ≤ 601024) (hc2 : slots + 100 ≤ 7293034) (kk : ∀ (H : Heap) (locs : List Loc) (ls : Array Slot) (ad : Nat → Nat) (n nc : Nat) (g : sg), kRl n nc g g → kW D cy base ad n nc g H → va_S (kA base) s.heap H locs → lv_has ls 7 [(4, .int (nI i)), (0, .ref b), (1, .ref (ad 0)), (2, .ref (ad 9)), (3, .ref (ad 40))] → W p l e room_1 s m args below meth c H locs (cells + 12) (slots + 100) Q (F0 m 2388 ls [])) {H : Heap} {locs : List Loc} {ls : Array Slot} {ad : Nat → Nat} {n nc : Nat} {g : sg} (hrel : kRl n nc g g) (hw : kW D cy base ad n nc g H) (hS : va_S (kA base) s.heap H locs) (hl : lv_has ls 7 [(4, .int (nI i)), (0, .ref b), (1, .ref (ad 0)), (2, .ref (ad 9)), (3, .ref (ad 40))]) : W p l e room_1 s m args below meth c H locs cells slots Q (F0 m 1385 ls []) := by
  have hx := hF.1
  have hb := hF.2.1
  have hts := hF.2.2.2.2
  have hown := hF.2.2.2.1
  refine lv_aload_n hx hb dL_law_1385 rfl (lv_at hl 2 rfl) ?_
  refine kx_arg hx hb hX hbl hbA hS (lv_at hl 1 rfl) (lv_at hl 0 rfl) 1 (by omega) hL (by decide) dL_law_1386 dL_law_1387 dL_law_1389 dL_law_1390 dL_law_1391 ?_
  refine kx_arg hx hb hX hbl hbA hS (lv_at hl 1 rfl) (lv_at hl 0 rfl) 2 (by omega) hL (by decide) dL_law_1392 dL_law_1393 dL_law_1395 dL_law_1396 dL_law_1397 ?_
  refine lv_aload_n hx hb dL_law_1398 rfl (lv_at hl 4 rfl) ?_
  refine kx_callW (kx_csH (As := [.ref (ad 0), .int (xs (i + 1)), .int (xs (i + 2)), .ref (ad 40)]) (rest := []) hF hG hw hS hl.1 (c_L_extend l hfl D cy base ad n nc g (xs (i + 1)) (xs (i + 2)) hrel.fr) gL_law_L_extend rfl rfl rfl hd_L_extend ⟨Nat.le_of_ble_eq_true rfl, Nat.le_of_ble_eq_true rfl⟩ rfl rfl (Nat.le_of_ble_eq_true rfl) dL_law_1399 ⟨hc1, hc2⟩) hS (fun K u H locs hK hu hw hS => ?_)
  refine lv_istore (lv' := [(5, .int K), (4, .int (nI i)), (0, .ref b), (1, .ref (ad 0)), (2, .ref (ad 9)), (3, .ref (ad 40))]) hx hb dL_law_1402 hl (by decide) rfl (fun ls hl => ?_)
  obtain rfl := hu
  obtain ⟨gB, hB, hw⟩ := ex_kW hw
  have hop := op_extend hrel (xs (i + 1)) (xs (i + 2)) hB
  obtain ⟨he, hKm, hAm, h90, h40, hr0, hrN⟩ := hop
  obtain ⟨hfn, hcn, hmR, hhm, hzm, hz0⟩ := hrel.mh he
  refine lv_aload_n hx hb dL_law_1404 rfl (lv_at hl 4 rfl) ?_
  refine kx_arg hx hb hX hbl hbA hS (lv_at hl 2 rfl) (lv_at hl 1 rfl) 1 (by omega) hL (by decide) dL_law_1405 dL_law_1406 dL_law_1408 dL_law_1409 dL_law_1410 ?_
  refine kx_arg hx hb hX hbl hbA hS (lv_at hl 2 rfl) (lv_at hl 1 rfl) 2 (by omega) hL (by decide) dL_law_1411 dL_law_1412 dL_law_1414 dL_law_1415 dL_law_1416 ?_
  refine kx_doV (kx_cv (As := [.int (xs (i + 1)), .int (xs (i + 2))]) (rest := []) hF hG hw hS hl.1 kC_9 rfl (c_X3_extend l hfl D cy base ad n nc gB (xs (i + 1)) (xs (i + 2)) hfn) gL_law_X3_extend rfl rfl rfl hd_X3_extend ⟨Nat.le_of_ble_eq_true rfl, Nat.le_of_ble_eq_true rfl⟩ rfl rfl (Nat.le_of_ble_eq_true rfl) dL_law_1417 ⟨hc1, hc2⟩) hS (fun v gC e_v e_g H locs hw hS => ?_)
  rw [← e_g] at h90 h40 hr0 hrN
  refine lv_istore (lv' := [(6, .int v), (5, .int K), (4, .int (nI i)), (0, .ref b), (1, .ref (ad 0)), (2, .ref (ad 9)), (3, .ref (ad 40))]) hx hb dL_law_1420 hl (by decide) rfl (fun ls hl => ?_)
  refine lv_aload_n hx hb dL_law_1422 rfl (lv_at hl 5 rfl) ?_
  refine kx_doV (kx_cv (As := []) (rest := []) hF hG hw hS hl.1 kC_9 rfl (c_X3_thrown l hfl D cy base ad n nc gC) gL_law_X3_thrown rfl rfl rfl hd_X3_thrown ⟨Nat.le_of_ble_eq_true rfl, Nat.le_of_ble_eq_true rfl⟩ rfl rfl (Nat.le_of_ble_eq_true rfl) dL_law_1423 ⟨hc1, hc2⟩) hS (fun t0 g0 e_t e_0 H1 locs1 hw1 hS1 => ?_)
  subst e_0
  have hw := hw1
  have hS := hS1
  refine lv_iload hx hb dL_law_1426 (lv_at hl 1 rfl) ?_
  refine lv_icmp_eq (tgt := 1433) hx hb dL_law_1428 (by decide) (fun _ => ?_) (fun h => absurd (e_t.trans (h90.trans hK.symm)) h)
  refine lv_iload hx hb dL_law_1433 (lv_at hl 1 rfl) ?_
  refine lv_if_ne (tgt := 1450) hx hb dL_law_1435 (by decide) (fun h => ?_) (fun h => ?_)
  · refine lv_goto (tgt := 2388) hx hb dL_law_1450 (by decide) ?_
    exact kk _ _ _ ad n nc _ (hrN (fun z => h (hK.trans z))) hw hS (lv_sub hl [2, 3, 4, 5, 6] rfl)
  · refine lv_aload_n hx hb dL_law_1438 rfl (lv_at hl 6 rfl) ?_
    refine lv_iconst (v := 0) hx hb dL_law_1439 (by decide) ?_
    refine kx_lald hx hb hG hw dL_law_1440 ?_
    have h := hK.symm.trans h
    have hv : v = g0 40 0 := by rw [e_v, h40, if_pos h]; exact (rv_0 (hKm.trans h)).trans (hAm h)
    refine lv_iload hx hb dL_law_1441 (lv_at hl 0 rfl) ?_
    refine lv_i2l (v := v.toInt64) hx hb dL_law_1443 rfl ?_
    refine kx_same (tgt := 1450) hx hb (by rw [hv]) dL_law_1444 dL_law_1445 (by decide) ?_
    refine lv_goto (tgt := 2388) hx hb dL_law_1450 (by decide) ?_
    exact kk _ _ _ ad n nc _ (hr0 h) hw hS (lv_sub hl [2, 3, 4, 5, 6] rfl)
set_option maxHeartbeats 4000000 in
set_option maxRecDepth 100000 in
theorem arm_sell (l : Launch) (hfl : l.stackTraces = false) {p : Program} {e : Env} {s : State} {m : MethodId} {args : Array Value} {below : List Frame} {meth : Method} {c : Code} {Q : State → Prop} {D : va_G} {cy : Nat → ClassId} {base : Nat} (hF : CallFix p m c cL_law 7 s args wsL_law RL) (hG : kG D cy base s) {b L : Nat} {xs : Nat → Int32} (hX : va_X b L xs s s.heap) (hbl : b < s.heap.size) (hbA : ¬ kA base b) (hL : L ≤ 4096) (i : Nat) (hi : i + 8 ≤ L) {cells slots : Nat} (hc1 : cells + 12 ≤ 601024) (hc2 : slots + 100 ≤ 7293034) (kk : ∀ (H : Heap) (locs : List Loc) (ls : Array Slot) (ad : Nat → Nat) (n nc : Nat) (g : sg), kRl n nc g g → kW D cy base ad n nc g H → va_S (kA base) s.heap H locs → lv_has ls 7 [(4, .int (nI i)), (0, .ref b), (1, .ref (ad 0)), (2, .ref (ad 9)), (3, .ref (ad 40))] → W p l e room_1 s m args below meth c H locs (cells + 12) (slots + 100) Q (F0 m 2388 ls [])) {H : Heap} {locs : List Loc} {ls : Array Slot} {ad : Nat → Nat} {n nc : Nat} {g : sg} (hrel : kRl n nc g g) (hw : kW D cy base ad n nc g H) (hS : va_S (kA base) s.heap H locs) (hl : lv_has ls 7 [(4, .int (nI i)), (0, .ref b), (1, .ref (ad 0)), (2, .ref (ad 9)), (3, .ref (ad 40))]) : W p l e room_1 s m args below meth c H locs cells slots Q (F0 m 1453 ls []) := by
  have hx := hF.1
  have hb := hF.2.1
  have hts := hF.2.2.2.2
  have hown := hF.2.2.2.1
  refine lv_aload_n hx hb dL_law_1453 rfl (lv_at hl 2 rfl) ?_
  refine kx_arg hx hb hX hbl hbA hS (lv_at hl 1 rfl) (lv_at hl 0 rfl) 1 (by omega) hL (by decide) dL_law_1454 dL_law_1455 dL_law_1457 dL_law_1458 dL_law_1459 ?_
  refine kx_arg hx hb hX hbl hbA hS (lv_at hl 1 rfl) (lv_at hl 0 rfl) 2 (by omega) hL (by decide) dL_law_1460 dL_law_1461 dL_law_1463 dL_law_1464 dL_law_1465 ?_
  refine lv_aload_n hx hb dL_law_1466 rfl (lv_at hl 4 rfl) ?_
  refine kx_callW (kx_csH (As := [.ref (ad 0), .int (xs (i + 1)), .int (xs (i + 2)), .ref (ad 40)]) (rest := []) hF hG hw hS hl.1 (c_L_sell l hfl D cy base ad n nc g (xs (i + 1)) (xs (i + 2)) hrel.fr hrel.cr hrel.cRr) gL_law_L_sell rfl rfl rfl hd_L_sell ⟨Nat.le_of_ble_eq_true rfl, Nat.le_of_ble_eq_true rfl⟩ rfl rfl (Nat.le_of_ble_eq_true rfl) dL_law_1467 ⟨hc1, hc2⟩) hS (fun K u H locs hK hu hw hS => ?_)
  refine lv_istore (lv' := [(5, .int K), (4, .int (nI i)), (0, .ref b), (1, .ref (ad 0)), (2, .ref (ad 9)), (3, .ref (ad 40))]) hx hb dL_law_1470 hl (by decide) rfl (fun ls hl => ?_)
  obtain rfl := hu
  obtain ⟨gB, hB, hw⟩ := ex_kW hw
  have hop := op_sell hrel (xs (i + 1)) (xs (i + 2)) hB
  obtain ⟨he, hKm, hAm, h90, h40, hr0, hrN⟩ := hop
  obtain ⟨hfn, hcn, hmR, hhm, hzm, hz0⟩ := hrel.mh he
  refine lv_aload_n hx hb dL_law_1472 rfl (lv_at hl 4 rfl) ?_
  refine kx_arg hx hb hX hbl hbA hS (lv_at hl 2 rfl) (lv_at hl 1 rfl) 1 (by omega) hL (by decide) dL_law_1473 dL_law_1474 dL_law_1476 dL_law_1477 dL_law_1478 ?_
  refine kx_arg hx hb hX hbl hbA hS (lv_at hl 2 rfl) (lv_at hl 1 rfl) 2 (by omega) hL (by decide) dL_law_1479 dL_law_1480 dL_law_1482 dL_law_1483 dL_law_1484 ?_
  refine kx_doV (kx_cv (As := [.int (xs (i + 1)), .int (xs (i + 2))]) (rest := []) hF hG hw hS hl.1 kC_9 rfl (c_X3_sell l hfl D cy base ad n nc gB (xs (i + 1)) (xs (i + 2)) hfn hcn hmR) gL_law_X3_sell rfl rfl rfl hd_X3_sell ⟨Nat.le_of_ble_eq_true rfl, Nat.le_of_ble_eq_true rfl⟩ rfl rfl (Nat.le_of_ble_eq_true rfl) dL_law_1485 ⟨hc1, hc2⟩) hS (fun v gC e_v e_g H locs hw hS => ?_)
  rw [← e_g] at h90 h40 hr0 hrN
  refine lv_istore (lv' := [(6, .int v), (5, .int K), (4, .int (nI i)), (0, .ref b), (1, .ref (ad 0)), (2, .ref (ad 9)), (3, .ref (ad 40))]) hx hb dL_law_1488 hl (by decide) rfl (fun ls hl => ?_)
  refine lv_aload_n hx hb dL_law_1490 rfl (lv_at hl 5 rfl) ?_
  refine kx_doV (kx_cv (As := []) (rest := []) hF hG hw hS hl.1 kC_9 rfl (c_X3_thrown l hfl D cy base ad n nc gC) gL_law_X3_thrown rfl rfl rfl hd_X3_thrown ⟨Nat.le_of_ble_eq_true rfl, Nat.le_of_ble_eq_true rfl⟩ rfl rfl (Nat.le_of_ble_eq_true rfl) dL_law_1491 ⟨hc1, hc2⟩) hS (fun t0 g0 e_t e_0 H1 locs1 hw1 hS1 => ?_)
  subst e_0
  have hw := hw1
  have hS := hS1
  refine lv_iload hx hb dL_law_1494 (lv_at hl 1 rfl) ?_
  refine lv_icmp_eq (tgt := 1501) hx hb dL_law_1496 (by decide) (fun _ => ?_) (fun h => absurd (e_t.trans (h90.trans hK.symm)) h)
  refine lv_iload hx hb dL_law_1501 (lv_at hl 1 rfl) ?_
  refine lv_if_ne (tgt := 1518) hx hb dL_law_1503 (by decide) (fun h => ?_) (fun h => ?_)
  · refine lv_goto (tgt := 2388) hx hb dL_law_1518 (by decide) ?_
    exact kk _ _ _ ad n nc _ (hrN (fun z => h (hK.trans z))) hw hS (lv_sub hl [2, 3, 4, 5, 6] rfl)
  · refine lv_aload_n hx hb dL_law_1506 rfl (lv_at hl 6 rfl) ?_
    refine lv_iconst (v := 0) hx hb dL_law_1507 (by decide) ?_
    refine kx_lald hx hb hG hw dL_law_1508 ?_
    have h := hK.symm.trans h
    have hv : v = g0 40 0 := by rw [e_v, h40, if_pos h]; exact (rv_0 (hKm.trans h)).trans (hAm h)
    refine lv_iload hx hb dL_law_1509 (lv_at hl 0 rfl) ?_
    refine lv_i2l (v := v.toInt64) hx hb dL_law_1511 rfl ?_
    refine kx_same (tgt := 1518) hx hb (by rw [hv]) dL_law_1512 dL_law_1513 (by decide) ?_
    refine lv_goto (tgt := 2388) hx hb dL_law_1518 (by decide) ?_
    exact kk _ _ _ ad n nc _ (hr0 h) hw hS (lv_sub hl [2, 3, 4, 5, 6] rfl)
set_option maxHeartbeats 4000000 in
set_option maxRecDepth 100000 in
theorem arm_destroy (l : Launch) (hfl : l.stackTraces = false) {p : Program} {e : Env} {s : State} {m : MethodId} {args : Array Value} {below : List Frame} {meth : Method} {c : Code} {Q : State → Prop} {D : va_G} {cy : Nat → ClassId} {base : Nat} (hF : CallFix p m c cL_law 7 s args wsL_law RL) (hG : kG D cy base s) {b L : Nat} {xs : Nat → Int32} (hX : va_X b L xs s s.heap) (hbl : b < s.heap.size) (hbA : ¬ kA base b) (hL : L ≤ 4096) (i : Nat) (hi : i + 8 ≤ L) {cells slots : Nat} (hc1 : cells + 12 ≤ 601024) (hc2 : slots + 100 ≤ 7293034) (kk : ∀ (H : Heap) (locs : List Loc) (ls : Array Slot) (ad : Nat → Nat) (n nc : Nat) (g : sg), kRl n nc g g → kW D cy base ad n nc g H → va_S (kA base) s.heap H locs → lv_has ls 7 [(4, .int (nI i)), (0, .ref b), (1, .ref (ad 0)), (2, .ref (ad 9)), (3, .ref (ad 40))] → W p l e room_1 s m args below meth c H locs (cells + 12) (slots + 100) Q (F0 m 2388 ls [])) {H : Heap} {locs : List Loc} {ls : Array Slot} {ad : Nat → Nat} {n nc : Nat} {g : sg} (hrel : kRl n nc g g) (hw : kW D cy base ad n nc g H) (hS : va_S (kA base) s.heap H locs) (hl : lv_has ls 7 [(4, .int (nI i)), (0, .ref b), (1, .ref (ad 0)), (2, .ref (ad 9)), (3, .ref (ad 40))]) : W p l e room_1 s m args below meth c H locs cells slots Q (F0 m 1521 ls []) := by
  have hx := hF.1
  have hb := hF.2.1
  have hts := hF.2.2.2.2
  have hown := hF.2.2.2.1
  refine lv_aload_n hx hb dL_law_1521 rfl (lv_at hl 2 rfl) ?_
  refine kx_arg hx hb hX hbl hbA hS (lv_at hl 1 rfl) (lv_at hl 0 rfl) 1 (by omega) hL (by decide) dL_law_1522 dL_law_1523 dL_law_1525 dL_law_1526 dL_law_1527 ?_
  refine lv_aload_n hx hb dL_law_1528 rfl (lv_at hl 4 rfl) ?_
  refine kx_callW (kx_csH (As := [.ref (ad 0), .int (xs (i + 1)), .ref (ad 40)]) (rest := []) hF hG hw hS hl.1 (c_L_destroy l hfl D cy base ad n nc g (xs (i + 1)) hrel.fr hrel.cr hrel.cRr) gL_law_L_destroy rfl rfl rfl hd_L_destroy ⟨Nat.le_of_ble_eq_true rfl, Nat.le_of_ble_eq_true rfl⟩ rfl rfl (Nat.le_of_ble_eq_true rfl) dL_law_1529 ⟨hc1, hc2⟩) hS (fun K u H locs hK hu hw hS => ?_)
  refine lv_istore (lv' := [(5, .int K), (4, .int (nI i)), (0, .ref b), (1, .ref (ad 0)), (2, .ref (ad 9)), (3, .ref (ad 40))]) hx hb dL_law_1532 hl (by decide) rfl (fun ls hl => ?_)
  obtain rfl := hu
  obtain ⟨gB, hB, hw⟩ := ex_kW hw
  have hop := op_destroy hrel (xs (i + 1)) hB
  obtain ⟨he, hKm, hAm, h90, h40, hr0, hrN⟩ := hop
  obtain ⟨hfn, hcn, hmR, hhm, hzm, hz0⟩ := hrel.mh he
  refine lv_aload_n hx hb dL_law_1534 rfl (lv_at hl 4 rfl) ?_
  refine kx_arg hx hb hX hbl hbA hS (lv_at hl 2 rfl) (lv_at hl 1 rfl) 1 (by omega) hL (by decide) dL_law_1535 dL_law_1536 dL_law_1538 dL_law_1539 dL_law_1540 ?_
  refine kx_doV (kx_cv (As := [.int (xs (i + 1))]) (rest := []) hF hG hw hS hl.1 kC_9 rfl (c_X3_destroy l hfl D cy base ad n nc gB (xs (i + 1)) hfn hcn hmR) gL_law_X3_destroy rfl rfl rfl hd_X3_destroy ⟨Nat.le_of_ble_eq_true rfl, Nat.le_of_ble_eq_true rfl⟩ rfl rfl (Nat.le_of_ble_eq_true rfl) dL_law_1541 ⟨hc1, hc2⟩) hS (fun v gC e_v e_g H locs hw hS => ?_)
  rw [← e_g] at h90 h40 hr0 hrN
  refine lv_istore (lv' := [(6, .int v), (5, .int K), (4, .int (nI i)), (0, .ref b), (1, .ref (ad 0)), (2, .ref (ad 9)), (3, .ref (ad 40))]) hx hb dL_law_1544 hl (by decide) rfl (fun ls hl => ?_)
  refine lv_aload_n hx hb dL_law_1546 rfl (lv_at hl 5 rfl) ?_
  refine kx_doV (kx_cv (As := []) (rest := []) hF hG hw hS hl.1 kC_9 rfl (c_X3_thrown l hfl D cy base ad n nc gC) gL_law_X3_thrown rfl rfl rfl hd_X3_thrown ⟨Nat.le_of_ble_eq_true rfl, Nat.le_of_ble_eq_true rfl⟩ rfl rfl (Nat.le_of_ble_eq_true rfl) dL_law_1547 ⟨hc1, hc2⟩) hS (fun t0 g0 e_t e_0 H1 locs1 hw1 hS1 => ?_)
  subst e_0
  have hw := hw1
  have hS := hS1
  refine lv_iload hx hb dL_law_1550 (lv_at hl 1 rfl) ?_
  refine lv_icmp_eq (tgt := 1557) hx hb dL_law_1552 (by decide) (fun _ => ?_) (fun h => absurd (e_t.trans (h90.trans hK.symm)) h)
  refine lv_iload hx hb dL_law_1557 (lv_at hl 1 rfl) ?_
  refine lv_if_ne (tgt := 1574) hx hb dL_law_1559 (by decide) (fun h => ?_) (fun h => ?_)
  · refine lv_goto (tgt := 2388) hx hb dL_law_1574 (by decide) ?_
    exact kk _ _ _ ad n nc _ (hrN (fun z => h (hK.trans z))) hw hS (lv_sub hl [2, 3, 4, 5, 6] rfl)
  · refine lv_aload_n hx hb dL_law_1562 rfl (lv_at hl 6 rfl) ?_
    refine lv_iconst (v := 0) hx hb dL_law_1563 (by decide) ?_
    refine kx_lald hx hb hG hw dL_law_1564 ?_
    have h := hK.symm.trans h
    have hv : v = g0 40 0 := by rw [e_v, h40, if_pos h]; exact (rv_0 (hKm.trans h)).trans (hAm h)
    refine lv_iload hx hb dL_law_1565 (lv_at hl 0 rfl) ?_
    refine lv_i2l (v := v.toInt64) hx hb dL_law_1567 rfl ?_
    refine kx_same (tgt := 1574) hx hb (by rw [hv]) dL_law_1568 dL_law_1569 (by decide) ?_
    refine lv_goto (tgt := 2388) hx hb dL_law_1574 (by decide) ?_
    exact kk _ _ _ ad n nc _ (hr0 h) hw hS (lv_sub hl [2, 3, 4, 5, 6] rfl)
set_option maxHeartbeats 4000000 in
set_option maxRecDepth 100000 in
theorem arm_payOut (l : Launch) (hfl : l.stackTraces = false) {p : Program} {e : Env} {s : State} {m : MethodId} {args : Array Value} {below : List Frame} {meth : Method} {c : Code} {Q : State → Prop} {D : va_G} {cy : Nat → ClassId} {base : Nat} (hF : CallFix p m c cL_law 7 s args wsL_law RL) (hG : kG D cy base s) {b L : Nat} {xs : Nat → Int32} (hX : va_X b L xs s s.heap) (hbl : b < s.heap.size) (hbA : ¬ kA base b) (hL : L ≤ 4096) (i : Nat) (hi : i + 8 ≤ L) {cells slots : Nat} (hc1 : cells + 12 ≤ 601024) (hc2 : slots + 100 ≤ 7293034) (kk : ∀ (H : Heap) (locs : List Loc) (ls : Array Slot) (ad : Nat → Nat) (n nc : Nat) (g : sg), kRl n nc g g → kW D cy base ad n nc g H → va_S (kA base) s.heap H locs → lv_has ls 7 [(4, .int (nI i)), (0, .ref b), (1, .ref (ad 0)), (2, .ref (ad 9)), (3, .ref (ad 40))] → W p l e room_1 s m args below meth c H locs (cells + 12) (slots + 100) Q (F0 m 2388 ls [])) {H : Heap} {locs : List Loc} {ls : Array Slot} {ad : Nat → Nat} {n nc : Nat} {g : sg} (hrel : kRl n nc g g) (hw : kW D cy base ad n nc g H) (hS : va_S (kA base) s.heap H locs) (hl : lv_has ls 7 [(4, .int (nI i)), (0, .ref b), (1, .ref (ad 0)), (2, .ref (ad 9)), (3, .ref (ad 40))]) : W p l e room_1 s m args below meth c H locs cells slots Q (F0 m 1577 ls []) := by
  have hx := hF.1
  have hb := hF.2.1
  have hts := hF.2.2.2.2
  have hown := hF.2.2.2.1
  refine lv_aload_n hx hb dL_law_1577 rfl (lv_at hl 2 rfl) ?_
  refine kx_arg hx hb hX hbl hbA hS (lv_at hl 1 rfl) (lv_at hl 0 rfl) 1 (by omega) hL (by decide) dL_law_1578 dL_law_1579 dL_law_1581 dL_law_1582 dL_law_1583 ?_
  refine kx_arg hx hb hX hbl hbA hS (lv_at hl 1 rfl) (lv_at hl 0 rfl) 2 (by omega) hL (by decide) dL_law_1584 dL_law_1585 dL_law_1587 dL_law_1588 dL_law_1589 ?_
  refine lv_aload_n hx hb dL_law_1590 rfl (lv_at hl 4 rfl) ?_
  refine kx_callW (kx_csH (As := [.ref (ad 0), .int (xs (i + 1)), .int (xs (i + 2)), .ref (ad 40)]) (rest := []) hF hG hw hS hl.1 (c_L_payOut l hfl D cy base ad n nc g (xs (i + 1)) (xs (i + 2)) hrel.fr hrel.cr hrel.cRr) gL_law_L_payOut rfl rfl rfl hd_L_payOut ⟨Nat.le_of_ble_eq_true rfl, Nat.le_of_ble_eq_true rfl⟩ rfl rfl (Nat.le_of_ble_eq_true rfl) dL_law_1591 ⟨hc1, hc2⟩) hS (fun K u H locs hK hu hw hS => ?_)
  refine lv_istore (lv' := [(5, .int K), (4, .int (nI i)), (0, .ref b), (1, .ref (ad 0)), (2, .ref (ad 9)), (3, .ref (ad 40))]) hx hb dL_law_1594 hl (by decide) rfl (fun ls hl => ?_)
  obtain rfl := hu
  obtain ⟨gB, hB, hw⟩ := ex_kW hw
  have hop := op_payOut hrel (xs (i + 1)) (xs (i + 2)) hB
  obtain ⟨he, hKm, hAm, h90, h40, hr0, hrN⟩ := hop
  obtain ⟨hfn, hcn, hmR, hhm, hzm, hz0⟩ := hrel.mh he
  refine lv_aload_n hx hb dL_law_1596 rfl (lv_at hl 4 rfl) ?_
  refine kx_arg hx hb hX hbl hbA hS (lv_at hl 2 rfl) (lv_at hl 1 rfl) 1 (by omega) hL (by decide) dL_law_1597 dL_law_1598 dL_law_1600 dL_law_1601 dL_law_1602 ?_
  refine kx_arg hx hb hX hbl hbA hS (lv_at hl 2 rfl) (lv_at hl 1 rfl) 2 (by omega) hL (by decide) dL_law_1603 dL_law_1604 dL_law_1606 dL_law_1607 dL_law_1608 ?_
  refine kx_doV (kx_cv (As := [.int (xs (i + 1)), .int (xs (i + 2))]) (rest := []) hF hG hw hS hl.1 kC_9 rfl (c_X3_payOut l hfl D cy base ad n nc gB (xs (i + 1)) (xs (i + 2)) hfn hcn hmR) gL_law_X3_payOut rfl rfl rfl hd_X3_payOut ⟨Nat.le_of_ble_eq_true rfl, Nat.le_of_ble_eq_true rfl⟩ rfl rfl (Nat.le_of_ble_eq_true rfl) dL_law_1609 ⟨hc1, hc2⟩) hS (fun v gC e_v e_g H locs hw hS => ?_)
  rw [← e_g] at h90 h40 hr0 hrN
  refine lv_istore (lv' := [(6, .int v), (5, .int K), (4, .int (nI i)), (0, .ref b), (1, .ref (ad 0)), (2, .ref (ad 9)), (3, .ref (ad 40))]) hx hb dL_law_1612 hl (by decide) rfl (fun ls hl => ?_)
  refine lv_aload_n hx hb dL_law_1614 rfl (lv_at hl 5 rfl) ?_
  refine kx_doV (kx_cv (As := []) (rest := []) hF hG hw hS hl.1 kC_9 rfl (c_X3_thrown l hfl D cy base ad n nc gC) gL_law_X3_thrown rfl rfl rfl hd_X3_thrown ⟨Nat.le_of_ble_eq_true rfl, Nat.le_of_ble_eq_true rfl⟩ rfl rfl (Nat.le_of_ble_eq_true rfl) dL_law_1615 ⟨hc1, hc2⟩) hS (fun t0 g0 e_t e_0 H1 locs1 hw1 hS1 => ?_)
  subst e_0
  have hw := hw1
  have hS := hS1
  refine lv_iload hx hb dL_law_1618 (lv_at hl 1 rfl) ?_
  refine lv_icmp_eq (tgt := 1625) hx hb dL_law_1620 (by decide) (fun _ => ?_) (fun h => absurd (e_t.trans (h90.trans hK.symm)) h)
  refine lv_iload hx hb dL_law_1625 (lv_at hl 1 rfl) ?_
  refine lv_if_ne (tgt := 1642) hx hb dL_law_1627 (by decide) (fun h => ?_) (fun h => ?_)
  · refine lv_goto (tgt := 2388) hx hb dL_law_1642 (by decide) ?_
    exact kk _ _ _ ad n nc _ (hrN (fun z => h (hK.trans z))) hw hS (lv_sub hl [2, 3, 4, 5, 6] rfl)
  · refine lv_aload_n hx hb dL_law_1630 rfl (lv_at hl 6 rfl) ?_
    refine lv_iconst (v := 0) hx hb dL_law_1631 (by decide) ?_
    refine kx_lald hx hb hG hw dL_law_1632 ?_
    have h := hK.symm.trans h
    have hv : v = g0 40 0 := by rw [e_v, h40, if_pos h]; exact (rv_0 (hKm.trans h)).trans (hAm h)
    refine lv_iload hx hb dL_law_1633 (lv_at hl 0 rfl) ?_
    refine lv_i2l (v := v.toInt64) hx hb dL_law_1635 rfl ?_
    refine kx_same (tgt := 1642) hx hb (by rw [hv]) dL_law_1636 dL_law_1637 (by decide) ?_
    refine lv_goto (tgt := 2388) hx hb dL_law_1642 (by decide) ?_
    exact kk _ _ _ ad n nc _ (hr0 h) hw hS (lv_sub hl [2, 3, 4, 5, 6] rfl)
set_option maxHeartbeats 4000000 in
set_option maxRecDepth 100000 in
theorem arm_pass (l : Launch) (hfl : l.stackTraces = false) {p : Program} {e : Env} {s : State} {m : MethodId} {args : Array Value} {below : List Frame} {meth : Method} {c : Code} {Q : State → Prop} {D : va_G} {cy : Nat → ClassId} {base : Nat} (hF : CallFix p m c cL_law 7 s args wsL_law RL) (hG : kG D cy base s) {b L : Nat} {xs : Nat → Int32} (hX : va_X b L xs s s.heap) (hbl : b < s.heap.size) (hbA : ¬ kA base b) (hL : L ≤ 4096) (i : Nat) (hi : i + 8 ≤ L) {cells slots : Nat} (hc1 : cells + 12 ≤ 601024) (hc2 : slots + 100 ≤ 7293034) (kk : ∀ (H : Heap) (locs : List Loc) (ls : Array Slot) (ad : Nat → Nat) (n nc : Nat) (g : sg), kRl n nc g g → kW D cy base ad n nc g H → va_S (kA base) s.heap H locs → lv_has ls 7 [(4, .int (nI i)), (0, .ref b), (1, .ref (ad 0)), (2, .ref (ad 9)), (3, .ref (ad 40))] → W p l e room_1 s m args below meth c H locs (cells + 12) (slots + 100) Q (F0 m 2388 ls [])) {H : Heap} {locs : List Loc} {ls : Array Slot} {ad : Nat → Nat} {n nc : Nat} {g : sg} (hrel : kRl n nc g g) (hw : kW D cy base ad n nc g H) (hS : va_S (kA base) s.heap H locs) (hl : lv_has ls 7 [(4, .int (nI i)), (0, .ref b), (1, .ref (ad 0)), (2, .ref (ad 9)), (3, .ref (ad 40))]) : W p l e room_1 s m args below meth c H locs cells slots Q (F0 m 1645 ls []) := by
  have hx := hF.1
  have hb := hF.2.1
  have hts := hF.2.2.2.2
  have hown := hF.2.2.2.1
  refine lv_aload_n hx hb dL_law_1645 rfl (lv_at hl 2 rfl) ?_
  refine kx_arg hx hb hX hbl hbA hS (lv_at hl 1 rfl) (lv_at hl 0 rfl) 1 (by omega) hL (by decide) dL_law_1646 dL_law_1647 dL_law_1649 dL_law_1650 dL_law_1651 ?_
  refine lv_aload_n hx hb dL_law_1652 rfl (lv_at hl 4 rfl) ?_
  refine kx_callW (kx_csH (As := [.ref (ad 0), .int (xs (i + 1)), .ref (ad 40)]) (rest := []) hF hG hw hS hl.1 (c_L_pass l hfl D cy base ad n nc g (xs (i + 1)) hrel.fr hrel.cr hrel.hd) gL_law_L_pass rfl rfl rfl hd_L_pass ⟨Nat.le_of_ble_eq_true rfl, Nat.le_of_ble_eq_true rfl⟩ rfl rfl (Nat.le_of_ble_eq_true rfl) dL_law_1653 ⟨hc1, hc2⟩) hS (fun K u H locs hK hu hw hS => ?_)
  refine lv_istore (lv' := [(5, .int K), (4, .int (nI i)), (0, .ref b), (1, .ref (ad 0)), (2, .ref (ad 9)), (3, .ref (ad 40))]) hx hb dL_law_1656 hl (by decide) rfl (fun ls hl => ?_)
  obtain rfl := hu
  obtain ⟨gB, hB, hw⟩ := ex_kW hw
  have hop := op_pass hrel (xs (i + 1)) hB
  obtain ⟨he, hKm, hAm, h90, h40, hr0, hrN⟩ := hop
  obtain ⟨hfn, hcn, hmR, hhm, hzm, hz0⟩ := hrel.mh he
  refine lv_aload_n hx hb dL_law_1658 rfl (lv_at hl 4 rfl) ?_
  refine kx_arg hx hb hX hbl hbA hS (lv_at hl 2 rfl) (lv_at hl 1 rfl) 1 (by omega) hL (by decide) dL_law_1659 dL_law_1660 dL_law_1662 dL_law_1663 dL_law_1664 ?_
  refine kx_doV (kx_cv (As := [.int (xs (i + 1))]) (rest := []) hF hG hw hS hl.1 kC_9 rfl (c_X3_pass l hfl D cy base ad n nc gB (xs (i + 1)) hfn hcn hhm) gL_law_X3_pass rfl rfl rfl hd_X3_pass ⟨Nat.le_of_ble_eq_true rfl, Nat.le_of_ble_eq_true rfl⟩ rfl rfl (Nat.le_of_ble_eq_true rfl) dL_law_1665 ⟨hc1, hc2⟩) hS (fun v gC e_v e_g H locs hw hS => ?_)
  rw [← e_g] at h90 h40 hr0 hrN
  refine lv_istore (lv' := [(6, .int v), (5, .int K), (4, .int (nI i)), (0, .ref b), (1, .ref (ad 0)), (2, .ref (ad 9)), (3, .ref (ad 40))]) hx hb dL_law_1668 hl (by decide) rfl (fun ls hl => ?_)
  refine lv_aload_n hx hb dL_law_1670 rfl (lv_at hl 5 rfl) ?_
  refine kx_doV (kx_cv (As := []) (rest := []) hF hG hw hS hl.1 kC_9 rfl (c_X3_thrown l hfl D cy base ad n nc gC) gL_law_X3_thrown rfl rfl rfl hd_X3_thrown ⟨Nat.le_of_ble_eq_true rfl, Nat.le_of_ble_eq_true rfl⟩ rfl rfl (Nat.le_of_ble_eq_true rfl) dL_law_1671 ⟨hc1, hc2⟩) hS (fun t0 g0 e_t e_0 H1 locs1 hw1 hS1 => ?_)
  subst e_0
  have hw := hw1
  have hS := hS1
  refine lv_iload hx hb dL_law_1674 (lv_at hl 1 rfl) ?_
  refine lv_icmp_eq (tgt := 1681) hx hb dL_law_1676 (by decide) (fun _ => ?_) (fun h => absurd (e_t.trans (h90.trans hK.symm)) h)
  refine lv_iload hx hb dL_law_1681 (lv_at hl 1 rfl) ?_
  refine lv_if_ne (tgt := 1698) hx hb dL_law_1683 (by decide) (fun h => ?_) (fun h => ?_)
  · refine lv_goto (tgt := 2388) hx hb dL_law_1698 (by decide) ?_
    exact kk _ _ _ ad n nc _ (hrN (fun z => h (hK.trans z))) hw hS (lv_sub hl [2, 3, 4, 5, 6] rfl)
  · refine lv_aload_n hx hb dL_law_1686 rfl (lv_at hl 6 rfl) ?_
    refine lv_iconst (v := 0) hx hb dL_law_1687 (by decide) ?_
    refine kx_lald hx hb hG hw dL_law_1688 ?_
    have h := hK.symm.trans h
    have hv : v = g0 40 0 := by rw [e_v, h40, if_pos h]; exact (rv_0 (hKm.trans h)).trans (hAm h)
    refine lv_iload hx hb dL_law_1689 (lv_at hl 0 rfl) ?_
    refine lv_i2l (v := v.toInt64) hx hb dL_law_1691 rfl ?_
    refine kx_same (tgt := 1698) hx hb (by rw [hv]) dL_law_1692 dL_law_1693 (by decide) ?_
    refine lv_goto (tgt := 2388) hx hb dL_law_1698 (by decide) ?_
    exact kk _ _ _ ad n nc _ (hr0 h) hw hS (lv_sub hl [2, 3, 4, 5, 6] rfl)
set_option maxHeartbeats 4000000 in
set_option maxRecDepth 100000 in
theorem arm_today (l : Launch) (hfl : l.stackTraces = false) {p : Program} {e : Env} {s : State} {m : MethodId} {args : Array Value} {below : List Frame} {meth : Method} {c : Code} {Q : State → Prop} {D : va_G} {cy : Nat → ClassId} {base : Nat} (hF : CallFix p m c cL_law 7 s args wsL_law RL) (hG : kG D cy base s) {b L : Nat} {xs : Nat → Int32} (hX : va_X b L xs s s.heap) (hbl : b < s.heap.size) (hbA : ¬ kA base b) (hL : L ≤ 4096) (i : Nat) (hi : i + 8 ≤ L) {cells slots : Nat} (hc1 : cells + 12 ≤ 601024) (hc2 : slots + 100 ≤ 7293034) (kk : ∀ (H : Heap) (locs : List Loc) (ls : Array Slot) (ad : Nat → Nat) (n nc : Nat) (g : sg), kRl n nc g g → kW D cy base ad n nc g H → va_S (kA base) s.heap H locs → lv_has ls 7 [(4, .int (nI i)), (0, .ref b), (1, .ref (ad 0)), (2, .ref (ad 9)), (3, .ref (ad 40))] → W p l e room_1 s m args below meth c H locs (cells + 12) (slots + 100) Q (F0 m 2388 ls [])) {H : Heap} {locs : List Loc} {ls : Array Slot} {ad : Nat → Nat} {n nc : Nat} {g : sg} (hrel : kRl n nc g g) (hw : kW D cy base ad n nc g H) (hS : va_S (kA base) s.heap H locs) (hl : lv_has ls 7 [(4, .int (nI i)), (0, .ref b), (1, .ref (ad 0)), (2, .ref (ad 9)), (3, .ref (ad 40))]) : W p l e room_1 s m args below meth c H locs cells slots Q (F0 m 1701 ls []) := by
  have hx := hF.1
  have hb := hF.2.1
  have hts := hF.2.2.2.2
  have hown := hF.2.2.2.1
  refine lv_aload_n hx hb dL_law_1701 rfl (lv_at hl 2 rfl) ?_
  refine kx_doV (kx_cv (As := []) (rest := []) hF hG hw hS hl.1 kC_0 rfl (c_X2_today l hfl D cy base ad n nc g) gL_law_X2_today rfl rfl rfl hd_X2_today ⟨Nat.le_of_ble_eq_true rfl, Nat.le_of_ble_eq_true rfl⟩ rfl rfl (Nat.le_of_ble_eq_true rfl) dL_law_1702 ⟨Nat.le_trans (Nat.le_add_right _ 12) hc1, Nat.le_trans (Nat.le_add_right _ 100) hc2⟩) hS (fun v g1 e_v e_g H1 locs1 hw1 hS1 => ?_)
  subst e_g
  have hw := hw1
  have hS := hS1
  refine lv_aload_n hx hb dL_law_1705 rfl (lv_at hl 3 rfl) ?_
  refine kx_doV (kx_cv (As := []) (rest := [.int v]) hF hG hw hS hl.1 kC_9 rfl (c_X3_today l hfl D cy base ad n nc g1) gL_law_X3_today rfl rfl rfl hd_X3_today ⟨Nat.le_of_ble_eq_true rfl, Nat.le_of_ble_eq_true rfl⟩ rfl rfl (Nat.le_of_ble_eq_true rfl) dL_law_1706 ⟨Nat.le_trans (Nat.le_add_right _ 12) hc1, Nat.le_trans (Nat.le_add_right _ 100) hc2⟩) hS (fun v2 g2 e_v2 e_g2 H locs hw hS => ?_)
  refine lv_icmp_eq (tgt := 2388) hx hb dL_law_1709 (by decide) (fun _ => ?_) (fun h => absurd (by rw [e_v, e_v2]; exact hrel.day) h)
  refine W.widen (k := cells + 12) (n := slots + 100) (by omega) (by omega) ?_
  refine kk _ _ _ ad n nc g2 ?_ hw hS hl
  rw [e_g2]
  exact (hrel.e ((cE.rf g1).m (by omega)) (mE.rf g1)).t 0
set_option maxHeartbeats 4000000 in
set_option maxRecDepth 100000 in
theorem arm_fit (l : Launch) (hfl : l.stackTraces = false) {p : Program} {e : Env} {s : State} {m : MethodId} {args : Array Value} {below : List Frame} {meth : Method} {c : Code} {Q : State → Prop} {D : va_G} {cy : Nat → ClassId} {base : Nat} (hF : CallFix p m c cL_law 7 s args wsL_law RL) (hG : kG D cy base s) {b L : Nat} {xs : Nat → Int32} (hX : va_X b L xs s s.heap) (hbl : b < s.heap.size) (hbA : ¬ kA base b) (hL : L ≤ 4096) (i : Nat) (hi : i + 8 ≤ L) {cells slots : Nat} (hc1 : cells + 12 ≤ 601024) (hc2 : slots + 100 ≤ 7293034) (kk : ∀ (H : Heap) (locs : List Loc) (ls : Array Slot) (ad : Nat → Nat) (n nc : Nat) (g : sg), kRl n nc g g → kW D cy base ad n nc g H → va_S (kA base) s.heap H locs → lv_has ls 7 [(4, .int (nI i)), (0, .ref b), (1, .ref (ad 0)), (2, .ref (ad 9)), (3, .ref (ad 40))] → W p l e room_1 s m args below meth c H locs (cells + 12) (slots + 100) Q (F0 m 2388 ls [])) {H : Heap} {locs : List Loc} {ls : Array Slot} {ad : Nat → Nat} {n nc : Nat} {g : sg} (hrel : kRl n nc g g) (hw : kW D cy base ad n nc g H) (hS : va_S (kA base) s.heap H locs) (hl : lv_has ls 7 [(4, .int (nI i)), (0, .ref b), (1, .ref (ad 0)), (2, .ref (ad 9)), (3, .ref (ad 40))]) : W p l e room_1 s m args below meth c H locs cells slots Q (F0 m 1714 ls []) := by
  have hx := hF.1
  have hb := hF.2.1
  have hts := hF.2.2.2.2
  have hown := hF.2.2.2.1
  refine lv_aload_n hx hb dL_law_1714 rfl (lv_at hl 2 rfl) ?_
  refine kx_arg hx hb hX hbl hbA hS (lv_at hl 1 rfl) (lv_at hl 0 rfl) 1 (by omega) hL (by decide) dL_law_1715 dL_law_1716 dL_law_1718 dL_law_1719 dL_law_1720 ?_
  refine kx_arg hx hb hX hbl hbA hS (lv_at hl 1 rfl) (lv_at hl 0 rfl) 2 (by omega) hL (by decide) dL_law_1721 dL_law_1722 dL_law_1724 dL_law_1725 dL_law_1726 ?_
  refine lv_aload_n hx hb dL_law_1727 rfl (lv_at hl 4 rfl) ?_
  refine kx_callW (kx_csH (As := [.ref (ad 0), .int (xs (i + 1)), .int (xs (i + 2)), .ref (ad 40)]) (rest := []) hF hG hw hS hl.1 (c_L_fit l hfl D cy base ad n nc g (xs (i + 1)) (xs (i + 2)) hrel.fr hrel.cr hrel.cRr) gL_law_L_fit rfl rfl rfl hd_L_fit ⟨Nat.le_of_ble_eq_true rfl, Nat.le_of_ble_eq_true rfl⟩ rfl rfl (Nat.le_of_ble_eq_true rfl) dL_law_1728 ⟨hc1, hc2⟩) hS (fun K u H locs hK hu hw hS => ?_)
  refine lv_istore (lv' := [(5, .int K), (4, .int (nI i)), (0, .ref b), (1, .ref (ad 0)), (2, .ref (ad 9)), (3, .ref (ad 40))]) hx hb dL_law_1731 hl (by decide) rfl (fun ls hl => ?_)
  obtain rfl := hu
  obtain ⟨gB, hB, hw⟩ := ex_kW hw
  have hop := op_fit hrel (xs (i + 1)) (xs (i + 2)) hB
  obtain ⟨he, hKm, hAm, h90, h40, hr0, hrN⟩ := hop
  obtain ⟨hfn, hcn, hmR, hhm, hzm, hz0⟩ := hrel.mh he
  refine lv_aload_n hx hb dL_law_1733 rfl (lv_at hl 4 rfl) ?_
  refine kx_arg hx hb hX hbl hbA hS (lv_at hl 2 rfl) (lv_at hl 1 rfl) 1 (by omega) hL (by decide) dL_law_1734 dL_law_1735 dL_law_1737 dL_law_1738 dL_law_1739 ?_
  refine kx_arg hx hb hX hbl hbA hS (lv_at hl 2 rfl) (lv_at hl 1 rfl) 2 (by omega) hL (by decide) dL_law_1740 dL_law_1741 dL_law_1743 dL_law_1744 dL_law_1745 ?_
  refine kx_doV (kx_cv (As := [.int (xs (i + 1)), .int (xs (i + 2))]) (rest := []) hF hG hw hS hl.1 kC_9 rfl (c_X3_fit l hfl D cy base ad n nc gB (xs (i + 1)) (xs (i + 2)) hfn hcn hmR) gL_law_X3_fit rfl rfl rfl hd_X3_fit ⟨Nat.le_of_ble_eq_true rfl, Nat.le_of_ble_eq_true rfl⟩ rfl rfl (Nat.le_of_ble_eq_true rfl) dL_law_1746 ⟨hc1, hc2⟩) hS (fun v gC e_v e_g H locs hw hS => ?_)
  rw [← e_g] at h90 h40 hr0 hrN
  refine lv_istore (lv' := [(6, .int v), (5, .int K), (4, .int (nI i)), (0, .ref b), (1, .ref (ad 0)), (2, .ref (ad 9)), (3, .ref (ad 40))]) hx hb dL_law_1749 hl (by decide) rfl (fun ls hl => ?_)
  refine lv_aload_n hx hb dL_law_1751 rfl (lv_at hl 5 rfl) ?_
  refine kx_doV (kx_cv (As := []) (rest := []) hF hG hw hS hl.1 kC_9 rfl (c_X3_thrown l hfl D cy base ad n nc gC) gL_law_X3_thrown rfl rfl rfl hd_X3_thrown ⟨Nat.le_of_ble_eq_true rfl, Nat.le_of_ble_eq_true rfl⟩ rfl rfl (Nat.le_of_ble_eq_true rfl) dL_law_1752 ⟨hc1, hc2⟩) hS (fun t0 g0 e_t e_0 H1 locs1 hw1 hS1 => ?_)
  subst e_0
  have hw := hw1
  have hS := hS1
  refine lv_iload hx hb dL_law_1755 (lv_at hl 1 rfl) ?_
  refine lv_icmp_eq (tgt := 1762) hx hb dL_law_1757 (by decide) (fun _ => ?_) (fun h => absurd (e_t.trans (h90.trans hK.symm)) h)
  refine lv_iload hx hb dL_law_1762 (lv_at hl 1 rfl) ?_
  refine lv_if_ne (tgt := 1779) hx hb dL_law_1764 (by decide) (fun h => ?_) (fun h => ?_)
  · refine lv_goto (tgt := 2388) hx hb dL_law_1779 (by decide) ?_
    exact kk _ _ _ ad n nc _ (hrN (fun z => h (hK.trans z))) hw hS (lv_sub hl [2, 3, 4, 5, 6] rfl)
  · refine lv_aload_n hx hb dL_law_1767 rfl (lv_at hl 6 rfl) ?_
    refine lv_iconst (v := 0) hx hb dL_law_1768 (by decide) ?_
    refine kx_lald hx hb hG hw dL_law_1769 ?_
    have h := hK.symm.trans h
    have hv : v = g0 40 0 := by rw [e_v, h40, if_pos h]; exact (rv_0 (hKm.trans h)).trans (hAm h)
    refine lv_iload hx hb dL_law_1770 (lv_at hl 0 rfl) ?_
    refine lv_i2l (v := v.toInt64) hx hb dL_law_1772 rfl ?_
    refine kx_same (tgt := 1779) hx hb (by rw [hv]) dL_law_1773 dL_law_1774 (by decide) ?_
    refine lv_goto (tgt := 2388) hx hb dL_law_1779 (by decide) ?_
    exact kk _ _ _ ad n nc _ (hr0 h) hw hS (lv_sub hl [2, 3, 4, 5, 6] rfl)
set_option maxHeartbeats 4000000 in
set_option maxRecDepth 100000 in
theorem arm_candidate (l : Launch) (hfl : l.stackTraces = false) {p : Program} {e : Env} {s : State} {m : MethodId} {args : Array Value} {below : List Frame} {meth : Method} {c : Code} {Q : State → Prop} {D : va_G} {cy : Nat → ClassId} {base : Nat} (hF : CallFix p m c cL_law 7 s args wsL_law RL) (hG : kG D cy base s) {b L : Nat} {xs : Nat → Int32} (hX : va_X b L xs s s.heap) (hbl : b < s.heap.size) (hbA : ¬ kA base b) (hL : L ≤ 4096) (i : Nat) (hi : i + 8 ≤ L) {cells slots : Nat} (hc1 : cells + 12 ≤ 601024) (hc2 : slots + 100 ≤ 7293034) (kk : ∀ (H : Heap) (locs : List Loc) (ls : Array Slot) (ad : Nat → Nat) (n nc : Nat) (g : sg), kRl n nc g g → kW D cy base ad n nc g H → va_S (kA base) s.heap H locs → lv_has ls 7 [(4, .int (nI i)), (0, .ref b), (1, .ref (ad 0)), (2, .ref (ad 9)), (3, .ref (ad 40))] → W p l e room_1 s m args below meth c H locs (cells + 12) (slots + 100) Q (F0 m 2388 ls [])) {H : Heap} {locs : List Loc} {ls : Array Slot} {ad : Nat → Nat} {n nc : Nat} {g : sg} (hrel : kRl n nc g g) (hw : kW D cy base ad n nc g H) (hS : va_S (kA base) s.heap H locs) (hl : lv_has ls 7 [(4, .int (nI i)), (0, .ref b), (1, .ref (ad 0)), (2, .ref (ad 9)), (3, .ref (ad 40))]) : W p l e room_1 s m args below meth c H locs cells slots Q (F0 m 1782 ls []) := by
  have hx := hF.1
  have hb := hF.2.1
  have hts := hF.2.2.2.2
  have hown := hF.2.2.2.1
  refine lv_aload_n hx hb dL_law_1782 rfl (lv_at hl 2 rfl) ?_
  refine kx_arg hx hb hX hbl hbA hS (lv_at hl 1 rfl) (lv_at hl 0 rfl) 1 (by omega) hL (by decide) dL_law_1783 dL_law_1784 dL_law_1786 dL_law_1787 dL_law_1788 ?_
  refine kx_arg hx hb hX hbl hbA hS (lv_at hl 1 rfl) (lv_at hl 0 rfl) 2 (by omega) hL (by decide) dL_law_1789 dL_law_1790 dL_law_1792 dL_law_1793 dL_law_1794 ?_
  refine lv_aload_n hx hb dL_law_1795 rfl (lv_at hl 4 rfl) ?_
  refine kx_callW (kx_csH (As := [.ref (ad 0), .int (xs (i + 1)), .int (xs (i + 2)), .ref (ad 40)]) (rest := []) hF hG hw hS hl.1 (c_L_candidate l hfl D cy base ad n nc g (xs (i + 1)) (xs (i + 2)) hrel.fr hrel.cr hrel.cRr) gL_law_L_candidate rfl rfl rfl hd_L_candidate ⟨Nat.le_of_ble_eq_true rfl, Nat.le_of_ble_eq_true rfl⟩ rfl rfl (Nat.le_of_ble_eq_true rfl) dL_law_1796 ⟨hc1, hc2⟩) hS (fun K u H locs hK hu hw hS => ?_)
  refine lv_istore (lv' := [(5, .int K), (4, .int (nI i)), (0, .ref b), (1, .ref (ad 0)), (2, .ref (ad 9)), (3, .ref (ad 40))]) hx hb dL_law_1799 hl (by decide) rfl (fun ls hl => ?_)
  obtain rfl := hu
  obtain ⟨gB, hB, hw⟩ := ex_kW hw
  have hop := op_candidate hrel (xs (i + 1)) (xs (i + 2)) hB
  obtain ⟨he, hKm, hAm, h90, h40, hr0, hrN⟩ := hop
  obtain ⟨hfn, hcn, hmR, hhm, hzm, hz0⟩ := hrel.mh he
  refine lv_aload_n hx hb dL_law_1801 rfl (lv_at hl 4 rfl) ?_
  refine kx_arg hx hb hX hbl hbA hS (lv_at hl 2 rfl) (lv_at hl 1 rfl) 1 (by omega) hL (by decide) dL_law_1802 dL_law_1803 dL_law_1805 dL_law_1806 dL_law_1807 ?_
  refine kx_arg hx hb hX hbl hbA hS (lv_at hl 2 rfl) (lv_at hl 1 rfl) 2 (by omega) hL (by decide) dL_law_1808 dL_law_1809 dL_law_1811 dL_law_1812 dL_law_1813 ?_
  refine kx_doV (kx_cv (As := [.int (xs (i + 1)), .int (xs (i + 2))]) (rest := []) hF hG hw hS hl.1 kC_9 rfl (c_X3_candidate l hfl D cy base ad n nc gB (xs (i + 1)) (xs (i + 2)) hfn hcn hmR) gL_law_X3_candidate rfl rfl rfl hd_X3_candidate ⟨Nat.le_of_ble_eq_true rfl, Nat.le_of_ble_eq_true rfl⟩ rfl rfl (Nat.le_of_ble_eq_true rfl) dL_law_1814 ⟨hc1, hc2⟩) hS (fun v gC e_v e_g H locs hw hS => ?_)
  rw [← e_g] at h90 h40 hr0 hrN
  refine lv_istore (lv' := [(6, .int v), (5, .int K), (4, .int (nI i)), (0, .ref b), (1, .ref (ad 0)), (2, .ref (ad 9)), (3, .ref (ad 40))]) hx hb dL_law_1817 hl (by decide) rfl (fun ls hl => ?_)
  refine lv_aload_n hx hb dL_law_1819 rfl (lv_at hl 5 rfl) ?_
  refine kx_doV (kx_cv (As := []) (rest := []) hF hG hw hS hl.1 kC_9 rfl (c_X3_thrown l hfl D cy base ad n nc gC) gL_law_X3_thrown rfl rfl rfl hd_X3_thrown ⟨Nat.le_of_ble_eq_true rfl, Nat.le_of_ble_eq_true rfl⟩ rfl rfl (Nat.le_of_ble_eq_true rfl) dL_law_1820 ⟨hc1, hc2⟩) hS (fun t0 g0 e_t e_0 H1 locs1 hw1 hS1 => ?_)
  subst e_0
  have hw := hw1
  have hS := hS1
  refine lv_iload hx hb dL_law_1823 (lv_at hl 1 rfl) ?_
  refine lv_icmp_eq (tgt := 1830) hx hb dL_law_1825 (by decide) (fun _ => ?_) (fun h => absurd (e_t.trans (h90.trans hK.symm)) h)
  refine lv_iload hx hb dL_law_1830 (lv_at hl 1 rfl) ?_
  refine lv_if_ne (tgt := 1847) hx hb dL_law_1832 (by decide) (fun h => ?_) (fun h => ?_)
  · refine lv_goto (tgt := 2388) hx hb dL_law_1847 (by decide) ?_
    exact kk _ _ _ ad n nc _ (hrN (fun z => h (hK.trans z))) hw hS (lv_sub hl [2, 3, 4, 5, 6] rfl)
  · refine lv_aload_n hx hb dL_law_1835 rfl (lv_at hl 6 rfl) ?_
    refine lv_iconst (v := 0) hx hb dL_law_1836 (by decide) ?_
    refine kx_lald hx hb hG hw dL_law_1837 ?_
    have h := hK.symm.trans h
    have hv : v = g0 40 0 := by rw [e_v, h40, if_pos h]; exact (rv_0 (hKm.trans h)).trans (hAm h)
    refine lv_iload hx hb dL_law_1838 (lv_at hl 0 rfl) ?_
    refine lv_i2l (v := v.toInt64) hx hb dL_law_1840 rfl ?_
    refine kx_same (tgt := 1847) hx hb (by rw [hv]) dL_law_1841 dL_law_1842 (by decide) ?_
    refine lv_goto (tgt := 2388) hx hb dL_law_1847 (by decide) ?_
    exact kk _ _ _ ad n nc _ (hr0 h) hw hS (lv_sub hl [2, 3, 4, 5, 6] rfl)
set_option maxHeartbeats 4000000 in
set_option maxRecDepth 100000 in
theorem arm_question (l : Launch) (hfl : l.stackTraces = false) {p : Program} {e : Env} {s : State} {m : MethodId} {args : Array Value} {below : List Frame} {meth : Method} {c : Code} {Q : State → Prop} {D : va_G} {cy : Nat → ClassId} {base : Nat} (hF : CallFix p m c cL_law 7 s args wsL_law RL) (hG : kG D cy base s) {b L : Nat} {xs : Nat → Int32} (hX : va_X b L xs s s.heap) (hbl : b < s.heap.size) (hbA : ¬ kA base b) (hL : L ≤ 4096) (i : Nat) (hi : i + 8 ≤ L) {cells slots : Nat} (hc1 : cells + 12 ≤ 601024) (hc2 : slots + 100 ≤ 7293034) (kk : ∀ (H : Heap) (locs : List Loc) (ls : Array Slot) (ad : Nat → Nat) (n nc : Nat) (g : sg), kRl n nc g g → kW D cy base ad n nc g H → va_S (kA base) s.heap H locs → lv_has ls 7 [(4, .int (nI i)), (0, .ref b), (1, .ref (ad 0)), (2, .ref (ad 9)), (3, .ref (ad 40))] → W p l e room_1 s m args below meth c H locs (cells + 12) (slots + 100) Q (F0 m 2388 ls [])) {H : Heap} {locs : List Loc} {ls : Array Slot} {ad : Nat → Nat} {n nc : Nat} {g : sg} (hrel : kRl n nc g g) (hw : kW D cy base ad n nc g H) (hS : va_S (kA base) s.heap H locs) (hl : lv_has ls 7 [(4, .int (nI i)), (0, .ref b), (1, .ref (ad 0)), (2, .ref (ad 9)), (3, .ref (ad 40))]) : W p l e room_1 s m args below meth c H locs cells slots Q (F0 m 1850 ls []) := by
  have hx := hF.1
  have hb := hF.2.1
  have hts := hF.2.2.2.2
  have hown := hF.2.2.2.1
  refine lv_aload_n hx hb dL_law_1850 rfl (lv_at hl 2 rfl) ?_
  refine kx_arg hx hb hX hbl hbA hS (lv_at hl 1 rfl) (lv_at hl 0 rfl) 1 (by omega) hL (by decide) dL_law_1851 dL_law_1852 dL_law_1854 dL_law_1855 dL_law_1856 ?_
  refine lv_aload_n hx hb dL_law_1857 rfl (lv_at hl 4 rfl) ?_
  refine kx_callW (kx_csH (As := [.ref (ad 0), .int (xs (i + 1)), .ref (ad 40)]) (rest := []) hF hG hw hS hl.1 (c_L_question l hfl D cy base ad n nc g (xs (i + 1)) hrel.fr hrel.cr hrel.cRr) gL_law_L_question rfl rfl rfl hd_L_question ⟨Nat.le_of_ble_eq_true rfl, Nat.le_of_ble_eq_true rfl⟩ rfl rfl (Nat.le_of_ble_eq_true rfl) dL_law_1858 ⟨hc1, hc2⟩) hS (fun K u H locs hK hu hw hS => ?_)
  refine lv_istore (lv' := [(5, .int K), (4, .int (nI i)), (0, .ref b), (1, .ref (ad 0)), (2, .ref (ad 9)), (3, .ref (ad 40))]) hx hb dL_law_1861 hl (by decide) rfl (fun ls hl => ?_)
  obtain rfl := hu
  obtain ⟨gB, hB, hw⟩ := ex_kW hw
  have hop := op_question hrel (xs (i + 1)) hB
  obtain ⟨he, hKm, hAm, h90, h40, hr0, hrN⟩ := hop
  obtain ⟨hfn, hcn, hmR, hhm, hzm, hz0⟩ := hrel.mh he
  refine lv_aload_n hx hb dL_law_1863 rfl (lv_at hl 4 rfl) ?_
  refine kx_arg hx hb hX hbl hbA hS (lv_at hl 2 rfl) (lv_at hl 1 rfl) 1 (by omega) hL (by decide) dL_law_1864 dL_law_1865 dL_law_1867 dL_law_1868 dL_law_1869 ?_
  refine kx_doV (kx_cv (As := [.int (xs (i + 1))]) (rest := []) hF hG hw hS hl.1 kC_9 rfl (c_X3_question l hfl D cy base ad n nc gB (xs (i + 1)) hfn hcn hmR) gL_law_X3_question rfl rfl rfl hd_X3_question ⟨Nat.le_of_ble_eq_true rfl, Nat.le_of_ble_eq_true rfl⟩ rfl rfl (Nat.le_of_ble_eq_true rfl) dL_law_1870 ⟨hc1, hc2⟩) hS (fun v gC e_v e_g H locs hw hS => ?_)
  rw [← e_g] at h90 h40 hr0 hrN
  refine lv_istore (lv' := [(6, .int v), (5, .int K), (4, .int (nI i)), (0, .ref b), (1, .ref (ad 0)), (2, .ref (ad 9)), (3, .ref (ad 40))]) hx hb dL_law_1873 hl (by decide) rfl (fun ls hl => ?_)
  refine lv_aload_n hx hb dL_law_1875 rfl (lv_at hl 5 rfl) ?_
  refine kx_doV (kx_cv (As := []) (rest := []) hF hG hw hS hl.1 kC_9 rfl (c_X3_thrown l hfl D cy base ad n nc gC) gL_law_X3_thrown rfl rfl rfl hd_X3_thrown ⟨Nat.le_of_ble_eq_true rfl, Nat.le_of_ble_eq_true rfl⟩ rfl rfl (Nat.le_of_ble_eq_true rfl) dL_law_1876 ⟨hc1, hc2⟩) hS (fun t0 g0 e_t e_0 H1 locs1 hw1 hS1 => ?_)
  subst e_0
  have hw := hw1
  have hS := hS1
  refine lv_iload hx hb dL_law_1879 (lv_at hl 1 rfl) ?_
  refine lv_icmp_eq (tgt := 1886) hx hb dL_law_1881 (by decide) (fun _ => ?_) (fun h => absurd (e_t.trans (h90.trans hK.symm)) h)
  refine lv_iload hx hb dL_law_1886 (lv_at hl 1 rfl) ?_
  refine lv_if_ne (tgt := 1903) hx hb dL_law_1888 (by decide) (fun h => ?_) (fun h => ?_)
  · refine lv_goto (tgt := 2388) hx hb dL_law_1903 (by decide) ?_
    exact kk _ _ _ ad n nc _ (hrN (fun z => h (hK.trans z))) hw hS (lv_sub hl [2, 3, 4, 5, 6] rfl)
  · refine lv_aload_n hx hb dL_law_1891 rfl (lv_at hl 6 rfl) ?_
    refine lv_iconst (v := 0) hx hb dL_law_1892 (by decide) ?_
    refine kx_lald hx hb hG hw dL_law_1893 ?_
    have h := hK.symm.trans h
    have hv : v = g0 40 0 := by rw [e_v, h40, if_pos h]; exact (rv_0 (hKm.trans h)).trans (hAm h)
    refine lv_iload hx hb dL_law_1894 (lv_at hl 0 rfl) ?_
    refine lv_i2l (v := v.toInt64) hx hb dL_law_1896 rfl ?_
    refine kx_same (tgt := 1903) hx hb (by rw [hv]) dL_law_1897 dL_law_1898 (by decide) ?_
    refine lv_goto (tgt := 2388) hx hb dL_law_1903 (by decide) ?_
    exact kk _ _ _ ad n nc _ (hr0 h) hw hS (lv_sub hl [2, 3, 4, 5, 6] rfl)
set_option maxHeartbeats 4000000 in
set_option maxRecDepth 100000 in
theorem arm_isProven (l : Launch) (hfl : l.stackTraces = false) {p : Program} {e : Env} {s : State} {m : MethodId} {args : Array Value} {below : List Frame} {meth : Method} {c : Code} {Q : State → Prop} {D : va_G} {cy : Nat → ClassId} {base : Nat} (hF : CallFix p m c cL_law 7 s args wsL_law RL) (hG : kG D cy base s) {b L : Nat} {xs : Nat → Int32} (hX : va_X b L xs s s.heap) (hbl : b < s.heap.size) (hbA : ¬ kA base b) (hL : L ≤ 4096) (i : Nat) (hi : i + 8 ≤ L) {cells slots : Nat} (hc1 : cells + 12 ≤ 601024) (hc2 : slots + 100 ≤ 7293034) (kk : ∀ (H : Heap) (locs : List Loc) (ls : Array Slot) (ad : Nat → Nat) (n nc : Nat) (g : sg), kRl n nc g g → kW D cy base ad n nc g H → va_S (kA base) s.heap H locs → lv_has ls 7 [(4, .int (nI i)), (0, .ref b), (1, .ref (ad 0)), (2, .ref (ad 9)), (3, .ref (ad 40))] → W p l e room_1 s m args below meth c H locs (cells + 12) (slots + 100) Q (F0 m 2388 ls [])) {H : Heap} {locs : List Loc} {ls : Array Slot} {ad : Nat → Nat} {n nc : Nat} {g : sg} (hrel : kRl n nc g g) (hw : kW D cy base ad n nc g H) (hS : va_S (kA base) s.heap H locs) (hl : lv_has ls 7 [(4, .int (nI i)), (0, .ref b), (1, .ref (ad 0)), (2, .ref (ad 9)), (3, .ref (ad 40))]) : W p l e room_1 s m args below meth c H locs cells slots Q (F0 m 1906 ls []) := by
  have hx := hF.1
  have hb := hF.2.1
  have hts := hF.2.2.2.2
  have hown := hF.2.2.2.1
  refine lv_aload_n hx hb dL_law_1906 rfl (lv_at hl 2 rfl) ?_
  refine kx_arg hx hb hX hbl hbA hS (lv_at hl 1 rfl) (lv_at hl 0 rfl) 1 (by omega) hL (by decide) dL_law_1907 dL_law_1908 dL_law_1910 dL_law_1911 dL_law_1912 ?_
  refine kx_arg hx hb hX hbl hbA hS (lv_at hl 1 rfl) (lv_at hl 0 rfl) 2 (by omega) hL (by decide) dL_law_1913 dL_law_1914 dL_law_1916 dL_law_1917 dL_law_1918 ?_
  refine lv_aload_n hx hb dL_law_1919 rfl (lv_at hl 4 rfl) ?_
  refine kx_callW (kx_csH (As := [.ref (ad 0), .int (xs (i + 1)), .int (xs (i + 2)), .ref (ad 40)]) (rest := []) hF hG hw hS hl.1 (c_L_isProven l hfl D cy base ad n nc g (xs (i + 1)) (xs (i + 2)) hrel.fr hrel.cr hrel.cRr) gL_law_L_isProven rfl rfl rfl hd_L_isProven ⟨Nat.le_of_ble_eq_true rfl, Nat.le_of_ble_eq_true rfl⟩ rfl rfl (Nat.le_of_ble_eq_true rfl) dL_law_1920 ⟨hc1, hc2⟩) hS (fun K u H locs hK hu hw hS => ?_)
  refine lv_istore (lv' := [(5, .int K), (4, .int (nI i)), (0, .ref b), (1, .ref (ad 0)), (2, .ref (ad 9)), (3, .ref (ad 40))]) hx hb dL_law_1923 hl (by decide) rfl (fun ls hl => ?_)
  obtain rfl := hu
  obtain ⟨gB, hB, hw⟩ := ex_kW hw
  have hop := op_isProven hrel (xs (i + 1)) (xs (i + 2)) hB
  obtain ⟨he, hKm, hAm, h90, h40, hr0, hrN⟩ := hop
  obtain ⟨hfn, hcn, hmR, hhm, hzm, hz0⟩ := hrel.mh he
  refine lv_aload_n hx hb dL_law_1925 rfl (lv_at hl 4 rfl) ?_
  refine kx_arg hx hb hX hbl hbA hS (lv_at hl 2 rfl) (lv_at hl 1 rfl) 1 (by omega) hL (by decide) dL_law_1926 dL_law_1927 dL_law_1929 dL_law_1930 dL_law_1931 ?_
  refine kx_arg hx hb hX hbl hbA hS (lv_at hl 2 rfl) (lv_at hl 1 rfl) 2 (by omega) hL (by decide) dL_law_1932 dL_law_1933 dL_law_1935 dL_law_1936 dL_law_1937 ?_
  refine kx_doV (kx_cv (As := [.int (xs (i + 1)), .int (xs (i + 2))]) (rest := []) hF hG hw hS hl.1 kC_9 rfl (c_X3_isProven l hfl D cy base ad n nc gB (xs (i + 1)) (xs (i + 2)) hfn hcn) gL_law_X3_isProven rfl rfl rfl hd_X3_isProven ⟨Nat.le_of_ble_eq_true rfl, Nat.le_of_ble_eq_true rfl⟩ rfl rfl (Nat.le_of_ble_eq_true rfl) dL_law_1938 ⟨hc1, hc2⟩) hS (fun v gC e_v e_g H locs hw hS => ?_)
  rw [← e_g] at h90 h40 hr0 hrN
  refine lv_istore (lv' := [(6, .int v), (5, .int K), (4, .int (nI i)), (0, .ref b), (1, .ref (ad 0)), (2, .ref (ad 9)), (3, .ref (ad 40))]) hx hb dL_law_1941 hl (by decide) rfl (fun ls hl => ?_)
  refine lv_aload_n hx hb dL_law_1943 rfl (lv_at hl 5 rfl) ?_
  refine kx_doV (kx_cv (As := []) (rest := []) hF hG hw hS hl.1 kC_9 rfl (c_X3_thrown l hfl D cy base ad n nc gC) gL_law_X3_thrown rfl rfl rfl hd_X3_thrown ⟨Nat.le_of_ble_eq_true rfl, Nat.le_of_ble_eq_true rfl⟩ rfl rfl (Nat.le_of_ble_eq_true rfl) dL_law_1944 ⟨hc1, hc2⟩) hS (fun t0 g0 e_t e_0 H1 locs1 hw1 hS1 => ?_)
  subst e_0
  have hw := hw1
  have hS := hS1
  refine lv_iload hx hb dL_law_1947 (lv_at hl 1 rfl) ?_
  refine lv_icmp_eq (tgt := 1954) hx hb dL_law_1949 (by decide) (fun _ => ?_) (fun h => absurd (e_t.trans (h90.trans hK.symm)) h)
  refine lv_iload hx hb dL_law_1954 (lv_at hl 1 rfl) ?_
  refine lv_if_ne (tgt := 1978) hx hb dL_law_1956 (by decide) (fun h => ?_) (fun h => ?_)
  · refine lv_goto (tgt := 2388) hx hb dL_law_1978 (by decide) ?_
    exact kk _ _ _ ad n nc _ (hrN (fun z => h (hK.trans z))) hw hS (lv_sub hl [2, 3, 4, 5, 6] rfl)
  · refine lv_aload_n hx hb dL_law_1959 rfl (lv_at hl 6 rfl) ?_
    refine lv_iconst (v := 0) hx hb dL_law_1960 (by decide) ?_
    refine kx_lald hx hb hG hw dL_law_1961 ?_
    have h := hK.symm.trans h
    have hv : v = g0 40 0 := by rw [e_v, h40, if_pos h]; exact (zv_0 (hKm.trans h)).trans (hAm h)
    refine lv_iload hx hb dL_law_1962 (lv_at hl 0 rfl) ?_
    refine kx_top e_v.symm ?_
    refine kx_nzB hx hb dL_law_1964 dL_law_1967 dL_law_1968 dL_law_1971 ?_
    refine kx_same (tgt := 1978) hx hb (by rw [← e_v, hv]) dL_law_1972 dL_law_1973 (by decide) ?_
    refine lv_goto (tgt := 2388) hx hb dL_law_1978 (by decide) ?_
    exact kk _ _ _ ad n nc _ (hr0 h) hw hS (lv_sub hl [2, 3, 4, 5, 6] rfl)
set_option maxHeartbeats 4000000 in
set_option maxRecDepth 100000 in
theorem arm_isDue (l : Launch) (hfl : l.stackTraces = false) {p : Program} {e : Env} {s : State} {m : MethodId} {args : Array Value} {below : List Frame} {meth : Method} {c : Code} {Q : State → Prop} {D : va_G} {cy : Nat → ClassId} {base : Nat} (hF : CallFix p m c cL_law 7 s args wsL_law RL) (hG : kG D cy base s) {b L : Nat} {xs : Nat → Int32} (hX : va_X b L xs s s.heap) (hbl : b < s.heap.size) (hbA : ¬ kA base b) (hL : L ≤ 4096) (i : Nat) (hi : i + 8 ≤ L) {cells slots : Nat} (hc1 : cells + 12 ≤ 601024) (hc2 : slots + 100 ≤ 7293034) (kk : ∀ (H : Heap) (locs : List Loc) (ls : Array Slot) (ad : Nat → Nat) (n nc : Nat) (g : sg), kRl n nc g g → kW D cy base ad n nc g H → va_S (kA base) s.heap H locs → lv_has ls 7 [(4, .int (nI i)), (0, .ref b), (1, .ref (ad 0)), (2, .ref (ad 9)), (3, .ref (ad 40))] → W p l e room_1 s m args below meth c H locs (cells + 12) (slots + 100) Q (F0 m 2388 ls [])) {H : Heap} {locs : List Loc} {ls : Array Slot} {ad : Nat → Nat} {n nc : Nat} {g : sg} (hrel : kRl n nc g g) (hw : kW D cy base ad n nc g H) (hS : va_S (kA base) s.heap H locs) (hl : lv_has ls 7 [(4, .int (nI i)), (0, .ref b), (1, .ref (ad 0)), (2, .ref (ad 9)), (3, .ref (ad 40))]) : W p l e room_1 s m args below meth c H locs cells slots Q (F0 m 1981 ls []) := by
  have hx := hF.1
  have hb := hF.2.1
  have hts := hF.2.2.2.2
  have hown := hF.2.2.2.1
  refine lv_aload_n hx hb dL_law_1981 rfl (lv_at hl 2 rfl) ?_
  refine kx_arg hx hb hX hbl hbA hS (lv_at hl 1 rfl) (lv_at hl 0 rfl) 1 (by omega) hL (by decide) dL_law_1982 dL_law_1983 dL_law_1985 dL_law_1986 dL_law_1987 ?_
  refine lv_aload_n hx hb dL_law_1988 rfl (lv_at hl 4 rfl) ?_
  refine kx_callW (kx_csH (As := [.ref (ad 0), .int (xs (i + 1)), .ref (ad 40)]) (rest := []) hF hG hw hS hl.1 (c_L_isDue l hfl D cy base ad n nc g (xs (i + 1)) hrel.fr hrel.cr hrel.cRr) gL_law_L_isDue rfl rfl rfl hd_L_isDue ⟨Nat.le_of_ble_eq_true rfl, Nat.le_of_ble_eq_true rfl⟩ rfl rfl (Nat.le_of_ble_eq_true rfl) dL_law_1989 ⟨hc1, hc2⟩) hS (fun K u H locs hK hu hw hS => ?_)
  refine lv_istore (lv' := [(5, .int K), (4, .int (nI i)), (0, .ref b), (1, .ref (ad 0)), (2, .ref (ad 9)), (3, .ref (ad 40))]) hx hb dL_law_1992 hl (by decide) rfl (fun ls hl => ?_)
  obtain rfl := hu
  obtain ⟨gB, hB, hw⟩ := ex_kW hw
  have hop := op_isDue hrel (xs (i + 1)) hB
  obtain ⟨he, hKm, hAm, h90, h40, hr0, hrN⟩ := hop
  obtain ⟨hfn, hcn, hmR, hhm, hzm, hz0⟩ := hrel.mh he
  refine lv_aload_n hx hb dL_law_1994 rfl (lv_at hl 4 rfl) ?_
  refine kx_arg hx hb hX hbl hbA hS (lv_at hl 2 rfl) (lv_at hl 1 rfl) 1 (by omega) hL (by decide) dL_law_1995 dL_law_1996 dL_law_1998 dL_law_1999 dL_law_2000 ?_
  refine kx_doV (kx_cv (As := [.int (xs (i + 1))]) (rest := []) hF hG hw hS hl.1 kC_9 rfl (c_X3_isDue l hfl D cy base ad n nc gB (xs (i + 1)) hfn hcn hmR) gL_law_X3_isDue rfl rfl rfl hd_X3_isDue ⟨Nat.le_of_ble_eq_true rfl, Nat.le_of_ble_eq_true rfl⟩ rfl rfl (Nat.le_of_ble_eq_true rfl) dL_law_2001 ⟨hc1, hc2⟩) hS (fun v gC e_v e_g H locs hw hS => ?_)
  rw [← e_g] at h90 h40 hr0 hrN
  refine lv_istore (lv' := [(6, .int v), (5, .int K), (4, .int (nI i)), (0, .ref b), (1, .ref (ad 0)), (2, .ref (ad 9)), (3, .ref (ad 40))]) hx hb dL_law_2004 hl (by decide) rfl (fun ls hl => ?_)
  refine lv_aload_n hx hb dL_law_2006 rfl (lv_at hl 5 rfl) ?_
  refine kx_doV (kx_cv (As := []) (rest := []) hF hG hw hS hl.1 kC_9 rfl (c_X3_thrown l hfl D cy base ad n nc gC) gL_law_X3_thrown rfl rfl rfl hd_X3_thrown ⟨Nat.le_of_ble_eq_true rfl, Nat.le_of_ble_eq_true rfl⟩ rfl rfl (Nat.le_of_ble_eq_true rfl) dL_law_2007 ⟨hc1, hc2⟩) hS (fun t0 g0 e_t e_0 H1 locs1 hw1 hS1 => ?_)
  subst e_0
  have hw := hw1
  have hS := hS1
  refine lv_iload hx hb dL_law_2010 (lv_at hl 1 rfl) ?_
  refine lv_icmp_eq (tgt := 2017) hx hb dL_law_2012 (by decide) (fun _ => ?_) (fun h => absurd (e_t.trans (h90.trans hK.symm)) h)
  refine lv_iload hx hb dL_law_2017 (lv_at hl 1 rfl) ?_
  refine lv_if_ne (tgt := 2041) hx hb dL_law_2019 (by decide) (fun h => ?_) (fun h => ?_)
  · refine lv_goto (tgt := 2388) hx hb dL_law_2041 (by decide) ?_
    exact kk _ _ _ ad n nc _ (hrN (fun z => h (hK.trans z))) hw hS (lv_sub hl [2, 3, 4, 5, 6] rfl)
  · refine lv_aload_n hx hb dL_law_2022 rfl (lv_at hl 6 rfl) ?_
    refine lv_iconst (v := 0) hx hb dL_law_2023 (by decide) ?_
    refine kx_lald hx hb hG hw dL_law_2024 ?_
    have h := hK.symm.trans h
    have hv : v = g0 40 0 := by rw [e_v, h40, if_pos h]; exact (zv_0 (hKm.trans h)).trans (hAm h)
    refine lv_iload hx hb dL_law_2025 (lv_at hl 0 rfl) ?_
    refine kx_top e_v.symm ?_
    refine kx_nzB hx hb dL_law_2027 dL_law_2030 dL_law_2031 dL_law_2034 ?_
    refine kx_same (tgt := 2041) hx hb (by rw [← e_v, hv]) dL_law_2035 dL_law_2036 (by decide) ?_
    refine lv_goto (tgt := 2388) hx hb dL_law_2041 (by decide) ?_
    exact kk _ _ _ ad n nc _ (hr0 h) hw hS (lv_sub hl [2, 3, 4, 5, 6] rfl)
set_option maxHeartbeats 4000000 in
set_option maxRecDepth 100000 in
theorem arm_ofFind (l : Launch) (hfl : l.stackTraces = false) {p : Program} {e : Env} {s : State} {m : MethodId} {args : Array Value} {below : List Frame} {meth : Method} {c : Code} {Q : State → Prop} {D : va_G} {cy : Nat → ClassId} {base : Nat} (hF : CallFix p m c cL_law 7 s args wsL_law RL) (hG : kG D cy base s) {b L : Nat} {xs : Nat → Int32} (hX : va_X b L xs s s.heap) (hbl : b < s.heap.size) (hbA : ¬ kA base b) (hL : L ≤ 4096) (i : Nat) (hi : i + 8 ≤ L) {cells slots : Nat} (hc1 : cells + 12 ≤ 601024) (hc2 : slots + 100 ≤ 7293034) (kk : ∀ (H : Heap) (locs : List Loc) (ls : Array Slot) (ad : Nat → Nat) (n nc : Nat) (g : sg), kRl n nc g g → kW D cy base ad n nc g H → va_S (kA base) s.heap H locs → lv_has ls 7 [(4, .int (nI i)), (0, .ref b), (1, .ref (ad 0)), (2, .ref (ad 9)), (3, .ref (ad 40))] → W p l e room_1 s m args below meth c H locs (cells + 12) (slots + 100) Q (F0 m 2388 ls [])) {H : Heap} {locs : List Loc} {ls : Array Slot} {ad : Nat → Nat} {n nc : Nat} {g : sg} (hrel : kRl n nc g g) (hw : kW D cy base ad n nc g H) (hS : va_S (kA base) s.heap H locs) (hl : lv_has ls 7 [(4, .int (nI i)), (0, .ref b), (1, .ref (ad 0)), (2, .ref (ad 9)), (3, .ref (ad 40))]) : W p l e room_1 s m args below meth c H locs cells slots Q (F0 m 2044 ls []) := by
  have hx := hF.1
  have hb := hF.2.1
  have hts := hF.2.2.2.2
  have hown := hF.2.2.2.1
  refine lv_aload_n hx hb dL_law_2044 rfl (lv_at hl 2 rfl) ?_
  refine kx_arg hx hb hX hbl hbA hS (lv_at hl 1 rfl) (lv_at hl 0 rfl) 1 (by omega) hL (by decide) dL_law_2045 dL_law_2046 dL_law_2048 dL_law_2049 dL_law_2050 ?_
  refine kx_arg hx hb hX hbl hbA hS (lv_at hl 1 rfl) (lv_at hl 0 rfl) 2 (by omega) hL (by decide) dL_law_2051 dL_law_2052 dL_law_2054 dL_law_2055 dL_law_2056 ?_
  refine lv_aload_n hx hb dL_law_2057 rfl (lv_at hl 4 rfl) ?_
  refine kx_callW (kx_csH (As := [.ref (ad 0), .int (xs (i + 1)), .int (xs (i + 2)), .ref (ad 40)]) (rest := []) hF hG hw hS hl.1 (c_L_ofFind l hfl D cy base ad n nc g (xs (i + 1)) (xs (i + 2)) hrel.fr) gL_law_L_ofFind rfl rfl rfl hd_L_ofFind ⟨Nat.le_of_ble_eq_true rfl, Nat.le_of_ble_eq_true rfl⟩ rfl rfl (Nat.le_of_ble_eq_true rfl) dL_law_2058 ⟨hc1, hc2⟩) hS (fun K u H locs hK hu hw hS => ?_)
  refine lv_istore (lv' := [(5, .int K), (4, .int (nI i)), (0, .ref b), (1, .ref (ad 0)), (2, .ref (ad 9)), (3, .ref (ad 40))]) hx hb dL_law_2061 hl (by decide) rfl (fun ls hl => ?_)
  obtain rfl := hu
  obtain ⟨gB, hB, hw⟩ := ex_kW hw
  have hop := op_ofFind hrel (xs (i + 1)) (xs (i + 2)) hB
  obtain ⟨he, hKm, hAm, h90, h40, hr0, hrN⟩ := hop
  obtain ⟨hfn, hcn, hmR, hhm, hzm, hz0⟩ := hrel.mh he
  refine lv_aload_n hx hb dL_law_2063 rfl (lv_at hl 4 rfl) ?_
  refine kx_arg hx hb hX hbl hbA hS (lv_at hl 2 rfl) (lv_at hl 1 rfl) 1 (by omega) hL (by decide) dL_law_2064 dL_law_2065 dL_law_2067 dL_law_2068 dL_law_2069 ?_
  refine kx_arg hx hb hX hbl hbA hS (lv_at hl 2 rfl) (lv_at hl 1 rfl) 2 (by omega) hL (by decide) dL_law_2070 dL_law_2071 dL_law_2073 dL_law_2074 dL_law_2075 ?_
  refine kx_doV (kx_cv (As := [.int (xs (i + 1)), .int (xs (i + 2))]) (rest := []) hF hG hw hS hl.1 kC_9 rfl (c_X3_ofFind l hfl D cy base ad n nc gB (xs (i + 1)) (xs (i + 2)) hfn) gL_law_X3_ofFind rfl rfl rfl hd_X3_ofFind ⟨Nat.le_of_ble_eq_true rfl, Nat.le_of_ble_eq_true rfl⟩ rfl rfl (Nat.le_of_ble_eq_true rfl) dL_law_2076 ⟨hc1, hc2⟩) hS (fun v gC e_v e_g H locs hw hS => ?_)
  rw [← e_g] at h90 h40 hr0 hrN
  refine lv_istore (lv' := [(6, .int v), (5, .int K), (4, .int (nI i)), (0, .ref b), (1, .ref (ad 0)), (2, .ref (ad 9)), (3, .ref (ad 40))]) hx hb dL_law_2079 hl (by decide) rfl (fun ls hl => ?_)
  refine lv_aload_n hx hb dL_law_2081 rfl (lv_at hl 5 rfl) ?_
  refine kx_doV (kx_cv (As := []) (rest := []) hF hG hw hS hl.1 kC_9 rfl (c_X3_thrown l hfl D cy base ad n nc gC) gL_law_X3_thrown rfl rfl rfl hd_X3_thrown ⟨Nat.le_of_ble_eq_true rfl, Nat.le_of_ble_eq_true rfl⟩ rfl rfl (Nat.le_of_ble_eq_true rfl) dL_law_2082 ⟨hc1, hc2⟩) hS (fun t0 g0 e_t e_0 H1 locs1 hw1 hS1 => ?_)
  subst e_0
  have hw := hw1
  have hS := hS1
  refine lv_iload hx hb dL_law_2085 (lv_at hl 1 rfl) ?_
  refine lv_icmp_eq (tgt := 2092) hx hb dL_law_2087 (by decide) (fun _ => ?_) (fun h => absurd (e_t.trans (h90.trans hK.symm)) h)
  refine lv_iload hx hb dL_law_2092 (lv_at hl 1 rfl) ?_
  refine lv_if_ne (tgt := 2109) hx hb dL_law_2094 (by decide) (fun h => ?_) (fun h => ?_)
  · refine lv_goto (tgt := 2388) hx hb dL_law_2109 (by decide) ?_
    exact kk _ _ _ ad n nc _ (hrN (fun z => h (hK.trans z))) hw hS (lv_sub hl [2, 3, 4, 5, 6] rfl)
  · refine lv_aload_n hx hb dL_law_2097 rfl (lv_at hl 6 rfl) ?_
    refine lv_iconst (v := 0) hx hb dL_law_2098 (by decide) ?_
    refine kx_lald hx hb hG hw dL_law_2099 ?_
    have h := hK.symm.trans h
    have hv : v = g0 40 0 := by rw [e_v, h40, if_pos h]; exact (rv_0 (hKm.trans h)).trans (hAm h)
    refine lv_iload hx hb dL_law_2100 (lv_at hl 0 rfl) ?_
    refine lv_i2l (v := v.toInt64) hx hb dL_law_2102 rfl ?_
    refine kx_same (tgt := 2109) hx hb (by rw [hv]) dL_law_2103 dL_law_2104 (by decide) ?_
    refine lv_goto (tgt := 2388) hx hb dL_law_2109 (by decide) ?_
    exact kk _ _ _ ad n nc _ (hr0 h) hw hS (lv_sub hl [2, 3, 4, 5, 6] rfl)
set_option maxHeartbeats 4000000 in
set_option maxRecDepth 100000 in
theorem arm_hand (l : Launch) (hfl : l.stackTraces = false) {p : Program} {e : Env} {s : State} {m : MethodId} {args : Array Value} {below : List Frame} {meth : Method} {c : Code} {Q : State → Prop} {D : va_G} {cy : Nat → ClassId} {base : Nat} (hF : CallFix p m c cL_law 7 s args wsL_law RL) (hG : kG D cy base s) {b L : Nat} {xs : Nat → Int32} (hX : va_X b L xs s s.heap) (hbl : b < s.heap.size) (hbA : ¬ kA base b) (hL : L ≤ 4096) (i : Nat) (hi : i + 8 ≤ L) {cells slots : Nat} (hc1 : cells + 12 ≤ 601024) (hc2 : slots + 100 ≤ 7293034) (kk : ∀ (H : Heap) (locs : List Loc) (ls : Array Slot) (ad : Nat → Nat) (n nc : Nat) (g : sg), kRl n nc g g → kW D cy base ad n nc g H → va_S (kA base) s.heap H locs → lv_has ls 7 [(4, .int (nI i)), (0, .ref b), (1, .ref (ad 0)), (2, .ref (ad 9)), (3, .ref (ad 40))] → W p l e room_1 s m args below meth c H locs (cells + 12) (slots + 100) Q (F0 m 2388 ls [])) {H : Heap} {locs : List Loc} {ls : Array Slot} {ad : Nat → Nat} {n nc : Nat} {g : sg} (hrel : kRl n nc g g) (hw : kW D cy base ad n nc g H) (hS : va_S (kA base) s.heap H locs) (hl : lv_has ls 7 [(4, .int (nI i)), (0, .ref b), (1, .ref (ad 0)), (2, .ref (ad 9)), (3, .ref (ad 40))]) : W p l e room_1 s m args below meth c H locs cells slots Q (F0 m 2112 ls []) := by
  have hx := hF.1
  have hb := hF.2.1
  have hts := hF.2.2.2.2
  have hown := hF.2.2.2.1
  refine lv_aload_n hx hb dL_law_2112 rfl (lv_at hl 2 rfl) ?_
  refine kx_arg hx hb hX hbl hbA hS (lv_at hl 1 rfl) (lv_at hl 0 rfl) 1 (by omega) hL (by decide) dL_law_2113 dL_law_2114 dL_law_2116 dL_law_2117 dL_law_2118 ?_
  refine kx_arg hx hb hX hbl hbA hS (lv_at hl 1 rfl) (lv_at hl 0 rfl) 2 (by omega) hL (by decide) dL_law_2119 dL_law_2120 dL_law_2122 dL_law_2123 dL_law_2124 ?_
  refine kx_arg hx hb hX hbl hbA hS (lv_at hl 1 rfl) (lv_at hl 0 rfl) 3 (by omega) hL (by decide) dL_law_2125 dL_law_2126 dL_law_2128 dL_law_2129 dL_law_2130 ?_
  refine kx_nz hx hb dL_law_2131 dL_law_2134 dL_law_2135 dL_law_2138 ?_
  refine lv_aload_n hx hb dL_law_2139 rfl (lv_at hl 4 rfl) ?_
  refine kx_callW (kx_csH (As := [.ref (ad 0), .int (xs (i + 1)), .int (xs (i + 2)), .int (b2 (!decide ((xs (i + 3)) = 0))), .ref (ad 40)]) (rest := []) hF hG hw hS hl.1 (c_L_hand l hfl D cy base ad n nc g (xs (i + 1)) (xs (i + 2)) (!decide ((xs (i + 3)) = 0)) hrel.fr hrel.hd) gL_law_L_hand rfl rfl rfl hd_L_hand ⟨Nat.le_of_ble_eq_true rfl, Nat.le_of_ble_eq_true rfl⟩ rfl rfl (Nat.le_of_ble_eq_true rfl) dL_law_2140 ⟨hc1, hc2⟩) hS (fun K u H locs hK hu hw hS => ?_)
  refine lv_istore (lv' := [(5, .int K), (4, .int (nI i)), (0, .ref b), (1, .ref (ad 0)), (2, .ref (ad 9)), (3, .ref (ad 40))]) hx hb dL_law_2143 hl (by decide) rfl (fun ls hl => ?_)
  obtain rfl := hu
  obtain ⟨gB, hB, hw⟩ := ex_kW hw
  have hop := op_hand hrel (xs (i + 1)) (xs (i + 2)) (!decide ((xs (i + 3)) = 0)) hB
  obtain ⟨he, hKm, hAm, h90, h40, hr0, hrN⟩ := hop
  obtain ⟨hfn, hcn, hmR, hhm, hzm, hz0⟩ := hrel.mh he
  refine lv_aload_n hx hb dL_law_2145 rfl (lv_at hl 4 rfl) ?_
  refine kx_arg hx hb hX hbl hbA hS (lv_at hl 2 rfl) (lv_at hl 1 rfl) 1 (by omega) hL (by decide) dL_law_2146 dL_law_2147 dL_law_2149 dL_law_2150 dL_law_2151 ?_
  refine kx_arg hx hb hX hbl hbA hS (lv_at hl 2 rfl) (lv_at hl 1 rfl) 2 (by omega) hL (by decide) dL_law_2152 dL_law_2153 dL_law_2155 dL_law_2156 dL_law_2157 ?_
  refine kx_arg hx hb hX hbl hbA hS (lv_at hl 2 rfl) (lv_at hl 1 rfl) 3 (by omega) hL (by decide) dL_law_2158 dL_law_2159 dL_law_2161 dL_law_2162 dL_law_2163 ?_
  refine kx_nz hx hb dL_law_2164 dL_law_2167 dL_law_2168 dL_law_2171 ?_
  refine kx_doV (kx_cv (As := [.int (xs (i + 1)), .int (xs (i + 2)), .int (b2 (!decide ((xs (i + 3)) = 0)))]) (rest := []) hF hG hw hS hl.1 kC_9 rfl (c_X3_hand l hfl D cy base ad n nc gB (xs (i + 1)) (xs (i + 2)) (!decide ((xs (i + 3)) = 0)) hfn hhm) gL_law_X3_hand rfl rfl rfl hd_X3_hand ⟨Nat.le_of_ble_eq_true rfl, Nat.le_of_ble_eq_true rfl⟩ rfl rfl (Nat.le_of_ble_eq_true rfl) dL_law_2172 ⟨hc1, hc2⟩) hS (fun v gC e_v e_g H locs hw hS => ?_)
  rw [← e_g] at h90 h40 hr0 hrN
  refine lv_istore (lv' := [(6, .int v), (5, .int K), (4, .int (nI i)), (0, .ref b), (1, .ref (ad 0)), (2, .ref (ad 9)), (3, .ref (ad 40))]) hx hb dL_law_2175 hl (by decide) rfl (fun ls hl => ?_)
  refine lv_aload_n hx hb dL_law_2177 rfl (lv_at hl 5 rfl) ?_
  refine kx_doV (kx_cv (As := []) (rest := []) hF hG hw hS hl.1 kC_9 rfl (c_X3_thrown l hfl D cy base ad n nc gC) gL_law_X3_thrown rfl rfl rfl hd_X3_thrown ⟨Nat.le_of_ble_eq_true rfl, Nat.le_of_ble_eq_true rfl⟩ rfl rfl (Nat.le_of_ble_eq_true rfl) dL_law_2178 ⟨hc1, hc2⟩) hS (fun t0 g0 e_t e_0 H1 locs1 hw1 hS1 => ?_)
  subst e_0
  have hw := hw1
  have hS := hS1
  refine lv_iload hx hb dL_law_2181 (lv_at hl 1 rfl) ?_
  refine lv_icmp_eq (tgt := 2188) hx hb dL_law_2183 (by decide) (fun _ => ?_) (fun h => absurd (e_t.trans (h90.trans hK.symm)) h)
  refine lv_iload hx hb dL_law_2188 (lv_at hl 1 rfl) ?_
  refine lv_if_ne (tgt := 2205) hx hb dL_law_2190 (by decide) (fun h => ?_) (fun h => ?_)
  · refine lv_goto (tgt := 2388) hx hb dL_law_2205 (by decide) ?_
    exact kk _ _ _ ad n nc _ (hrN (fun z => h (hK.trans z))) hw hS (lv_sub hl [2, 3, 4, 5, 6] rfl)
  · refine lv_aload_n hx hb dL_law_2193 rfl (lv_at hl 6 rfl) ?_
    refine lv_iconst (v := 0) hx hb dL_law_2194 (by decide) ?_
    refine kx_lald hx hb hG hw dL_law_2195 ?_
    have h := hK.symm.trans h
    have hv : v = g0 40 0 := by rw [e_v, h40, if_pos h]; exact (rv_0 (hKm.trans h)).trans (hAm h)
    refine lv_iload hx hb dL_law_2196 (lv_at hl 0 rfl) ?_
    refine lv_i2l (v := v.toInt64) hx hb dL_law_2198 rfl ?_
    refine kx_same (tgt := 2205) hx hb (by rw [hv]) dL_law_2199 dL_law_2200 (by decide) ?_
    refine lv_goto (tgt := 2388) hx hb dL_law_2205 (by decide) ?_
    exact kk _ _ _ ad n nc _ (hr0 h) hw hS (lv_sub hl [2, 3, 4, 5, 6] rfl)
set_option maxHeartbeats 4000000 in
set_option maxRecDepth 100000 in
theorem arm_ofClaim (l : Launch) (hfl : l.stackTraces = false) {p : Program} {e : Env} {s : State} {m : MethodId} {args : Array Value} {below : List Frame} {meth : Method} {c : Code} {Q : State → Prop} {D : va_G} {cy : Nat → ClassId} {base : Nat} (hF : CallFix p m c cL_law 7 s args wsL_law RL) (hG : kG D cy base s) {b L : Nat} {xs : Nat → Int32} (hX : va_X b L xs s s.heap) (hbl : b < s.heap.size) (hbA : ¬ kA base b) (hL : L ≤ 4096) (i : Nat) (hi : i + 8 ≤ L) {cells slots : Nat} (hc1 : cells + 12 ≤ 601024) (hc2 : slots + 100 ≤ 7293034) (kk : ∀ (H : Heap) (locs : List Loc) (ls : Array Slot) (ad : Nat → Nat) (n nc : Nat) (g : sg), kRl n nc g g → kW D cy base ad n nc g H → va_S (kA base) s.heap H locs → lv_has ls 7 [(4, .int (nI i)), (0, .ref b), (1, .ref (ad 0)), (2, .ref (ad 9)), (3, .ref (ad 40))] → W p l e room_1 s m args below meth c H locs (cells + 12) (slots + 100) Q (F0 m 2388 ls [])) {H : Heap} {locs : List Loc} {ls : Array Slot} {ad : Nat → Nat} {n nc : Nat} {g : sg} (hrel : kRl n nc g g) (hw : kW D cy base ad n nc g H) (hS : va_S (kA base) s.heap H locs) (hl : lv_has ls 7 [(4, .int (nI i)), (0, .ref b), (1, .ref (ad 0)), (2, .ref (ad 9)), (3, .ref (ad 40))]) : W p l e room_1 s m args below meth c H locs cells slots Q (F0 m 2208 ls []) := by
  have hx := hF.1
  have hb := hF.2.1
  have hts := hF.2.2.2.2
  have hown := hF.2.2.2.1
  refine lv_aload_n hx hb dL_law_2208 rfl (lv_at hl 2 rfl) ?_
  refine kx_arg hx hb hX hbl hbA hS (lv_at hl 1 rfl) (lv_at hl 0 rfl) 1 (by omega) hL (by decide) dL_law_2209 dL_law_2210 dL_law_2212 dL_law_2213 dL_law_2214 ?_
  refine kx_arg hx hb hX hbl hbA hS (lv_at hl 1 rfl) (lv_at hl 0 rfl) 2 (by omega) hL (by decide) dL_law_2215 dL_law_2216 dL_law_2218 dL_law_2219 dL_law_2220 ?_
  refine lv_aload_n hx hb dL_law_2221 rfl (lv_at hl 4 rfl) ?_
  refine kx_callW (kx_csH (As := [.ref (ad 0), .int (xs (i + 1)), .int (xs (i + 2)), .ref (ad 40)]) (rest := []) hF hG hw hS hl.1 (c_L_ofClaim l hfl D cy base ad n nc g (xs (i + 1)) (xs (i + 2)) hrel.cr) gL_law_L_ofClaim rfl rfl rfl hd_L_ofClaim ⟨Nat.le_of_ble_eq_true rfl, Nat.le_of_ble_eq_true rfl⟩ rfl rfl (Nat.le_of_ble_eq_true rfl) dL_law_2222 ⟨hc1, hc2⟩) hS (fun K u H locs hK hu hw hS => ?_)
  refine lv_istore (lv' := [(5, .int K), (4, .int (nI i)), (0, .ref b), (1, .ref (ad 0)), (2, .ref (ad 9)), (3, .ref (ad 40))]) hx hb dL_law_2225 hl (by decide) rfl (fun ls hl => ?_)
  obtain rfl := hu
  obtain ⟨gB, hB, hw⟩ := ex_kW hw
  have hop := op_ofClaim hrel (xs (i + 1)) (xs (i + 2)) hB
  obtain ⟨he, hKm, hAm, h90, h40, hr0, hrN⟩ := hop
  obtain ⟨hfn, hcn, hmR, hhm, hzm, hz0⟩ := hrel.mh he
  refine lv_aload_n hx hb dL_law_2227 rfl (lv_at hl 4 rfl) ?_
  refine kx_arg hx hb hX hbl hbA hS (lv_at hl 2 rfl) (lv_at hl 1 rfl) 1 (by omega) hL (by decide) dL_law_2228 dL_law_2229 dL_law_2231 dL_law_2232 dL_law_2233 ?_
  refine kx_arg hx hb hX hbl hbA hS (lv_at hl 2 rfl) (lv_at hl 1 rfl) 2 (by omega) hL (by decide) dL_law_2234 dL_law_2235 dL_law_2237 dL_law_2238 dL_law_2239 ?_
  refine kx_doV (kx_cv (As := [.int (xs (i + 1)), .int (xs (i + 2))]) (rest := []) hF hG hw hS hl.1 kC_9 rfl (c_X3_ofClaim l hfl D cy base ad n nc gB (xs (i + 1)) (xs (i + 2)) hcn) gL_law_X3_ofClaim rfl rfl rfl hd_X3_ofClaim ⟨Nat.le_of_ble_eq_true rfl, Nat.le_of_ble_eq_true rfl⟩ rfl rfl (Nat.le_of_ble_eq_true rfl) dL_law_2240 ⟨hc1, hc2⟩) hS (fun v gC e_v e_g H locs hw hS => ?_)
  rw [← e_g] at h90 h40 hr0 hrN
  refine lv_istore (lv' := [(6, .int v), (5, .int K), (4, .int (nI i)), (0, .ref b), (1, .ref (ad 0)), (2, .ref (ad 9)), (3, .ref (ad 40))]) hx hb dL_law_2243 hl (by decide) rfl (fun ls hl => ?_)
  refine lv_aload_n hx hb dL_law_2245 rfl (lv_at hl 5 rfl) ?_
  refine kx_doV (kx_cv (As := []) (rest := []) hF hG hw hS hl.1 kC_9 rfl (c_X3_thrown l hfl D cy base ad n nc gC) gL_law_X3_thrown rfl rfl rfl hd_X3_thrown ⟨Nat.le_of_ble_eq_true rfl, Nat.le_of_ble_eq_true rfl⟩ rfl rfl (Nat.le_of_ble_eq_true rfl) dL_law_2246 ⟨hc1, hc2⟩) hS (fun t0 g0 e_t e_0 H1 locs1 hw1 hS1 => ?_)
  subst e_0
  have hw := hw1
  have hS := hS1
  refine lv_iload hx hb dL_law_2249 (lv_at hl 1 rfl) ?_
  refine lv_icmp_eq (tgt := 2256) hx hb dL_law_2251 (by decide) (fun _ => ?_) (fun h => absurd (e_t.trans (h90.trans hK.symm)) h)
  refine lv_iload hx hb dL_law_2256 (lv_at hl 1 rfl) ?_
  refine lv_if_ne (tgt := 2273) hx hb dL_law_2258 (by decide) (fun h => ?_) (fun h => ?_)
  · refine lv_goto (tgt := 2388) hx hb dL_law_2273 (by decide) ?_
    exact kk _ _ _ ad n nc _ (hrN (fun z => h (hK.trans z))) hw hS (lv_sub hl [2, 3, 4, 5, 6] rfl)
  · refine lv_aload_n hx hb dL_law_2261 rfl (lv_at hl 6 rfl) ?_
    refine lv_iconst (v := 0) hx hb dL_law_2262 (by decide) ?_
    refine kx_lald hx hb hG hw dL_law_2263 ?_
    have h := hK.symm.trans h
    have hv : v = g0 40 0 := by rw [e_v, h40, if_pos h]; exact (rv_0 (hKm.trans h)).trans (hAm h)
    refine lv_iload hx hb dL_law_2264 (lv_at hl 0 rfl) ?_
    refine lv_i2l (v := v.toInt64) hx hb dL_law_2266 rfl ?_
    refine kx_same (tgt := 2273) hx hb (by rw [hv]) dL_law_2267 dL_law_2268 (by decide) ?_
    refine lv_goto (tgt := 2388) hx hb dL_law_2273 (by decide) ?_
    exact kk _ _ _ ad n nc _ (hr0 h) hw hS (lv_sub hl [2, 3, 4, 5, 6] rfl)
set_option maxHeartbeats 4000000 in
set_option maxRecDepth 100000 in
theorem arm_money (l : Launch) (hfl : l.stackTraces = false) {p : Program} {e : Env} {s : State} {m : MethodId} {args : Array Value} {below : List Frame} {meth : Method} {c : Code} {Q : State → Prop} {D : va_G} {cy : Nat → ClassId} {base : Nat} (hF : CallFix p m c cL_law 7 s args wsL_law RL) (hG : kG D cy base s) {b L : Nat} {xs : Nat → Int32} (hX : va_X b L xs s s.heap) (hbl : b < s.heap.size) (hbA : ¬ kA base b) (hL : L ≤ 4096) (i : Nat) (hi : i + 8 ≤ L) {cells slots : Nat} (hc1 : cells + 12 ≤ 601024) (hc2 : slots + 100 ≤ 7293034) (kk : ∀ (H : Heap) (locs : List Loc) (ls : Array Slot) (ad : Nat → Nat) (n nc : Nat) (g : sg), kRl n nc g g → kW D cy base ad n nc g H → va_S (kA base) s.heap H locs → lv_has ls 7 [(4, .int (nI i)), (0, .ref b), (1, .ref (ad 0)), (2, .ref (ad 9)), (3, .ref (ad 40))] → W p l e room_1 s m args below meth c H locs (cells + 12) (slots + 100) Q (F0 m 2388 ls [])) {H : Heap} {locs : List Loc} {ls : Array Slot} {ad : Nat → Nat} {n nc : Nat} {g : sg} (hrel : kRl n nc g g) (hw : kW D cy base ad n nc g H) (hS : va_S (kA base) s.heap H locs) (hl : lv_has ls 7 [(4, .int (nI i)), (0, .ref b), (1, .ref (ad 0)), (2, .ref (ad 9)), (3, .ref (ad 40))]) : W p l e room_1 s m args below meth c H locs cells slots Q (F0 m 2276 ls []) := by
  have hx := hF.1
  have hb := hF.2.1
  have hts := hF.2.2.2.2
  have hown := hF.2.2.2.1
  refine lv_aload_n hx hb dL_law_2276 rfl (lv_at hl 2 rfl) ?_
  refine kx_arg hx hb hX hbl hbA hS (lv_at hl 1 rfl) (lv_at hl 0 rfl) 1 (by omega) hL (by decide) dL_law_2277 dL_law_2278 dL_law_2280 dL_law_2281 dL_law_2282 ?_
  refine lv_aload_n hx hb dL_law_2283 rfl (lv_at hl 4 rfl) ?_
  refine kx_callW (kx_csH (As := [.ref (ad 0), .int (xs (i + 1)), .ref (ad 40)]) (rest := []) hF hG hw hS hl.1 (c_L_money l hfl D cy base ad n nc g (xs (i + 1)) ) gL_law_L_money rfl rfl rfl hd_L_money ⟨Nat.le_of_ble_eq_true rfl, Nat.le_of_ble_eq_true rfl⟩ rfl rfl (Nat.le_of_ble_eq_true rfl) dL_law_2284 ⟨hc1, hc2⟩) hS (fun K u H locs hK hu hw hS => ?_)
  refine lv_istore (lv' := [(5, .int K), (4, .int (nI i)), (0, .ref b), (1, .ref (ad 0)), (2, .ref (ad 9)), (3, .ref (ad 40))]) hx hb dL_law_2287 hl (by decide) rfl (fun ls hl => ?_)
  obtain rfl := hu
  obtain ⟨gB, hB, hw⟩ := ex_kW hw
  have hop := op_money hrel (xs (i + 1)) hB
  obtain ⟨he, hKm, hAm, h90, h40, hr0, hrN⟩ := hop
  obtain ⟨hfn, hcn, hmR, hhm, hzm, hz0⟩ := hrel.mh he
  refine lv_aload_n hx hb dL_law_2289 rfl (lv_at hl 4 rfl) ?_
  refine kx_arg hx hb hX hbl hbA hS (lv_at hl 2 rfl) (lv_at hl 1 rfl) 1 (by omega) hL (by decide) dL_law_2290 dL_law_2291 dL_law_2293 dL_law_2294 dL_law_2295 ?_
  refine kx_doV (kx_cv (As := [.int (xs (i + 1))]) (rest := []) hF hG hw hS hl.1 kC_9 rfl (c_X3_money l hfl D cy base ad n nc gB (xs (i + 1)) ) gL_law_X3_money rfl rfl rfl hd_X3_money ⟨Nat.le_of_ble_eq_true rfl, Nat.le_of_ble_eq_true rfl⟩ rfl rfl (Nat.le_of_ble_eq_true rfl) dL_law_2296 ⟨hc1, hc2⟩) hS (fun v gC e_v e_g H locs hw hS => ?_)
  rw [← e_g] at h90 h40 hr0 hrN
  refine lv_istore (lv' := [(6, .int v), (5, .int K), (4, .int (nI i)), (0, .ref b), (1, .ref (ad 0)), (2, .ref (ad 9)), (3, .ref (ad 40))]) hx hb dL_law_2299 hl (by decide) rfl (fun ls hl => ?_)
  refine lv_aload_n hx hb dL_law_2301 rfl (lv_at hl 5 rfl) ?_
  refine kx_doV (kx_cv (As := []) (rest := []) hF hG hw hS hl.1 kC_9 rfl (c_X3_thrown l hfl D cy base ad n nc gC) gL_law_X3_thrown rfl rfl rfl hd_X3_thrown ⟨Nat.le_of_ble_eq_true rfl, Nat.le_of_ble_eq_true rfl⟩ rfl rfl (Nat.le_of_ble_eq_true rfl) dL_law_2302 ⟨hc1, hc2⟩) hS (fun t0 g0 e_t e_0 H1 locs1 hw1 hS1 => ?_)
  subst e_0
  have hw := hw1
  have hS := hS1
  refine lv_iload hx hb dL_law_2305 (lv_at hl 1 rfl) ?_
  refine lv_icmp_eq (tgt := 2312) hx hb dL_law_2307 (by decide) (fun _ => ?_) (fun h => absurd (e_t.trans (h90.trans hK.symm)) h)
  refine lv_iload hx hb dL_law_2312 (lv_at hl 1 rfl) ?_
  refine lv_if_ne (tgt := 2329) hx hb dL_law_2314 (by decide) (fun h => ?_) (fun h => ?_)
  · refine lv_goto (tgt := 2388) hx hb dL_law_2329 (by decide) ?_
    exact kk _ _ _ ad n nc _ (hrN (fun z => h (hK.trans z))) hw hS (lv_sub hl [2, 3, 4, 5, 6] rfl)
  · refine lv_aload_n hx hb dL_law_2317 rfl (lv_at hl 6 rfl) ?_
    refine lv_iconst (v := 0) hx hb dL_law_2318 (by decide) ?_
    refine kx_lald hx hb hG hw dL_law_2319 ?_
    have h := hK.symm.trans h
    have hv : v = g0 40 0 := by rw [e_v, h40, if_pos h]; exact (rv_0 (hKm.trans h)).trans (hAm h)
    refine lv_iload hx hb dL_law_2320 (lv_at hl 0 rfl) ?_
    refine lv_i2l (v := v.toInt64) hx hb dL_law_2322 rfl ?_
    refine kx_same (tgt := 2329) hx hb (by rw [hv]) dL_law_2323 dL_law_2324 (by decide) ?_
    refine lv_goto (tgt := 2388) hx hb dL_law_2329 (by decide) ?_
    exact kk _ _ _ ad n nc _ (hr0 h) hw hS (lv_sub hl [2, 3, 4, 5, 6] rfl)
set_option maxHeartbeats 4000000 in
set_option maxRecDepth 100000 in
theorem arm_audit (l : Launch) (hfl : l.stackTraces = false) {p : Program} {e : Env} {s : State} {m : MethodId} {args : Array Value} {below : List Frame} {meth : Method} {c : Code} {Q : State → Prop} {D : va_G} {cy : Nat → ClassId} {base : Nat} (hF : CallFix p m c cL_law 7 s args wsL_law RL) (hG : kG D cy base s) {b L : Nat} {xs : Nat → Int32} (hX : va_X b L xs s s.heap) (hbl : b < s.heap.size) (hbA : ¬ kA base b) (hL : L ≤ 4096) (i : Nat) (hi : i + 8 ≤ L) {cells slots : Nat} (hc1 : cells + 12 ≤ 601024) (hc2 : slots + 100 ≤ 7293034) (kk : ∀ (H : Heap) (locs : List Loc) (ls : Array Slot) (ad : Nat → Nat) (n nc : Nat) (g : sg), kRl n nc g g → kW D cy base ad n nc g H → va_S (kA base) s.heap H locs → lv_has ls 7 [(4, .int (nI i)), (0, .ref b), (1, .ref (ad 0)), (2, .ref (ad 9)), (3, .ref (ad 40))] → W p l e room_1 s m args below meth c H locs (cells + 12) (slots + 100) Q (F0 m 2388 ls [])) {H : Heap} {locs : List Loc} {ls : Array Slot} {ad : Nat → Nat} {n nc : Nat} {g : sg} (hrel : kRl n nc g g) (hw : kW D cy base ad n nc g H) (hS : va_S (kA base) s.heap H locs) (hl : lv_has ls 7 [(4, .int (nI i)), (0, .ref b), (1, .ref (ad 0)), (2, .ref (ad 9)), (3, .ref (ad 40))]) : W p l e room_1 s m args below meth c H locs cells slots Q (F0 m 2332 ls []) := by
  have hx := hF.1
  have hb := hF.2.1
  have hts := hF.2.2.2.2
  have hown := hF.2.2.2.1
  refine lv_aload_n hx hb dL_law_2332 rfl (lv_at hl 2 rfl) ?_
  refine kx_arg hx hb hX hbl hbA hS (lv_at hl 1 rfl) (lv_at hl 0 rfl) 1 (by omega) hL (by decide) dL_law_2333 dL_law_2334 dL_law_2336 dL_law_2337 dL_law_2338 ?_
  refine lv_aload_n hx hb dL_law_2339 rfl (lv_at hl 4 rfl) ?_
  refine kx_callW (kx_csH (As := [.ref (ad 0), .int (xs (i + 1)), .ref (ad 40)]) (rest := []) hF hG hw hS hl.1 (c_L_audit l hfl D cy base ad n nc g (xs (i + 1)) hrel.fr) gL_law_L_audit rfl rfl rfl hd_L_audit ⟨Nat.le_of_ble_eq_true rfl, Nat.le_of_ble_eq_true rfl⟩ rfl rfl (Nat.le_of_ble_eq_true rfl) dL_law_2340 ⟨hc1, hc2⟩) hS (fun K u H locs hK hu hw hS => ?_)
  refine lv_istore (lv' := [(5, .int K), (4, .int (nI i)), (0, .ref b), (1, .ref (ad 0)), (2, .ref (ad 9)), (3, .ref (ad 40))]) hx hb dL_law_2343 hl (by decide) rfl (fun ls hl => ?_)
  obtain rfl := hu
  obtain ⟨gB, hB, hw⟩ := ex_kW hw
  have hop := op_audit hrel (xs (i + 1)) hB
  obtain ⟨he, hKm, hAm, h90, h40, hr0, hrN⟩ := hop
  obtain ⟨hfn, hcn, hmR, hhm, hzm, hz0⟩ := hrel.mh he
  refine lv_aload_n hx hb dL_law_2345 rfl (lv_at hl 4 rfl) ?_
  refine kx_arg hx hb hX hbl hbA hS (lv_at hl 2 rfl) (lv_at hl 1 rfl) 1 (by omega) hL (by decide) dL_law_2346 dL_law_2347 dL_law_2349 dL_law_2350 dL_law_2351 ?_
  refine kx_doV (kx_cv (As := [.int (xs (i + 1))]) (rest := []) hF hG hw hS hl.1 kC_9 rfl (c_X3_audit l hfl D cy base ad n nc gB (xs (i + 1)) hfn) gL_law_X3_audit rfl rfl rfl hd_X3_audit ⟨Nat.le_of_ble_eq_true rfl, Nat.le_of_ble_eq_true rfl⟩ rfl rfl (Nat.le_of_ble_eq_true rfl) dL_law_2352 ⟨hc1, hc2⟩) hS (fun v gC e_v e_g H locs hw hS => ?_)
  rw [← e_g] at h90 h40 hr0 hrN
  refine lv_istore (lv' := [(6, .int v), (5, .int K), (4, .int (nI i)), (0, .ref b), (1, .ref (ad 0)), (2, .ref (ad 9)), (3, .ref (ad 40))]) hx hb dL_law_2355 hl (by decide) rfl (fun ls hl => ?_)
  refine lv_aload_n hx hb dL_law_2357 rfl (lv_at hl 5 rfl) ?_
  refine kx_doV (kx_cv (As := []) (rest := []) hF hG hw hS hl.1 kC_9 rfl (c_X3_thrown l hfl D cy base ad n nc gC) gL_law_X3_thrown rfl rfl rfl hd_X3_thrown ⟨Nat.le_of_ble_eq_true rfl, Nat.le_of_ble_eq_true rfl⟩ rfl rfl (Nat.le_of_ble_eq_true rfl) dL_law_2358 ⟨hc1, hc2⟩) hS (fun t0 g0 e_t e_0 H1 locs1 hw1 hS1 => ?_)
  subst e_0
  have hw := hw1
  have hS := hS1
  refine lv_iload hx hb dL_law_2361 (lv_at hl 1 rfl) ?_
  refine lv_icmp_eq (tgt := 2368) hx hb dL_law_2363 (by decide) (fun _ => ?_) (fun h => absurd (e_t.trans (h90.trans hK.symm)) h)
  refine lv_iload hx hb dL_law_2368 (lv_at hl 1 rfl) ?_
  refine lv_if_ne (tgt := 2385) hx hb dL_law_2370 (by decide) (fun h => ?_) (fun h => ?_)
  · refine lv_goto (tgt := 2388) hx hb dL_law_2385 (by decide) ?_
    exact kk _ _ _ ad n nc _ (hrN (fun z => h (hK.trans z))) hw hS (lv_sub hl [2, 3, 4, 5, 6] rfl)
  · refine lv_aload_n hx hb dL_law_2373 rfl (lv_at hl 6 rfl) ?_
    refine lv_iconst (v := 0) hx hb dL_law_2374 (by decide) ?_
    refine kx_lald hx hb hG hw dL_law_2375 ?_
    have h := hK.symm.trans h
    have hv : v = g0 40 0 := by rw [e_v, h40, if_pos h]; exact (rv_0 (hKm.trans h)).trans (hAm h)
    refine lv_iload hx hb dL_law_2376 (lv_at hl 0 rfl) ?_
    refine lv_i2l (v := v.toInt64) hx hb dL_law_2378 rfl ?_
    refine kx_same (tgt := 2385) hx hb (by rw [hv]) dL_law_2379 dL_law_2380 (by decide) ?_
    refine lv_goto (tgt := 2388) hx hb dL_law_2385 (by decide) ?_
    exact kk _ _ _ ad n nc _ (hr0 h) hw hS (lv_sub hl [2, 3, 4, 5, 6] rfl)
