/-! the arms of the law's switch: laid by wip/whole/lawgen.py -/
set_option maxHeartbeats 4000000 in
set_option maxRecDepth 100000 in
theorem arm_near (l : Launch) (hfl : l.stackTraces = false) {p : Program} {e : Env} {s : State} {m : MethodId} {args : Array Value} {below : List Frame} {meth : Method} {c : Code} {Q : State → Prop} {D : va_G} {cy : Nat → ClassId} {base : Nat} (hF : CallFix p m c cL_law 7 s args wsL_law RL) (hG : kG D cy base s) {b L : Nat} {xs : Nat → Int32} (hX : va_X b L xs s s.heap) (hbl : b < s.heap.size) (hbA : ¬ kA base b) (hL : L ≤ 4096) (i : Nat) (hi : i + 8 ≤ L) {cells slots : Nat} (hc1 : cells + 12 ≤ 601024) (hc2 : slots + 100 ≤ 7293034) (kk : ∀ (H : Heap) (locs : List Loc) (ls : Array Slot) (ad : Nat → Nat) (n nc : Nat) (g : sg), kRl n nc g g → kW D cy base ad n nc g H → va_S (kA base) s.heap H locs → lv_has ls 7 [(4, .int (nI i)), (0, .ref b), (1, .ref (ad 0)), (2, .ref (ad 9)), (3, .ref (ad 40))] → W p l e room_1 s m args below meth c H locs (cells + 12) (slots + 100) Q (F0 m 2388 ls [])) {H : Heap} {locs : List Loc} {ls : Array Slot} {ad : Nat → Nat} {n nc : Nat} {g : sg} (hrel : kRl n nc g g) (hw : kW D cy base ad n nc g H) (hS : va_S (kA base) s.heap H locs) (hl : lv_has ls 7 [(4, .int (nI i)), (0, .ref b), (1, .ref (ad 0)), (2, .ref (ad 9)), (3, .ref (ad 40))]) : W p l e room_1 s m args below meth c H locs cells slots Q (F0 m 184 ls []) := by
  have hx := hF.1
  have hb := hF.2.1
  have hts := hF.2.2.2.2
  have hown := hF.2.2.2.1
  refine lv_aload_n hx hb dL_law_184 rfl (lv_at hl 2 rfl) ?_
  refine kx_arg hx hb hX hbl hbA hS (lv_at hl 1 rfl) (lv_at hl 0 rfl) 1 (by omega) hL (by decide) dL_law_185 dL_law_186 dL_law_188 dL_law_189 dL_law_190 ?_
  refine kx_arg hx hb hX hbl hbA hS (lv_at hl 1 rfl) (lv_at hl 0 rfl) 2 (by omega) hL (by decide) dL_law_191 dL_law_192 dL_law_194 dL_law_195 dL_law_196 ?_
  refine lv_aload_n hx hb dL_law_197 rfl (lv_at hl 4 rfl) ?_
  refine kx_callW (kx_csH (As := [.ref (ad 0), .int (xs (i + 1)), .int (xs (i + 2)), .ref (ad 40)]) (rest := []) hF hG hw hS hl.1 (c_L_near l hfl D cy base ad n nc g (xs (i + 1)) (xs (i + 2)) ) gL_law_L_near rfl rfl rfl hd_L_near ⟨Nat.le_of_ble_eq_true rfl, Nat.le_of_ble_eq_true rfl⟩ rfl rfl (Nat.le_of_ble_eq_true rfl) dL_law_198 ⟨hc1, hc2⟩) hS (fun K u H locs hK hu hw hS => ?_)
  refine lv_istore (lv' := [(5, .int K), (4, .int (nI i)), (0, .ref b), (1, .ref (ad 0)), (2, .ref (ad 9)), (3, .ref (ad 40))]) hx hb dL_law_201 hl (by decide) rfl (fun ls hl => ?_)
  obtain rfl := hu
  obtain ⟨gB, hB, hw⟩ := ex_kW hw
  have hop := op_near hrel (xs (i + 1)) (xs (i + 2)) hB
  obtain ⟨he, hKm, hAm, h90, h40, hr0, hrN⟩ := hop
  obtain ⟨hfn, hcn, hmR, hhm, hzm, hz0⟩ := hrel.mh he
  refine lv_aload_n hx hb dL_law_203 rfl (lv_at hl 4 rfl) ?_
  refine kx_arg hx hb hX hbl hbA hS (lv_at hl 2 rfl) (lv_at hl 1 rfl) 1 (by omega) hL (by decide) dL_law_204 dL_law_205 dL_law_207 dL_law_208 dL_law_209 ?_
  refine kx_arg hx hb hX hbl hbA hS (lv_at hl 2 rfl) (lv_at hl 1 rfl) 2 (by omega) hL (by decide) dL_law_210 dL_law_211 dL_law_213 dL_law_214 dL_law_215 ?_
  refine kx_doV (kx_cv (As := [.int (xs (i + 1)), .int (xs (i + 2))]) (rest := []) hF hG hw hS hl.1 kC_9 rfl (c_X3_near l hfl D cy base ad n nc gB (xs (i + 1)) (xs (i + 2)) ) gL_law_X3_near rfl rfl rfl hd_X3_near ⟨Nat.le_of_ble_eq_true rfl, Nat.le_of_ble_eq_true rfl⟩ rfl rfl (Nat.le_of_ble_eq_true rfl) dL_law_216 ⟨hc1, hc2⟩) hS (fun v gC e_v e_g H locs hw hS => ?_)
  rw [← e_g] at h90 h40 hr0 hrN
  refine lv_istore (lv' := [(6, .int v), (5, .int K), (4, .int (nI i)), (0, .ref b), (1, .ref (ad 0)), (2, .ref (ad 9)), (3, .ref (ad 40))]) hx hb dL_law_219 hl (by decide) rfl (fun ls hl => ?_)
  refine lv_aload_n hx hb dL_law_221 rfl (lv_at hl 5 rfl) ?_
  refine kx_doV (kx_cv (As := []) (rest := []) hF hG hw hS hl.1 kC_9 rfl (c_X3_thrown l hfl D cy base ad n nc gC) gL_law_X3_thrown rfl rfl rfl hd_X3_thrown ⟨Nat.le_of_ble_eq_true rfl, Nat.le_of_ble_eq_true rfl⟩ rfl rfl (Nat.le_of_ble_eq_true rfl) dL_law_222 ⟨hc1, hc2⟩) hS (fun t0 g0 e_t e_0 H1 locs1 hw1 hS1 => ?_)
  subst e_0
  have hw := hw1
  have hS := hS1
  refine lv_iload hx hb dL_law_225 (lv_at hl 1 rfl) ?_
  refine lv_icmp_eq (tgt := 232) hx hb dL_law_227 (by decide) (fun _ => ?_) (fun h => absurd (e_t.trans (h90.trans hK.symm)) h)
  refine lv_iload hx hb dL_law_232 (lv_at hl 1 rfl) ?_
  refine lv_if_ne (tgt := 256) hx hb dL_law_234 (by decide) (fun h => ?_) (fun h => ?_)
  · refine lv_goto (tgt := 2388) hx hb dL_law_256 (by decide) ?_
    exact kk _ _ _ ad n nc _ (hrN (fun z => h (hK.trans z))) hw hS (lv_sub hl [2, 3, 4, 5, 6] rfl)
  · refine lv_aload_n hx hb dL_law_237 rfl (lv_at hl 6 rfl) ?_
    refine lv_iconst (v := 0) hx hb dL_law_238 (by decide) ?_
    refine kx_lald hx hb hG hw dL_law_239 ?_
    have h := hK.symm.trans h
    have hv : v = g0 40 0 := by rw [e_v, h40, if_pos h]; exact (zv_0 (hKm.trans h)).trans (hAm h)
    refine lv_iload hx hb dL_law_240 (lv_at hl 0 rfl) ?_
    refine kx_top e_v.symm ?_
    refine kx_nzB hx hb dL_law_242 dL_law_245 dL_law_246 dL_law_249 ?_
    refine kx_same (tgt := 256) hx hb (by rw [← e_v, hv]) dL_law_250 dL_law_251 (by decide) ?_
    refine lv_goto (tgt := 2388) hx hb dL_law_256 (by decide) ?_
    exact kk _ _ _ ad n nc _ (hr0 h) hw hS (lv_sub hl [2, 3, 4, 5, 6] rfl)
set_option maxHeartbeats 4000000 in
set_option maxRecDepth 100000 in
theorem arm_alike (l : Launch) (hfl : l.stackTraces = false) {p : Program} {e : Env} {s : State} {m : MethodId} {args : Array Value} {below : List Frame} {meth : Method} {c : Code} {Q : State → Prop} {D : va_G} {cy : Nat → ClassId} {base : Nat} (hF : CallFix p m c cL_law 7 s args wsL_law RL) (hG : kG D cy base s) {b L : Nat} {xs : Nat → Int32} (hX : va_X b L xs s s.heap) (hbl : b < s.heap.size) (hbA : ¬ kA base b) (hL : L ≤ 4096) (i : Nat) (hi : i + 8 ≤ L) {cells slots : Nat} (hc1 : cells + 12 ≤ 601024) (hc2 : slots + 100 ≤ 7293034) (kk : ∀ (H : Heap) (locs : List Loc) (ls : Array Slot) (ad : Nat → Nat) (n nc : Nat) (g : sg), kRl n nc g g → kW D cy base ad n nc g H → va_S (kA base) s.heap H locs → lv_has ls 7 [(4, .int (nI i)), (0, .ref b), (1, .ref (ad 0)), (2, .ref (ad 9)), (3, .ref (ad 40))] → W p l e room_1 s m args below meth c H locs (cells + 12) (slots + 100) Q (F0 m 2388 ls [])) {H : Heap} {locs : List Loc} {ls : Array Slot} {ad : Nat → Nat} {n nc : Nat} {g : sg} (hrel : kRl n nc g g) (hw : kW D cy base ad n nc g H) (hS : va_S (kA base) s.heap H locs) (hl : lv_has ls 7 [(4, .int (nI i)), (0, .ref b), (1, .ref (ad 0)), (2, .ref (ad 9)), (3, .ref (ad 40))]) : W p l e room_1 s m args below meth c H locs cells slots Q (F0 m 259 ls []) := by
  have hx := hF.1
  have hb := hF.2.1
  have hts := hF.2.2.2.2
  have hown := hF.2.2.2.1
  refine lv_aload_n hx hb dL_law_259 rfl (lv_at hl 2 rfl) ?_
  refine kx_arg hx hb hX hbl hbA hS (lv_at hl 1 rfl) (lv_at hl 0 rfl) 1 (by omega) hL (by decide) dL_law_260 dL_law_261 dL_law_263 dL_law_264 dL_law_265 ?_
  refine kx_arg hx hb hX hbl hbA hS (lv_at hl 1 rfl) (lv_at hl 0 rfl) 2 (by omega) hL (by decide) dL_law_266 dL_law_267 dL_law_269 dL_law_270 dL_law_271 ?_
  refine lv_aload_n hx hb dL_law_272 rfl (lv_at hl 4 rfl) ?_
  refine kx_callW (kx_csH (As := [.ref (ad 0), .int (xs (i + 1)), .int (xs (i + 2)), .ref (ad 40)]) (rest := []) hF hG hw hS hl.1 (c_L_alike l hfl D cy base ad n nc g (xs (i + 1)) (xs (i + 2)) ) gL_law_L_alike rfl rfl rfl hd_L_alike ⟨Nat.le_of_ble_eq_true rfl, Nat.le_of_ble_eq_true rfl⟩ rfl rfl (Nat.le_of_ble_eq_true rfl) dL_law_273 ⟨hc1, hc2⟩) hS (fun K u H locs hK hu hw hS => ?_)
  refine lv_istore (lv' := [(5, .int K), (4, .int (nI i)), (0, .ref b), (1, .ref (ad 0)), (2, .ref (ad 9)), (3, .ref (ad 40))]) hx hb dL_law_276 hl (by decide) rfl (fun ls hl => ?_)
  obtain rfl := hu
  obtain ⟨gB, hB, hw⟩ := ex_kW hw
  have hop := op_alike hrel (xs (i + 1)) (xs (i + 2)) hB
  obtain ⟨he, hKm, hAm, h90, h40, hr0, hrN⟩ := hop
  obtain ⟨hfn, hcn, hmR, hhm, hzm, hz0⟩ := hrel.mh he
  refine lv_aload_n hx hb dL_law_278 rfl (lv_at hl 4 rfl) ?_
  refine kx_arg hx hb hX hbl hbA hS (lv_at hl 2 rfl) (lv_at hl 1 rfl) 1 (by omega) hL (by decide) dL_law_279 dL_law_280 dL_law_282 dL_law_283 dL_law_284 ?_
  refine kx_arg hx hb hX hbl hbA hS (lv_at hl 2 rfl) (lv_at hl 1 rfl) 2 (by omega) hL (by decide) dL_law_285 dL_law_286 dL_law_288 dL_law_289 dL_law_290 ?_
  refine kx_doV (kx_cv (As := [.int (xs (i + 1)), .int (xs (i + 2))]) (rest := []) hF hG hw hS hl.1 kC_9 rfl (c_X3_alike l hfl D cy base ad n nc gB (xs (i + 1)) (xs (i + 2)) ) gL_law_X3_alike rfl rfl rfl hd_X3_alike ⟨Nat.le_of_ble_eq_true rfl, Nat.le_of_ble_eq_true rfl⟩ rfl rfl (Nat.le_of_ble_eq_true rfl) dL_law_291 ⟨hc1, hc2⟩) hS (fun v gC e_v e_g H locs hw hS => ?_)
  rw [← e_g] at h90 h40 hr0 hrN
  refine lv_istore (lv' := [(6, .int v), (5, .int K), (4, .int (nI i)), (0, .ref b), (1, .ref (ad 0)), (2, .ref (ad 9)), (3, .ref (ad 40))]) hx hb dL_law_294 hl (by decide) rfl (fun ls hl => ?_)
  refine lv_aload_n hx hb dL_law_296 rfl (lv_at hl 5 rfl) ?_
  refine kx_doV (kx_cv (As := []) (rest := []) hF hG hw hS hl.1 kC_9 rfl (c_X3_thrown l hfl D cy base ad n nc gC) gL_law_X3_thrown rfl rfl rfl hd_X3_thrown ⟨Nat.le_of_ble_eq_true rfl, Nat.le_of_ble_eq_true rfl⟩ rfl rfl (Nat.le_of_ble_eq_true rfl) dL_law_297 ⟨hc1, hc2⟩) hS (fun t0 g0 e_t e_0 H1 locs1 hw1 hS1 => ?_)
  subst e_0
  have hw := hw1
  have hS := hS1
  refine lv_iload hx hb dL_law_300 (lv_at hl 1 rfl) ?_
  refine lv_icmp_eq (tgt := 307) hx hb dL_law_302 (by decide) (fun _ => ?_) (fun h => absurd (e_t.trans (h90.trans hK.symm)) h)
  refine lv_iload hx hb dL_law_307 (lv_at hl 1 rfl) ?_
  refine lv_if_ne (tgt := 331) hx hb dL_law_309 (by decide) (fun h => ?_) (fun h => ?_)
  · refine lv_goto (tgt := 2388) hx hb dL_law_331 (by decide) ?_
    exact kk _ _ _ ad n nc _ (hrN (fun z => h (hK.trans z))) hw hS (lv_sub hl [2, 3, 4, 5, 6] rfl)
  · refine lv_aload_n hx hb dL_law_312 rfl (lv_at hl 6 rfl) ?_
    refine lv_iconst (v := 0) hx hb dL_law_313 (by decide) ?_
    refine kx_lald hx hb hG hw dL_law_314 ?_
    have h := hK.symm.trans h
    have hv : v = g0 40 0 := by rw [e_v, h40, if_pos h]; exact (zv_0 (hKm.trans h)).trans (hAm h)
    refine lv_iload hx hb dL_law_315 (lv_at hl 0 rfl) ?_
    refine kx_top e_v.symm ?_
    refine kx_nzB hx hb dL_law_317 dL_law_320 dL_law_321 dL_law_324 ?_
    refine kx_same (tgt := 331) hx hb (by rw [← e_v, hv]) dL_law_325 dL_law_326 (by decide) ?_
    refine lv_goto (tgt := 2388) hx hb dL_law_331 (by decide) ?_
    exact kk _ _ _ ad n nc _ (hr0 h) hw hS (lv_sub hl [2, 3, 4, 5, 6] rfl)
set_option maxHeartbeats 4000000 in
set_option maxRecDepth 100000 in
theorem arm_rule (l : Launch) (hfl : l.stackTraces = false) {p : Program} {e : Env} {s : State} {m : MethodId} {args : Array Value} {below : List Frame} {meth : Method} {c : Code} {Q : State → Prop} {D : va_G} {cy : Nat → ClassId} {base : Nat} (hF : CallFix p m c cL_law 7 s args wsL_law RL) (hG : kG D cy base s) {b L : Nat} {xs : Nat → Int32} (hX : va_X b L xs s s.heap) (hbl : b < s.heap.size) (hbA : ¬ kA base b) (hL : L ≤ 4096) (i : Nat) (hi : i + 8 ≤ L) {cells slots : Nat} (hc1 : cells + 12 ≤ 601024) (hc2 : slots + 100 ≤ 7293034) (kk : ∀ (H : Heap) (locs : List Loc) (ls : Array Slot) (ad : Nat → Nat) (n nc : Nat) (g : sg), kRl n nc g g → kW D cy base ad n nc g H → va_S (kA base) s.heap H locs → lv_has ls 7 [(4, .int (nI i)), (0, .ref b), (1, .ref (ad 0)), (2, .ref (ad 9)), (3, .ref (ad 40))] → W p l e room_1 s m args below meth c H locs (cells + 12) (slots + 100) Q (F0 m 2388 ls [])) {H : Heap} {locs : List Loc} {ls : Array Slot} {ad : Nat → Nat} {n nc : Nat} {g : sg} (hrel : kRl n nc g g) (hw : kW D cy base ad n nc g H) (hS : va_S (kA base) s.heap H locs) (hl : lv_has ls 7 [(4, .int (nI i)), (0, .ref b), (1, .ref (ad 0)), (2, .ref (ad 9)), (3, .ref (ad 40))]) : W p l e room_1 s m args below meth c H locs cells slots Q (F0 m 334 ls []) := by
  have hx := hF.1
  have hb := hF.2.1
  have hts := hF.2.2.2.2
  have hown := hF.2.2.2.1
  refine lv_aload_n hx hb dL_law_334 rfl (lv_at hl 2 rfl) ?_
  refine kx_arg hx hb hX hbl hbA hS (lv_at hl 1 rfl) (lv_at hl 0 rfl) 1 (by omega) hL (by decide) dL_law_335 dL_law_336 dL_law_338 dL_law_339 dL_law_340 ?_
  refine kx_arg hx hb hX hbl hbA hS (lv_at hl 1 rfl) (lv_at hl 0 rfl) 2 (by omega) hL (by decide) dL_law_341 dL_law_342 dL_law_344 dL_law_345 dL_law_346 ?_
  refine kx_arg hx hb hX hbl hbA hS (lv_at hl 1 rfl) (lv_at hl 0 rfl) 3 (by omega) hL (by decide) dL_law_347 dL_law_348 dL_law_350 dL_law_351 dL_law_352 ?_
  refine lv_aload_n hx hb dL_law_353 rfl (lv_at hl 4 rfl) ?_
  refine kx_callW (kx_csH (As := [.ref (ad 0), .int (xs (i + 1)), .int (xs (i + 2)), .int (xs (i + 3)), .ref (ad 40)]) (rest := []) hF hG hw hS hl.1 (c_L_rule l hfl D cy base ad n nc g (xs (i + 1)) (xs (i + 2)) (xs (i + 3)) ) gL_law_L_rule rfl rfl rfl hd_L_rule ⟨Nat.le_of_ble_eq_true rfl, Nat.le_of_ble_eq_true rfl⟩ rfl rfl (Nat.le_of_ble_eq_true rfl) dL_law_354 ⟨hc1, hc2⟩) hS (fun K u H locs hK hu hw hS => ?_)
  refine lv_istore (lv' := [(5, .int K), (4, .int (nI i)), (0, .ref b), (1, .ref (ad 0)), (2, .ref (ad 9)), (3, .ref (ad 40))]) hx hb dL_law_357 hl (by decide) rfl (fun ls hl => ?_)
  obtain rfl := hu
  obtain ⟨gB, hB, hw⟩ := ex_kW hw
  have hop := op_rule hrel (xs (i + 1)) (xs (i + 2)) (xs (i + 3)) hB
  obtain ⟨he, hKm, hAm, h90, h40, hr0, hrN⟩ := hop
  obtain ⟨hfn, hcn, hmR, hhm, hzm, hz0⟩ := hrel.mh he
  refine lv_aload_n hx hb dL_law_359 rfl (lv_at hl 4 rfl) ?_
  refine kx_arg hx hb hX hbl hbA hS (lv_at hl 2 rfl) (lv_at hl 1 rfl) 1 (by omega) hL (by decide) dL_law_360 dL_law_361 dL_law_363 dL_law_364 dL_law_365 ?_
  refine kx_arg hx hb hX hbl hbA hS (lv_at hl 2 rfl) (lv_at hl 1 rfl) 2 (by omega) hL (by decide) dL_law_366 dL_law_367 dL_law_369 dL_law_370 dL_law_371 ?_
  refine kx_arg hx hb hX hbl hbA hS (lv_at hl 2 rfl) (lv_at hl 1 rfl) 3 (by omega) hL (by decide) dL_law_372 dL_law_373 dL_law_375 dL_law_376 dL_law_377 ?_
  refine kx_doV (kx_cv (As := [.int (xs (i + 1)), .int (xs (i + 2)), .int (xs (i + 3))]) (rest := []) hF hG hw hS hl.1 kC_9 rfl (c_X3_rule l hfl D cy base ad n nc gB (xs (i + 1)) (xs (i + 2)) (xs (i + 3)) ) gL_law_X3_rule rfl rfl rfl hd_X3_rule ⟨Nat.le_of_ble_eq_true rfl, Nat.le_of_ble_eq_true rfl⟩ rfl rfl (Nat.le_of_ble_eq_true rfl) dL_law_378 ⟨hc1, hc2⟩) hS (fun v gC e_v e_g H locs hw hS => ?_)
  rw [← e_g] at h90 h40 hr0 hrN
  refine lv_istore (lv' := [(6, .int v), (5, .int K), (4, .int (nI i)), (0, .ref b), (1, .ref (ad 0)), (2, .ref (ad 9)), (3, .ref (ad 40))]) hx hb dL_law_381 hl (by decide) rfl (fun ls hl => ?_)
  refine lv_aload_n hx hb dL_law_383 rfl (lv_at hl 5 rfl) ?_
  refine kx_doV (kx_cv (As := []) (rest := []) hF hG hw hS hl.1 kC_9 rfl (c_X3_thrown l hfl D cy base ad n nc gC) gL_law_X3_thrown rfl rfl rfl hd_X3_thrown ⟨Nat.le_of_ble_eq_true rfl, Nat.le_of_ble_eq_true rfl⟩ rfl rfl (Nat.le_of_ble_eq_true rfl) dL_law_384 ⟨hc1, hc2⟩) hS (fun t0 g0 e_t e_0 H1 locs1 hw1 hS1 => ?_)
  subst e_0
  have hw := hw1
  have hS := hS1
  refine lv_iload hx hb dL_law_387 (lv_at hl 1 rfl) ?_
  refine lv_icmp_eq (tgt := 394) hx hb dL_law_389 (by decide) (fun _ => ?_) (fun h => absurd (e_t.trans (h90.trans hK.symm)) h)
  refine lv_iload hx hb dL_law_394 (lv_at hl 1 rfl) ?_
  refine lv_if_ne (tgt := 411) hx hb dL_law_396 (by decide) (fun h => ?_) (fun h => ?_)
  · refine lv_goto (tgt := 2388) hx hb dL_law_411 (by decide) ?_
    exact kk _ _ _ ad n nc _ (hrN (fun z => h (hK.trans z))) hw hS (lv_sub hl [2, 3, 4, 5, 6] rfl)
  · refine lv_aload_n hx hb dL_law_399 rfl (lv_at hl 6 rfl) ?_
    refine lv_iconst (v := 0) hx hb dL_law_400 (by decide) ?_
    refine kx_lald hx hb hG hw dL_law_401 ?_
    have h := hK.symm.trans h
    have hv : v = g0 40 0 := by rw [e_v, h40, if_pos h]; exact (rv_0 (hKm.trans h)).trans (hAm h)
    refine lv_iload hx hb dL_law_402 (lv_at hl 0 rfl) ?_
    refine lv_i2l (v := v.toInt64) hx hb dL_law_404 rfl ?_
    refine kx_same (tgt := 411) hx hb (by rw [hv]) dL_law_405 dL_law_406 (by decide) ?_
    refine lv_goto (tgt := 2388) hx hb dL_law_411 (by decide) ?_
    exact kk _ _ _ ad n nc _ (hr0 h) hw hS (lv_sub hl [2, 3, 4, 5, 6] rfl)
set_option maxHeartbeats 4000000 in
set_option maxRecDepth 100000 in
theorem arm_stop (l : Launch) (hfl : l.stackTraces = false) {p : Program} {e : Env} {s : State} {m : MethodId} {args : Array Value} {below : List Frame} {meth : Method} {c : Code} {Q : State → Prop} {D : va_G} {cy : Nat → ClassId} {base : Nat} (hF : CallFix p m c cL_law 7 s args wsL_law RL) (hG : kG D cy base s) {b L : Nat} {xs : Nat → Int32} (hX : va_X b L xs s s.heap) (hbl : b < s.heap.size) (hbA : ¬ kA base b) (hL : L ≤ 4096) (i : Nat) (hi : i + 8 ≤ L) {cells slots : Nat} (hc1 : cells + 12 ≤ 601024) (hc2 : slots + 100 ≤ 7293034) (kk : ∀ (H : Heap) (locs : List Loc) (ls : Array Slot) (ad : Nat → Nat) (n nc : Nat) (g : sg), kRl n nc g g → kW D cy base ad n nc g H → va_S (kA base) s.heap H locs → lv_has ls 7 [(4, .int (nI i)), (0, .ref b), (1, .ref (ad 0)), (2, .ref (ad 9)), (3, .ref (ad 40))] → W p l e room_1 s m args below meth c H locs (cells + 12) (slots + 100) Q (F0 m 2388 ls [])) {H : Heap} {locs : List Loc} {ls : Array Slot} {ad : Nat → Nat} {n nc : Nat} {g : sg} (hrel : kRl n nc g g) (hw : kW D cy base ad n nc g H) (hS : va_S (kA base) s.heap H locs) (hl : lv_has ls 7 [(4, .int (nI i)), (0, .ref b), (1, .ref (ad 0)), (2, .ref (ad 9)), (3, .ref (ad 40))]) : W p l e room_1 s m args below meth c H locs cells slots Q (F0 m 414 ls []) := by
  have hx := hF.1
  have hb := hF.2.1
  have hts := hF.2.2.2.2
  have hown := hF.2.2.2.1
  refine lv_aload_n hx hb dL_law_414 rfl (lv_at hl 2 rfl) ?_
  refine kx_arg hx hb hX hbl hbA hS (lv_at hl 1 rfl) (lv_at hl 0 rfl) 1 (by omega) hL (by decide) dL_law_415 dL_law_416 dL_law_418 dL_law_419 dL_law_420 ?_
  refine kx_arg hx hb hX hbl hbA hS (lv_at hl 1 rfl) (lv_at hl 0 rfl) 2 (by omega) hL (by decide) dL_law_421 dL_law_422 dL_law_424 dL_law_425 dL_law_426 ?_
  refine lv_aload_n hx hb dL_law_427 rfl (lv_at hl 4 rfl) ?_
  refine kx_callW (kx_csH (As := [.ref (ad 0), .int (xs (i + 1)), .int (xs (i + 2)), .ref (ad 40)]) (rest := []) hF hG hw hS hl.1 (c_L_stop l hfl D cy base ad n nc g (xs (i + 1)) (xs (i + 2)) (fun t ht => by rw [hrel.2.1.2.2.1]; exact hrel.2.2.1.2.2.2 t ht)) gL_law_L_stop rfl rfl rfl hd_L_stop ⟨Nat.le_of_ble_eq_true rfl, Nat.le_of_ble_eq_true rfl⟩ rfl rfl (Nat.le_of_ble_eq_true rfl) dL_law_428 ⟨hc1, hc2⟩) hS (fun K u H locs hK hu hw hS => ?_)
  refine lv_istore (lv' := [(5, .int K), (4, .int (nI i)), (0, .ref b), (1, .ref (ad 0)), (2, .ref (ad 9)), (3, .ref (ad 40))]) hx hb dL_law_431 hl (by decide) rfl (fun ls hl => ?_)
  obtain rfl := hu
  obtain ⟨gB, hB, hw⟩ := ex_kW hw
  have hop := op_stop hrel (xs (i + 1)) (xs (i + 2)) hB
  obtain ⟨he, hKm, hAm, h90, h40, hr0, hrN⟩ := hop
  obtain ⟨hfn, hcn, hmR, hhm, hzm, hz0⟩ := hrel.mh he
  refine lv_aload_n hx hb dL_law_433 rfl (lv_at hl 4 rfl) ?_
  refine kx_arg hx hb hX hbl hbA hS (lv_at hl 2 rfl) (lv_at hl 1 rfl) 1 (by omega) hL (by decide) dL_law_434 dL_law_435 dL_law_437 dL_law_438 dL_law_439 ?_
  refine kx_arg hx hb hX hbl hbA hS (lv_at hl 2 rfl) (lv_at hl 1 rfl) 2 (by omega) hL (by decide) dL_law_440 dL_law_441 dL_law_443 dL_law_444 dL_law_445 ?_
  refine kx_doV (kx_cv (As := [.int (xs (i + 1)), .int (xs (i + 2))]) (rest := []) hF hG hw hS hl.1 kC_9 rfl (c_X3_stop l hfl D cy base ad n nc gB (xs (i + 1)) (xs (i + 2)) ) gL_law_X3_stop rfl rfl rfl hd_X3_stop ⟨Nat.le_of_ble_eq_true rfl, Nat.le_of_ble_eq_true rfl⟩ rfl rfl (Nat.le_of_ble_eq_true rfl) dL_law_446 ⟨hc1, hc2⟩) hS (fun v gC e_v e_g H locs hw hS => ?_)
  rw [← e_g] at h90 h40 hr0 hrN
  refine lv_istore (lv' := [(6, .int v), (5, .int K), (4, .int (nI i)), (0, .ref b), (1, .ref (ad 0)), (2, .ref (ad 9)), (3, .ref (ad 40))]) hx hb dL_law_449 hl (by decide) rfl (fun ls hl => ?_)
  refine lv_aload_n hx hb dL_law_451 rfl (lv_at hl 5 rfl) ?_
  refine kx_doV (kx_cv (As := []) (rest := []) hF hG hw hS hl.1 kC_9 rfl (c_X3_thrown l hfl D cy base ad n nc gC) gL_law_X3_thrown rfl rfl rfl hd_X3_thrown ⟨Nat.le_of_ble_eq_true rfl, Nat.le_of_ble_eq_true rfl⟩ rfl rfl (Nat.le_of_ble_eq_true rfl) dL_law_452 ⟨hc1, hc2⟩) hS (fun t0 g0 e_t e_0 H1 locs1 hw1 hS1 => ?_)
  subst e_0
  have hw := hw1
  have hS := hS1
  refine lv_iload hx hb dL_law_455 (lv_at hl 1 rfl) ?_
  refine lv_icmp_eq (tgt := 462) hx hb dL_law_457 (by decide) (fun _ => ?_) (fun h => absurd (e_t.trans (h90.trans hK.symm)) h)
  refine lv_iload hx hb dL_law_462 (lv_at hl 1 rfl) ?_
  refine lv_if_ne (tgt := 479) hx hb dL_law_464 (by decide) (fun h => ?_) (fun h => ?_)
  · refine lv_goto (tgt := 2388) hx hb dL_law_479 (by decide) ?_
    exact kk _ _ _ ad n nc _ (hrN (fun z => h (hK.trans z))) hw hS (lv_sub hl [2, 3, 4, 5, 6] rfl)
  · refine lv_aload_n hx hb dL_law_467 rfl (lv_at hl 6 rfl) ?_
    refine lv_iconst (v := 0) hx hb dL_law_468 (by decide) ?_
    refine kx_lald hx hb hG hw dL_law_469 ?_
    have h := hK.symm.trans h
    have hv : v = g0 40 0 := by rw [e_v, h40, if_pos h]; exact (rv_0 (hKm.trans h)).trans (hAm h)
    refine lv_iload hx hb dL_law_470 (lv_at hl 0 rfl) ?_
    refine lv_i2l (v := v.toInt64) hx hb dL_law_472 rfl ?_
    refine kx_same (tgt := 479) hx hb (by rw [hv]) dL_law_473 dL_law_474 (by decide) ?_
    refine lv_goto (tgt := 2388) hx hb dL_law_479 (by decide) ?_
    exact kk _ _ _ ad n nc _ (hr0 h) hw hS (lv_sub hl [2, 3, 4, 5, 6] rfl)
set_option maxHeartbeats 4000000 in
set_option maxRecDepth 100000 in
theorem arm_threshold (l : Launch) (hfl : l.stackTraces = false) {p : Program} {e : Env} {s : State} {m : MethodId} {args : Array Value} {below : List Frame} {meth : Method} {c : Code} {Q : State → Prop} {D : va_G} {cy : Nat → ClassId} {base : Nat} (hF : CallFix p m c cL_law 7 s args wsL_law RL) (hG : kG D cy base s) {b L : Nat} {xs : Nat → Int32} (hX : va_X b L xs s s.heap) (hbl : b < s.heap.size) (hbA : ¬ kA base b) (hL : L ≤ 4096) (i : Nat) (hi : i + 8 ≤ L) {cells slots : Nat} (hc1 : cells + 12 ≤ 601024) (hc2 : slots + 100 ≤ 7293034) (kk : ∀ (H : Heap) (locs : List Loc) (ls : Array Slot) (ad : Nat → Nat) (n nc : Nat) (g : sg), kRl n nc g g → kW D cy base ad n nc g H → va_S (kA base) s.heap H locs → lv_has ls 7 [(4, .int (nI i)), (0, .ref b), (1, .ref (ad 0)), (2, .ref (ad 9)), (3, .ref (ad 40))] → W p l e room_1 s m args below meth c H locs (cells + 12) (slots + 100) Q (F0 m 2388 ls [])) {H : Heap} {locs : List Loc} {ls : Array Slot} {ad : Nat → Nat} {n nc : Nat} {g : sg} (hrel : kRl n nc g g) (hw : kW D cy base ad n nc g H) (hS : va_S (kA base) s.heap H locs) (hl : lv_has ls 7 [(4, .int (nI i)), (0, .ref b), (1, .ref (ad 0)), (2, .ref (ad 9)), (3, .ref (ad 40))]) : W p l e room_1 s m args below meth c H locs cells slots Q (F0 m 482 ls []) := by
  have hx := hF.1
  have hb := hF.2.1
  have hts := hF.2.2.2.2
  have hown := hF.2.2.2.1
  refine lv_aload_n hx hb dL_law_482 rfl (lv_at hl 2 rfl) ?_
  refine kx_arg hx hb hX hbl hbA hS (lv_at hl 1 rfl) (lv_at hl 0 rfl) 1 (by omega) hL (by decide) dL_law_483 dL_law_484 dL_law_486 dL_law_487 dL_law_488 ?_
  refine lv_aload_n hx hb dL_law_489 rfl (lv_at hl 4 rfl) ?_
  refine kx_callW (kx_csH (As := [.ref (ad 0), .int (xs (i + 1)), .ref (ad 40)]) (rest := []) hF hG hw hS hl.1 (c_L_threshold l hfl D cy base ad n nc g (xs (i + 1)) ) gL_law_L_threshold rfl rfl rfl hd_L_threshold ⟨Nat.le_of_ble_eq_true rfl, Nat.le_of_ble_eq_true rfl⟩ rfl rfl (Nat.le_of_ble_eq_true rfl) dL_law_490 ⟨hc1, hc2⟩) hS (fun K u H locs hK hu hw hS => ?_)
  refine lv_istore (lv' := [(5, .int K), (4, .int (nI i)), (0, .ref b), (1, .ref (ad 0)), (2, .ref (ad 9)), (3, .ref (ad 40))]) hx hb dL_law_493 hl (by decide) rfl (fun ls hl => ?_)
  obtain rfl := hu
  obtain ⟨gB, hB, hw⟩ := ex_kW hw
  have hop := op_threshold hrel (xs (i + 1)) hB
  obtain ⟨he, hKm, hAm, h90, h40, hr0, hrN⟩ := hop
  obtain ⟨hfn, hcn, hmR, hhm, hzm, hz0⟩ := hrel.mh he
  refine lv_aload_n hx hb dL_law_495 rfl (lv_at hl 4 rfl) ?_
  refine kx_arg hx hb hX hbl hbA hS (lv_at hl 2 rfl) (lv_at hl 1 rfl) 1 (by omega) hL (by decide) dL_law_496 dL_law_497 dL_law_499 dL_law_500 dL_law_501 ?_
  refine kx_doV (kx_cv (As := [.int (xs (i + 1))]) (rest := []) hF hG hw hS hl.1 kC_9 rfl (c_X3_threshold l hfl D cy base ad n nc gB (xs (i + 1)) ) gL_law_X3_threshold rfl rfl rfl hd_X3_threshold ⟨Nat.le_of_ble_eq_true rfl, Nat.le_of_ble_eq_true rfl⟩ rfl rfl (Nat.le_of_ble_eq_true rfl) dL_law_502 ⟨hc1, hc2⟩) hS (fun v gC e_v e_g H locs hw hS => ?_)
  rw [← e_g] at h90 h40 hr0 hrN
  refine lv_istore (lv' := [(6, .int v), (5, .int K), (4, .int (nI i)), (0, .ref b), (1, .ref (ad 0)), (2, .ref (ad 9)), (3, .ref (ad 40))]) hx hb dL_law_505 hl (by decide) rfl (fun ls hl => ?_)
  refine lv_aload_n hx hb dL_law_507 rfl (lv_at hl 5 rfl) ?_
  refine kx_doV (kx_cv (As := []) (rest := []) hF hG hw hS hl.1 kC_9 rfl (c_X3_thrown l hfl D cy base ad n nc gC) gL_law_X3_thrown rfl rfl rfl hd_X3_thrown ⟨Nat.le_of_ble_eq_true rfl, Nat.le_of_ble_eq_true rfl⟩ rfl rfl (Nat.le_of_ble_eq_true rfl) dL_law_508 ⟨hc1, hc2⟩) hS (fun t0 g0 e_t e_0 H1 locs1 hw1 hS1 => ?_)
  subst e_0
  have hw := hw1
  have hS := hS1
  refine lv_iload hx hb dL_law_511 (lv_at hl 1 rfl) ?_
  refine lv_icmp_eq (tgt := 518) hx hb dL_law_513 (by decide) (fun _ => ?_) (fun h => absurd (e_t.trans (h90.trans hK.symm)) h)
  refine lv_iload hx hb dL_law_518 (lv_at hl 1 rfl) ?_
  refine lv_if_ne (tgt := 535) hx hb dL_law_520 (by decide) (fun h => ?_) (fun h => ?_)
  · refine lv_goto (tgt := 2388) hx hb dL_law_535 (by decide) ?_
    exact kk _ _ _ ad n nc _ (hrN (fun z => h (hK.trans z))) hw hS (lv_sub hl [2, 3, 4, 5, 6] rfl)
  · refine lv_aload_n hx hb dL_law_523 rfl (lv_at hl 6 rfl) ?_
    refine lv_iconst (v := 0) hx hb dL_law_524 (by decide) ?_
    refine kx_lald hx hb hG hw dL_law_525 ?_
    have h := hK.symm.trans h
    have hv : v = g0 40 0 := by rw [e_v, h40, if_pos h]; exact (rv_0 (hKm.trans h)).trans (hAm h)
    refine lv_iload hx hb dL_law_526 (lv_at hl 0 rfl) ?_
    refine lv_i2l (v := v.toInt64) hx hb dL_law_528 rfl ?_
    refine kx_same (tgt := 535) hx hb (by rw [hv]) dL_law_529 dL_law_530 (by decide) ?_
    refine lv_goto (tgt := 2388) hx hb dL_law_535 (by decide) ?_
    exact kk _ _ _ ad n nc _ (hr0 h) hw hS (lv_sub hl [2, 3, 4, 5, 6] rfl)
set_option maxHeartbeats 4000000 in
set_option maxRecDepth 100000 in
theorem arm_find (l : Launch) (hfl : l.stackTraces = false) {p : Program} {e : Env} {s : State} {m : MethodId} {args : Array Value} {below : List Frame} {meth : Method} {c : Code} {Q : State → Prop} {D : va_G} {cy : Nat → ClassId} {base : Nat} (hF : CallFix p m c cL_law 7 s args wsL_law RL) (hG : kG D cy base s) {b L : Nat} {xs : Nat → Int32} (hX : va_X b L xs s s.heap) (hbl : b < s.heap.size) (hbA : ¬ kA base b) (hL : L ≤ 4096) (i : Nat) (hi : i + 8 ≤ L) {cells slots : Nat} (hc1 : cells + 12 ≤ 601024) (hc2 : slots + 100 ≤ 7293034) (kk : ∀ (H : Heap) (locs : List Loc) (ls : Array Slot) (ad : Nat → Nat) (n nc : Nat) (g : sg), kRl n nc g g → kW D cy base ad n nc g H → va_S (kA base) s.heap H locs → lv_has ls 7 [(4, .int (nI i)), (0, .ref b), (1, .ref (ad 0)), (2, .ref (ad 9)), (3, .ref (ad 40))] → W p l e room_1 s m args below meth c H locs (cells + 12) (slots + 100) Q (F0 m 2388 ls [])) {H : Heap} {locs : List Loc} {ls : Array Slot} {ad : Nat → Nat} {n nc : Nat} {g : sg} (hrel : kRl n nc g g) (hw : kW D cy base ad n nc g H) (hS : va_S (kA base) s.heap H locs) (hl : lv_has ls 7 [(4, .int (nI i)), (0, .ref b), (1, .ref (ad 0)), (2, .ref (ad 9)), (3, .ref (ad 40))]) : W p l e room_1 s m args below meth c H locs cells slots Q (F0 m 538 ls []) := by
  have hx := hF.1
  have hb := hF.2.1
  have hts := hF.2.2.2.2
  have hown := hF.2.2.2.1
  refine lv_aload_n hx hb dL_law_538 rfl (lv_at hl 2 rfl) ?_
  refine kx_arg hx hb hX hbl hbA hS (lv_at hl 1 rfl) (lv_at hl 0 rfl) 1 (by omega) hL (by decide) dL_law_539 dL_law_540 dL_law_542 dL_law_543 dL_law_544 ?_
  refine kx_arg hx hb hX hbl hbA hS (lv_at hl 1 rfl) (lv_at hl 0 rfl) 2 (by omega) hL (by decide) dL_law_545 dL_law_546 dL_law_548 dL_law_549 dL_law_550 ?_
  refine kx_arg hx hb hX hbl hbA hS (lv_at hl 1 rfl) (lv_at hl 0 rfl) 3 (by omega) hL (by decide) dL_law_551 dL_law_552 dL_law_554 dL_law_555 dL_law_556 ?_
  refine kx_arg hx hb hX hbl hbA hS (lv_at hl 1 rfl) (lv_at hl 0 rfl) 4 (by omega) hL (by decide) dL_law_557 dL_law_558 dL_law_560 dL_law_561 dL_law_562 ?_
  refine kx_arg hx hb hX hbl hbA hS (lv_at hl 1 rfl) (lv_at hl 0 rfl) 5 (by omega) hL (by decide) dL_law_563 dL_law_564 dL_law_566 dL_law_567 dL_law_568 ?_
  refine kx_argB hx hb hX hbl hbA hS (lv_at hl 1 rfl) (lv_at hl 0 rfl) 6 (by omega) hL (by decide) dL_law_569 dL_law_570 dL_law_572 dL_law_574 dL_law_575 ?_
  refine kx_argB hx hb hX hbl hbA hS (lv_at hl 1 rfl) (lv_at hl 0 rfl) 7 (by omega) hL (by decide) dL_law_576 dL_law_577 dL_law_579 dL_law_581 dL_law_582 ?_
  refine lv_aload_n hx hb dL_law_583 rfl (lv_at hl 4 rfl) ?_
  refine kx_callW (kx_csH (As := [.ref (ad 0), .int (xs (i + 1)), .int (xs (i + 2)), .int (xs (i + 3)), .int (xs (i + 4)), .int (xs (i + 5)), .int (xs (i + 6)), .int (xs (i + 7)), .ref (ad 40)]) (rest := []) hF hG hw hS hl.1 (c_L_find l hfl D cy base ad n nc g (xs (i + 1)) (xs (i + 2)) (xs (i + 3)) (xs (i + 4)) (xs (i + 5)) (xs (i + 6)) (xs (i + 7)) hrel.1.2.2.2.2.2.2.1 hrel.1.2.2.1) gL_law_L_find rfl rfl rfl hd_L_find ⟨Nat.le_of_ble_eq_true rfl, Nat.le_of_ble_eq_true rfl⟩ rfl rfl (Nat.le_of_ble_eq_true rfl) dL_law_584 ⟨hc1, hc2⟩) hS (fun K u H locs hK hu hw hS => ?_)
  refine lv_istore (lv' := [(5, .int K), (4, .int (nI i)), (0, .ref b), (1, .ref (ad 0)), (2, .ref (ad 9)), (3, .ref (ad 40))]) hx hb dL_law_587 hl (by decide) rfl (fun ls hl => ?_)
  rcases hu with ⟨hk1, ad2, hlo, rfl⟩ | ⟨hk1, rfl⟩
  · have hk0 : K = 0 := hK.trans hk1
    obtain ⟨gB, hB, hw⟩ := ex_kW hw
    have hop := op_find hrel (xs (i + 1)) (xs (i + 2)) (xs (i + 3)) (xs (i + 4)) (xs (i + 5)) (xs (i + 6)) (xs (i + 7)) (hB.trans (if_pos hk1).symm)
    rw [← hlo 0 (by decide), ← hlo 9 (by decide), ← hlo 40 (by decide)] at hl
    obtain ⟨he, hKm, hAm, h90, h40, hr0, hrN⟩ := hop
    obtain ⟨hfn, hcn, hmR, hhm, hzm, hz0⟩ := hrel.mh he
    refine lv_aload_n hx hb dL_law_589 rfl (lv_at hl 4 rfl) ?_
    refine kx_arg hx hb hX hbl hbA hS (lv_at hl 2 rfl) (lv_at hl 1 rfl) 1 (by omega) hL (by decide) dL_law_590 dL_law_591 dL_law_593 dL_law_594 dL_law_595 ?_
    refine kx_arg hx hb hX hbl hbA hS (lv_at hl 2 rfl) (lv_at hl 1 rfl) 2 (by omega) hL (by decide) dL_law_596 dL_law_597 dL_law_599 dL_law_600 dL_law_601 ?_
    refine kx_arg hx hb hX hbl hbA hS (lv_at hl 2 rfl) (lv_at hl 1 rfl) 3 (by omega) hL (by decide) dL_law_602 dL_law_603 dL_law_605 dL_law_606 dL_law_607 ?_
    refine kx_arg hx hb hX hbl hbA hS (lv_at hl 2 rfl) (lv_at hl 1 rfl) 4 (by omega) hL (by decide) dL_law_608 dL_law_609 dL_law_611 dL_law_612 dL_law_613 ?_
    refine kx_arg hx hb hX hbl hbA hS (lv_at hl 2 rfl) (lv_at hl 1 rfl) 5 (by omega) hL (by decide) dL_law_614 dL_law_615 dL_law_617 dL_law_618 dL_law_619 ?_
    refine kx_argB hx hb hX hbl hbA hS (lv_at hl 2 rfl) (lv_at hl 1 rfl) 6 (by omega) hL (by decide) dL_law_620 dL_law_621 dL_law_623 dL_law_625 dL_law_626 ?_
    refine kx_argB hx hb hX hbl hbA hS (lv_at hl 2 rfl) (lv_at hl 1 rfl) 7 (by omega) hL (by decide) dL_law_627 dL_law_628 dL_law_630 dL_law_632 dL_law_633 ?_
    refine kx_doV (kx_cv (As := [.int (xs (i + 1)), .int (xs (i + 2)), .int (xs (i + 3)), .int (xs (i + 4)), .int (xs (i + 5)), .int (xs (i + 6)), .int (xs (i + 7))]) (rest := []) hF hG hw hS hl.1 kC_9 rfl (c_X3_find2 l hfl D cy base ad2 (n + 1) nc gB (xs (i + 1)) (xs (i + 2)) (xs (i + 3)) (xs (i + 4)) (xs (i + 5)) (xs (i + 6)) (xs (i + 7)) n hfn hrel.n30 hz0) gL_law_X3_find rfl rfl rfl hd_X3_find ⟨Nat.le_of_ble_eq_true rfl, Nat.le_of_ble_eq_true rfl⟩ rfl rfl (Nat.le_of_ble_eq_true rfl) dL_law_634 ⟨hc1, hc2⟩) hS (fun v gC e_v e_g H locs hw hS => ?_)
    rw [← e_g] at h90 h40 hr0 hrN
    refine lv_istore (lv' := [(6, .int v), (5, .int K), (4, .int (nI i)), (0, .ref b), (1, .ref (ad2 0)), (2, .ref (ad2 9)), (3, .ref (ad2 40))]) hx hb dL_law_637 hl (by decide) rfl (fun ls hl => ?_)
    refine lv_aload_n hx hb dL_law_639 rfl (lv_at hl 5 rfl) ?_
    refine kx_doV (kx_cv (As := []) (rest := []) hF hG hw hS hl.1 kC_9 rfl (c_X3_thrown l hfl D cy base ad2 (n + 1) nc gC) gL_law_X3_thrown rfl rfl rfl hd_X3_thrown ⟨Nat.le_of_ble_eq_true rfl, Nat.le_of_ble_eq_true rfl⟩ rfl rfl (Nat.le_of_ble_eq_true rfl) dL_law_640 ⟨hc1, hc2⟩) hS (fun t0 g0 e_t e_0 H1 locs1 hw1 hS1 => ?_)
    subst e_0
    have hw := hw1
    have hS := hS1
    refine lv_iload hx hb dL_law_643 (lv_at hl 1 rfl) ?_
    refine lv_icmp_eq (tgt := 650) hx hb dL_law_645 (by decide) (fun _ => ?_) (fun h => absurd (e_t.trans (h90.trans hK.symm)) h)
    refine lv_iload hx hb dL_law_650 (lv_at hl 1 rfl) ?_
    refine lv_if_ne (tgt := 667) hx hb dL_law_652 (by decide) (fun h => ?_) (fun h => ?_)
    · exact absurd hk0 h
    · refine lv_aload_n hx hb dL_law_655 rfl (lv_at hl 6 rfl) ?_
      refine lv_iconst (v := 0) hx hb dL_law_656 (by decide) ?_
      refine kx_lald hx hb hG hw dL_law_657 ?_
      have h := hK.symm.trans h
      have hv : v = g0 40 0 := by rw [e_v, h40, if_pos h]; exact (rv_0 (hKm.trans h)).trans (hAm h)
      refine lv_iload hx hb dL_law_658 (lv_at hl 0 rfl) ?_
      refine lv_i2l (v := v.toInt64) hx hb dL_law_660 rfl ?_
      refine kx_same (tgt := 667) hx hb (by rw [hv]) dL_law_661 dL_law_662 (by decide) ?_
      refine lv_goto (tgt := 2388) hx hb dL_law_667 (by decide) ?_
      exact kk _ _ _ ad2 (n + 1) nc _ (hr0 h) hw hS (lv_sub hl [2, 3, 4, 5, 6] rfl)
  · have hk0 : ¬ K = 0 := fun z => hk1 (hK.symm.trans z)
    obtain ⟨gB, hB, hw⟩ := ex_kW hw
    have hop := op_find hrel (xs (i + 1)) (xs (i + 2)) (xs (i + 3)) (xs (i + 4)) (xs (i + 5)) (xs (i + 6)) (xs (i + 7)) (hB.trans (if_neg hk1).symm)
    obtain ⟨he, hKm, hAm, h90, h40, hr0, hrN⟩ := hop
    obtain ⟨hfn, hcn, hmR, hhm, hzm, hz0⟩ := hrel.mh he
    refine lv_aload_n hx hb dL_law_589 rfl (lv_at hl 4 rfl) ?_
    refine kx_arg hx hb hX hbl hbA hS (lv_at hl 2 rfl) (lv_at hl 1 rfl) 1 (by omega) hL (by decide) dL_law_590 dL_law_591 dL_law_593 dL_law_594 dL_law_595 ?_
    refine kx_arg hx hb hX hbl hbA hS (lv_at hl 2 rfl) (lv_at hl 1 rfl) 2 (by omega) hL (by decide) dL_law_596 dL_law_597 dL_law_599 dL_law_600 dL_law_601 ?_
    refine kx_arg hx hb hX hbl hbA hS (lv_at hl 2 rfl) (lv_at hl 1 rfl) 3 (by omega) hL (by decide) dL_law_602 dL_law_603 dL_law_605 dL_law_606 dL_law_607 ?_
    refine kx_arg hx hb hX hbl hbA hS (lv_at hl 2 rfl) (lv_at hl 1 rfl) 4 (by omega) hL (by decide) dL_law_608 dL_law_609 dL_law_611 dL_law_612 dL_law_613 ?_
    refine kx_arg hx hb hX hbl hbA hS (lv_at hl 2 rfl) (lv_at hl 1 rfl) 5 (by omega) hL (by decide) dL_law_614 dL_law_615 dL_law_617 dL_law_618 dL_law_619 ?_
    refine kx_argB hx hb hX hbl hbA hS (lv_at hl 2 rfl) (lv_at hl 1 rfl) 6 (by omega) hL (by decide) dL_law_620 dL_law_621 dL_law_623 dL_law_625 dL_law_626 ?_
    refine kx_argB hx hb hX hbl hbA hS (lv_at hl 2 rfl) (lv_at hl 1 rfl) 7 (by omega) hL (by decide) dL_law_627 dL_law_628 dL_law_630 dL_law_632 dL_law_633 ?_
    refine kx_doV (kx_cv (As := [.int (xs (i + 1)), .int (xs (i + 2)), .int (xs (i + 3)), .int (xs (i + 4)), .int (xs (i + 5)), .int (xs (i + 6)), .int (xs (i + 7))]) (rest := []) hF hG hw hS hl.1 kC_9 rfl (c_X3_find2 l hfl D cy base ad n nc gB (xs (i + 1)) (xs (i + 2)) (xs (i + 3)) (xs (i + 4)) (xs (i + 5)) (xs (i + 6)) (xs (i + 7)) n hfn hrel.n30 hz0) gL_law_X3_find rfl rfl rfl hd_X3_find ⟨Nat.le_of_ble_eq_true rfl, Nat.le_of_ble_eq_true rfl⟩ rfl rfl (Nat.le_of_ble_eq_true rfl) dL_law_634 ⟨hc1, hc2⟩) hS (fun v gC e_v e_g H locs hw hS => ?_)
    rw [← e_g] at h90 h40 hr0 hrN
    refine lv_istore (lv' := [(6, .int v), (5, .int K), (4, .int (nI i)), (0, .ref b), (1, .ref (ad 0)), (2, .ref (ad 9)), (3, .ref (ad 40))]) hx hb dL_law_637 hl (by decide) rfl (fun ls hl => ?_)
    refine lv_aload_n hx hb dL_law_639 rfl (lv_at hl 5 rfl) ?_
    refine kx_doV (kx_cv (As := []) (rest := []) hF hG hw hS hl.1 kC_9 rfl (c_X3_thrown l hfl D cy base ad n nc gC) gL_law_X3_thrown rfl rfl rfl hd_X3_thrown ⟨Nat.le_of_ble_eq_true rfl, Nat.le_of_ble_eq_true rfl⟩ rfl rfl (Nat.le_of_ble_eq_true rfl) dL_law_640 ⟨hc1, hc2⟩) hS (fun t0 g0 e_t e_0 H1 locs1 hw1 hS1 => ?_)
    subst e_0
    have hw := hw1
    have hS := hS1
    refine lv_iload hx hb dL_law_643 (lv_at hl 1 rfl) ?_
    refine lv_icmp_eq (tgt := 650) hx hb dL_law_645 (by decide) (fun _ => ?_) (fun h => absurd (e_t.trans (h90.trans hK.symm)) h)
    refine lv_iload hx hb dL_law_650 (lv_at hl 1 rfl) ?_
    refine lv_if_ne (tgt := 667) hx hb dL_law_652 (by decide) (fun h => ?_) (fun h => ?_)
    · refine lv_goto (tgt := 2388) hx hb dL_law_667 (by decide) ?_
      exact kk _ _ _ ad n nc _ (hrN (fun z => h (hK.trans z))) hw hS (lv_sub hl [2, 3, 4, 5, 6] rfl)
    · exact absurd h hk0
set_option maxHeartbeats 4000000 in
set_option maxRecDepth 100000 in
theorem arm_see (l : Launch) (hfl : l.stackTraces = false) {p : Program} {e : Env} {s : State} {m : MethodId} {args : Array Value} {below : List Frame} {meth : Method} {c : Code} {Q : State → Prop} {D : va_G} {cy : Nat → ClassId} {base : Nat} (hF : CallFix p m c cL_law 7 s args wsL_law RL) (hG : kG D cy base s) {b L : Nat} {xs : Nat → Int32} (hX : va_X b L xs s s.heap) (hbl : b < s.heap.size) (hbA : ¬ kA base b) (hL : L ≤ 4096) (i : Nat) (hi : i + 8 ≤ L) {cells slots : Nat} (hc1 : cells + 12 ≤ 601024) (hc2 : slots + 100 ≤ 7293034) (kk : ∀ (H : Heap) (locs : List Loc) (ls : Array Slot) (ad : Nat → Nat) (n nc : Nat) (g : sg), kRl n nc g g → kW D cy base ad n nc g H → va_S (kA base) s.heap H locs → lv_has ls 7 [(4, .int (nI i)), (0, .ref b), (1, .ref (ad 0)), (2, .ref (ad 9)), (3, .ref (ad 40))] → W p l e room_1 s m args below meth c H locs (cells + 12) (slots + 100) Q (F0 m 2388 ls [])) {H : Heap} {locs : List Loc} {ls : Array Slot} {ad : Nat → Nat} {n nc : Nat} {g : sg} (hrel : kRl n nc g g) (hw : kW D cy base ad n nc g H) (hS : va_S (kA base) s.heap H locs) (hl : lv_has ls 7 [(4, .int (nI i)), (0, .ref b), (1, .ref (ad 0)), (2, .ref (ad 9)), (3, .ref (ad 40))]) : W p l e room_1 s m args below meth c H locs cells slots Q (F0 m 670 ls []) := by
  have hx := hF.1
  have hb := hF.2.1
  have hts := hF.2.2.2.2
  have hown := hF.2.2.2.1
  refine lv_aload_n hx hb dL_law_670 rfl (lv_at hl 2 rfl) ?_
  refine kx_arg hx hb hX hbl hbA hS (lv_at hl 1 rfl) (lv_at hl 0 rfl) 1 (by omega) hL (by decide) dL_law_671 dL_law_672 dL_law_674 dL_law_675 dL_law_676 ?_
  refine kx_arg hx hb hX hbl hbA hS (lv_at hl 1 rfl) (lv_at hl 0 rfl) 2 (by omega) hL (by decide) dL_law_677 dL_law_678 dL_law_680 dL_law_681 dL_law_682 ?_
  refine lv_aload_n hx hb dL_law_683 rfl (lv_at hl 4 rfl) ?_
  refine kx_callW (kx_csH (As := [.ref (ad 0), .int (xs (i + 1)), .int (xs (i + 2)), .ref (ad 40)]) (rest := []) hF hG hw hS hl.1 (c_L_see l hfl D cy base ad n nc g (xs (i + 1)) (xs (i + 2)) hrel.fr hrel.cRr) gL_law_L_see rfl rfl rfl hd_L_see ⟨Nat.le_of_ble_eq_true rfl, Nat.le_of_ble_eq_true rfl⟩ rfl rfl (Nat.le_of_ble_eq_true rfl) dL_law_684 ⟨hc1, hc2⟩) hS (fun K u H locs hK hu hw hS => ?_)
  refine lv_istore (lv' := [(5, .int K), (4, .int (nI i)), (0, .ref b), (1, .ref (ad 0)), (2, .ref (ad 9)), (3, .ref (ad 40))]) hx hb dL_law_687 hl (by decide) rfl (fun ls hl => ?_)
  obtain rfl := hu
  obtain ⟨gB, hB, hw⟩ := ex_kW hw
  have hop := op_see hrel (xs (i + 1)) (xs (i + 2)) hB
  obtain ⟨he, hKm, hAm, h90, h40, hr0, hrN⟩ := hop
  obtain ⟨hfn, hcn, hmR, hhm, hzm, hz0⟩ := hrel.mh he
  refine lv_aload_n hx hb dL_law_689 rfl (lv_at hl 4 rfl) ?_
  refine kx_arg hx hb hX hbl hbA hS (lv_at hl 2 rfl) (lv_at hl 1 rfl) 1 (by omega) hL (by decide) dL_law_690 dL_law_691 dL_law_693 dL_law_694 dL_law_695 ?_
  refine kx_arg hx hb hX hbl hbA hS (lv_at hl 2 rfl) (lv_at hl 1 rfl) 2 (by omega) hL (by decide) dL_law_696 dL_law_697 dL_law_699 dL_law_700 dL_law_701 ?_
  refine kx_doV (kx_cv (As := [.int (xs (i + 1)), .int (xs (i + 2))]) (rest := []) hF hG hw hS hl.1 kC_9 rfl (c_X3_see l hfl D cy base ad n nc gB (xs (i + 1)) (xs (i + 2)) hfn) gL_law_X3_see rfl rfl rfl hd_X3_see ⟨Nat.le_of_ble_eq_true rfl, Nat.le_of_ble_eq_true rfl⟩ rfl rfl (Nat.le_of_ble_eq_true rfl) dL_law_702 ⟨hc1, hc2⟩) hS (fun v gC e_v e_g H locs hw hS => ?_)
  rw [← e_g] at h90 h40 hr0 hrN
  refine lv_istore (lv' := [(6, .int v), (5, .int K), (4, .int (nI i)), (0, .ref b), (1, .ref (ad 0)), (2, .ref (ad 9)), (3, .ref (ad 40))]) hx hb dL_law_705 hl (by decide) rfl (fun ls hl => ?_)
  refine lv_aload_n hx hb dL_law_707 rfl (lv_at hl 5 rfl) ?_
  refine kx_doV (kx_cv (As := []) (rest := []) hF hG hw hS hl.1 kC_9 rfl (c_X3_thrown l hfl D cy base ad n nc gC) gL_law_X3_thrown rfl rfl rfl hd_X3_thrown ⟨Nat.le_of_ble_eq_true rfl, Nat.le_of_ble_eq_true rfl⟩ rfl rfl (Nat.le_of_ble_eq_true rfl) dL_law_708 ⟨hc1, hc2⟩) hS (fun t0 g0 e_t e_0 H1 locs1 hw1 hS1 => ?_)
  subst e_0
  have hw := hw1
  have hS := hS1
  refine lv_iload hx hb dL_law_711 (lv_at hl 1 rfl) ?_
  refine lv_icmp_eq (tgt := 718) hx hb dL_law_713 (by decide) (fun _ => ?_) (fun h => absurd (e_t.trans (h90.trans hK.symm)) h)
  refine lv_iload hx hb dL_law_718 (lv_at hl 1 rfl) ?_
  refine lv_if_ne (tgt := 735) hx hb dL_law_720 (by decide) (fun h => ?_) (fun h => ?_)
  · refine lv_goto (tgt := 2388) hx hb dL_law_735 (by decide) ?_
    exact kk _ _ _ ad n nc _ (hrN (fun z => h (hK.trans z))) hw hS (lv_sub hl [2, 3, 4, 5, 6] rfl)
  · refine lv_aload_n hx hb dL_law_723 rfl (lv_at hl 6 rfl) ?_
    refine lv_iconst (v := 0) hx hb dL_law_724 (by decide) ?_
    refine kx_lald hx hb hG hw dL_law_725 ?_
    have h := hK.symm.trans h
    have hv : v = g0 40 0 := by rw [e_v, h40, if_pos h]; exact (rv_0 (hKm.trans h)).trans (hAm h)
    refine lv_iload hx hb dL_law_726 (lv_at hl 0 rfl) ?_
    refine lv_i2l (v := v.toInt64) hx hb dL_law_728 rfl ?_
    refine kx_same (tgt := 735) hx hb (by rw [hv]) dL_law_729 dL_law_730 (by decide) ?_
    refine lv_goto (tgt := 2388) hx hb dL_law_735 (by decide) ?_
    exact kk _ _ _ ad n nc _ (hr0 h) hw hS (lv_sub hl [2, 3, 4, 5, 6] rfl)
set_option maxHeartbeats 4000000 in
set_option maxRecDepth 100000 in
theorem arm_send (l : Launch) (hfl : l.stackTraces = false) {p : Program} {e : Env} {s : State} {m : MethodId} {args : Array Value} {below : List Frame} {meth : Method} {c : Code} {Q : State → Prop} {D : va_G} {cy : Nat → ClassId} {base : Nat} (hF : CallFix p m c cL_law 7 s args wsL_law RL) (hG : kG D cy base s) {b L : Nat} {xs : Nat → Int32} (hX : va_X b L xs s s.heap) (hbl : b < s.heap.size) (hbA : ¬ kA base b) (hL : L ≤ 4096) (i : Nat) (hi : i + 8 ≤ L) {cells slots : Nat} (hc1 : cells + 12 ≤ 601024) (hc2 : slots + 100 ≤ 7293034) (kk : ∀ (H : Heap) (locs : List Loc) (ls : Array Slot) (ad : Nat → Nat) (n nc : Nat) (g : sg), kRl n nc g g → kW D cy base ad n nc g H → va_S (kA base) s.heap H locs → lv_has ls 7 [(4, .int (nI i)), (0, .ref b), (1, .ref (ad 0)), (2, .ref (ad 9)), (3, .ref (ad 40))] → W p l e room_1 s m args below meth c H locs (cells + 12) (slots + 100) Q (F0 m 2388 ls [])) {H : Heap} {locs : List Loc} {ls : Array Slot} {ad : Nat → Nat} {n nc : Nat} {g : sg} (hrel : kRl n nc g g) (hw : kW D cy base ad n nc g H) (hS : va_S (kA base) s.heap H locs) (hl : lv_has ls 7 [(4, .int (nI i)), (0, .ref b), (1, .ref (ad 0)), (2, .ref (ad 9)), (3, .ref (ad 40))]) : W p l e room_1 s m args below meth c H locs cells slots Q (F0 m 738 ls []) := by
  have hx := hF.1
  have hb := hF.2.1
  have hts := hF.2.2.2.2
  have hown := hF.2.2.2.1
  refine lv_aload_n hx hb dL_law_738 rfl (lv_at hl 2 rfl) ?_
  refine kx_arg hx hb hX hbl hbA hS (lv_at hl 1 rfl) (lv_at hl 0 rfl) 1 (by omega) hL (by decide) dL_law_739 dL_law_740 dL_law_742 dL_law_743 dL_law_744 ?_
  refine kx_arg hx hb hX hbl hbA hS (lv_at hl 1 rfl) (lv_at hl 0 rfl) 2 (by omega) hL (by decide) dL_law_745 dL_law_746 dL_law_748 dL_law_749 dL_law_750 ?_
  refine lv_aload_n hx hb dL_law_751 rfl (lv_at hl 4 rfl) ?_
  refine kx_callW (kx_csH (As := [.ref (ad 0), .int (xs (i + 1)), .int (xs (i + 2)), .ref (ad 40)]) (rest := []) hF hG hw hS hl.1 (c_L_send l hfl D cy base ad n nc g (xs (i + 1)) (xs (i + 2)) hrel.fr) gL_law_L_send rfl rfl rfl hd_L_send ⟨Nat.le_of_ble_eq_true rfl, Nat.le_of_ble_eq_true rfl⟩ rfl rfl (Nat.le_of_ble_eq_true rfl) dL_law_752 ⟨hc1, hc2⟩) hS (fun K u H locs hK hu hw hS => ?_)
  refine lv_istore (lv' := [(5, .int K), (4, .int (nI i)), (0, .ref b), (1, .ref (ad 0)), (2, .ref (ad 9)), (3, .ref (ad 40))]) hx hb dL_law_755 hl (by decide) rfl (fun ls hl => ?_)
  obtain rfl := hu
  obtain ⟨gB, hB, hw⟩ := ex_kW hw
  have hop := op_send hrel (xs (i + 1)) (xs (i + 2)) hB
  obtain ⟨he, hKm, hAm, h90, h40, hr0, hrN⟩ := hop
  obtain ⟨hfn, hcn, hmR, hhm, hzm, hz0⟩ := hrel.mh he
  refine lv_aload_n hx hb dL_law_757 rfl (lv_at hl 4 rfl) ?_
  refine kx_arg hx hb hX hbl hbA hS (lv_at hl 2 rfl) (lv_at hl 1 rfl) 1 (by omega) hL (by decide) dL_law_758 dL_law_759 dL_law_761 dL_law_762 dL_law_763 ?_
  refine kx_arg hx hb hX hbl hbA hS (lv_at hl 2 rfl) (lv_at hl 1 rfl) 2 (by omega) hL (by decide) dL_law_764 dL_law_765 dL_law_767 dL_law_768 dL_law_769 ?_
  refine kx_doV (kx_cv (As := [.int (xs (i + 1)), .int (xs (i + 2))]) (rest := []) hF hG hw hS hl.1 kC_9 rfl (c_X3_send l hfl D cy base ad n nc gB (xs (i + 1)) (xs (i + 2)) hfn) gL_law_X3_send rfl rfl rfl hd_X3_send ⟨Nat.le_of_ble_eq_true rfl, Nat.le_of_ble_eq_true rfl⟩ rfl rfl (Nat.le_of_ble_eq_true rfl) dL_law_770 ⟨hc1, hc2⟩) hS (fun v gC e_v e_g H locs hw hS => ?_)
  rw [← e_g] at h90 h40 hr0 hrN
  refine lv_istore (lv' := [(6, .int v), (5, .int K), (4, .int (nI i)), (0, .ref b), (1, .ref (ad 0)), (2, .ref (ad 9)), (3, .ref (ad 40))]) hx hb dL_law_773 hl (by decide) rfl (fun ls hl => ?_)
  refine lv_aload_n hx hb dL_law_775 rfl (lv_at hl 5 rfl) ?_
  refine kx_doV (kx_cv (As := []) (rest := []) hF hG hw hS hl.1 kC_9 rfl (c_X3_thrown l hfl D cy base ad n nc gC) gL_law_X3_thrown rfl rfl rfl hd_X3_thrown ⟨Nat.le_of_ble_eq_true rfl, Nat.le_of_ble_eq_true rfl⟩ rfl rfl (Nat.le_of_ble_eq_true rfl) dL_law_776 ⟨hc1, hc2⟩) hS (fun t0 g0 e_t e_0 H1 locs1 hw1 hS1 => ?_)
  subst e_0
  have hw := hw1
  have hS := hS1
  refine lv_iload hx hb dL_law_779 (lv_at hl 1 rfl) ?_
  refine lv_icmp_eq (tgt := 786) hx hb dL_law_781 (by decide) (fun _ => ?_) (fun h => absurd (e_t.trans (h90.trans hK.symm)) h)
  refine lv_iload hx hb dL_law_786 (lv_at hl 1 rfl) ?_
  refine lv_if_ne (tgt := 803) hx hb dL_law_788 (by decide) (fun h => ?_) (fun h => ?_)
  · refine lv_goto (tgt := 2388) hx hb dL_law_803 (by decide) ?_
    exact kk _ _ _ ad n nc _ (hrN (fun z => h (hK.trans z))) hw hS (lv_sub hl [2, 3, 4, 5, 6] rfl)
  · refine lv_aload_n hx hb dL_law_791 rfl (lv_at hl 6 rfl) ?_
    refine lv_iconst (v := 0) hx hb dL_law_792 (by decide) ?_
    refine kx_lald hx hb hG hw dL_law_793 ?_
    have h := hK.symm.trans h
    have hv : v = g0 40 0 := by rw [e_v, h40, if_pos h]; exact (rv_0 (hKm.trans h)).trans (hAm h)
    refine lv_iload hx hb dL_law_794 (lv_at hl 0 rfl) ?_
    refine lv_i2l (v := v.toInt64) hx hb dL_law_796 rfl ?_
    refine kx_same (tgt := 803) hx hb (by rw [hv]) dL_law_797 dL_law_798 (by decide) ?_
    refine lv_goto (tgt := 2388) hx hb dL_law_803 (by decide) ?_
    exact kk _ _ _ ad n nc _ (hr0 h) hw hS (lv_sub hl [2, 3, 4, 5, 6] rfl)
set_option maxHeartbeats 4000000 in
set_option maxRecDepth 100000 in
theorem arm_lose (l : Launch) (hfl : l.stackTraces = false) {p : Program} {e : Env} {s : State} {m : MethodId} {args : Array Value} {below : List Frame} {meth : Method} {c : Code} {Q : State → Prop} {D : va_G} {cy : Nat → ClassId} {base : Nat} (hF : CallFix p m c cL_law 7 s args wsL_law RL) (hG : kG D cy base s) {b L : Nat} {xs : Nat → Int32} (hX : va_X b L xs s s.heap) (hbl : b < s.heap.size) (hbA : ¬ kA base b) (hL : L ≤ 4096) (i : Nat) (hi : i + 8 ≤ L) {cells slots : Nat} (hc1 : cells + 12 ≤ 601024) (hc2 : slots + 100 ≤ 7293034) (kk : ∀ (H : Heap) (locs : List Loc) (ls : Array Slot) (ad : Nat → Nat) (n nc : Nat) (g : sg), kRl n nc g g → kW D cy base ad n nc g H → va_S (kA base) s.heap H locs → lv_has ls 7 [(4, .int (nI i)), (0, .ref b), (1, .ref (ad 0)), (2, .ref (ad 9)), (3, .ref (ad 40))] → W p l e room_1 s m args below meth c H locs (cells + 12) (slots + 100) Q (F0 m 2388 ls [])) {H : Heap} {locs : List Loc} {ls : Array Slot} {ad : Nat → Nat} {n nc : Nat} {g : sg} (hrel : kRl n nc g g) (hw : kW D cy base ad n nc g H) (hS : va_S (kA base) s.heap H locs) (hl : lv_has ls 7 [(4, .int (nI i)), (0, .ref b), (1, .ref (ad 0)), (2, .ref (ad 9)), (3, .ref (ad 40))]) : W p l e room_1 s m args below meth c H locs cells slots Q (F0 m 806 ls []) := by
  have hx := hF.1
  have hb := hF.2.1
  have hts := hF.2.2.2.2
  have hown := hF.2.2.2.1
  refine lv_aload_n hx hb dL_law_806 rfl (lv_at hl 2 rfl) ?_
  refine kx_arg hx hb hX hbl hbA hS (lv_at hl 1 rfl) (lv_at hl 0 rfl) 1 (by omega) hL (by decide) dL_law_807 dL_law_808 dL_law_810 dL_law_811 dL_law_812 ?_
  refine lv_aload_n hx hb dL_law_813 rfl (lv_at hl 4 rfl) ?_
  refine kx_callW (kx_csH (As := [.ref (ad 0), .int (xs (i + 1)), .ref (ad 40)]) (rest := []) hF hG hw hS hl.1 (c_L_lose l hfl D cy base ad n nc g (xs (i + 1)) hrel.fr) gL_law_L_lose rfl rfl rfl hd_L_lose ⟨Nat.le_of_ble_eq_true rfl, Nat.le_of_ble_eq_true rfl⟩ rfl rfl (Nat.le_of_ble_eq_true rfl) dL_law_814 ⟨hc1, hc2⟩) hS (fun K u H locs hK hu hw hS => ?_)
  refine lv_istore (lv' := [(5, .int K), (4, .int (nI i)), (0, .ref b), (1, .ref (ad 0)), (2, .ref (ad 9)), (3, .ref (ad 40))]) hx hb dL_law_817 hl (by decide) rfl (fun ls hl => ?_)
  obtain rfl := hu
  obtain ⟨gB, hB, hw⟩ := ex_kW hw
  have hop := op_lose hrel (xs (i + 1)) hB
  obtain ⟨he, hKm, hAm, h90, h40, hr0, hrN⟩ := hop
  obtain ⟨hfn, hcn, hmR, hhm, hzm, hz0⟩ := hrel.mh he
  refine lv_aload_n hx hb dL_law_819 rfl (lv_at hl 4 rfl) ?_
  refine kx_arg hx hb hX hbl hbA hS (lv_at hl 2 rfl) (lv_at hl 1 rfl) 1 (by omega) hL (by decide) dL_law_820 dL_law_821 dL_law_823 dL_law_824 dL_law_825 ?_
  refine kx_doV (kx_cv (As := [.int (xs (i + 1))]) (rest := []) hF hG hw hS hl.1 kC_9 rfl (c_X3_lose l hfl D cy base ad n nc gB (xs (i + 1)) hfn) gL_law_X3_lose rfl rfl rfl hd_X3_lose ⟨Nat.le_of_ble_eq_true rfl, Nat.le_of_ble_eq_true rfl⟩ rfl rfl (Nat.le_of_ble_eq_true rfl) dL_law_826 ⟨hc1, hc2⟩) hS (fun v gC e_v e_g H locs hw hS => ?_)
  rw [← e_g] at h90 h40 hr0 hrN
  refine lv_istore (lv' := [(6, .int v), (5, .int K), (4, .int (nI i)), (0, .ref b), (1, .ref (ad 0)), (2, .ref (ad 9)), (3, .ref (ad 40))]) hx hb dL_law_829 hl (by decide) rfl (fun ls hl => ?_)
  refine lv_aload_n hx hb dL_law_831 rfl (lv_at hl 5 rfl) ?_
  refine kx_doV (kx_cv (As := []) (rest := []) hF hG hw hS hl.1 kC_9 rfl (c_X3_thrown l hfl D cy base ad n nc gC) gL_law_X3_thrown rfl rfl rfl hd_X3_thrown ⟨Nat.le_of_ble_eq_true rfl, Nat.le_of_ble_eq_true rfl⟩ rfl rfl (Nat.le_of_ble_eq_true rfl) dL_law_832 ⟨hc1, hc2⟩) hS (fun t0 g0 e_t e_0 H1 locs1 hw1 hS1 => ?_)
  subst e_0
  have hw := hw1
  have hS := hS1
  refine lv_iload hx hb dL_law_835 (lv_at hl 1 rfl) ?_
  refine lv_icmp_eq (tgt := 842) hx hb dL_law_837 (by decide) (fun _ => ?_) (fun h => absurd (e_t.trans (h90.trans hK.symm)) h)
  refine lv_iload hx hb dL_law_842 (lv_at hl 1 rfl) ?_
  refine lv_if_ne (tgt := 859) hx hb dL_law_844 (by decide) (fun h => ?_) (fun h => ?_)
  · refine lv_goto (tgt := 2388) hx hb dL_law_859 (by decide) ?_
    exact kk _ _ _ ad n nc _ (hrN (fun z => h (hK.trans z))) hw hS (lv_sub hl [2, 3, 4, 5, 6] rfl)
  · refine lv_aload_n hx hb dL_law_847 rfl (lv_at hl 6 rfl) ?_
    refine lv_iconst (v := 0) hx hb dL_law_848 (by decide) ?_
    refine kx_lald hx hb hG hw dL_law_849 ?_
    have h := hK.symm.trans h
    have hv : v = g0 40 0 := by rw [e_v, h40, if_pos h]; exact (rv_0 (hKm.trans h)).trans (hAm h)
    refine lv_iload hx hb dL_law_850 (lv_at hl 0 rfl) ?_
    refine lv_i2l (v := v.toInt64) hx hb dL_law_852 rfl ?_
    refine kx_same (tgt := 859) hx hb (by rw [hv]) dL_law_853 dL_law_854 (by decide) ?_
    refine lv_goto (tgt := 2388) hx hb dL_law_859 (by decide) ?_
    exact kk _ _ _ ad n nc _ (hr0 h) hw hS (lv_sub hl [2, 3, 4, 5, 6] rfl)
set_option maxHeartbeats 4000000 in
set_option maxRecDepth 100000 in
theorem arm_turnUp (l : Launch) (hfl : l.stackTraces = false) {p : Program} {e : Env} {s : State} {m : MethodId} {args : Array Value} {below : List Frame} {meth : Method} {c : Code} {Q : State → Prop} {D : va_G} {cy : Nat → ClassId} {base : Nat} (hF : CallFix p m c cL_law 7 s args wsL_law RL) (hG : kG D cy base s) {b L : Nat} {xs : Nat → Int32} (hX : va_X b L xs s s.heap) (hbl : b < s.heap.size) (hbA : ¬ kA base b) (hL : L ≤ 4096) (i : Nat) (hi : i + 8 ≤ L) {cells slots : Nat} (hc1 : cells + 12 ≤ 601024) (hc2 : slots + 100 ≤ 7293034) (kk : ∀ (H : Heap) (locs : List Loc) (ls : Array Slot) (ad : Nat → Nat) (n nc : Nat) (g : sg), kRl n nc g g → kW D cy base ad n nc g H → va_S (kA base) s.heap H locs → lv_has ls 7 [(4, .int (nI i)), (0, .ref b), (1, .ref (ad 0)), (2, .ref (ad 9)), (3, .ref (ad 40))] → W p l e room_1 s m args below meth c H locs (cells + 12) (slots + 100) Q (F0 m 2388 ls [])) {H : Heap} {locs : List Loc} {ls : Array Slot} {ad : Nat → Nat} {n nc : Nat} {g : sg} (hrel : kRl n nc g g) (hw : kW D cy base ad n nc g H) (hS : va_S (kA base) s.heap H locs) (hl : lv_has ls 7 [(4, .int (nI i)), (0, .ref b), (1, .ref (ad 0)), (2, .ref (ad 9)), (3, .ref (ad 40))]) : W p l e room_1 s m args below meth c H locs cells slots Q (F0 m 862 ls []) := by
  have hx := hF.1
  have hb := hF.2.1
  have hts := hF.2.2.2.2
  have hown := hF.2.2.2.1
  refine lv_aload_n hx hb dL_law_862 rfl (lv_at hl 2 rfl) ?_
  refine kx_arg hx hb hX hbl hbA hS (lv_at hl 1 rfl) (lv_at hl 0 rfl) 1 (by omega) hL (by decide) dL_law_863 dL_law_864 dL_law_866 dL_law_867 dL_law_868 ?_
  refine kx_arg hx hb hX hbl hbA hS (lv_at hl 1 rfl) (lv_at hl 0 rfl) 2 (by omega) hL (by decide) dL_law_869 dL_law_870 dL_law_872 dL_law_873 dL_law_874 ?_
  refine lv_aload_n hx hb dL_law_875 rfl (lv_at hl 4 rfl) ?_
  refine kx_callW (kx_csH (As := [.ref (ad 0), .int (xs (i + 1)), .int (xs (i + 2)), .ref (ad 40)]) (rest := []) hF hG hw hS hl.1 (c_L_turnUp l hfl D cy base ad n nc g (xs (i + 1)) (xs (i + 2)) hrel.fr hrel.hd) gL_law_L_turnUp rfl rfl rfl hd_L_turnUp ⟨Nat.le_of_ble_eq_true rfl, Nat.le_of_ble_eq_true rfl⟩ rfl rfl (Nat.le_of_ble_eq_true rfl) dL_law_876 ⟨hc1, hc2⟩) hS (fun K u H locs hK hu hw hS => ?_)
  refine lv_istore (lv' := [(5, .int K), (4, .int (nI i)), (0, .ref b), (1, .ref (ad 0)), (2, .ref (ad 9)), (3, .ref (ad 40))]) hx hb dL_law_879 hl (by decide) rfl (fun ls hl => ?_)
  obtain rfl := hu
  obtain ⟨gB, hB, hw⟩ := ex_kW hw
  have hop := op_turnUp hrel (xs (i + 1)) (xs (i + 2)) hB
  obtain ⟨he, hKm, hAm, h90, h40, hr0, hrN⟩ := hop
  obtain ⟨hfn, hcn, hmR, hhm, hzm, hz0⟩ := hrel.mh he
  refine lv_aload_n hx hb dL_law_881 rfl (lv_at hl 4 rfl) ?_
  refine kx_arg hx hb hX hbl hbA hS (lv_at hl 2 rfl) (lv_at hl 1 rfl) 1 (by omega) hL (by decide) dL_law_882 dL_law_883 dL_law_885 dL_law_886 dL_law_887 ?_
  refine kx_arg hx hb hX hbl hbA hS (lv_at hl 2 rfl) (lv_at hl 1 rfl) 2 (by omega) hL (by decide) dL_law_888 dL_law_889 dL_law_891 dL_law_892 dL_law_893 ?_
  refine kx_doV (kx_cv (As := [.int (xs (i + 1)), .int (xs (i + 2))]) (rest := []) hF hG hw hS hl.1 kC_9 rfl (c_X3_turnUp l hfl D cy base ad n nc gB (xs (i + 1)) (xs (i + 2)) hfn hhm) gL_law_X3_turnUp rfl rfl rfl hd_X3_turnUp ⟨Nat.le_of_ble_eq_true rfl, Nat.le_of_ble_eq_true rfl⟩ rfl rfl (Nat.le_of_ble_eq_true rfl) dL_law_894 ⟨hc1, hc2⟩) hS (fun v gC e_v e_g H locs hw hS => ?_)
  rw [← e_g] at h90 h40 hr0 hrN
  refine lv_istore (lv' := [(6, .int v), (5, .int K), (4, .int (nI i)), (0, .ref b), (1, .ref (ad 0)), (2, .ref (ad 9)), (3, .ref (ad 40))]) hx hb dL_law_897 hl (by decide) rfl (fun ls hl => ?_)
  refine lv_aload_n hx hb dL_law_899 rfl (lv_at hl 5 rfl) ?_
  refine kx_doV (kx_cv (As := []) (rest := []) hF hG hw hS hl.1 kC_9 rfl (c_X3_thrown l hfl D cy base ad n nc gC) gL_law_X3_thrown rfl rfl rfl hd_X3_thrown ⟨Nat.le_of_ble_eq_true rfl, Nat.le_of_ble_eq_true rfl⟩ rfl rfl (Nat.le_of_ble_eq_true rfl) dL_law_900 ⟨hc1, hc2⟩) hS (fun t0 g0 e_t e_0 H1 locs1 hw1 hS1 => ?_)
  subst e_0
  have hw := hw1
  have hS := hS1
  refine lv_iload hx hb dL_law_903 (lv_at hl 1 rfl) ?_
  refine lv_icmp_eq (tgt := 910) hx hb dL_law_905 (by decide) (fun _ => ?_) (fun h => absurd (e_t.trans (h90.trans hK.symm)) h)
  refine lv_iload hx hb dL_law_910 (lv_at hl 1 rfl) ?_
  refine lv_if_ne (tgt := 927) hx hb dL_law_912 (by decide) (fun h => ?_) (fun h => ?_)
  · refine lv_goto (tgt := 2388) hx hb dL_law_927 (by decide) ?_
    exact kk _ _ _ ad n nc _ (hrN (fun z => h (hK.trans z))) hw hS (lv_sub hl [2, 3, 4, 5, 6] rfl)
  · refine lv_aload_n hx hb dL_law_915 rfl (lv_at hl 6 rfl) ?_
    refine lv_iconst (v := 0) hx hb dL_law_916 (by decide) ?_
    refine kx_lald hx hb hG hw dL_law_917 ?_
    have h := hK.symm.trans h
    have hv : v = g0 40 0 := by rw [e_v, h40, if_pos h]; exact (rv_0 (hKm.trans h)).trans (hAm h)
    refine lv_iload hx hb dL_law_918 (lv_at hl 0 rfl) ?_
    refine lv_i2l (v := v.toInt64) hx hb dL_law_920 rfl ?_
    refine kx_same (tgt := 927) hx hb (by rw [hv]) dL_law_921 dL_law_922 (by decide) ?_
    refine lv_goto (tgt := 2388) hx hb dL_law_927 (by decide) ?_
    exact kk _ _ _ ad n nc _ (hr0 h) hw hS (lv_sub hl [2, 3, 4, 5, 6] rfl)
set_option maxHeartbeats 4000000 in
set_option maxRecDepth 100000 in
theorem arm_hold (l : Launch) (hfl : l.stackTraces = false) {p : Program} {e : Env} {s : State} {m : MethodId} {args : Array Value} {below : List Frame} {meth : Method} {c : Code} {Q : State → Prop} {D : va_G} {cy : Nat → ClassId} {base : Nat} (hF : CallFix p m c cL_law 7 s args wsL_law RL) (hG : kG D cy base s) {b L : Nat} {xs : Nat → Int32} (hX : va_X b L xs s s.heap) (hbl : b < s.heap.size) (hbA : ¬ kA base b) (hL : L ≤ 4096) (i : Nat) (hi : i + 8 ≤ L) {cells slots : Nat} (hc1 : cells + 12 ≤ 601024) (hc2 : slots + 100 ≤ 7293034) (kk : ∀ (H : Heap) (locs : List Loc) (ls : Array Slot) (ad : Nat → Nat) (n nc : Nat) (g : sg), kRl n nc g g → kW D cy base ad n nc g H → va_S (kA base) s.heap H locs → lv_has ls 7 [(4, .int (nI i)), (0, .ref b), (1, .ref (ad 0)), (2, .ref (ad 9)), (3, .ref (ad 40))] → W p l e room_1 s m args below meth c H locs (cells + 12) (slots + 100) Q (F0 m 2388 ls [])) {H : Heap} {locs : List Loc} {ls : Array Slot} {ad : Nat → Nat} {n nc : Nat} {g : sg} (hrel : kRl n nc g g) (hw : kW D cy base ad n nc g H) (hS : va_S (kA base) s.heap H locs) (hl : lv_has ls 7 [(4, .int (nI i)), (0, .ref b), (1, .ref (ad 0)), (2, .ref (ad 9)), (3, .ref (ad 40))]) : W p l e room_1 s m args below meth c H locs cells slots Q (F0 m 930 ls []) := by
  have hx := hF.1
  have hb := hF.2.1
  have hts := hF.2.2.2.2
  have hown := hF.2.2.2.1
  refine lv_aload_n hx hb dL_law_930 rfl (lv_at hl 2 rfl) ?_
  refine kx_arg hx hb hX hbl hbA hS (lv_at hl 1 rfl) (lv_at hl 0 rfl) 1 (by omega) hL (by decide) dL_law_931 dL_law_932 dL_law_934 dL_law_935 dL_law_936 ?_
  refine kx_arg hx hb hX hbl hbA hS (lv_at hl 1 rfl) (lv_at hl 0 rfl) 2 (by omega) hL (by decide) dL_law_937 dL_law_938 dL_law_940 dL_law_941 dL_law_942 ?_
  refine kx_nz hx hb dL_law_943 dL_law_946 dL_law_947 dL_law_950 ?_
  refine lv_aload_n hx hb dL_law_951 rfl (lv_at hl 4 rfl) ?_
  refine kx_callW (kx_csH (As := [.ref (ad 0), .int (xs (i + 1)), .int (b2 (!decide ((xs (i + 2)) = 0))), .ref (ad 40)]) (rest := []) hF hG hw hS hl.1 (c_L_hold l hfl D cy base ad n nc g (xs (i + 1)) (!decide ((xs (i + 2)) = 0)) hrel.fr hrel.hz) gL_law_L_hold rfl rfl rfl hd_L_hold ⟨Nat.le_of_ble_eq_true rfl, Nat.le_of_ble_eq_true rfl⟩ rfl rfl (Nat.le_of_ble_eq_true rfl) dL_law_952 ⟨hc1, hc2⟩) hS (fun K u H locs hK hu hw hS => ?_)
  refine lv_istore (lv' := [(5, .int K), (4, .int (nI i)), (0, .ref b), (1, .ref (ad 0)), (2, .ref (ad 9)), (3, .ref (ad 40))]) hx hb dL_law_955 hl (by decide) rfl (fun ls hl => ?_)
  obtain rfl := hu
  obtain ⟨gB, hB, hw⟩ := ex_kW hw
  have hop := op_hold hrel (xs (i + 1)) (!decide ((xs (i + 2)) = 0)) hB
  obtain ⟨he, hKm, hAm, h90, h40, hr0, hrN⟩ := hop
  obtain ⟨hfn, hcn, hmR, hhm, hzm, hz0⟩ := hrel.mh he
  refine lv_aload_n hx hb dL_law_957 rfl (lv_at hl 4 rfl) ?_
  refine kx_arg hx hb hX hbl hbA hS (lv_at hl 2 rfl) (lv_at hl 1 rfl) 1 (by omega) hL (by decide) dL_law_958 dL_law_959 dL_law_961 dL_law_962 dL_law_963 ?_
  refine kx_arg hx hb hX hbl hbA hS (lv_at hl 2 rfl) (lv_at hl 1 rfl) 2 (by omega) hL (by decide) dL_law_964 dL_law_965 dL_law_967 dL_law_968 dL_law_969 ?_
  refine kx_nz hx hb dL_law_970 dL_law_973 dL_law_974 dL_law_977 ?_
  refine kx_doV (kx_cv (As := [.int (xs (i + 1)), .int (b2 (!decide ((xs (i + 2)) = 0)))]) (rest := []) hF hG hw hS hl.1 kC_9 rfl (c_X3_hold l hfl D cy base ad n nc gB (xs (i + 1)) (!decide ((xs (i + 2)) = 0)) hfn hzm) gL_law_X3_hold rfl rfl rfl hd_X3_hold ⟨Nat.le_of_ble_eq_true rfl, Nat.le_of_ble_eq_true rfl⟩ rfl rfl (Nat.le_of_ble_eq_true rfl) dL_law_978 ⟨hc1, hc2⟩) hS (fun v gC e_v e_g H locs hw hS => ?_)
  rw [← e_g] at h90 h40 hr0 hrN
  refine lv_istore (lv' := [(6, .int v), (5, .int K), (4, .int (nI i)), (0, .ref b), (1, .ref (ad 0)), (2, .ref (ad 9)), (3, .ref (ad 40))]) hx hb dL_law_981 hl (by decide) rfl (fun ls hl => ?_)
  refine lv_aload_n hx hb dL_law_983 rfl (lv_at hl 5 rfl) ?_
  refine kx_doV (kx_cv (As := []) (rest := []) hF hG hw hS hl.1 kC_9 rfl (c_X3_thrown l hfl D cy base ad n nc gC) gL_law_X3_thrown rfl rfl rfl hd_X3_thrown ⟨Nat.le_of_ble_eq_true rfl, Nat.le_of_ble_eq_true rfl⟩ rfl rfl (Nat.le_of_ble_eq_true rfl) dL_law_984 ⟨hc1, hc2⟩) hS (fun t0 g0 e_t e_0 H1 locs1 hw1 hS1 => ?_)
  subst e_0
  have hw := hw1
  have hS := hS1
  refine lv_iload hx hb dL_law_987 (lv_at hl 1 rfl) ?_
  refine lv_icmp_eq (tgt := 994) hx hb dL_law_989 (by decide) (fun _ => ?_) (fun h => absurd (e_t.trans (h90.trans hK.symm)) h)
  refine lv_iload hx hb dL_law_994 (lv_at hl 1 rfl) ?_
  refine lv_if_ne (tgt := 1018) hx hb dL_law_996 (by decide) (fun h => ?_) (fun h => ?_)
  · refine lv_goto (tgt := 2388) hx hb dL_law_1018 (by decide) ?_
    exact kk _ _ _ ad n nc _ (hrN (fun z => h (hK.trans z))) hw hS (lv_sub hl [2, 3, 4, 5, 6] rfl)
  · refine lv_aload_n hx hb dL_law_999 rfl (lv_at hl 6 rfl) ?_
    refine lv_iconst (v := 0) hx hb dL_law_1000 (by decide) ?_
    refine kx_lald hx hb hG hw dL_law_1001 ?_
    have h := hK.symm.trans h
    have hv : v = g0 40 0 := by rw [e_v, h40, if_pos h]; exact (zv_0 (hKm.trans h)).trans (hAm h)
    refine lv_iload hx hb dL_law_1002 (lv_at hl 0 rfl) ?_
    refine kx_top e_v.symm ?_
    refine kx_nzB hx hb dL_law_1004 dL_law_1007 dL_law_1008 dL_law_1011 ?_
    refine kx_same (tgt := 1018) hx hb (by rw [← e_v, hv]) dL_law_1012 dL_law_1013 (by decide) ?_
    refine lv_goto (tgt := 2388) hx hb dL_law_1018 (by decide) ?_
    exact kk _ _ _ ad n nc _ (hr0 h) hw hS (lv_sub hl [2, 3, 4, 5, 6] rfl)
set_option maxHeartbeats 4000000 in
set_option maxRecDepth 100000 in
theorem arm_claim (l : Launch) (hfl : l.stackTraces = false) {p : Program} {e : Env} {s : State} {m : MethodId} {args : Array Value} {below : List Frame} {meth : Method} {c : Code} {Q : State → Prop} {D : va_G} {cy : Nat → ClassId} {base : Nat} (hF : CallFix p m c cL_law 7 s args wsL_law RL) (hG : kG D cy base s) {b L : Nat} {xs : Nat → Int32} (hX : va_X b L xs s s.heap) (hbl : b < s.heap.size) (hbA : ¬ kA base b) (hL : L ≤ 4096) (i : Nat) (hi : i + 8 ≤ L) {cells slots : Nat} (hc1 : cells + 12 ≤ 601024) (hc2 : slots + 100 ≤ 7293034) (kk : ∀ (H : Heap) (locs : List Loc) (ls : Array Slot) (ad : Nat → Nat) (n nc : Nat) (g : sg), kRl n nc g g → kW D cy base ad n nc g H → va_S (kA base) s.heap H locs → lv_has ls 7 [(4, .int (nI i)), (0, .ref b), (1, .ref (ad 0)), (2, .ref (ad 9)), (3, .ref (ad 40))] → W p l e room_1 s m args below meth c H locs (cells + 12) (slots + 100) Q (F0 m 2388 ls [])) {H : Heap} {locs : List Loc} {ls : Array Slot} {ad : Nat → Nat} {n nc : Nat} {g : sg} (hrel : kRl n nc g g) (hw : kW D cy base ad n nc g H) (hS : va_S (kA base) s.heap H locs) (hl : lv_has ls 7 [(4, .int (nI i)), (0, .ref b), (1, .ref (ad 0)), (2, .ref (ad 9)), (3, .ref (ad 40))]) : W p l e room_1 s m args below meth c H locs cells slots Q (F0 m 1021 ls []) := by
  have hx := hF.1
  have hb := hF.2.1
  have hts := hF.2.2.2.2
  have hown := hF.2.2.2.1
  refine lv_aload_n hx hb dL_law_1021 rfl (lv_at hl 2 rfl) ?_
  refine kx_arg hx hb hX hbl hbA hS (lv_at hl 1 rfl) (lv_at hl 0 rfl) 1 (by omega) hL (by decide) dL_law_1022 dL_law_1023 dL_law_1025 dL_law_1026 dL_law_1027 ?_
  refine kx_arg hx hb hX hbl hbA hS (lv_at hl 1 rfl) (lv_at hl 0 rfl) 2 (by omega) hL (by decide) dL_law_1028 dL_law_1029 dL_law_1031 dL_law_1032 dL_law_1033 ?_
  refine kx_arg hx hb hX hbl hbA hS (lv_at hl 1 rfl) (lv_at hl 0 rfl) 3 (by omega) hL (by decide) dL_law_1034 dL_law_1035 dL_law_1037 dL_law_1038 dL_law_1039 ?_
  refine kx_arg hx hb hX hbl hbA hS (lv_at hl 1 rfl) (lv_at hl 0 rfl) 4 (by omega) hL (by decide) dL_law_1040 dL_law_1041 dL_law_1043 dL_law_1044 dL_law_1045 ?_
  refine kx_arg hx hb hX hbl hbA hS (lv_at hl 1 rfl) (lv_at hl 0 rfl) 5 (by omega) hL (by decide) dL_law_1046 dL_law_1047 dL_law_1049 dL_law_1050 dL_law_1051 ?_
  refine lv_aload_n hx hb dL_law_1052 rfl (lv_at hl 4 rfl) ?_
  refine kx_callW (kx_csH (As := [.ref (ad 0), .int (xs (i + 1)), .int (xs (i + 2)), .int (xs (i + 3)), .int (xs (i + 4)), .int (xs (i + 5)), .ref (ad 40)]) (rest := []) hF hG hw hS hl.1 (c_L_claim l hfl D cy base ad n nc g (xs (i + 1)) (xs (i + 2)) (xs (i + 3)) (xs (i + 4)) (xs (i + 5)) hrel.1.2.2.2.2.2.2.2 (fun j hj => by have h9 := hrel.1.2.2.2.2.2.2.1 j; rw [hj] at h9; have h8 := hrel.n30; by_cases h7 : j < n; omega; rw [if_neg h7] at h9; exact absurd h9 (by decide)) hrel.1.2.2.2.2.1) gL_law_L_claim rfl rfl rfl hd_L_claim ⟨Nat.le_of_ble_eq_true rfl, Nat.le_of_ble_eq_true rfl⟩ rfl rfl (Nat.le_of_ble_eq_true rfl) dL_law_1053 ⟨hc1, hc2⟩) hS (fun K u H locs hK hu hw hS => ?_)
  refine lv_istore (lv' := [(5, .int K), (4, .int (nI i)), (0, .ref b), (1, .ref (ad 0)), (2, .ref (ad 9)), (3, .ref (ad 40))]) hx hb dL_law_1056 hl (by decide) rfl (fun ls hl => ?_)
  rcases hu with ⟨hk1, ad2, hlo, rfl⟩ | ⟨hk1, rfl⟩
  · have hk0 : K = 0 := hK.trans hk1
    obtain ⟨gB, hB, hw⟩ := ex_kW hw
    have hop := op_claim hrel (xs (i + 1)) (xs (i + 2)) (xs (i + 3)) (xs (i + 4)) (xs (i + 5)) (hB.trans (if_pos hk1).symm)
    rw [← hlo 0 (by decide), ← hlo 9 (by decide), ← hlo 40 (by decide)] at hl
    obtain ⟨he, hKm, hAm, h90, h40, hr0, hrN⟩ := hop
    obtain ⟨hfn, hcn, hmR, hhm, hzm, hz0⟩ := hrel.mh he
    refine lv_aload_n hx hb dL_law_1058 rfl (lv_at hl 4 rfl) ?_
    refine kx_arg hx hb hX hbl hbA hS (lv_at hl 2 rfl) (lv_at hl 1 rfl) 1 (by omega) hL (by decide) dL_law_1059 dL_law_1060 dL_law_1062 dL_law_1063 dL_law_1064 ?_
    refine kx_arg hx hb hX hbl hbA hS (lv_at hl 2 rfl) (lv_at hl 1 rfl) 2 (by omega) hL (by decide) dL_law_1065 dL_law_1066 dL_law_1068 dL_law_1069 dL_law_1070 ?_
    refine kx_arg hx hb hX hbl hbA hS (lv_at hl 2 rfl) (lv_at hl 1 rfl) 3 (by omega) hL (by decide) dL_law_1071 dL_law_1072 dL_law_1074 dL_law_1075 dL_law_1076 ?_
    refine kx_arg hx hb hX hbl hbA hS (lv_at hl 2 rfl) (lv_at hl 1 rfl) 4 (by omega) hL (by decide) dL_law_1077 dL_law_1078 dL_law_1080 dL_law_1081 dL_law_1082 ?_
    refine kx_arg hx hb hX hbl hbA hS (lv_at hl 2 rfl) (lv_at hl 1 rfl) 5 (by omega) hL (by decide) dL_law_1083 dL_law_1084 dL_law_1086 dL_law_1087 dL_law_1088 ?_
    refine kx_doV (kx_cv (As := [.int (xs (i + 1)), .int (xs (i + 2)), .int (xs (i + 3)), .int (xs (i + 4)), .int (xs (i + 5))]) (rest := []) hF hG hw hS hl.1 kC_9 rfl (c_X3_claim2 l hfl D cy base ad2 n (nc + 1) gB (xs (i + 1)) (xs (i + 2)) (xs (i + 3)) (xs (i + 4)) (xs (i + 5)) nc hcn hrel.c20) gL_law_X3_claim rfl rfl rfl hd_X3_claim ⟨Nat.le_of_ble_eq_true rfl, Nat.le_of_ble_eq_true rfl⟩ rfl rfl (Nat.le_of_ble_eq_true rfl) dL_law_1089 ⟨hc1, hc2⟩) hS (fun v gC e_v e_g H locs hw hS => ?_)
    rw [← e_g] at h90 h40 hr0 hrN
    refine lv_istore (lv' := [(6, .int v), (5, .int K), (4, .int (nI i)), (0, .ref b), (1, .ref (ad2 0)), (2, .ref (ad2 9)), (3, .ref (ad2 40))]) hx hb dL_law_1092 hl (by decide) rfl (fun ls hl => ?_)
    refine lv_aload_n hx hb dL_law_1094 rfl (lv_at hl 5 rfl) ?_
    refine kx_doV (kx_cv (As := []) (rest := []) hF hG hw hS hl.1 kC_9 rfl (c_X3_thrown l hfl D cy base ad2 n (nc + 1) gC) gL_law_X3_thrown rfl rfl rfl hd_X3_thrown ⟨Nat.le_of_ble_eq_true rfl, Nat.le_of_ble_eq_true rfl⟩ rfl rfl (Nat.le_of_ble_eq_true rfl) dL_law_1095 ⟨hc1, hc2⟩) hS (fun t0 g0 e_t e_0 H1 locs1 hw1 hS1 => ?_)
    subst e_0
    have hw := hw1
    have hS := hS1
    refine lv_iload hx hb dL_law_1098 (lv_at hl 1 rfl) ?_
    refine lv_icmp_eq (tgt := 1105) hx hb dL_law_1100 (by decide) (fun _ => ?_) (fun h => absurd (e_t.trans (h90.trans hK.symm)) h)
    refine lv_iload hx hb dL_law_1105 (lv_at hl 1 rfl) ?_
    refine lv_if_ne (tgt := 1122) hx hb dL_law_1107 (by decide) (fun h => ?_) (fun h => ?_)
    · exact absurd hk0 h
    · refine lv_aload_n hx hb dL_law_1110 rfl (lv_at hl 6 rfl) ?_
      refine lv_iconst (v := 0) hx hb dL_law_1111 (by decide) ?_
      refine kx_lald hx hb hG hw dL_law_1112 ?_
      have h := hK.symm.trans h
      have hv : v = g0 40 0 := by rw [e_v, h40, if_pos h]; exact (rv_0 (hKm.trans h)).trans (hAm h)
      refine lv_iload hx hb dL_law_1113 (lv_at hl 0 rfl) ?_
      refine lv_i2l (v := v.toInt64) hx hb dL_law_1115 rfl ?_
      refine kx_same (tgt := 1122) hx hb (by rw [hv]) dL_law_1116 dL_law_1117 (by decide) ?_
      refine lv_goto (tgt := 2388) hx hb dL_law_1122 (by decide) ?_
      exact kk _ _ _ ad2 n (nc + 1) _ (hr0 h) hw hS (lv_sub hl [2, 3, 4, 5, 6] rfl)
  · have hk0 : ¬ K = 0 := fun z => hk1 (hK.symm.trans z)
    obtain ⟨gB, hB, hw⟩ := ex_kW hw
    have hop := op_claim hrel (xs (i + 1)) (xs (i + 2)) (xs (i + 3)) (xs (i + 4)) (xs (i + 5)) (hB.trans (if_neg hk1).symm)
    obtain ⟨he, hKm, hAm, h90, h40, hr0, hrN⟩ := hop
    obtain ⟨hfn, hcn, hmR, hhm, hzm, hz0⟩ := hrel.mh he
    refine lv_aload_n hx hb dL_law_1058 rfl (lv_at hl 4 rfl) ?_
    refine kx_arg hx hb hX hbl hbA hS (lv_at hl 2 rfl) (lv_at hl 1 rfl) 1 (by omega) hL (by decide) dL_law_1059 dL_law_1060 dL_law_1062 dL_law_1063 dL_law_1064 ?_
    refine kx_arg hx hb hX hbl hbA hS (lv_at hl 2 rfl) (lv_at hl 1 rfl) 2 (by omega) hL (by decide) dL_law_1065 dL_law_1066 dL_law_1068 dL_law_1069 dL_law_1070 ?_
    refine kx_arg hx hb hX hbl hbA hS (lv_at hl 2 rfl) (lv_at hl 1 rfl) 3 (by omega) hL (by decide) dL_law_1071 dL_law_1072 dL_law_1074 dL_law_1075 dL_law_1076 ?_
    refine kx_arg hx hb hX hbl hbA hS (lv_at hl 2 rfl) (lv_at hl 1 rfl) 4 (by omega) hL (by decide) dL_law_1077 dL_law_1078 dL_law_1080 dL_law_1081 dL_law_1082 ?_
    refine kx_arg hx hb hX hbl hbA hS (lv_at hl 2 rfl) (lv_at hl 1 rfl) 5 (by omega) hL (by decide) dL_law_1083 dL_law_1084 dL_law_1086 dL_law_1087 dL_law_1088 ?_
    refine kx_doV (kx_cv (As := [.int (xs (i + 1)), .int (xs (i + 2)), .int (xs (i + 3)), .int (xs (i + 4)), .int (xs (i + 5))]) (rest := []) hF hG hw hS hl.1 kC_9 rfl (c_X3_claim2 l hfl D cy base ad n nc gB (xs (i + 1)) (xs (i + 2)) (xs (i + 3)) (xs (i + 4)) (xs (i + 5)) nc hcn hrel.c20) gL_law_X3_claim rfl rfl rfl hd_X3_claim ⟨Nat.le_of_ble_eq_true rfl, Nat.le_of_ble_eq_true rfl⟩ rfl rfl (Nat.le_of_ble_eq_true rfl) dL_law_1089 ⟨hc1, hc2⟩) hS (fun v gC e_v e_g H locs hw hS => ?_)
    rw [← e_g] at h90 h40 hr0 hrN
    refine lv_istore (lv' := [(6, .int v), (5, .int K), (4, .int (nI i)), (0, .ref b), (1, .ref (ad 0)), (2, .ref (ad 9)), (3, .ref (ad 40))]) hx hb dL_law_1092 hl (by decide) rfl (fun ls hl => ?_)
    refine lv_aload_n hx hb dL_law_1094 rfl (lv_at hl 5 rfl) ?_
    refine kx_doV (kx_cv (As := []) (rest := []) hF hG hw hS hl.1 kC_9 rfl (c_X3_thrown l hfl D cy base ad n nc gC) gL_law_X3_thrown rfl rfl rfl hd_X3_thrown ⟨Nat.le_of_ble_eq_true rfl, Nat.le_of_ble_eq_true rfl⟩ rfl rfl (Nat.le_of_ble_eq_true rfl) dL_law_1095 ⟨hc1, hc2⟩) hS (fun t0 g0 e_t e_0 H1 locs1 hw1 hS1 => ?_)
    subst e_0
    have hw := hw1
    have hS := hS1
    refine lv_iload hx hb dL_law_1098 (lv_at hl 1 rfl) ?_
    refine lv_icmp_eq (tgt := 1105) hx hb dL_law_1100 (by decide) (fun _ => ?_) (fun h => absurd (e_t.trans (h90.trans hK.symm)) h)
    refine lv_iload hx hb dL_law_1105 (lv_at hl 1 rfl) ?_
    refine lv_if_ne (tgt := 1122) hx hb dL_law_1107 (by decide) (fun h => ?_) (fun h => ?_)
    · refine lv_goto (tgt := 2388) hx hb dL_law_1122 (by decide) ?_
      exact kk _ _ _ ad n nc _ (hrN (fun z => h (hK.trans z))) hw hS (lv_sub hl [2, 3, 4, 5, 6] rfl)
    · exact absurd h hk0
set_option maxHeartbeats 4000000 in
set_option maxRecDepth 100000 in
theorem arm_say (l : Launch) (hfl : l.stackTraces = false) {p : Program} {e : Env} {s : State} {m : MethodId} {args : Array Value} {below : List Frame} {meth : Method} {c : Code} {Q : State → Prop} {D : va_G} {cy : Nat → ClassId} {base : Nat} (hF : CallFix p m c cL_law 7 s args wsL_law RL) (hG : kG D cy base s) {b L : Nat} {xs : Nat → Int32} (hX : va_X b L xs s s.heap) (hbl : b < s.heap.size) (hbA : ¬ kA base b) (hL : L ≤ 4096) (i : Nat) (hi : i + 8 ≤ L) {cells slots : Nat} (hc1 : cells + 12 ≤ 601024) (hc2 : slots + 100 ≤ 7293034) (kk : ∀ (H : Heap) (locs : List Loc) (ls : Array Slot) (ad : Nat → Nat) (n nc : Nat) (g : sg), kRl n nc g g → kW D cy base ad n nc g H → va_S (kA base) s.heap H locs → lv_has ls 7 [(4, .int (nI i)), (0, .ref b), (1, .ref (ad 0)), (2, .ref (ad 9)), (3, .ref (ad 40))] → W p l e room_1 s m args below meth c H locs (cells + 12) (slots + 100) Q (F0 m 2388 ls [])) {H : Heap} {locs : List Loc} {ls : Array Slot} {ad : Nat → Nat} {n nc : Nat} {g : sg} (hrel : kRl n nc g g) (hw : kW D cy base ad n nc g H) (hS : va_S (kA base) s.heap H locs) (hl : lv_has ls 7 [(4, .int (nI i)), (0, .ref b), (1, .ref (ad 0)), (2, .ref (ad 9)), (3, .ref (ad 40))]) : W p l e room_1 s m args below meth c H locs cells slots Q (F0 m 1125 ls []) := by
  have hx := hF.1
  have hb := hF.2.1
  have hts := hF.2.2.2.2
  have hown := hF.2.2.2.1
  refine lv_aload_n hx hb dL_law_1125 rfl (lv_at hl 2 rfl) ?_
  refine kx_arg hx hb hX hbl hbA hS (lv_at hl 1 rfl) (lv_at hl 0 rfl) 1 (by omega) hL (by decide) dL_law_1126 dL_law_1127 dL_law_1129 dL_law_1130 dL_law_1131 ?_
  refine kx_arg hx hb hX hbl hbA hS (lv_at hl 1 rfl) (lv_at hl 0 rfl) 2 (by omega) hL (by decide) dL_law_1132 dL_law_1133 dL_law_1135 dL_law_1136 dL_law_1137 ?_
  refine lv_aload_n hx hb dL_law_1138 rfl (lv_at hl 4 rfl) ?_
  refine kx_callW (kx_csH (As := [.ref (ad 0), .int (xs (i + 1)), .int (xs (i + 2)), .ref (ad 40)]) (rest := []) hF hG hw hS hl.1 (c_L_say l hfl D cy base ad n nc g (xs (i + 1)) (xs (i + 2)) hrel.cr hrel.cRr) gL_law_L_say rfl rfl rfl hd_L_say ⟨Nat.le_of_ble_eq_true rfl, Nat.le_of_ble_eq_true rfl⟩ rfl rfl (Nat.le_of_ble_eq_true rfl) dL_law_1139 ⟨hc1, hc2⟩) hS (fun K u H locs hK hu hw hS => ?_)
  refine lv_istore (lv' := [(5, .int K), (4, .int (nI i)), (0, .ref b), (1, .ref (ad 0)), (2, .ref (ad 9)), (3, .ref (ad 40))]) hx hb dL_law_1142 hl (by decide) rfl (fun ls hl => ?_)
  obtain rfl := hu
  obtain ⟨gB, hB, hw⟩ := ex_kW hw
  have hop := op_say hrel (xs (i + 1)) (xs (i + 2)) hB
  obtain ⟨he, hKm, hAm, h90, h40, hr0, hrN⟩ := hop
  obtain ⟨hfn, hcn, hmR, hhm, hzm, hz0⟩ := hrel.mh he
  refine lv_aload_n hx hb dL_law_1144 rfl (lv_at hl 4 rfl) ?_
  refine kx_arg hx hb hX hbl hbA hS (lv_at hl 2 rfl) (lv_at hl 1 rfl) 1 (by omega) hL (by decide) dL_law_1145 dL_law_1146 dL_law_1148 dL_law_1149 dL_law_1150 ?_
  refine kx_arg hx hb hX hbl hbA hS (lv_at hl 2 rfl) (lv_at hl 1 rfl) 2 (by omega) hL (by decide) dL_law_1151 dL_law_1152 dL_law_1154 dL_law_1155 dL_law_1156 ?_
  refine kx_doV (kx_cv (As := [.int (xs (i + 1)), .int (xs (i + 2))]) (rest := []) hF hG hw hS hl.1 kC_9 rfl (c_X3_say l hfl D cy base ad n nc gB (xs (i + 1)) (xs (i + 2)) hcn) gL_law_X3_say rfl rfl rfl hd_X3_say ⟨Nat.le_of_ble_eq_true rfl, Nat.le_of_ble_eq_true rfl⟩ rfl rfl (Nat.le_of_ble_eq_true rfl) dL_law_1157 ⟨hc1, hc2⟩) hS (fun v gC e_v e_g H locs hw hS => ?_)
  rw [← e_g] at h90 h40 hr0 hrN
  refine lv_istore (lv' := [(6, .int v), (5, .int K), (4, .int (nI i)), (0, .ref b), (1, .ref (ad 0)), (2, .ref (ad 9)), (3, .ref (ad 40))]) hx hb dL_law_1160 hl (by decide) rfl (fun ls hl => ?_)
  refine lv_aload_n hx hb dL_law_1162 rfl (lv_at hl 5 rfl) ?_
  refine kx_doV (kx_cv (As := []) (rest := []) hF hG hw hS hl.1 kC_9 rfl (c_X3_thrown l hfl D cy base ad n nc gC) gL_law_X3_thrown rfl rfl rfl hd_X3_thrown ⟨Nat.le_of_ble_eq_true rfl, Nat.le_of_ble_eq_true rfl⟩ rfl rfl (Nat.le_of_ble_eq_true rfl) dL_law_1163 ⟨hc1, hc2⟩) hS (fun t0 g0 e_t e_0 H1 locs1 hw1 hS1 => ?_)
  subst e_0
  have hw := hw1
  have hS := hS1
  refine lv_iload hx hb dL_law_1166 (lv_at hl 1 rfl) ?_
  refine lv_icmp_eq (tgt := 1173) hx hb dL_law_1168 (by decide) (fun _ => ?_) (fun h => absurd (e_t.trans (h90.trans hK.symm)) h)
  refine lv_iload hx hb dL_law_1173 (lv_at hl 1 rfl) ?_
  refine lv_if_ne (tgt := 1190) hx hb dL_law_1175 (by decide) (fun h => ?_) (fun h => ?_)
  · refine lv_goto (tgt := 2388) hx hb dL_law_1190 (by decide) ?_
    exact kk _ _ _ ad n nc _ (hrN (fun z => h (hK.trans z))) hw hS (lv_sub hl [2, 3, 4, 5, 6] rfl)
  · refine lv_aload_n hx hb dL_law_1178 rfl (lv_at hl 6 rfl) ?_
    refine lv_iconst (v := 0) hx hb dL_law_1179 (by decide) ?_
    refine kx_lald hx hb hG hw dL_law_1180 ?_
    have h := hK.symm.trans h
    have hv : v = g0 40 0 := by rw [e_v, h40, if_pos h]; exact (rv_0 (hKm.trans h)).trans (hAm h)
    refine lv_iload hx hb dL_law_1181 (lv_at hl 0 rfl) ?_
    refine lv_i2l (v := v.toInt64) hx hb dL_law_1183 rfl ?_
    refine kx_same (tgt := 1190) hx hb (by rw [hv]) dL_law_1184 dL_law_1185 (by decide) ?_
    refine lv_goto (tgt := 2388) hx hb dL_law_1190 (by decide) ?_
    exact kk _ _ _ ad n nc _ (hr0 h) hw hS (lv_sub hl [2, 3, 4, 5, 6] rfl)
set_option maxHeartbeats 4000000 in
set_option maxRecDepth 100000 in
theorem arm_tell (l : Launch) (hfl : l.stackTraces = false) {p : Program} {e : Env} {s : State} {m : MethodId} {args : Array Value} {below : List Frame} {meth : Method} {c : Code} {Q : State → Prop} {D : va_G} {cy : Nat → ClassId} {base : Nat} (hF : CallFix p m c cL_law 7 s args wsL_law RL) (hG : kG D cy base s) {b L : Nat} {xs : Nat → Int32} (hX : va_X b L xs s s.heap) (hbl : b < s.heap.size) (hbA : ¬ kA base b) (hL : L ≤ 4096) (i : Nat) (hi : i + 8 ≤ L) {cells slots : Nat} (hc1 : cells + 12 ≤ 601024) (hc2 : slots + 100 ≤ 7293034) (kk : ∀ (H : Heap) (locs : List Loc) (ls : Array Slot) (ad : Nat → Nat) (n nc : Nat) (g : sg), kRl n nc g g → kW D cy base ad n nc g H → va_S (kA base) s.heap H locs → lv_has ls 7 [(4, .int (nI i)), (0, .ref b), (1, .ref (ad 0)), (2, .ref (ad 9)), (3, .ref (ad 40))] → W p l e room_1 s m args below meth c H locs (cells + 12) (slots + 100) Q (F0 m 2388 ls [])) {H : Heap} {locs : List Loc} {ls : Array Slot} {ad : Nat → Nat} {n nc : Nat} {g : sg} (hrel : kRl n nc g g) (hw : kW D cy base ad n nc g H) (hS : va_S (kA base) s.heap H locs) (hl : lv_has ls 7 [(4, .int (nI i)), (0, .ref b), (1, .ref (ad 0)), (2, .ref (ad 9)), (3, .ref (ad 40))]) : W p l e room_1 s m args below meth c H locs cells slots Q (F0 m 1193 ls []) := by
  have hx := hF.1
  have hb := hF.2.1
  have hts := hF.2.2.2.2
  have hown := hF.2.2.2.1
  refine lv_aload_n hx hb dL_law_1193 rfl (lv_at hl 2 rfl) ?_
  refine kx_arg hx hb hX hbl hbA hS (lv_at hl 1 rfl) (lv_at hl 0 rfl) 1 (by omega) hL (by decide) dL_law_1194 dL_law_1195 dL_law_1197 dL_law_1198 dL_law_1199 ?_
  refine kx_arg hx hb hX hbl hbA hS (lv_at hl 1 rfl) (lv_at hl 0 rfl) 2 (by omega) hL (by decide) dL_law_1200 dL_law_1201 dL_law_1203 dL_law_1204 dL_law_1205 ?_
  refine lv_aload_n hx hb dL_law_1206 rfl (lv_at hl 4 rfl) ?_
  refine kx_callW (kx_csH (As := [.ref (ad 0), .int (xs (i + 1)), .int (xs (i + 2)), .ref (ad 40)]) (rest := []) hF hG hw hS hl.1 (c_L_tell l hfl D cy base ad n nc g (xs (i + 1)) (xs (i + 2)) hrel.cr hrel.cRr) gL_law_L_tell rfl rfl rfl hd_L_tell ⟨Nat.le_of_ble_eq_true rfl, Nat.le_of_ble_eq_true rfl⟩ rfl rfl (Nat.le_of_ble_eq_true rfl) dL_law_1207 ⟨hc1, hc2⟩) hS (fun K u H locs hK hu hw hS => ?_)
  refine lv_istore (lv' := [(5, .int K), (4, .int (nI i)), (0, .ref b), (1, .ref (ad 0)), (2, .ref (ad 9)), (3, .ref (ad 40))]) hx hb dL_law_1210 hl (by decide) rfl (fun ls hl => ?_)
  obtain rfl := hu
  obtain ⟨gB, hB, hw⟩ := ex_kW hw
  have hop := op_tell hrel (xs (i + 1)) (xs (i + 2)) hB
  obtain ⟨he, hKm, hAm, h90, h40, hr0, hrN⟩ := hop
  obtain ⟨hfn, hcn, hmR, hhm, hzm, hz0⟩ := hrel.mh he
  refine lv_aload_n hx hb dL_law_1212 rfl (lv_at hl 4 rfl) ?_
  refine kx_arg hx hb hX hbl hbA hS (lv_at hl 2 rfl) (lv_at hl 1 rfl) 1 (by omega) hL (by decide) dL_law_1213 dL_law_1214 dL_law_1216 dL_law_1217 dL_law_1218 ?_
  refine kx_arg hx hb hX hbl hbA hS (lv_at hl 2 rfl) (lv_at hl 1 rfl) 2 (by omega) hL (by decide) dL_law_1219 dL_law_1220 dL_law_1222 dL_law_1223 dL_law_1224 ?_
  refine kx_doV (kx_cv (As := [.int (xs (i + 1)), .int (xs (i + 2))]) (rest := []) hF hG hw hS hl.1 kC_9 rfl (c_X3_tell l hfl D cy base ad n nc gB (xs (i + 1)) (xs (i + 2)) hcn) gL_law_X3_tell rfl rfl rfl hd_X3_tell ⟨Nat.le_of_ble_eq_true rfl, Nat.le_of_ble_eq_true rfl⟩ rfl rfl (Nat.le_of_ble_eq_true rfl) dL_law_1225 ⟨hc1, hc2⟩) hS (fun v gC e_v e_g H locs hw hS => ?_)
  rw [← e_g] at h90 h40 hr0 hrN
  refine lv_istore (lv' := [(6, .int v), (5, .int K), (4, .int (nI i)), (0, .ref b), (1, .ref (ad 0)), (2, .ref (ad 9)), (3, .ref (ad 40))]) hx hb dL_law_1228 hl (by decide) rfl (fun ls hl => ?_)
  refine lv_aload_n hx hb dL_law_1230 rfl (lv_at hl 5 rfl) ?_
  refine kx_doV (kx_cv (As := []) (rest := []) hF hG hw hS hl.1 kC_9 rfl (c_X3_thrown l hfl D cy base ad n nc gC) gL_law_X3_thrown rfl rfl rfl hd_X3_thrown ⟨Nat.le_of_ble_eq_true rfl, Nat.le_of_ble_eq_true rfl⟩ rfl rfl (Nat.le_of_ble_eq_true rfl) dL_law_1231 ⟨hc1, hc2⟩) hS (fun t0 g0 e_t e_0 H1 locs1 hw1 hS1 => ?_)
  subst e_0
  have hw := hw1
  have hS := hS1
  refine lv_iload hx hb dL_law_1234 (lv_at hl 1 rfl) ?_
  refine lv_icmp_eq (tgt := 1241) hx hb dL_law_1236 (by decide) (fun _ => ?_) (fun h => absurd (e_t.trans (h90.trans hK.symm)) h)
  refine lv_iload hx hb dL_law_1241 (lv_at hl 1 rfl) ?_
  refine lv_if_ne (tgt := 1258) hx hb dL_law_1243 (by decide) (fun h => ?_) (fun h => ?_)
  · refine lv_goto (tgt := 2388) hx hb dL_law_1258 (by decide) ?_
    exact kk _ _ _ ad n nc _ (hrN (fun z => h (hK.trans z))) hw hS (lv_sub hl [2, 3, 4, 5, 6] rfl)
  · refine lv_aload_n hx hb dL_law_1246 rfl (lv_at hl 6 rfl) ?_
    refine lv_iconst (v := 0) hx hb dL_law_1247 (by decide) ?_
    refine kx_lald hx hb hG hw dL_law_1248 ?_
    have h := hK.symm.trans h
    have hv : v = g0 40 0 := by rw [e_v, h40, if_pos h]; exact (rv_0 (hKm.trans h)).trans (hAm h)
    refine lv_iload hx hb dL_law_1249 (lv_at hl 0 rfl) ?_
    refine lv_i2l (v := v.toInt64) hx hb dL_law_1251 rfl ?_
    refine kx_same (tgt := 1258) hx hb (by rw [hv]) dL_law_1252 dL_law_1253 (by decide) ?_
    refine lv_goto (tgt := 2388) hx hb dL_law_1258 (by decide) ?_
    exact kk _ _ _ ad n nc _ (hr0 h) hw hS (lv_sub hl [2, 3, 4, 5, 6] rfl)
set_option maxHeartbeats 4000000 in
set_option maxRecDepth 100000 in
theorem arm_withdraw (l : Launch) (hfl : l.stackTraces = false) {p : Program} {e : Env} {s : State} {m : MethodId} {args : Array Value} {below : List Frame} {meth : Method} {c : Code} {Q : State → Prop} {D : va_G} {cy : Nat → ClassId} {base : Nat} (hF : CallFix p m c cL_law 7 s args wsL_law RL) (hG : kG D cy base s) {b L : Nat} {xs : Nat → Int32} (hX : va_X b L xs s s.heap) (hbl : b < s.heap.size) (hbA : ¬ kA base b) (hL : L ≤ 4096) (i : Nat) (hi : i + 8 ≤ L) {cells slots : Nat} (hc1 : cells + 12 ≤ 601024) (hc2 : slots + 100 ≤ 7293034) (kk : ∀ (H : Heap) (locs : List Loc) (ls : Array Slot) (ad : Nat → Nat) (n nc : Nat) (g : sg), kRl n nc g g → kW D cy base ad n nc g H → va_S (kA base) s.heap H locs → lv_has ls 7 [(4, .int (nI i)), (0, .ref b), (1, .ref (ad 0)), (2, .ref (ad 9)), (3, .ref (ad 40))] → W p l e room_1 s m args below meth c H locs (cells + 12) (slots + 100) Q (F0 m 2388 ls [])) {H : Heap} {locs : List Loc} {ls : Array Slot} {ad : Nat → Nat} {n nc : Nat} {g : sg} (hrel : kRl n nc g g) (hw : kW D cy base ad n nc g H) (hS : va_S (kA base) s.heap H locs) (hl : lv_has ls 7 [(4, .int (nI i)), (0, .ref b), (1, .ref (ad 0)), (2, .ref (ad 9)), (3, .ref (ad 40))]) : W p l e room_1 s m args below meth c H locs cells slots Q (F0 m 1261 ls []) := by
  have hx := hF.1
  have hb := hF.2.1
  have hts := hF.2.2.2.2
  have hown := hF.2.2.2.1
  refine lv_aload_n hx hb dL_law_1261 rfl (lv_at hl 2 rfl) ?_
  refine kx_arg hx hb hX hbl hbA hS (lv_at hl 1 rfl) (lv_at hl 0 rfl) 1 (by omega) hL (by decide) dL_law_1262 dL_law_1263 dL_law_1265 dL_law_1266 dL_law_1267 ?_
  refine lv_aload_n hx hb dL_law_1268 rfl (lv_at hl 4 rfl) ?_
  refine kx_callW (kx_csH (As := [.ref (ad 0), .int (xs (i + 1)), .ref (ad 40)]) (rest := []) hF hG hw hS hl.1 (c_L_withdraw l hfl D cy base ad n nc g (xs (i + 1)) hrel.cr) gL_law_L_withdraw rfl rfl rfl hd_L_withdraw ⟨Nat.le_of_ble_eq_true rfl, Nat.le_of_ble_eq_true rfl⟩ rfl rfl (Nat.le_of_ble_eq_true rfl) dL_law_1269 ⟨hc1, hc2⟩) hS (fun K u H locs hK hu hw hS => ?_)
  refine lv_istore (lv' := [(5, .int K), (4, .int (nI i)), (0, .ref b), (1, .ref (ad 0)), (2, .ref (ad 9)), (3, .ref (ad 40))]) hx hb dL_law_1272 hl (by decide) rfl (fun ls hl => ?_)
  obtain rfl := hu
  obtain ⟨gB, hB, hw⟩ := ex_kW hw
  have hop := op_withdraw hrel (xs (i + 1)) hB
  obtain ⟨he, hKm, hAm, h90, h40, hr0, hrN⟩ := hop
  obtain ⟨hfn, hcn, hmR, hhm, hzm, hz0⟩ := hrel.mh he
  refine lv_aload_n hx hb dL_law_1274 rfl (lv_at hl 4 rfl) ?_
  refine kx_arg hx hb hX hbl hbA hS (lv_at hl 2 rfl) (lv_at hl 1 rfl) 1 (by omega) hL (by decide) dL_law_1275 dL_law_1276 dL_law_1278 dL_law_1279 dL_law_1280 ?_
  refine kx_doV (kx_cv (As := [.int (xs (i + 1))]) (rest := []) hF hG hw hS hl.1 kC_9 rfl (c_X3_withdraw l hfl D cy base ad n nc gB (xs (i + 1)) hcn) gL_law_X3_withdraw rfl rfl rfl hd_X3_withdraw ⟨Nat.le_of_ble_eq_true rfl, Nat.le_of_ble_eq_true rfl⟩ rfl rfl (Nat.le_of_ble_eq_true rfl) dL_law_1281 ⟨hc1, hc2⟩) hS (fun v gC e_v e_g H locs hw hS => ?_)
  rw [← e_g] at h90 h40 hr0 hrN
  refine lv_istore (lv' := [(6, .int v), (5, .int K), (4, .int (nI i)), (0, .ref b), (1, .ref (ad 0)), (2, .ref (ad 9)), (3, .ref (ad 40))]) hx hb dL_law_1284 hl (by decide) rfl (fun ls hl => ?_)
  refine lv_aload_n hx hb dL_law_1286 rfl (lv_at hl 5 rfl) ?_
  refine kx_doV (kx_cv (As := []) (rest := []) hF hG hw hS hl.1 kC_9 rfl (c_X3_thrown l hfl D cy base ad n nc gC) gL_law_X3_thrown rfl rfl rfl hd_X3_thrown ⟨Nat.le_of_ble_eq_true rfl, Nat.le_of_ble_eq_true rfl⟩ rfl rfl (Nat.le_of_ble_eq_true rfl) dL_law_1287 ⟨hc1, hc2⟩) hS (fun t0 g0 e_t e_0 H1 locs1 hw1 hS1 => ?_)
  subst e_0
  have hw := hw1
  have hS := hS1
  refine lv_iload hx hb dL_law_1290 (lv_at hl 1 rfl) ?_
  refine lv_icmp_eq (tgt := 1297) hx hb dL_law_1292 (by decide) (fun _ => ?_) (fun h => absurd (e_t.trans (h90.trans hK.symm)) h)
  refine lv_iload hx hb dL_law_1297 (lv_at hl 1 rfl) ?_
  refine lv_if_ne (tgt := 1314) hx hb dL_law_1299 (by decide) (fun h => ?_) (fun h => ?_)
  · refine lv_goto (tgt := 2388) hx hb dL_law_1314 (by decide) ?_
    exact kk _ _ _ ad n nc _ (hrN (fun z => h (hK.trans z))) hw hS (lv_sub hl [2, 3, 4, 5, 6] rfl)
  · refine lv_aload_n hx hb dL_law_1302 rfl (lv_at hl 6 rfl) ?_
    refine lv_iconst (v := 0) hx hb dL_law_1303 (by decide) ?_
    refine kx_lald hx hb hG hw dL_law_1304 ?_
    have h := hK.symm.trans h
    have hv : v = g0 40 0 := by rw [e_v, h40, if_pos h]; exact (rv_0 (hKm.trans h)).trans (hAm h)
    refine lv_iload hx hb dL_law_1305 (lv_at hl 0 rfl) ?_
    refine lv_i2l (v := v.toInt64) hx hb dL_law_1307 rfl ?_
    refine kx_same (tgt := 1314) hx hb (by rw [hv]) dL_law_1308 dL_law_1309 (by decide) ?_
    refine lv_goto (tgt := 2388) hx hb dL_law_1314 (by decide) ?_
    exact kk _ _ _ ad n nc _ (hr0 h) hw hS (lv_sub hl [2, 3, 4, 5, 6] rfl)
set_option maxHeartbeats 4000000 in
set_option maxRecDepth 100000 in
theorem arm_release (l : Launch) (hfl : l.stackTraces = false) {p : Program} {e : Env} {s : State} {m : MethodId} {args : Array Value} {below : List Frame} {meth : Method} {c : Code} {Q : State → Prop} {D : va_G} {cy : Nat → ClassId} {base : Nat} (hF : CallFix p m c cL_law 7 s args wsL_law RL) (hG : kG D cy base s) {b L : Nat} {xs : Nat → Int32} (hX : va_X b L xs s s.heap) (hbl : b < s.heap.size) (hbA : ¬ kA base b) (hL : L ≤ 4096) (i : Nat) (hi : i + 8 ≤ L) {cells slots : Nat} (hc1 : cells + 12 ≤ 601024) (hc2 : slots + 100 ≤ 7293034) (kk : ∀ (H : Heap) (locs : List Loc) (ls : Array Slot) (ad : Nat → Nat) (n nc : Nat) (g : sg), kRl n nc g g → kW D cy base ad n nc g H → va_S (kA base) s.heap H locs → lv_has ls 7 [(4, .int (nI i)), (0, .ref b), (1, .ref (ad 0)), (2, .ref (ad 9)), (3, .ref (ad 40))] → W p l e room_1 s m args below meth c H locs (cells + 12) (slots + 100) Q (F0 m 2388 ls [])) {H : Heap} {locs : List Loc} {ls : Array Slot} {ad : Nat → Nat} {n nc : Nat} {g : sg} (hrel : kRl n nc g g) (hw : kW D cy base ad n nc g H) (hS : va_S (kA base) s.heap H locs) (hl : lv_has ls 7 [(4, .int (nI i)), (0, .ref b), (1, .ref (ad 0)), (2, .ref (ad 9)), (3, .ref (ad 40))]) : W p l e room_1 s m args below meth c H locs cells slots Q (F0 m 1317 ls []) := by
  have hx := hF.1
  have hb := hF.2.1
  have hts := hF.2.2.2.2
  have hown := hF.2.2.2.1
  refine lv_aload_n hx hb dL_law_1317 rfl (lv_at hl 2 rfl) ?_
  refine kx_arg hx hb hX hbl hbA hS (lv_at hl 1 rfl) (lv_at hl 0 rfl) 1 (by omega) hL (by decide) dL_law_1318 dL_law_1319 dL_law_1321 dL_law_1322 dL_law_1323 ?_
  refine kx_arg hx hb hX hbl hbA hS (lv_at hl 1 rfl) (lv_at hl 0 rfl) 2 (by omega) hL (by decide) dL_law_1324 dL_law_1325 dL_law_1327 dL_law_1328 dL_law_1329 ?_
  refine lv_aload_n hx hb dL_law_1330 rfl (lv_at hl 4 rfl) ?_
  refine kx_callW (kx_csH (As := [.ref (ad 0), .int (xs (i + 1)), .int (xs (i + 2)), .ref (ad 40)]) (rest := []) hF hG hw hS hl.1 (c_L_release l hfl D cy base ad n nc g (xs (i + 1)) (xs (i + 2)) hrel.fr hrel.cr hrel.cRr) gL_law_L_release rfl rfl rfl hd_L_release ⟨Nat.le_of_ble_eq_true rfl, Nat.le_of_ble_eq_true rfl⟩ rfl rfl (Nat.le_of_ble_eq_true rfl) dL_law_1331 ⟨hc1, hc2⟩) hS (fun K u H locs hK hu hw hS => ?_)
  refine lv_istore (lv' := [(5, .int K), (4, .int (nI i)), (0, .ref b), (1, .ref (ad 0)), (2, .ref (ad 9)), (3, .ref (ad 40))]) hx hb dL_law_1334 hl (by decide) rfl (fun ls hl => ?_)
  obtain rfl := hu
  obtain ⟨gB, hB, hw⟩ := ex_kW hw
  have hop := op_release hrel (xs (i + 1)) (xs (i + 2)) hB
  obtain ⟨he, hKm, hAm, h90, h40, hr0, hrN⟩ := hop
  obtain ⟨hfn, hcn, hmR, hhm, hzm, hz0⟩ := hrel.mh he
  refine lv_aload_n hx hb dL_law_1336 rfl (lv_at hl 4 rfl) ?_
  refine kx_arg hx hb hX hbl hbA hS (lv_at hl 2 rfl) (lv_at hl 1 rfl) 1 (by omega) hL (by decide) dL_law_1337 dL_law_1338 dL_law_1340 dL_law_1341 dL_law_1342 ?_
  refine kx_arg hx hb hX hbl hbA hS (lv_at hl 2 rfl) (lv_at hl 1 rfl) 2 (by omega) hL (by decide) dL_law_1343 dL_law_1344 dL_law_1346 dL_law_1347 dL_law_1348 ?_
  refine kx_doV (kx_cv (As := [.int (xs (i + 1)), .int (xs (i + 2))]) (rest := []) hF hG hw hS hl.1 kC_9 rfl (c_X3_release l hfl D cy base ad n nc gB (xs (i + 1)) (xs (i + 2)) hfn hcn hmR) gL_law_X3_release rfl rfl rfl hd_X3_release ⟨Nat.le_of_ble_eq_true rfl, Nat.le_of_ble_eq_true rfl⟩ rfl rfl (Nat.le_of_ble_eq_true rfl) dL_law_1349 ⟨hc1, hc2⟩) hS (fun v gC e_v e_g H locs hw hS => ?_)
  rw [← e_g] at h90 h40 hr0 hrN
  refine lv_istore (lv' := [(6, .int v), (5, .int K), (4, .int (nI i)), (0, .ref b), (1, .ref (ad 0)), (2, .ref (ad 9)), (3, .ref (ad 40))]) hx hb dL_law_1352 hl (by decide) rfl (fun ls hl => ?_)
  refine lv_aload_n hx hb dL_law_1354 rfl (lv_at hl 5 rfl) ?_
  refine kx_doV (kx_cv (As := []) (rest := []) hF hG hw hS hl.1 kC_9 rfl (c_X3_thrown l hfl D cy base ad n nc gC) gL_law_X3_thrown rfl rfl rfl hd_X3_thrown ⟨Nat.le_of_ble_eq_true rfl, Nat.le_of_ble_eq_true rfl⟩ rfl rfl (Nat.le_of_ble_eq_true rfl) dL_law_1355 ⟨hc1, hc2⟩) hS (fun t0 g0 e_t e_0 H1 locs1 hw1 hS1 => ?_)
  subst e_0
  have hw := hw1
  have hS := hS1
  refine lv_iload hx hb dL_law_1358 (lv_at hl 1 rfl) ?_
  refine lv_icmp_eq (tgt := 1365) hx hb dL_law_1360 (by decide) (fun _ => ?_) (fun h => absurd (e_t.trans (h90.trans hK.symm)) h)
  refine lv_iload hx hb dL_law_1365 (lv_at hl 1 rfl) ?_
  refine lv_if_ne (tgt := 1382) hx hb dL_law_1367 (by decide) (fun h => ?_) (fun h => ?_)
  · refine lv_goto (tgt := 2388) hx hb dL_law_1382 (by decide) ?_
    exact kk _ _ _ ad n nc _ (hrN (fun z => h (hK.trans z))) hw hS (lv_sub hl [2, 3, 4, 5, 6] rfl)
  · refine lv_aload_n hx hb dL_law_1370 rfl (lv_at hl 6 rfl) ?_
    refine lv_iconst (v := 0) hx hb dL_law_1371 (by decide) ?_
    refine kx_lald hx hb hG hw dL_law_1372 ?_
    have h := hK.symm.trans h
    have hv : v = g0 40 0 := by rw [e_v, h40, if_pos h]; exact (rv_0 (hKm.trans h)).trans (hAm h)
    refine lv_iload hx hb dL_law_1373 (lv_at hl 0 rfl) ?_
    refine lv_i2l (v := v.toInt64) hx hb dL_law_1375 rfl ?_
    refine kx_same (tgt := 1382) hx hb (by rw [hv]) dL_law_1376 dL_law_1377 (by decide) ?_
    refine lv_goto (tgt := 2388) hx hb dL_law_1382 (by decide) ?_
    exact kk _ _ _ ad n nc _ (hr0 h) hw hS (lv_sub hl [2, 3, 4, 5, 6] rfl)
