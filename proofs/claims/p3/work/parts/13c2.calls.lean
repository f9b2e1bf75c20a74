-- the law, call by call
section LC
variable {p : Program} {l : Launch} {e : Env} {s : State} {m : MethodId} {below : List Frame} {meth : Method} {c : Code} {g : gG} {A : Nat → Prop} {b L : Nat} {xs : Nat → Int32} {t1 t2 : Nat} {ls : Array Slot} {q q2 : Nat → Nat} {k : Nat} {σ τ : S0} {H : Heap} {locs : List Loc} {cells slots : Nat} {Q : State → Prop}
set_option maxRecDepth 100000 in
set_option maxHeartbeats 4000000 in
theorem law_kind (C0 : l_H p s m meth c g A b L xs t1 t2) (I : l_I g A s q q2 k σ τ H locs cells slots) (hk : k + 6 ≤ L) (hL : L ≤ 3072) (hl : lv_has ls 4 [(3, .int (nI k)), (2, .ref (q2 0)), (1, .ref (q 0)), (0, .ref b)]) (kk : l_K p l e s m below meth c g A b q q2 k ls Q) : W p l e room_1 s m #[Value.ref b] below meth c H locs cells slots Q (F0 m 283 ls []) := by
  obtain ⟨⟨hP, hD, hS⟩, ⟨hC, hM, hNc, hNm⟩, ⟨cp0, cp1⟩, bc, bs⟩ := I
  obtain ⟨hx, hb, hml, hown, hts, hXs, hbl, hK, hN, hX, hA, hbA⟩ := C0
  have z200 : 16384 ≤ σ.1 200 ∧ σ.1 200 ≤ 1048576 := hC.1.1.1 200
  obtain ⟨In0, gm, ds⟩ := hC.2.2.1
  have z0 : 0 ≤ σ.1 0 := (hC.1.1.1 0).1
  refine lv_aload_n hx hb dL_law_283 rfl (lv_at hl 2 rfl) ?_
  obtain ⟨n1, e1⟩ : ∃ n, n = lw_x xs k 1 := ⟨_, rfl⟩
  refine lw_el (j := 1) hx hb hXs hbl hbA hS hl (by omega) hL dL_law_284 dL_law_285 dL_law_286 dL_law_287 dL_law_288 (by decide) e1 (fun r1 => ?_)
  have hPc := cm_P hP
  have hDc := cm_D hD
  refine xci (wc := CX g q (L2 σ) σ) (wr := MX g q2 0 τ) (va_runV (As := [.int (I n1)]) (rest := []) ⟨hx, hb, hml, hown, hts⟩ (L_X12_kind l g q (L2 σ) (l_lb hC) r1 hNc (K_X12_kind hC.1.1) H.size) (cwV 1 hts (TB_V tw_1409 tw_1410 tw_1411 tw_1 co_X12_kind) rfl rfl rfl (by decide +kernel) ⟨Nat.le_of_ble_eq_true rfl, Nat.le_of_ble_eq_true rfl⟩) (preV (q0 := 0) (ci := 12) rfl xT_bl hPc hK hN hDc rfl rfl xT_at) rfl rfl hl.1 rfl (lv_room (Nat.le_of_ble_eq_true rfl)) dL_law_289 ⟨by show cells + 0 ≤ 139280; omega, by show slots + 0 ≤ 8684410; omega⟩) hP hD hS hA cm_i cm_r cm_C cm_R cm_nd cm_d (fun r w1 H locs hw hP hD hS => ?_)
  obtain ⟨x, rxx, rfl, rfl, hq⟩ := hw
  obtain ⟨σ1, es⟩ : ∃ σ1, σ1 = σ := ⟨σ, rfl⟩; rw [← es] at hP hD; have hC1 := hC; rw [← es] at hC1; have hn1 := hNc; rw [← es] at hn1; have fa0 : σ1.1 0 = σ.1 0 := by rw [es]
  have fa1 : σ1.1 1 = σ.1 1 := by rw [es]
  have w200 : σ1.1 200 = σ.1 200 := by rw [es]
  obtain ⟨q1, eq1⟩ : ∃ q1, q1 = q := ⟨q, rfl⟩; rw [← eq1] at hP hD; have eq0 : q1 0 = q 0 := by rw [eq1]
  obtain ⟨cells1, ec1⟩ : ∃ c1 : Nat, c1 = cells + 0 := ⟨_, rfl⟩; obtain ⟨slots1, es1⟩ : ∃ c1 : Nat, c1 = slots + 0 := ⟨_, rfl⟩; rw [← ec1, ← es1]
  have hNc1 := hn1
  refine lv_pop hx hb dL_law_292 rfl ?_
  refine lv_aload_n hx hb dL_law_293 rfl (lv_at hl 1 rfl) ?_
  refine lw_el (j := 1) hx hb hXs hbl hbA hS hl (by omega) hL dL_law_294 dL_law_295 dL_law_296 dL_law_297 dL_law_298 (by decide) e1 (fun r1 => ?_)
  have hPc := mc_P hP
  have hDc := mc_D hD
  refine xci (wc := MX g q2 0 τ) (wr := CX g q1 (L2 σ1) σ1) (va_runV (As := [.int (I n1)]) (rest := []) ⟨hx, hb, hml, hown, hts⟩ (L_X13_kind l g q2 0 (by decide) r1 hNm (K_X13_kind hM.1.1 r1) H.size) (cwV 1 hts (TB_V tw_2799 tw_2800 tw_2801 tw_15 co_X13_kind) rfl rfl rfl (by decide +kernel) ⟨Nat.le_of_ble_eq_true rfl, Nat.le_of_ble_eq_true rfl⟩) (preV (q0 := 0) (ci := 13) rfl xT_bl hPc hK hN hDc rfl rfl xT_at) rfl rfl hl.1 rfl (lv_room (Nat.le_of_ble_eq_true rfl)) dL_law_299 ⟨by show cells1 + 0 ≤ 139280; omega, by show slots1 + 0 ≤ 8684410; omega⟩) hP hD hS hA mc_i mc_r mc_C mc_R mc_nd mc_d (fun r w1 H locs hw hP hD hS => ?_)
  obtain ⟨y, rxy, rfl, rfl, hq⟩ := hw
  obtain ⟨τ1, es⟩ : ∃ τ1, τ1 = τ := ⟨τ, rfl⟩; rw [← es] at hP hD; have hM1 := hM; rw [← es] at hM1; have hn2 := hNm; rw [← es] at hn2; have fb0 : τ1.1 0 = τ.1 0 := by rw [es]
  have fb1 : τ1.1 1 = τ.1 1 := by rw [es]
  refine lv_pop hx hb dL_law_302 rfl ?_
  refine lv_goto (tgt := 843) hx hb dL_law_303 (by decide) ?_
  exact kk q1 σ1 τ1 H locs _ _ eq0 ⟨⟨hP, hD, hS⟩, ⟨l_C_up hC1 (by omega), hM1, hNc1, hn2⟩, ⟨by omega, by omega⟩, by omega, by omega⟩
set_option maxRecDepth 100000 in
set_option maxHeartbeats 4000000 in
theorem law_length (C0 : l_H p s m meth c g A b L xs t1 t2) (I : l_I g A s q q2 k σ τ H locs cells slots) (hk : k + 6 ≤ L) (hL : L ≤ 3072) (hl : lv_has ls 4 [(3, .int (nI k)), (2, .ref (q2 0)), (1, .ref (q 0)), (0, .ref b)]) (kk : l_K p l e s m below meth c g A b q q2 k ls Q) : W p l e room_1 s m #[Value.ref b] below meth c H locs cells slots Q (F0 m 306 ls []) := by
  obtain ⟨⟨hP, hD, hS⟩, ⟨hC, hM, hNc, hNm⟩, ⟨cp0, cp1⟩, bc, bs⟩ := I
  obtain ⟨hx, hb, hml, hown, hts, hXs, hbl, hK, hN, hX, hA, hbA⟩ := C0
  have z200 : 16384 ≤ σ.1 200 ∧ σ.1 200 ≤ 1048576 := hC.1.1.1 200
  obtain ⟨In0, gm, ds⟩ := hC.2.2.1
  have z0 : 0 ≤ σ.1 0 := (hC.1.1.1 0).1
  refine lv_aload_n hx hb dL_law_306 rfl (lv_at hl 2 rfl) ?_
  obtain ⟨n1, e1⟩ : ∃ n, n = lw_x xs k 1 := ⟨_, rfl⟩
  refine lw_el (j := 1) hx hb hXs hbl hbA hS hl (by omega) hL dL_law_307 dL_law_308 dL_law_309 dL_law_310 dL_law_311 (by decide) e1 (fun r1 => ?_)
  have hPc := cm_P hP
  have hDc := cm_D hD
  refine xci (wc := CX g q (L2 σ) σ) (wr := MX g q2 0 τ) (va_runV (As := [.int (I n1)]) (rest := []) ⟨hx, hb, hml, hown, hts⟩ (L_X12_length l g q (L2 σ) (l_lb hC) r1 hNc (K_X12_length hC.1.1) H.size) (cwV 1 hts (TB_V tw_1417 tw_1418 tw_1419 tw_1 co_X12_length) rfl rfl rfl (by decide +kernel) ⟨Nat.le_of_ble_eq_true rfl, Nat.le_of_ble_eq_true rfl⟩) (preV (q0 := 0) (ci := 12) rfl xT_bl hPc hK hN hDc rfl rfl xT_at) rfl rfl hl.1 rfl (lv_room (Nat.le_of_ble_eq_true rfl)) dL_law_312 ⟨by show cells + 0 ≤ 139280; omega, by show slots + 0 ≤ 8684410; omega⟩) hP hD hS hA cm_i cm_r cm_C cm_R cm_nd cm_d (fun r w1 H locs hw hP hD hS => ?_)
  obtain ⟨x, rxx, rfl, rfl, hq⟩ := hw
  obtain ⟨σ1, es⟩ : ∃ σ1, σ1 = σ := ⟨σ, rfl⟩; rw [← es] at hP hD; have hC1 := hC; rw [← es] at hC1; have hn1 := hNc; rw [← es] at hn1; have fa0 : σ1.1 0 = σ.1 0 := by rw [es]
  have fa1 : σ1.1 1 = σ.1 1 := by rw [es]
  have w200 : σ1.1 200 = σ.1 200 := by rw [es]
  obtain ⟨q1, eq1⟩ : ∃ q1, q1 = q := ⟨q, rfl⟩; rw [← eq1] at hP hD; have eq0 : q1 0 = q 0 := by rw [eq1]
  obtain ⟨cells1, ec1⟩ : ∃ c1 : Nat, c1 = cells + 0 := ⟨_, rfl⟩; obtain ⟨slots1, es1⟩ : ∃ c1 : Nat, c1 = slots + 0 := ⟨_, rfl⟩; rw [← ec1, ← es1]
  have hNc1 := hn1
  refine lv_pop hx hb dL_law_315 rfl ?_
  refine lv_aload_n hx hb dL_law_316 rfl (lv_at hl 1 rfl) ?_
  refine lw_el (j := 1) hx hb hXs hbl hbA hS hl (by omega) hL dL_law_317 dL_law_318 dL_law_319 dL_law_320 dL_law_321 (by decide) e1 (fun r1 => ?_)
  have hPc := mc_P hP
  have hDc := mc_D hD
  refine xci (wc := MX g q2 0 τ) (wr := CX g q1 (L2 σ1) σ1) (va_runV (As := [.int (I n1)]) (rest := []) ⟨hx, hb, hml, hown, hts⟩ (L_X13_length l g q2 0 (by decide) r1 hNm (K_X13_length hM.1.1 r1) H.size) (cwV 1 hts (TB_V tw_2807 tw_2808 tw_2809 tw_15 co_X13_length) rfl rfl rfl (by decide +kernel) ⟨Nat.le_of_ble_eq_true rfl, Nat.le_of_ble_eq_true rfl⟩) (preV (q0 := 0) (ci := 13) rfl xT_bl hPc hK hN hDc rfl rfl xT_at) rfl rfl hl.1 rfl (lv_room (Nat.le_of_ble_eq_true rfl)) dL_law_322 ⟨by show cells1 + 0 ≤ 139280; omega, by show slots1 + 0 ≤ 8684410; omega⟩) hP hD hS hA mc_i mc_r mc_C mc_R mc_nd mc_d (fun r w1 H locs hw hP hD hS => ?_)
  obtain ⟨y, rxy, rfl, rfl, hq⟩ := hw
  obtain ⟨τ1, es⟩ : ∃ τ1, τ1 = τ := ⟨τ, rfl⟩; rw [← es] at hP hD; have hM1 := hM; rw [← es] at hM1; have hn2 := hNm; rw [← es] at hn2; have fb0 : τ1.1 0 = τ.1 0 := by rw [es]
  have fb1 : τ1.1 1 = τ.1 1 := by rw [es]
  refine lv_pop hx hb dL_law_325 rfl ?_
  refine lv_goto (tgt := 843) hx hb dL_law_326 (by decide) ?_
  exact kk q1 σ1 τ1 H locs _ _ eq0 ⟨⟨hP, hD, hS⟩, ⟨l_C_up hC1 (by omega), hM1, hNc1, hn2⟩, ⟨by omega, by omega⟩, by omega, by omega⟩
set_option maxRecDepth 100000 in
set_option maxHeartbeats 4000000 in
theorem law_symbol (C0 : l_H p s m meth c g A b L xs t1 t2) (I : l_I g A s q q2 k σ τ H locs cells slots) (hk : k + 6 ≤ L) (hL : L ≤ 3072) (hl : lv_has ls 4 [(3, .int (nI k)), (2, .ref (q2 0)), (1, .ref (q 0)), (0, .ref b)]) (kk : l_K p l e s m below meth c g A b q q2 k ls Q) : W p l e room_1 s m #[Value.ref b] below meth c H locs cells slots Q (F0 m 329 ls []) := by
  obtain ⟨⟨hP, hD, hS⟩, ⟨hC, hM, hNc, hNm⟩, ⟨cp0, cp1⟩, bc, bs⟩ := I
  obtain ⟨hx, hb, hml, hown, hts, hXs, hbl, hK, hN, hX, hA, hbA⟩ := C0
  have z200 : 16384 ≤ σ.1 200 ∧ σ.1 200 ≤ 1048576 := hC.1.1.1 200
  obtain ⟨In0, gm, ds⟩ := hC.2.2.1
  have z0 : 0 ≤ σ.1 0 := (hC.1.1.1 0).1
  refine lv_aload_n hx hb dL_law_329 rfl (lv_at hl 2 rfl) ?_
  obtain ⟨n1, e1⟩ : ∃ n, n = lw_x xs k 1 := ⟨_, rfl⟩
  obtain ⟨n2, e2⟩ : ∃ n, n = lw_x xs k 2 := ⟨_, rfl⟩
  refine lw_el (j := 1) hx hb hXs hbl hbA hS hl (by omega) hL dL_law_330 dL_law_331 dL_law_332 dL_law_333 dL_law_334 (by decide) e1 (fun r1 => ?_)
  refine lw_el (j := 2) hx hb hXs hbl hbA hS hl (by omega) hL dL_law_335 dL_law_336 dL_law_337 dL_law_338 dL_law_339 (by decide) e2 (fun r2 => ?_)
  have hPc := cm_P hP
  have hDc := cm_D hD
  refine xci (wc := CX g q (L2 σ) σ) (wr := MX g q2 0 τ) (va_runV (As := [.int (I n1), .int (I n2)]) (rest := []) ⟨hx, hb, hml, hown, hts⟩ (L_X12_symbol l g q (L2 σ) (l_lb hC) r1 r2 hNc (K_X12_symbol hC.1.1) H.size) (cwV 2 hts (TB_V tw_1422 tw_1423 tw_1424 tw_1 co_X12_symbol) rfl rfl rfl (by decide +kernel) ⟨Nat.le_of_ble_eq_true rfl, Nat.le_of_ble_eq_true rfl⟩) (preV (q0 := 0) (ci := 12) rfl xT_bl hPc hK hN hDc rfl rfl xT_at) rfl rfl hl.1 rfl (lv_room (Nat.le_of_ble_eq_true rfl)) dL_law_340 ⟨by show cells + 0 ≤ 139280; omega, by show slots + 0 ≤ 8684410; omega⟩) hP hD hS hA cm_i cm_r cm_C cm_R cm_nd cm_d (fun r w1 H locs hw hP hD hS => ?_)
  obtain ⟨x, rxx, rfl, rfl, hq⟩ := hw
  obtain ⟨σ1, es⟩ : ∃ σ1, σ1 = σ := ⟨σ, rfl⟩; rw [← es] at hP hD; have hC1 := hC; rw [← es] at hC1; have hn1 := hNc; rw [← es] at hn1; have fa0 : σ1.1 0 = σ.1 0 := by rw [es]
  have fa1 : σ1.1 1 = σ.1 1 := by rw [es]
  have w200 : σ1.1 200 = σ.1 200 := by rw [es]
  obtain ⟨q1, eq1⟩ : ∃ q1, q1 = q := ⟨q, rfl⟩; rw [← eq1] at hP hD; have eq0 : q1 0 = q 0 := by rw [eq1]
  obtain ⟨cells1, ec1⟩ : ∃ c1 : Nat, c1 = cells + 0 := ⟨_, rfl⟩; obtain ⟨slots1, es1⟩ : ∃ c1 : Nat, c1 = slots + 0 := ⟨_, rfl⟩; rw [← ec1, ← es1]
  have hNc1 := hn1
  refine lv_pop hx hb dL_law_343 rfl ?_
  refine lv_aload_n hx hb dL_law_344 rfl (lv_at hl 1 rfl) ?_
  refine lw_el (j := 1) hx hb hXs hbl hbA hS hl (by omega) hL dL_law_345 dL_law_346 dL_law_347 dL_law_348 dL_law_349 (by decide) e1 (fun r1 => ?_)
  refine lw_el (j := 2) hx hb hXs hbl hbA hS hl (by omega) hL dL_law_350 dL_law_351 dL_law_352 dL_law_353 dL_law_354 (by decide) e2 (fun r2 => ?_)
  have hPc := mc_P hP
  have hDc := mc_D hD
  refine xci (wc := MX g q2 0 τ) (wr := CX g q1 (L2 σ1) σ1) (va_runV (As := [.int (I n1), .int (I n2)]) (rest := []) ⟨hx, hb, hml, hown, hts⟩ (L_X13_symbol l g q2 0 (by decide) r1 r2 hNm (K_X13_symbol hM.1.1 r1 r2) H.size) (cwV 2 hts (TB_V tw_2811 tw_2812 tw_2813 tw_15 co_X13_symbol) rfl rfl rfl (by decide +kernel) ⟨Nat.le_of_ble_eq_true rfl, Nat.le_of_ble_eq_true rfl⟩) (preV (q0 := 0) (ci := 13) rfl xT_bl hPc hK hN hDc rfl rfl xT_at) rfl rfl hl.1 rfl (lv_room (Nat.le_of_ble_eq_true rfl)) dL_law_355 ⟨by show cells1 + 0 ≤ 139280; omega, by show slots1 + 0 ≤ 8684410; omega⟩) hP hD hS hA mc_i mc_r mc_C mc_R mc_nd mc_d (fun r w1 H locs hw hP hD hS => ?_)
  obtain ⟨y, rxy, rfl, rfl, hq⟩ := hw
  obtain ⟨τ1, es⟩ : ∃ τ1, τ1 = τ := ⟨τ, rfl⟩; rw [← es] at hP hD; have hM1 := hM; rw [← es] at hM1; have hn2 := hNm; rw [← es] at hn2; have fb0 : τ1.1 0 = τ.1 0 := by rw [es]
  have fb1 : τ1.1 1 = τ.1 1 := by rw [es]
  refine lv_pop hx hb dL_law_358 rfl ?_
  refine lv_goto (tgt := 843) hx hb dL_law_359 (by decide) ?_
  exact kk q1 σ1 τ1 H locs _ _ eq0 ⟨⟨hP, hD, hS⟩, ⟨l_C_up hC1 (by omega), hM1, hNc1, hn2⟩, ⟨by omega, by omega⟩, by omega, by omega⟩
set_option maxRecDepth 100000 in
set_option maxHeartbeats 4000000 in
theorem law_variable (C0 : l_H p s m meth c g A b L xs t1 t2) (I : l_I g A s q q2 k σ τ H locs cells slots) (hk : k + 6 ≤ L) (hL : L ≤ 3072) (hl : lv_has ls 4 [(3, .int (nI k)), (2, .ref (q2 0)), (1, .ref (q 0)), (0, .ref b)]) (kk : l_K p l e s m below meth c g A b q q2 k ls Q) : W p l e room_1 s m #[Value.ref b] below meth c H locs cells slots Q (F0 m 362 ls []) := by
  obtain ⟨⟨hP, hD, hS⟩, ⟨hC, hM, hNc, hNm⟩, ⟨cp0, cp1⟩, bc, bs⟩ := I
  obtain ⟨hx, hb, hml, hown, hts, hXs, hbl, hK, hN, hX, hA, hbA⟩ := C0
  have z200 : 16384 ≤ σ.1 200 ∧ σ.1 200 ≤ 1048576 := hC.1.1.1 200
  obtain ⟨In0, gm, ds⟩ := hC.2.2.1
  have z0 : 0 ≤ σ.1 0 := (hC.1.1.1 0).1
  refine lv_aload_n hx hb dL_law_362 rfl (lv_at hl 2 rfl) ?_
  obtain ⟨n1, e1⟩ : ∃ n, n = lw_x xs k 1 := ⟨_, rfl⟩
  refine lw_el (j := 1) hx hb hXs hbl hbA hS hl (by omega) hL dL_law_363 dL_law_364 dL_law_365 dL_law_366 dL_law_367 (by decide) e1 (fun r1 => ?_)
  have hPc := cm_P hP
  have hDc := cm_D hD
  refine xci (wc := CX g q (L2 σ) σ) (wr := MX g q2 0 τ) (va_runV (As := [.int (I n1)]) (rest := []) ⟨hx, hb, hml, hown, hts⟩ (L_X12_variable l g q (L2 σ) (l_lb hC) r1 hNc (K_X12_variable hC.1.1) H.size) (cwV 1 hts (TB_V tw_1426 tw_1427 tw_1428 tw_1 co_X12_variable) rfl rfl rfl (by decide +kernel) ⟨Nat.le_of_ble_eq_true rfl, Nat.le_of_ble_eq_true rfl⟩) (preV (q0 := 0) (ci := 12) rfl xT_bl hPc hK hN hDc rfl rfl xT_at) rfl rfl hl.1 rfl (lv_room (Nat.le_of_ble_eq_true rfl)) dL_law_368 ⟨by show cells + 0 ≤ 139280; omega, by show slots + 0 ≤ 8684410; omega⟩) hP hD hS hA cm_i cm_r cm_C cm_R cm_nd cm_d (fun r w1 H locs hw hP hD hS => ?_)
  obtain ⟨x, rxx, rfl, rfl, hq⟩ := hw
  obtain ⟨σ1, es⟩ : ∃ σ1, σ1 = σ := ⟨σ, rfl⟩; rw [← es] at hP hD; have hC1 := hC; rw [← es] at hC1; have hn1 := hNc; rw [← es] at hn1; have fa0 : σ1.1 0 = σ.1 0 := by rw [es]
  have fa1 : σ1.1 1 = σ.1 1 := by rw [es]
  have w200 : σ1.1 200 = σ.1 200 := by rw [es]
  obtain ⟨q1, eq1⟩ : ∃ q1, q1 = q := ⟨q, rfl⟩; rw [← eq1] at hP hD; have eq0 : q1 0 = q 0 := by rw [eq1]
  obtain ⟨cells1, ec1⟩ : ∃ c1 : Nat, c1 = cells + 0 := ⟨_, rfl⟩; obtain ⟨slots1, es1⟩ : ∃ c1 : Nat, c1 = slots + 0 := ⟨_, rfl⟩; rw [← ec1, ← es1]
  have hNc1 := hn1
  refine lv_pop hx hb dL_law_371 rfl ?_
  refine lv_aload_n hx hb dL_law_372 rfl (lv_at hl 1 rfl) ?_
  refine lw_el (j := 1) hx hb hXs hbl hbA hS hl (by omega) hL dL_law_373 dL_law_374 dL_law_375 dL_law_376 dL_law_377 (by decide) e1 (fun r1 => ?_)
  have hPc := mc_P hP
  have hDc := mc_D hD
  refine xci (wc := MX g q2 0 τ) (wr := CX g q1 (L2 σ1) σ1) (va_runV (As := [.int (I n1)]) (rest := []) ⟨hx, hb, hml, hown, hts⟩ (L_X13_variable l g q2 0 (by decide) r1 hNm (K_X13_variable hM.1.1 r1) H.size) (cwV 1 hts (TB_V tw_2815 tw_2816 tw_2817 tw_15 co_X13_variable) rfl rfl rfl (by decide +kernel) ⟨Nat.le_of_ble_eq_true rfl, Nat.le_of_ble_eq_true rfl⟩) (preV (q0 := 0) (ci := 13) rfl xT_bl hPc hK hN hDc rfl rfl xT_at) rfl rfl hl.1 rfl (lv_room (Nat.le_of_ble_eq_true rfl)) dL_law_378 ⟨by show cells1 + 0 ≤ 139280; omega, by show slots1 + 0 ≤ 8684410; omega⟩) hP hD hS hA mc_i mc_r mc_C mc_R mc_nd mc_d (fun r w1 H locs hw hP hD hS => ?_)
  obtain ⟨y, rxy, rfl, rfl, hq⟩ := hw
  obtain ⟨τ1, es⟩ : ∃ τ1, τ1 = τ := ⟨τ, rfl⟩; rw [← es] at hP hD; have hM1 := hM; rw [← es] at hM1; have hn2 := hNm; rw [← es] at hn2; have fb0 : τ1.1 0 = τ.1 0 := by rw [es]
  have fb1 : τ1.1 1 = τ.1 1 := by rw [es]
  refine lv_pop hx hb dL_law_381 rfl ?_
  refine lv_goto (tgt := 843) hx hb dL_law_382 (by decide) ?_
  exact kk q1 σ1 τ1 H locs _ _ eq0 ⟨⟨hP, hD, hS⟩, ⟨l_C_up hC1 (by omega), hM1, hNc1, hn2⟩, ⟨by omega, by omega⟩, by omega, by omega⟩
set_option maxRecDepth 100000 in
set_option maxHeartbeats 4000000 in
theorem law_find (C0 : l_H p s m meth c g A b L xs t1 t2) (I : l_I g A s q q2 k σ τ H locs cells slots) (hk : k + 6 ≤ L) (hL : L ≤ 3072) (hl : lv_has ls 4 [(3, .int (nI k)), (2, .ref (q2 0)), (1, .ref (q 0)), (0, .ref b)]) (kk : l_K p l e s m below meth c g A b q q2 k ls Q) : W p l e room_1 s m #[Value.ref b] below meth c H locs cells slots Q (F0 m 385 ls []) := by
  obtain ⟨⟨hP, hD, hS⟩, ⟨hC, hM, hNc, hNm⟩, ⟨cp0, cp1⟩, bc, bs⟩ := I
  obtain ⟨hx, hb, hml, hown, hts, hXs, hbl, hK, hN, hX, hA, hbA⟩ := C0
  have z200 : 16384 ≤ σ.1 200 ∧ σ.1 200 ≤ 1048576 := hC.1.1.1 200
  obtain ⟨In0, gm, ds⟩ := hC.2.2.1
  have z0 : 0 ≤ σ.1 0 := (hC.1.1.1 0).1
  refine lv_aload_n hx hb dL_law_385 rfl (lv_at hl 2 rfl) ?_
  obtain ⟨n1, e1⟩ : ∃ n, n = lw_x xs k 1 := ⟨_, rfl⟩
  refine lw_el (j := 1) hx hb hXs hbl hbA hS hl (by omega) hL dL_law_386 dL_law_387 dL_law_388 dL_law_389 dL_law_390 (by decide) e1 (fun r1 => ?_)
  have hPc := cm_P hP
  have hDc := cm_D hD
  refine xci (wc := CX g q (L2 σ) σ) (wr := MX g q2 0 τ) (va_runV (As := [.int (I n1)]) (rest := []) ⟨hx, hb, hml, hown, hts⟩ (L_X12_find l g q (L2 σ) (l_lb hC) r1 hNc (K3_X12_find hC.1.1) H.size) (cwV 1 hts (TB_V tw_1434 tw_1435 tw_1436 tw_1 co_X12_find) rfl rfl rfl (by decide +kernel) ⟨Nat.le_of_ble_eq_true rfl, Nat.le_of_ble_eq_true rfl⟩) (preV (q0 := 0) (ci := 12) rfl xT_bl hPc hK hN hDc rfl rfl xT_at) rfl rfl hl.1 rfl (lv_room (Nat.le_of_ble_eq_true rfl)) dL_law_391 ⟨by show cells + 0 ≤ 139280; omega, by show slots + 0 ≤ 8684410; omega⟩) hP hD hS hA cm_i cm_r cm_C cm_R cm_nd cm_d (fun r w1 H locs hw hP hD hS => ?_)
  obtain ⟨x, σ1, rxx, rfl, hn1, hf, rfl, hq⟩ := hw
  obtain ⟨hT1, a1⟩ := hq
  have hC1 := l_C_find hC hT1 hf a1
  have w200 : σ1.1 200 = σ.1 200 := hf.1 200 (by decide)
  have eL : L2 σ1 = L2 σ := by unfold L2; rw [w200]
  rw [← eL] at hP hD
  obtain ⟨q1, eq1⟩ : ∃ q1, q1 = q := ⟨q, rfl⟩; rw [← eq1] at hP hD; have eq0 : q1 0 = q 0 := by rw [eq1]
  obtain ⟨cells1, ec1⟩ : ∃ c1 : Nat, c1 = cells + 0 := ⟨_, rfl⟩; obtain ⟨slots1, es1⟩ : ∃ c1 : Nat, c1 = slots + 0 := ⟨_, rfl⟩; rw [← ec1, ← es1]
  have hNc1 := hn1
  refine lv_pop hx hb dL_law_394 rfl ?_
  refine lv_aload_n hx hb dL_law_395 rfl (lv_at hl 1 rfl) ?_
  refine lw_el (j := 1) hx hb hXs hbl hbA hS hl (by omega) hL dL_law_396 dL_law_397 dL_law_398 dL_law_399 dL_law_400 (by decide) e1 (fun r1 => ?_)
  have hPc := mc_P hP
  have hDc := mc_D hD
  refine xci (wc := MX g q2 0 τ) (wr := CX g q1 (L2 σ1) σ1) (va_runV (As := [.int (I n1)]) (rest := []) ⟨hx, hb, hml, hown, hts⟩ (L_X13_find l g q2 0 (by decide) r1 hNm (K_X13_find hM.1.1 (by have h1 := hM.1.2.1; have h2 : τ.1 3 ≤ 1000 := (hM.1.1.1 3).2; omega) (by have h1 := hM.1.2.2.1; have h2 : τ.1 5 ≤ 1500 := (hM.1.1.1 5).2; omega)) H.size) (cwV 1 hts (TB_V tw_2819 tw_2820 tw_2821 tw_15 co_X13_find) rfl rfl rfl (by decide +kernel) ⟨Nat.le_of_ble_eq_true rfl, Nat.le_of_ble_eq_true rfl⟩) (preV (q0 := 0) (ci := 13) rfl xT_bl hPc hK hN hDc rfl rfl xT_at) rfl rfl hl.1 rfl (lv_room (Nat.le_of_ble_eq_true rfl)) dL_law_401 ⟨by show cells1 + 0 ≤ 139280; omega, by show slots1 + 0 ≤ 8684410; omega⟩) hP hD hS hA mc_i mc_r mc_C mc_R mc_nd mc_d (fun r w1 H locs hw hP hD hS => ?_)
  obtain ⟨y, τ1, rxy, rfl, hn1, hf, rfl, hq⟩ := hw
  obtain ⟨hT1, b1, b2⟩ := hq
  have hM1 := l_M_find hM hT1 hf b1 b2
  have hn2 := hn1
  refine lv_pop hx hb dL_law_404 rfl ?_
  refine lv_goto (tgt := 843) hx hb dL_law_405 (by decide) ?_
  exact kk q1 σ1 τ1 H locs _ _ eq0 ⟨⟨hP, hD, hS⟩, ⟨l_C_up hC1 (by omega), hM1, hNc1, hn2⟩, ⟨by omega, by omega⟩, by omega, by omega⟩
end LC
