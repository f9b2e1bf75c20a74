-- the law, call by call
section LC
variable {p : Program} {l : Launch} {e : Env} {s : State} {m : MethodId} {below : List Frame} {meth : Method} {c : Code} {g : gG} {A : Nat → Prop} {b L : Nat} {xs : Nat → Int32} {t1 t2 : Nat} {ls : Array Slot} {q q2 : Nat → Nat} {k : Nat} {σ τ : S0} {H : Heap} {locs : List Loc} {cells slots : Nat} {Q : State → Prop}
set_option maxRecDepth 100000 in
set_option maxHeartbeats 4000000 in
theorem law_frame (C0 : l_H p s m meth c g A b L xs t1 t2) (I : l_I g A s q q2 k σ τ H locs cells slots) (hk : k + 6 ≤ L) (hL : L ≤ 3072) (hl : lv_has ls 4 [(3, .int (nI k)), (2, .ref (q2 0)), (1, .ref (q 0)), (0, .ref b)]) (kk : l_K p l e s m below meth c g A b q q2 k ls Q) : W p l e room_1 s m #[Value.ref b] below meth c H locs cells slots Q (F0 m 408 ls []) := by
  obtain ⟨⟨hP, hD, hS⟩, ⟨hC, hM, hNc, hNm⟩, ⟨cp0, cp1⟩, bc, bs⟩ := I
  obtain ⟨hx, hb, hml, hown, hts, hXs, hbl, hK, hN, hX, hA, hbA⟩ := C0
  have z200 : 16384 ≤ σ.1 200 ∧ σ.1 200 ≤ 1048576 := hC.1.1.1 200
  obtain ⟨In0, gm, ds⟩ := hC.2.2.1
  have z0 : 0 ≤ σ.1 0 := (hC.1.1.1 0).1
  refine lv_aload_n hx hb dL_law_408 rfl (lv_at hl 2 rfl) ?_
  obtain ⟨n1, e1⟩ : ∃ n, n = lw_x xs k 1 := ⟨_, rfl⟩
  obtain ⟨n2, e2⟩ : ∃ n, n = lw_x xs k 2 := ⟨_, rfl⟩
  refine lw_el (j := 1) hx hb hXs hbl hbA hS hl (by omega) hL dL_law_409 dL_law_410 dL_law_411 dL_law_412 dL_law_413 (by decide) e1 (fun r1 => ?_)
  refine lw_el (j := 2) hx hb hXs hbl hbA hS hl (by omega) hL dL_law_414 dL_law_415 dL_law_416 dL_law_417 dL_law_418 (by decide) e2 (fun r2 => ?_)
  have hPc := cm_P hP
  have hDc := cm_D hD
  refine xci (wc := CX g q (L2 σ) σ) (wr := MX g q2 0 τ) (va_runV (As := [.int (I n1), .int (I n2)]) (rest := []) ⟨hx, hb, hml, hown, hts⟩ (L_X12_frame l g q (L2 σ) (l_lb hC) r1 r2 hNc (K_X12_frame hC.1.1) H.size) (cwV 2 hts (TB_V tw_1451 tw_1452 tw_1453 tw_1 co_X12_frame) rfl rfl rfl (by decide +kernel) ⟨Nat.le_of_ble_eq_true rfl, Nat.le_of_ble_eq_true rfl⟩) (preV (q0 := 0) (ci := 12) rfl xT_bl hPc hK hN hDc rfl rfl xT_at) rfl rfl hl.1 rfl (lv_room (Nat.le_of_ble_eq_true rfl)) dL_law_419 ⟨by show cells + 0 ≤ 139280; omega, by show slots + 0 ≤ 8684410; omega⟩) hP hD hS hA cm_i cm_r cm_C cm_R cm_nd cm_d (fun r w1 H locs hw hP hD hS => ?_)
  obtain ⟨x, rxx, rfl, rfl, hq⟩ := hw
  obtain ⟨σ1, es⟩ : ∃ σ1, σ1 = σ := ⟨σ, rfl⟩; rw [← es] at hP hD; have hC1 := hC; rw [← es] at hC1; have hn1 := hNc; rw [← es] at hn1; have fa0 : σ1.1 0 = σ.1 0 := by rw [es]
  have fa1 : σ1.1 1 = σ.1 1 := by rw [es]
  have w200 : σ1.1 200 = σ.1 200 := by rw [es]
  obtain ⟨q1, eq1⟩ : ∃ q1, q1 = q := ⟨q, rfl⟩; rw [← eq1] at hP hD; have eq0 : q1 0 = q 0 := by rw [eq1]
  obtain ⟨cells1, ec1⟩ : ∃ c1 : Nat, c1 = cells + 0 := ⟨_, rfl⟩; obtain ⟨slots1, es1⟩ : ∃ c1 : Nat, c1 = slots + 0 := ⟨_, rfl⟩; rw [← ec1, ← es1]
  have hNc1 := hn1
  refine lv_pop hx hb dL_law_422 rfl ?_
  refine lv_aload_n hx hb dL_law_423 rfl (lv_at hl 1 rfl) ?_
  refine lw_el (j := 1) hx hb hXs hbl hbA hS hl (by omega) hL dL_law_424 dL_law_425 dL_law_426 dL_law_427 dL_law_428 (by decide) e1 (fun r1 => ?_)
  refine lw_el (j := 2) hx hb hXs hbl hbA hS hl (by omega) hL dL_law_429 dL_law_430 dL_law_431 dL_law_432 dL_law_433 (by decide) e2 (fun r2 => ?_)
  have hPc := mc_P hP
  have hDc := mc_D hD
  refine xci (wc := MX g q2 0 τ) (wr := CX g q1 (L2 σ1) σ1) (va_runV (As := [.int (I n1), .int (I n2)]) (rest := []) ⟨hx, hb, hml, hown, hts⟩ (L_X13_frame l g q2 0 (by decide) r1 r2 hNm (K_X13_frame hM.1.1 r1) H.size) (cwV 2 hts (TB_V tw_2831 tw_2832 tw_2833 tw_15 co_X13_frame) rfl rfl rfl (by decide +kernel) ⟨Nat.le_of_ble_eq_true rfl, Nat.le_of_ble_eq_true rfl⟩) (preV (q0 := 0) (ci := 13) rfl xT_bl hPc hK hN hDc rfl rfl xT_at) rfl rfl hl.1 rfl (lv_room (Nat.le_of_ble_eq_true rfl)) dL_law_434 ⟨by show cells1 + 0 ≤ 139280; omega, by show slots1 + 0 ≤ 8684410; omega⟩) hP hD hS hA mc_i mc_r mc_C mc_R mc_nd mc_d (fun r w1 H locs hw hP hD hS => ?_)
  obtain ⟨y, rxy, rfl, rfl, hq⟩ := hw
  obtain ⟨τ1, es⟩ : ∃ τ1, τ1 = τ := ⟨τ, rfl⟩; rw [← es] at hP hD; have hM1 := hM; rw [← es] at hM1; have hn2 := hNm; rw [← es] at hn2; have fb0 : τ1.1 0 = τ.1 0 := by rw [es]
  have fb1 : τ1.1 1 = τ.1 1 := by rw [es]
  refine lv_pop hx hb dL_law_437 rfl ?_
  refine lv_goto (tgt := 843) hx hb dL_law_438 (by decide) ?_
  exact kk q1 σ1 τ1 H locs _ _ eq0 ⟨⟨hP, hD, hS⟩, ⟨l_C_up hC1 (by omega), hM1, hNc1, hn2⟩, ⟨by omega, by omega⟩, by omega, by omega⟩
set_option maxRecDepth 100000 in
set_option maxHeartbeats 4000000 in
theorem law_hypothesis (C0 : l_H p s m meth c g A b L xs t1 t2) (I : l_I g A s q q2 k σ τ H locs cells slots) (hk : k + 6 ≤ L) (hL : L ≤ 3072) (hl : lv_has ls 4 [(3, .int (nI k)), (2, .ref (q2 0)), (1, .ref (q 0)), (0, .ref b)]) (kk : l_K p l e s m below meth c g A b q q2 k ls Q) : W p l e room_1 s m #[Value.ref b] below meth c H locs cells slots Q (F0 m 441 ls []) := by
  obtain ⟨⟨hP, hD, hS⟩, ⟨hC, hM, hNc, hNm⟩, ⟨cp0, cp1⟩, bc, bs⟩ := I
  obtain ⟨hx, hb, hml, hown, hts, hXs, hbl, hK, hN, hX, hA, hbA⟩ := C0
  have z200 : 16384 ≤ σ.1 200 ∧ σ.1 200 ≤ 1048576 := hC.1.1.1 200
  obtain ⟨In0, gm, ds⟩ := hC.2.2.1
  have z0 : 0 ≤ σ.1 0 := (hC.1.1.1 0).1
  refine lv_aload_n hx hb dL_law_441 rfl (lv_at hl 2 rfl) ?_
  obtain ⟨n1, e1⟩ : ∃ n, n = lw_x xs k 1 := ⟨_, rfl⟩
  obtain ⟨n2, e2⟩ : ∃ n, n = lw_x xs k 2 := ⟨_, rfl⟩
  refine lw_el (j := 1) hx hb hXs hbl hbA hS hl (by omega) hL dL_law_442 dL_law_443 dL_law_444 dL_law_445 dL_law_446 (by decide) e1 (fun r1 => ?_)
  refine lw_el (j := 2) hx hb hXs hbl hbA hS hl (by omega) hL dL_law_447 dL_law_448 dL_law_449 dL_law_450 dL_law_451 (by decide) e2 (fun r2 => ?_)
  have hPc := cm_P hP
  have hDc := cm_D hD
  refine xci (wc := CX g q (L2 σ) σ) (wr := MX g q2 0 τ) (va_runV (As := [.int (I n1), .int (I n2)]) (rest := []) ⟨hx, hb, hml, hown, hts⟩ (L_X12_hypothesis l g q (L2 σ) (l_lb hC) r1 r2 hNc (K_X12_hypothesis hC.1.1 (J_fr_of hC.1.2.2.2.2.2.2.2.2.2.2.2.1 (hC.1.1.1 13).2 (hC.1.1.1 14).2)) H.size) (cwV 2 hts (TB_V tw_1470 tw_1471 tw_1472 tw_1 co_X12_hypothesis) rfl rfl rfl (by decide +kernel) ⟨Nat.le_of_ble_eq_true rfl, Nat.le_of_ble_eq_true rfl⟩) (preV (q0 := 0) (ci := 12) rfl xT_bl hPc hK hN hDc rfl rfl xT_at) rfl rfl hl.1 rfl (lv_room (Nat.le_of_ble_eq_true rfl)) dL_law_452 ⟨by show cells + 0 ≤ 139280; omega, by show slots + 0 ≤ 8684410; omega⟩) hP hD hS hA cm_i cm_r cm_C cm_R cm_nd cm_d (fun r w1 H locs hw hP hD hS => ?_)
  obtain ⟨x, rxx, rfl, rfl, hq⟩ := hw
  obtain ⟨σ1, es⟩ : ∃ σ1, σ1 = σ := ⟨σ, rfl⟩; rw [← es] at hP hD; have hC1 := hC; rw [← es] at hC1; have hn1 := hNc; rw [← es] at hn1; have fa0 : σ1.1 0 = σ.1 0 := by rw [es]
  have fa1 : σ1.1 1 = σ.1 1 := by rw [es]
  have w200 : σ1.1 200 = σ.1 200 := by rw [es]
  obtain ⟨q1, eq1⟩ : ∃ q1, q1 = q := ⟨q, rfl⟩; rw [← eq1] at hP hD; have eq0 : q1 0 = q 0 := by rw [eq1]
  obtain ⟨cells1, ec1⟩ : ∃ c1 : Nat, c1 = cells + 0 := ⟨_, rfl⟩; obtain ⟨slots1, es1⟩ : ∃ c1 : Nat, c1 = slots + 0 := ⟨_, rfl⟩; rw [← ec1, ← es1]
  have hNc1 := hn1
  refine lv_pop hx hb dL_law_455 rfl ?_
  refine lv_aload_n hx hb dL_law_456 rfl (lv_at hl 1 rfl) ?_
  refine lw_el (j := 1) hx hb hXs hbl hbA hS hl (by omega) hL dL_law_457 dL_law_458 dL_law_459 dL_law_460 dL_law_461 (by decide) e1 (fun r1 => ?_)
  refine lw_el (j := 2) hx hb hXs hbl hbA hS hl (by omega) hL dL_law_462 dL_law_463 dL_law_464 dL_law_465 dL_law_466 (by decide) e2 (fun r2 => ?_)
  have hPc := mc_P hP
  have hDc := mc_D hD
  refine xci (wc := MX g q2 0 τ) (wr := CX g q1 (L2 σ1) σ1) (va_runV (As := [.int (I n1), .int (I n2)]) (rest := []) ⟨hx, hb, hml, hown, hts⟩ (L_X13_hypothesis l g q2 0 (by decide) r1 r2 hNm (K_X13_hypothesis hM.1.1 r1 r2) H.size) (cwV 2 hts (TB_V tw_2844 tw_2845 tw_2846 tw_15 co_X13_hypothesis) rfl rfl rfl (by decide +kernel) ⟨Nat.le_of_ble_eq_true rfl, Nat.le_of_ble_eq_true rfl⟩) (preV (q0 := 0) (ci := 13) rfl xT_bl hPc hK hN hDc rfl rfl xT_at) rfl rfl hl.1 rfl (lv_room (Nat.le_of_ble_eq_true rfl)) dL_law_467 ⟨by show cells1 + 0 ≤ 139280; omega, by show slots1 + 0 ≤ 8684410; omega⟩) hP hD hS hA mc_i mc_r mc_C mc_R mc_nd mc_d (fun r w1 H locs hw hP hD hS => ?_)
  obtain ⟨y, rxy, rfl, rfl, hq⟩ := hw
  obtain ⟨τ1, es⟩ : ∃ τ1, τ1 = τ := ⟨τ, rfl⟩; rw [← es] at hP hD; have hM1 := hM; rw [← es] at hM1; have hn2 := hNm; rw [← es] at hn2; have fb0 : τ1.1 0 = τ.1 0 := by rw [es]
  have fb1 : τ1.1 1 = τ.1 1 := by rw [es]
  refine lv_pop hx hb dL_law_470 rfl ?_
  refine lv_goto (tgt := 843) hx hb dL_law_471 (by decide) ?_
  exact kk q1 σ1 τ1 H locs _ _ eq0 ⟨⟨hP, hD, hS⟩, ⟨l_C_up hC1 (by omega), hM1, hNc1, hn2⟩, ⟨by omega, by omega⟩, by omega, by omega⟩
set_option maxRecDepth 100000 in
set_option maxHeartbeats 4000000 in
theorem law_apart (C0 : l_H p s m meth c g A b L xs t1 t2) (I : l_I g A s q q2 k σ τ H locs cells slots) (hk : k + 6 ≤ L) (hL : L ≤ 3072) (hl : lv_has ls 4 [(3, .int (nI k)), (2, .ref (q2 0)), (1, .ref (q 0)), (0, .ref b)]) (kk : l_K p l e s m below meth c g A b q q2 k ls Q) : W p l e room_1 s m #[Value.ref b] below meth c H locs cells slots Q (F0 m 474 ls []) := by
  obtain ⟨⟨hP, hD, hS⟩, ⟨hC, hM, hNc, hNm⟩, ⟨cp0, cp1⟩, bc, bs⟩ := I
  obtain ⟨hx, hb, hml, hown, hts, hXs, hbl, hK, hN, hX, hA, hbA⟩ := C0
  have z200 : 16384 ≤ σ.1 200 ∧ σ.1 200 ≤ 1048576 := hC.1.1.1 200
  obtain ⟨In0, gm, ds⟩ := hC.2.2.1
  have z0 : 0 ≤ σ.1 0 := (hC.1.1.1 0).1
  refine lv_aload_n hx hb dL_law_474 rfl (lv_at hl 2 rfl) ?_
  obtain ⟨n1, e1⟩ : ∃ n, n = lw_x xs k 1 := ⟨_, rfl⟩
  obtain ⟨n2, e2⟩ : ∃ n, n = lw_x xs k 2 := ⟨_, rfl⟩
  obtain ⟨n3, e3⟩ : ∃ n, n = lw_x xs k 3 := ⟨_, rfl⟩
  refine lw_el (j := 1) hx hb hXs hbl hbA hS hl (by omega) hL dL_law_475 dL_law_476 dL_law_477 dL_law_478 dL_law_479 (by decide) e1 (fun r1 => ?_)
  refine lw_el (j := 2) hx hb hXs hbl hbA hS hl (by omega) hL dL_law_480 dL_law_481 dL_law_482 dL_law_483 dL_law_484 (by decide) e2 (fun r2 => ?_)
  refine lw_el (j := 3) hx hb hXs hbl hbA hS hl (by omega) hL dL_law_485 dL_law_486 dL_law_487 dL_law_488 dL_law_489 (by decide) e3 (fun r3 => ?_)
  have hPc := cm_P hP
  have hDc := cm_D hD
  refine xci (wc := CX g q (L2 σ) σ) (wr := MX g q2 0 τ) (va_runV (As := [.int (I n1), .int (I n2), .int (I n3)]) (rest := []) ⟨hx, hb, hml, hown, hts⟩ (L_X12_apart l g q (L2 σ) (l_lb hC) r1 r2 r3 hNc (K_X12_apart hC.1.1 (J_fr_of hC.1.2.2.2.2.2.2.2.2.2.2.2.1 (hC.1.1.1 13).2 (hC.1.1.1 14).2)) H.size) (cwV 3 hts (TB_V tw_1474 tw_1475 tw_1476 tw_1 co_X12_apart) rfl rfl rfl (by decide +kernel) ⟨Nat.le_of_ble_eq_true rfl, Nat.le_of_ble_eq_true rfl⟩) (preV (q0 := 0) (ci := 12) rfl xT_bl hPc hK hN hDc rfl rfl xT_at) rfl rfl hl.1 rfl (lv_room (Nat.le_of_ble_eq_true rfl)) dL_law_490 ⟨by show cells + 0 ≤ 139280; omega, by show slots + 0 ≤ 8684410; omega⟩) hP hD hS hA cm_i cm_r cm_C cm_R cm_nd cm_d (fun r w1 H locs hw hP hD hS => ?_)
  obtain ⟨x, rxx, rfl, rfl, hq⟩ := hw
  obtain ⟨σ1, es⟩ : ∃ σ1, σ1 = σ := ⟨σ, rfl⟩; rw [← es] at hP hD; have hC1 := hC; rw [← es] at hC1; have hn1 := hNc; rw [← es] at hn1; have fa0 : σ1.1 0 = σ.1 0 := by rw [es]
  have fa1 : σ1.1 1 = σ.1 1 := by rw [es]
  have w200 : σ1.1 200 = σ.1 200 := by rw [es]
  obtain ⟨q1, eq1⟩ : ∃ q1, q1 = q := ⟨q, rfl⟩; rw [← eq1] at hP hD; have eq0 : q1 0 = q 0 := by rw [eq1]
  obtain ⟨cells1, ec1⟩ : ∃ c1 : Nat, c1 = cells + 0 := ⟨_, rfl⟩; obtain ⟨slots1, es1⟩ : ∃ c1 : Nat, c1 = slots + 0 := ⟨_, rfl⟩; rw [← ec1, ← es1]
  have hNc1 := hn1
  refine lv_pop hx hb dL_law_493 rfl ?_
  refine lv_aload_n hx hb dL_law_494 rfl (lv_at hl 1 rfl) ?_
  refine lw_el (j := 1) hx hb hXs hbl hbA hS hl (by omega) hL dL_law_495 dL_law_496 dL_law_497 dL_law_498 dL_law_499 (by decide) e1 (fun r1 => ?_)
  refine lw_el (j := 2) hx hb hXs hbl hbA hS hl (by omega) hL dL_law_500 dL_law_501 dL_law_502 dL_law_503 dL_law_504 (by decide) e2 (fun r2 => ?_)
  refine lw_el (j := 3) hx hb hXs hbl hbA hS hl (by omega) hL dL_law_505 dL_law_506 dL_law_507 dL_law_508 dL_law_509 (by decide) e3 (fun r3 => ?_)
  have hPc := mc_P hP
  have hDc := mc_D hD
  refine xci (wc := MX g q2 0 τ) (wr := CX g q1 (L2 σ1) σ1) (va_runV (As := [.int (I n1), .int (I n2), .int (I n3)]) (rest := []) ⟨hx, hb, hml, hown, hts⟩ (L_X13_apart l g q2 0 (by decide) r1 r2 r3 hNm (K_X13_apart hM.1.1 r1 hM.1.2.2.2.2.2.2.1) H.size) (cwV 3 hts (TB_V tw_2848 tw_2849 tw_2850 tw_15 co_X13_apart) rfl rfl rfl (by decide +kernel) ⟨Nat.le_of_ble_eq_true rfl, Nat.le_of_ble_eq_true rfl⟩) (preV (q0 := 0) (ci := 13) rfl xT_bl hPc hK hN hDc rfl rfl xT_at) rfl rfl hl.1 rfl (lv_room (Nat.le_of_ble_eq_true rfl)) dL_law_510 ⟨by show cells1 + 0 ≤ 139280; omega, by show slots1 + 0 ≤ 8684410; omega⟩) hP hD hS hA mc_i mc_r mc_C mc_R mc_nd mc_d (fun r w1 H locs hw hP hD hS => ?_)
  obtain ⟨y, rxy, rfl, rfl, hq⟩ := hw
  obtain ⟨τ1, es⟩ : ∃ τ1, τ1 = τ := ⟨τ, rfl⟩; rw [← es] at hP hD; have hM1 := hM; rw [← es] at hM1; have hn2 := hNm; rw [← es] at hn2; have fb0 : τ1.1 0 = τ.1 0 := by rw [es]
  have fb1 : τ1.1 1 = τ.1 1 := by rw [es]
  refine lv_pop hx hb dL_law_513 rfl ?_
  refine lv_goto (tgt := 843) hx hb dL_law_514 (by decide) ?_
  exact kk q1 σ1 τ1 H locs _ _ eq0 ⟨⟨hP, hD, hS⟩, ⟨l_C_up hC1 (by omega), hM1, hNc1, hn2⟩, ⟨by omega, by omega⟩, by omega, by omega⟩
set_option maxRecDepth 100000 in
set_option maxHeartbeats 4000000 in
theorem law_rows (C0 : l_H p s m meth c g A b L xs t1 t2) (I : l_I g A s q q2 k σ τ H locs cells slots) (hk : k + 6 ≤ L) (hL : L ≤ 3072) (hl : lv_has ls 4 [(3, .int (nI k)), (2, .ref (q2 0)), (1, .ref (q 0)), (0, .ref b)]) (kk : l_K p l e s m below meth c g A b q q2 k ls Q) : W p l e room_1 s m #[Value.ref b] below meth c H locs cells slots Q (F0 m 517 ls []) := by
  obtain ⟨⟨hP, hD, hS⟩, ⟨hC, hM, hNc, hNm⟩, ⟨cp0, cp1⟩, bc, bs⟩ := I
  obtain ⟨hx, hb, hml, hown, hts, hXs, hbl, hK, hN, hX, hA, hbA⟩ := C0
  have z200 : 16384 ≤ σ.1 200 ∧ σ.1 200 ≤ 1048576 := hC.1.1.1 200
  obtain ⟨In0, gm, ds⟩ := hC.2.2.1
  have z0 : 0 ≤ σ.1 0 := (hC.1.1.1 0).1
  refine lv_aload_n hx hb dL_law_517 rfl (lv_at hl 2 rfl) ?_
  obtain ⟨n1, e1⟩ : ∃ n, n = lw_x xs k 1 := ⟨_, rfl⟩
  refine lw_el (j := 1) hx hb hXs hbl hbA hS hl (by omega) hL dL_law_518 dL_law_519 dL_law_520 dL_law_521 dL_law_522 (by decide) e1 (fun r1 => ?_)
  have hPc := cm_P hP
  have hDc := cm_D hD
  refine xci (wc := CX g q (L2 σ) σ) (wr := MX g q2 0 τ) (va_runV (As := [.int (I n1)]) (rest := []) ⟨hx, hb, hml, hown, hts⟩ (L_X12_rows l g q (L2 σ) (l_lb hC) r1 hNc (K_X12_rows hC.1.1) H.size) (cwV 1 hts (TB_V tw_1484 tw_1485 tw_1486 tw_1 co_X12_rows) rfl rfl rfl (by decide +kernel) ⟨Nat.le_of_ble_eq_true rfl, Nat.le_of_ble_eq_true rfl⟩) (preV (q0 := 0) (ci := 12) rfl xT_bl hPc hK hN hDc rfl rfl xT_at) rfl rfl hl.1 rfl (lv_room (Nat.le_of_ble_eq_true rfl)) dL_law_523 ⟨by show cells + 0 ≤ 139280; omega, by show slots + 0 ≤ 8684410; omega⟩) hP hD hS hA cm_i cm_r cm_C cm_R cm_nd cm_d (fun r w1 H locs hw hP hD hS => ?_)
  obtain ⟨x, rxx, rfl, rfl, hq⟩ := hw
  obtain ⟨σ1, es⟩ : ∃ σ1, σ1 = σ := ⟨σ, rfl⟩; rw [← es] at hP hD; have hC1 := hC; rw [← es] at hC1; have hn1 := hNc; rw [← es] at hn1; have fa0 : σ1.1 0 = σ.1 0 := by rw [es]
  have fa1 : σ1.1 1 = σ.1 1 := by rw [es]
  have w200 : σ1.1 200 = σ.1 200 := by rw [es]
  obtain ⟨q1, eq1⟩ : ∃ q1, q1 = q := ⟨q, rfl⟩; rw [← eq1] at hP hD; have eq0 : q1 0 = q 0 := by rw [eq1]
  obtain ⟨cells1, ec1⟩ : ∃ c1 : Nat, c1 = cells + 0 := ⟨_, rfl⟩; obtain ⟨slots1, es1⟩ : ∃ c1 : Nat, c1 = slots + 0 := ⟨_, rfl⟩; rw [← ec1, ← es1]
  have hNc1 := hn1
  refine lv_pop hx hb dL_law_526 rfl ?_
  refine lv_aload_n hx hb dL_law_527 rfl (lv_at hl 1 rfl) ?_
  refine lw_el (j := 1) hx hb hXs hbl hbA hS hl (by omega) hL dL_law_528 dL_law_529 dL_law_530 dL_law_531 dL_law_532 (by decide) e1 (fun r1 => ?_)
  have hPc := mc_P hP
  have hDc := mc_D hD
  refine xci (wc := MX g q2 0 τ) (wr := CX g q1 (L2 σ1) σ1) (va_runV (As := [.int (I n1)]) (rest := []) ⟨hx, hb, hml, hown, hts⟩ (L_X13_rows l g q2 0 (by decide) r1 hNm (K3_X13_rows hM.1.1 r1 hM.1.2.2.2.2.2.2.2.2.2.2.2.2.2.2 hM.1.2.2.2.2.2.2.2.2.2.1 hM.2.2.2.1) H.size) (cwV 1 hts (TB_V tw_2852 tw_2853 tw_2854 tw_15 co_X13_rows) rfl rfl rfl (by decide +kernel) ⟨Nat.le_of_ble_eq_true rfl, Nat.le_of_ble_eq_true rfl⟩) (preV (q0 := 0) (ci := 13) rfl xT_bl hPc hK hN hDc rfl rfl xT_at) rfl rfl hl.1 rfl (lv_room (Nat.le_of_ble_eq_true rfl)) dL_law_533 ⟨by show cells1 + 0 ≤ 139280; omega, by show slots1 + 0 ≤ 8684410; omega⟩) hP hD hS hA mc_i mc_r mc_C mc_R mc_nd mc_d (fun r w1 H locs hw hP hD hS => ?_)
  obtain ⟨y, τ1, rxy, rfl, hn1, hf, rfl, hq⟩ := hw
  obtain ⟨hT1, b1, b2, b3⟩ := hq
  have hM1 := l_M_rows hM hT1 hf b1 b2 b3
  have fb0 : τ1.1 0 = τ.1 0 := hf.1 0 (by decide)
  have fb1 : τ1.1 1 = τ.1 1 := hf.1 1 (by decide)
  have hn2 := hn1
  refine lv_pop hx hb dL_law_536 rfl ?_
  refine lv_goto (tgt := 843) hx hb dL_law_537 (by decide) ?_
  exact kk q1 σ1 τ1 H locs _ _ eq0 ⟨⟨hP, hD, hS⟩, ⟨l_C_up hC1 (by omega), hM1, hNc1, hn2⟩, ⟨by omega, by omega⟩, by omega, by omega⟩
set_option maxRecDepth 100000 in
set_option maxHeartbeats 4000000 in
theorem law_row (C0 : l_H p s m meth c g A b L xs t1 t2) (I : l_I g A s q q2 k σ τ H locs cells slots) (hk : k + 6 ≤ L) (hL : L ≤ 3072) (hl : lv_has ls 4 [(3, .int (nI k)), (2, .ref (q2 0)), (1, .ref (q 0)), (0, .ref b)]) (kk : l_K p l e s m below meth c g A b q q2 k ls Q) : W p l e room_1 s m #[Value.ref b] below meth c H locs cells slots Q (F0 m 540 ls []) := by
  obtain ⟨⟨hP, hD, hS⟩, ⟨hC, hM, hNc, hNm⟩, ⟨cp0, cp1⟩, bc, bs⟩ := I
  obtain ⟨hx, hb, hml, hown, hts, hXs, hbl, hK, hN, hX, hA, hbA⟩ := C0
  have z200 : 16384 ≤ σ.1 200 ∧ σ.1 200 ≤ 1048576 := hC.1.1.1 200
  obtain ⟨In0, gm, ds⟩ := hC.2.2.1
  have z0 : 0 ≤ σ.1 0 := (hC.1.1.1 0).1
  refine lv_aload_n hx hb dL_law_540 rfl (lv_at hl 2 rfl) ?_
  obtain ⟨n1, e1⟩ : ∃ n, n = lw_x xs k 1 := ⟨_, rfl⟩
  obtain ⟨n2, e2⟩ : ∃ n, n = lw_x xs k 2 := ⟨_, rfl⟩
  refine lw_el (j := 1) hx hb hXs hbl hbA hS hl (by omega) hL dL_law_541 dL_law_542 dL_law_543 dL_law_544 dL_law_545 (by decide) e1 (fun r1 => ?_)
  refine lw_el (j := 2) hx hb hXs hbl hbA hS hl (by omega) hL dL_law_546 dL_law_547 dL_law_548 dL_law_549 dL_law_550 (by decide) e2 (fun r2 => ?_)
  have hPc := cm_P hP
  have hDc := cm_D hD
  refine xci (wc := CX g q (L2 σ) σ) (wr := MX g q2 0 τ) (va_runV (As := [.int (I n1), .int (I n2)]) (rest := []) ⟨hx, hb, hml, hown, hts⟩ (L_X12_row l g q (L2 σ) (l_lb hC) r1 r2 hNc (K_X12_row hC.1.1 (J_rw_of hC.1.2.2.2.2.2.2.2.2.2.2.2.1 (hC.1.1.1 15).2)) H.size) (cwV 2 hts (TB_V tw_1492 tw_1493 tw_1494 tw_1 co_X12_row) rfl rfl rfl (by decide +kernel) ⟨Nat.le_of_ble_eq_true rfl, Nat.le_of_ble_eq_true rfl⟩) (preV (q0 := 0) (ci := 12) rfl xT_bl hPc hK hN hDc rfl rfl xT_at) rfl rfl hl.1 rfl (lv_room (Nat.le_of_ble_eq_true rfl)) dL_law_551 ⟨by show cells + 0 ≤ 139280; omega, by show slots + 0 ≤ 8684410; omega⟩) hP hD hS hA cm_i cm_r cm_C cm_R cm_nd cm_d (fun r w1 H locs hw hP hD hS => ?_)
  obtain ⟨x, rxx, rfl, rfl, hq⟩ := hw
  obtain ⟨σ1, es⟩ : ∃ σ1, σ1 = σ := ⟨σ, rfl⟩; rw [← es] at hP hD; have hC1 := hC; rw [← es] at hC1; have hn1 := hNc; rw [← es] at hn1; have fa0 : σ1.1 0 = σ.1 0 := by rw [es]
  have fa1 : σ1.1 1 = σ.1 1 := by rw [es]
  have w200 : σ1.1 200 = σ.1 200 := by rw [es]
  obtain ⟨q1, eq1⟩ : ∃ q1, q1 = q := ⟨q, rfl⟩; rw [← eq1] at hP hD; have eq0 : q1 0 = q 0 := by rw [eq1]
  obtain ⟨cells1, ec1⟩ : ∃ c1 : Nat, c1 = cells + 0 := ⟨_, rfl⟩; obtain ⟨slots1, es1⟩ : ∃ c1 : Nat, c1 = slots + 0 := ⟨_, rfl⟩; rw [← ec1, ← es1]
  have hNc1 := hn1
  refine lv_pop hx hb dL_law_554 rfl ?_
  refine lv_aload_n hx hb dL_law_555 rfl (lv_at hl 1 rfl) ?_
  refine lw_el (j := 1) hx hb hXs hbl hbA hS hl (by omega) hL dL_law_556 dL_law_557 dL_law_558 dL_law_559 dL_law_560 (by decide) e1 (fun r1 => ?_)
  refine lw_el (j := 2) hx hb hXs hbl hbA hS hl (by omega) hL dL_law_561 dL_law_562 dL_law_563 dL_law_564 dL_law_565 (by decide) e2 (fun r2 => ?_)
  have hPc := mc_P hP
  have hDc := mc_D hD
  refine xci (wc := MX g q2 0 τ) (wr := CX g q1 (L2 σ1) σ1) (va_runV (As := [.int (I n1), .int (I n2)]) (rest := []) ⟨hx, hb, hml, hown, hts⟩ (L_X13_row l g q2 0 (by decide) r1 r2 hNm (K3_X13_row hM.1.1 r1 r2 hM.1.2.2.2.2.2.2.2.2.2.2.2.2.2.2 hM.1.2.2.2.2.2.2.2.2.2.1 hM.2.2.2.1) H.size) (cwV 2 hts (TB_V tw_2864 tw_2865 tw_2866 tw_15 co_X13_row) rfl rfl rfl (by decide +kernel) ⟨Nat.le_of_ble_eq_true rfl, Nat.le_of_ble_eq_true rfl⟩) (preV (q0 := 0) (ci := 13) rfl xT_bl hPc hK hN hDc rfl rfl xT_at) rfl rfl hl.1 rfl (lv_room (Nat.le_of_ble_eq_true rfl)) dL_law_566 ⟨by show cells1 + 0 ≤ 139280; omega, by show slots1 + 0 ≤ 8684410; omega⟩) hP hD hS hA mc_i mc_r mc_C mc_R mc_nd mc_d (fun r w1 H locs hw hP hD hS => ?_)
  obtain ⟨y, τ1, rxy, rfl, hn1, hf, rfl, hq⟩ := hw
  obtain ⟨hT1, b1⟩ := hq
  have hM1 := l_M_row hM hT1 hf b1
  have fb0 : τ1.1 0 = τ.1 0 := hf.1 0 (by decide)
  have fb1 : τ1.1 1 = τ.1 1 := hf.1 1 (by decide)
  have hn2 := hn1
  refine lv_pop hx hb dL_law_569 rfl ?_
  refine lv_goto (tgt := 843) hx hb dL_law_570 (by decide) ?_
  exact kk q1 σ1 τ1 H locs _ _ eq0 ⟨⟨hP, hD, hS⟩, ⟨l_C_up hC1 (by omega), hM1, hNc1, hn2⟩, ⟨by omega, by omega⟩, by omega, by omega⟩
end LC
