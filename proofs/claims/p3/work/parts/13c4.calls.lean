-- the law, call by call
section LC
variable {p : Program} {l : Launch} {e : Env} {s : State} {m : MethodId} {below : List Frame} {meth : Method} {c : Code} {g : gG} {A : Nat → Prop} {b L : Nat} {xs : Nat → Int32} {t1 t2 : Nat} {ls : Array Slot} {q q2 : Nat → Nat} {k : Nat} {σ τ : S0} {H : Heap} {locs : List Loc} {cells slots : Nat} {Q : State → Prop}
set_option maxRecDepth 100000 in
set_option maxHeartbeats 4000000 in
theorem law_from (C0 : l_H p s m meth c g A b L xs t1 t2) (I : l_I g A s q q2 k σ τ H locs cells slots) (hk : k + 6 ≤ L) (hL : L ≤ 3072) (hl : lv_has ls 4 [(3, .int (nI k)), (2, .ref (q2 0)), (1, .ref (q 0)), (0, .ref b)]) (kk : l_K p l e s m below meth c g A b q q2 k ls Q) : W p l e room_1 s m #[Value.ref b] below meth c H locs cells slots Q (F0 m 573 ls []) := by
  obtain ⟨⟨hP, hD, hS⟩, ⟨hC, hM, hNc, hNm⟩, ⟨cp0, cp1⟩, bc, bs⟩ := I
  obtain ⟨hx, hb, hml, hown, hts, hXs, hbl, hK, hN, hX, hA, hbA⟩ := C0
  have z200 : 16384 ≤ σ.1 200 ∧ σ.1 200 ≤ 1048576 := hC.1.1.1 200
  obtain ⟨In0, gm, ds⟩ := hC.2.2.1
  have z0 : 0 ≤ σ.1 0 := (hC.1.1.1 0).1
  refine lv_aload_n hx hb dL_law_573 rfl (lv_at hl 2 rfl) ?_
  obtain ⟨n1, e1⟩ : ∃ n, n = lw_x xs k 1 := ⟨_, rfl⟩
  obtain ⟨n2, e2⟩ : ∃ n, n = lw_x xs k 2 := ⟨_, rfl⟩
  obtain ⟨n3, e3⟩ : ∃ n, n = lw_x xs k 3 := ⟨_, rfl⟩
  refine lw_el (j := 1) hx hb hXs hbl hbA hS hl (by omega) hL dL_law_574 dL_law_575 dL_law_576 dL_law_577 dL_law_578 (by decide) e1 (fun r1 => ?_)
  refine lw_el (j := 2) hx hb hXs hbl hbA hS hl (by omega) hL dL_law_579 dL_law_580 dL_law_581 dL_law_582 dL_law_583 (by decide) e2 (fun r2 => ?_)
  refine lw_el (j := 3) hx hb hXs hbl hbA hS hl (by omega) hL dL_law_584 dL_law_585 dL_law_586 dL_law_587 dL_law_588 (by decide) e3 (fun r3 => ?_)
  have hPc := cm_P hP
  have hDc := cm_D hD
  refine xci (wc := CX g q (L2 σ) σ) (wr := MX g q2 0 τ) (va_runV (As := [.int (I n1), .int (I n2), .int (I n3)]) (rest := []) ⟨hx, hb, hml, hown, hts⟩ (L_X12_from l g q (L2 σ) (l_lb hC) r1 r2 r3 hNc (K_X12_from hC.1.1 (J_rw_of hC.1.2.2.2.2.2.2.2.2.2.2.2.1 (hC.1.1.1 15).2)) H.size) (cwV 3 hts (TB_V tw_1500 tw_1501 tw_1502 tw_1 co_X12_from) rfl rfl rfl (by decide +kernel) ⟨Nat.le_of_ble_eq_true rfl, Nat.le_of_ble_eq_true rfl⟩) (preV (q0 := 0) (ci := 12) rfl xT_bl hPc hK hN hDc rfl rfl xT_at) rfl rfl hl.1 rfl (lv_room (Nat.le_of_ble_eq_true rfl)) dL_law_589 ⟨by show cells + 0 ≤ 139280; omega, by show slots + 0 ≤ 8684410; omega⟩) hP hD hS hA cm_i cm_r cm_C cm_R cm_nd cm_d (fun r w1 H locs hw hP hD hS => ?_)
  obtain ⟨x, rxx, rfl, rfl, hq⟩ := hw
  obtain ⟨σ1, es⟩ : ∃ σ1, σ1 = σ := ⟨σ, rfl⟩; rw [← es] at hP hD; have hC1 := hC; rw [← es] at hC1; have hn1 := hNc; rw [← es] at hn1; have fa0 : σ1.1 0 = σ.1 0 := by rw [es]
  have fa1 : σ1.1 1 = σ.1 1 := by rw [es]
  have w200 : σ1.1 200 = σ.1 200 := by rw [es]
  obtain ⟨q1, eq1⟩ : ∃ q1, q1 = q := ⟨q, rfl⟩; rw [← eq1] at hP hD; have eq0 : q1 0 = q 0 := by rw [eq1]
  obtain ⟨cells1, ec1⟩ : ∃ c1 : Nat, c1 = cells + 0 := ⟨_, rfl⟩; obtain ⟨slots1, es1⟩ : ∃ c1 : Nat, c1 = slots + 0 := ⟨_, rfl⟩; rw [← ec1, ← es1]
  have hNc1 := hn1
  refine lv_pop hx hb dL_law_592 rfl ?_
  refine lv_aload_n hx hb dL_law_593 rfl (lv_at hl 1 rfl) ?_
  refine lw_el (j := 1) hx hb hXs hbl hbA hS hl (by omega) hL dL_law_594 dL_law_595 dL_law_596 dL_law_597 dL_law_598 (by decide) e1 (fun r1 => ?_)
  refine lw_el (j := 2) hx hb hXs hbl hbA hS hl (by omega) hL dL_law_599 dL_law_600 dL_law_601 dL_law_602 dL_law_603 (by decide) e2 (fun r2 => ?_)
  refine lw_el (j := 3) hx hb hXs hbl hbA hS hl (by omega) hL dL_law_604 dL_law_605 dL_law_606 dL_law_607 dL_law_608 (by decide) e3 (fun r3 => ?_)
  have hPc := mc_P hP
  have hDc := mc_D hD
  refine xci (wc := MX g q2 0 τ) (wr := CX g q1 (L2 σ1) σ1) (va_runV (As := [.int (I n1), .int (I n2), .int (I n3)]) (rest := []) ⟨hx, hb, hml, hown, hts⟩ (L_X13_from l g q2 0 (by decide) r1 r2 r3 hNm (K3_X13_from hM.1.1 r1 r2 r3 hM.1.2.2.2.2.2.2.2.2.2.2.2.2.2.2 hM.1.2.2.2.2.2.2.2.2.2.1 hM.2.2.2.1) H.size) (cwV 3 hts (TB_V tw_2873 tw_2874 tw_2875 tw_15 co_X13_from) rfl rfl rfl (by decide +kernel) ⟨Nat.le_of_ble_eq_true rfl, Nat.le_of_ble_eq_true rfl⟩) (preV (q0 := 0) (ci := 13) rfl xT_bl hPc hK hN hDc rfl rfl xT_at) rfl rfl hl.1 rfl (lv_room (Nat.le_of_ble_eq_true rfl)) dL_law_609 ⟨by show cells1 + 0 ≤ 139280; omega, by show slots1 + 0 ≤ 8684410; omega⟩) hP hD hS hA mc_i mc_r mc_C mc_R mc_nd mc_d (fun r w1 H locs hw hP hD hS => ?_)
  obtain ⟨y, τ1, rxy, rfl, hn1, hf, rfl, hq⟩ := hw
  obtain ⟨hT1, b1⟩ := hq
  have hM1 := l_M_from hM hT1 hf b1
  have fb0 : τ1.1 0 = τ.1 0 := hf.1 0 (by decide)
  have fb1 : τ1.1 1 = τ.1 1 := hf.1 1 (by decide)
  have hn2 := hn1
  refine lv_pop hx hb dL_law_612 rfl ?_
  refine lv_goto (tgt := 843) hx hb dL_law_613 (by decide) ?_
  exact kk q1 σ1 τ1 H locs _ _ eq0 ⟨⟨hP, hD, hS⟩, ⟨l_C_up hC1 (by omega), hM1, hNc1, hn2⟩, ⟨by omega, by omega⟩, by omega, by omega⟩
set_option maxRecDepth 100000 in
set_option maxHeartbeats 4000000 in
theorem law_rests (C0 : l_H p s m meth c g A b L xs t1 t2) (I : l_I g A s q q2 k σ τ H locs cells slots) (hk : k + 6 ≤ L) (hL : L ≤ 3072) (hl : lv_has ls 4 [(3, .int (nI k)), (2, .ref (q2 0)), (1, .ref (q 0)), (0, .ref b)]) (kk : l_K p l e s m below meth c g A b q q2 k ls Q) : W p l e room_1 s m #[Value.ref b] below meth c H locs cells slots Q (F0 m 616 ls []) := by
  obtain ⟨⟨hP, hD, hS⟩, ⟨hC, hM, hNc, hNm⟩, ⟨cp0, cp1⟩, bc, bs⟩ := I
  obtain ⟨hx, hb, hml, hown, hts, hXs, hbl, hK, hN, hX, hA, hbA⟩ := C0
  have z200 : 16384 ≤ σ.1 200 ∧ σ.1 200 ≤ 1048576 := hC.1.1.1 200
  obtain ⟨In0, gm, ds⟩ := hC.2.2.1
  have z0 : 0 ≤ σ.1 0 := (hC.1.1.1 0).1
  refine lv_aload_n hx hb dL_law_616 rfl (lv_at hl 2 rfl) ?_
  obtain ⟨n1, e1⟩ : ∃ n, n = lw_x xs k 1 := ⟨_, rfl⟩
  obtain ⟨n2, e2⟩ : ∃ n, n = lw_x xs k 2 := ⟨_, rfl⟩
  refine lw_el (j := 1) hx hb hXs hbl hbA hS hl (by omega) hL dL_law_617 dL_law_618 dL_law_619 dL_law_620 dL_law_621 (by decide) e1 (fun r1 => ?_)
  refine lw_el (j := 2) hx hb hXs hbl hbA hS hl (by omega) hL dL_law_622 dL_law_623 dL_law_624 dL_law_625 dL_law_626 (by decide) e2 (fun r2 => ?_)
  have hPc := cm_P hP
  have hDc := cm_D hD
  refine xci (wc := CX g q (L2 σ) σ) (wr := MX g q2 0 τ) (va_runV (As := [.int (I n1), .int (I n2)]) (rest := []) ⟨hx, hb, hml, hown, hts⟩ (L_X12_rests l g q (L2 σ) (l_lb hC) r1 r2 hNc (K_X12_rests hC.1.1) H.size) (cwV 2 hts (TB_V tw_1508 tw_1509 tw_1510 tw_1 co_X12_rests) rfl rfl rfl (by decide +kernel) ⟨Nat.le_of_ble_eq_true rfl, Nat.le_of_ble_eq_true rfl⟩) (preV (q0 := 0) (ci := 12) rfl xT_bl hPc hK hN hDc rfl rfl xT_at) rfl rfl hl.1 rfl (lv_room (Nat.le_of_ble_eq_true rfl)) dL_law_627 ⟨by show cells + 0 ≤ 139280; omega, by show slots + 0 ≤ 8684410; omega⟩) hP hD hS hA cm_i cm_r cm_C cm_R cm_nd cm_d (fun r w1 H locs hw hP hD hS => ?_)
  obtain ⟨x, rxx, rfl, rfl, hq⟩ := hw
  obtain ⟨σ1, es⟩ : ∃ σ1, σ1 = σ := ⟨σ, rfl⟩; rw [← es] at hP hD; have hC1 := hC; rw [← es] at hC1; have hn1 := hNc; rw [← es] at hn1; have fa0 : σ1.1 0 = σ.1 0 := by rw [es]
  have fa1 : σ1.1 1 = σ.1 1 := by rw [es]
  have w200 : σ1.1 200 = σ.1 200 := by rw [es]
  obtain ⟨q1, eq1⟩ : ∃ q1, q1 = q := ⟨q, rfl⟩; rw [← eq1] at hP hD; have eq0 : q1 0 = q 0 := by rw [eq1]
  obtain ⟨cells1, ec1⟩ : ∃ c1 : Nat, c1 = cells + 0 := ⟨_, rfl⟩; obtain ⟨slots1, es1⟩ : ∃ c1 : Nat, c1 = slots + 0 := ⟨_, rfl⟩; rw [← ec1, ← es1]
  have hNc1 := hn1
  refine lv_pop hx hb dL_law_630 rfl ?_
  refine lv_aload_n hx hb dL_law_631 rfl (lv_at hl 1 rfl) ?_
  refine lw_el (j := 1) hx hb hXs hbl hbA hS hl (by omega) hL dL_law_632 dL_law_633 dL_law_634 dL_law_635 dL_law_636 (by decide) e1 (fun r1 => ?_)
  refine lw_el (j := 2) hx hb hXs hbl hbA hS hl (by omega) hL dL_law_637 dL_law_638 dL_law_639 dL_law_640 dL_law_641 (by decide) e2 (fun r2 => ?_)
  have hPc := mc_P hP
  have hDc := mc_D hD
  refine xci (wc := MX g q2 0 τ) (wr := CX g q1 (L2 σ1) σ1) (va_runV (As := [.int (I n1), .int (I n2)]) (rest := []) ⟨hx, hb, hml, hown, hts⟩ (L_X13_rests l g q2 0 (by decide) r1 r2 hNm (K_X13_rests hM.1.1 r1 r2) H.size) (cwV 2 hts (TB_V tw_2881 tw_2882 tw_2883 tw_15 co_X13_rests) rfl rfl rfl (by decide +kernel) ⟨Nat.le_of_ble_eq_true rfl, Nat.le_of_ble_eq_true rfl⟩) (preV (q0 := 0) (ci := 13) rfl xT_bl hPc hK hN hDc rfl rfl xT_at) rfl rfl hl.1 rfl (lv_room (Nat.le_of_ble_eq_true rfl)) dL_law_642 ⟨by show cells1 + 0 ≤ 139280; omega, by show slots1 + 0 ≤ 8684410; omega⟩) hP hD hS hA mc_i mc_r mc_C mc_R mc_nd mc_d (fun r w1 H locs hw hP hD hS => ?_)
  obtain ⟨y, rxy, rfl, rfl, hq⟩ := hw
  obtain ⟨τ1, es⟩ : ∃ τ1, τ1 = τ := ⟨τ, rfl⟩; rw [← es] at hP hD; have hM1 := hM; rw [← es] at hM1; have hn2 := hNm; rw [← es] at hn2; have fb0 : τ1.1 0 = τ.1 0 := by rw [es]
  have fb1 : τ1.1 1 = τ.1 1 := by rw [es]
  refine lv_pop hx hb dL_law_645 rfl ?_
  refine lv_goto (tgt := 843) hx hb dL_law_646 (by decide) ?_
  exact kk q1 σ1 τ1 H locs _ _ eq0 ⟨⟨hP, hD, hS⟩, ⟨l_C_up hC1 (by omega), hM1, hNc1, hn2⟩, ⟨by omega, by omega⟩, by omega, by omega⟩
set_option maxRecDepth 100000 in
set_option maxHeartbeats 4000000 in
theorem law_size (C0 : l_H p s m meth c g A b L xs t1 t2) (I : l_I g A s q q2 k σ τ H locs cells slots) (hk : k + 6 ≤ L) (hL : L ≤ 3072) (hl : lv_has ls 4 [(3, .int (nI k)), (2, .ref (q2 0)), (1, .ref (q 0)), (0, .ref b)]) (kk : l_K p l e s m below meth c g A b q q2 k ls Q) : W p l e room_1 s m #[Value.ref b] below meth c H locs cells slots Q (F0 m 649 ls []) := by
  obtain ⟨⟨hP, hD, hS⟩, ⟨hC, hM, hNc, hNm⟩, ⟨cp0, cp1⟩, bc, bs⟩ := I
  obtain ⟨hx, hb, hml, hown, hts, hXs, hbl, hK, hN, hX, hA, hbA⟩ := C0
  have z200 : 16384 ≤ σ.1 200 ∧ σ.1 200 ≤ 1048576 := hC.1.1.1 200
  obtain ⟨In0, gm, ds⟩ := hC.2.2.1
  have z0 : 0 ≤ σ.1 0 := (hC.1.1.1 0).1
  refine lv_aload_n hx hb dL_law_649 rfl (lv_at hl 2 rfl) ?_
  obtain ⟨n1, e1⟩ : ∃ n, n = lw_x xs k 1 := ⟨_, rfl⟩
  refine lw_el (j := 1) hx hb hXs hbl hbA hS hl (by omega) hL dL_law_650 dL_law_651 dL_law_652 dL_law_653 dL_law_654 (by decide) e1 (fun r1 => ?_)
  have hPc := cm_P hP
  have hDc := cm_D hD
  refine xcl (wc := CX g q (L2 σ) σ) (wr := MX g q2 0 τ) (va_runV (As := [.int (I n1)]) (rest := []) ⟨hx, hb, hml, hown, hts⟩ (L_X12_size l g q (L2 σ) (l_lb hC) r1 hNc (K_X12_size hC.1.1 (J_rw_of hC.1.2.2.2.2.2.2.2.2.2.2.2.1 (hC.1.1.1 15).2)) H.size) (cwV 1 hts (TB_V tw_1513 tw_1514 tw_1515 tw_1 co_X12_size) rfl rfl rfl (by decide +kernel) ⟨Nat.le_of_ble_eq_true rfl, Nat.le_of_ble_eq_true rfl⟩) (preV (q0 := 0) (ci := 12) rfl xT_bl hPc hK hN hDc rfl rfl xT_at) rfl rfl hl.1 rfl (lv_room (Nat.le_of_ble_eq_true rfl)) dL_law_655 ⟨by show cells + 0 ≤ 139280; omega, by show slots + 0 ≤ 8684410; omega⟩) hP hD hS hA cm_i cm_r cm_C cm_R cm_nd cm_d (fun r w1 H locs hw hP hD hS => ?_)
  obtain ⟨rfl, hq⟩ := hw
  obtain ⟨σ1, es⟩ : ∃ σ1, σ1 = σ := ⟨σ, rfl⟩; rw [← es] at hP hD; have hC1 := hC; rw [← es] at hC1; have hn1 := hNc; rw [← es] at hn1; have fa0 : σ1.1 0 = σ.1 0 := by rw [es]
  have fa1 : σ1.1 1 = σ.1 1 := by rw [es]
  have w200 : σ1.1 200 = σ.1 200 := by rw [es]
  obtain ⟨q1, eq1⟩ : ∃ q1, q1 = q := ⟨q, rfl⟩; rw [← eq1] at hP hD; have eq0 : q1 0 = q 0 := by rw [eq1]
  obtain ⟨cells1, ec1⟩ : ∃ c1 : Nat, c1 = cells + 0 := ⟨_, rfl⟩; obtain ⟨slots1, es1⟩ : ∃ c1 : Nat, c1 = slots + 0 := ⟨_, rfl⟩; rw [← ec1, ← es1]
  have hNc1 := hn1
  refine lv_pop2_2 hx hb dL_law_658 rfl ?_
  refine lv_aload_n hx hb dL_law_659 rfl (lv_at hl 1 rfl) ?_
  refine lw_el (j := 1) hx hb hXs hbl hbA hS hl (by omega) hL dL_law_660 dL_law_661 dL_law_662 dL_law_663 dL_law_664 (by decide) e1 (fun r1 => ?_)
  have hPc := mc_P hP
  have hDc := mc_D hD
  refine xcl (wc := MX g q2 0 τ) (wr := CX g q1 (L2 σ1) σ1) (va_runV (As := [.int (I n1)]) (rest := []) ⟨hx, hb, hml, hown, hts⟩ (L_X13_size l g q2 0 (by decide) r1 hNm (K3_X13_size hM.1.1 r1 hM.1.2.2.2.2.2.2.2.2.2.2.2.2.2.2 hM.1.2.2.2.2.2.2.2.2.2.1 hM.2.2.2.1) H.size) (cwV 1 hts (TB_V tw_2885 tw_2886 tw_2887 tw_15 co_X13_size) rfl rfl rfl (by decide +kernel) ⟨Nat.le_of_ble_eq_true rfl, Nat.le_of_ble_eq_true rfl⟩) (preV (q0 := 0) (ci := 13) rfl xT_bl hPc hK hN hDc rfl rfl xT_at) rfl rfl hl.1 rfl (lv_room (Nat.le_of_ble_eq_true rfl)) dL_law_665 ⟨by show cells1 + 0 ≤ 139280; omega, by show slots1 + 0 ≤ 8684410; omega⟩) hP hD hS hA mc_i mc_r mc_C mc_R mc_nd mc_d (fun r w1 H locs hw hP hD hS => ?_)
  obtain ⟨τ1, hn1, hf, rfl, hq⟩ := hw
  obtain ⟨hT1, b1⟩ := hq
  have hM1 := l_M_size hM hT1 hf b1
  have fb0 : τ1.1 0 = τ.1 0 := hf.1 0 (by decide)
  have fb1 : τ1.1 1 = τ.1 1 := hf.1 1 (by decide)
  have hn2 := hn1
  refine lv_pop2_2 hx hb dL_law_668 rfl ?_
  refine lv_goto (tgt := 843) hx hb dL_law_669 (by decide) ?_
  exact kk q1 σ1 τ1 H locs _ _ eq0 ⟨⟨hP, hD, hS⟩, ⟨l_C_up hC1 (by omega), hM1, hNc1, hn2⟩, ⟨by omega, by omega⟩, by omega, by omega⟩
set_option maxRecDepth 100000 in
set_option maxHeartbeats 4000000 in
theorem law_print (C0 : l_H p s m meth c g A b L xs t1 t2) (I : l_I g A s q q2 k σ τ H locs cells slots) (hk : k + 6 ≤ L) (hL : L ≤ 3072) (hl : lv_has ls 4 [(3, .int (nI k)), (2, .ref (q2 0)), (1, .ref (q 0)), (0, .ref b)]) (kk : l_K p l e s m below meth c g A b q q2 k ls Q) : W p l e room_1 s m #[Value.ref b] below meth c H locs cells slots Q (F0 m 672 ls []) := by
  obtain ⟨⟨hP, hD, hS⟩, ⟨hC, hM, hNc, hNm⟩, ⟨cp0, cp1⟩, bc, bs⟩ := I
  obtain ⟨hx, hb, hml, hown, hts, hXs, hbl, hK, hN, hX, hA, hbA⟩ := C0
  have z200 : 16384 ≤ σ.1 200 ∧ σ.1 200 ≤ 1048576 := hC.1.1.1 200
  obtain ⟨In0, gm, ds⟩ := hC.2.2.1
  have z0 : 0 ≤ σ.1 0 := (hC.1.1.1 0).1
  refine lv_aload_n hx hb dL_law_672 rfl (lv_at hl 2 rfl) ?_
  obtain ⟨n1, e1⟩ : ∃ n, n = lw_x xs k 1 := ⟨_, rfl⟩
  obtain ⟨n2, e2⟩ : ∃ n, n = lw_x xs k 2 := ⟨_, rfl⟩
  obtain ⟨n3, e3⟩ : ∃ n, n = lw_x xs k 3 := ⟨_, rfl⟩
  refine lw_el (j := 1) hx hb hXs hbl hbA hS hl (by omega) hL dL_law_673 dL_law_674 dL_law_675 dL_law_676 dL_law_677 (by decide) e1 (fun r1 => ?_)
  refine lw_el (j := 2) hx hb hXs hbl hbA hS hl (by omega) hL dL_law_678 dL_law_679 dL_law_680 dL_law_681 dL_law_682 (by decide) e2 (fun r2 => ?_)
  refine lw_el (j := 3) hx hb hXs hbl hbA hS hl (by omega) hL dL_law_683 dL_law_684 dL_law_685 dL_law_686 dL_law_687 (by decide) e3 (fun r3 => ?_)
  have hPc := cm_P hP
  have hDc := cm_D hD
  refine xcB (wc := CX g q (L2 σ) σ) (wr := MX g q2 0 τ) (run2V (As := [.int (I n1), .int (I n2), .int (I n3)]) (rest := []) ⟨hx, hb, hml, hown, hts⟩ (L_X12_print l g t1 t2 q r1 r2 r3 hNc (K_X12_print (In0 := In0) hC.1.1 hC.1.2.2.2.2.2.2.2.2.2.2.2.1 hC.1.2.1 hC.1.2.2.1 hC.1.2.2.2.1 hC.1.2.2.2.2.2.1 hC.1.2.2.2.2.2.2.2.2.2.2.2.2.1 gm ds hC.2.2.2.1) H.size) (cwV 3 hts (TB_V tw_1524 tw_1525 tw_1526 tw_1 co_X12_print) rfl rfl rfl (by decide +kernel) ⟨Nat.le_of_ble_eq_true rfl, Nat.le_of_ble_eq_true rfl⟩) (preV (q0 := 0) (ci := 12) rfl sX_bl hPc hK hN hDc rfl rfl (sX_call hX hS (va_free (wc := CX g q (L2 σ) σ) hD hS hA cm_i cm_C))) rfl rfl hl.1 rfl (lv_room (Nat.le_of_ble_eq_true rfl)) dL_law_688 ⟨by show cells + b_c σ ≤ 139280; unfold b_c; omega, by show slots + b_s σ ≤ 8684410; unfold b_s; omega⟩) hP hD hS hA cm_i cm_r cm_C cm_R cm_nd cm_d (fun k9 n9 r w1 H locs hk9 hn9 hw hP hD hS => ?_)
  obtain ⟨x, ra, σ1, rxx, rfl, hn1, hf, rfl, hkn, hq⟩ := hw
  obtain ⟨hT1, a1, a2, a3⟩ := hq
  have hC1 := l_C_print hC hT1 hf a1 a2 a3
  have fa0 : σ1.1 0 = σ.1 0 := hf.1 0 (by decide)
  have fa1 : σ1.1 1 = σ.1 1 := hf.1 1 (by decide)
  obtain ⟨q1, eq1⟩ : ∃ q1, q1 = qn q ra := ⟨_, rfl⟩; rw [← eq1] at hP hD; have eq0 : q1 0 = q 0 := by rw [eq1]; rfl
  have z201 : 16384 ≤ σ1.1 200 ∧ σ1.1 200 ≤ 1048576 := hT1.1 200
  obtain ⟨cells1, ec1⟩ : ∃ c1 : Nat, c1 = cells + k9 := ⟨_, rfl⟩; obtain ⟨slots1, es1⟩ : ∃ c1 : Nat, c1 = slots + n9 := ⟨_, rfl⟩; rw [← ec1, ← es1]
  have hNc1 := hn1
  refine lv_pop hx hb dL_law_691 rfl ?_
  refine lv_aload_n hx hb dL_law_692 rfl (lv_at hl 1 rfl) ?_
  refine lw_el (j := 1) hx hb hXs hbl hbA hS hl (by omega) hL dL_law_693 dL_law_694 dL_law_695 dL_law_696 dL_law_697 (by decide) e1 (fun r1 => ?_)
  refine lw_el (j := 2) hx hb hXs hbl hbA hS hl (by omega) hL dL_law_698 dL_law_699 dL_law_700 dL_law_701 dL_law_702 (by decide) e2 (fun r2 => ?_)
  refine lw_el (j := 3) hx hb hXs hbl hbA hS hl (by omega) hL dL_law_703 dL_law_704 dL_law_705 dL_law_706 dL_law_707 (by decide) e3 (fun r3 => ?_)
  have hPc := mc_P hP
  have hDc := mc_D hD
  refine xci (wc := MX g q2 0 τ) (wr := CX g q1 (L2 σ1) σ1) (va_runV (As := [.int (I n1), .int (I n2), .int (I n3)]) (rest := []) ⟨hx, hb, hml, hown, hts⟩ (L_X13_print l g q2 0 (by decide) r1 r2 r3 hNm (K_X13_print hM.1.1 r1 r2 r3 hM.1.2.2.2.2.2.1 hM.1.2.2.2.2.2.2.2.2.2.2.2.2.1.1.1.1 hM.2.1 hM.1.2.2.2.2.2.2.1 hM.2.2.2.1 hM.2.2.2.2.1) H.size) (cwV 3 hts (TB_V tw_3051 tw_3052 tw_3053 tw_15 co_X13_print) rfl rfl rfl (by decide +kernel) ⟨Nat.le_of_ble_eq_true rfl, Nat.le_of_ble_eq_true rfl⟩) (preV (q0 := 0) (ci := 13) rfl xT_bl hPc hK hN hDc rfl rfl xT_at) rfl rfl hl.1 rfl (lv_room (Nat.le_of_ble_eq_true rfl)) dL_law_708 ⟨by show cells1 + 0 ≤ 139280; omega, by show slots1 + 0 ≤ 8684410; omega⟩) hP hD hS hA mc_i mc_r mc_C mc_R mc_nd mc_d (fun r w1 H locs hw hP hD hS => ?_)
  obtain ⟨y, τ1, rxy, rfl, hn1, hf, rfl, hq⟩ := hw
  obtain ⟨hT1, b1, b2, b3⟩ := hq
  have hM1 := l_M_print hM hT1 hf b1 b2 b3
  have fb0 : τ1.1 0 = τ.1 0 := hf.1 0 (by decide)
  have fb1 : τ1.1 1 = τ.1 1 := hf.1 1 (by decide)
  have hn2 := hn1
  refine lv_pop hx hb dL_law_711 rfl ?_
  refine lv_goto (tgt := 843) hx hb dL_law_712 (by decide) ?_
  exact kk q1 σ1 τ1 H locs _ _ eq0 ⟨⟨hP, hD, hS⟩, ⟨l_C_up hC1 (by omega), hM1, hNc1, hn2⟩, ⟨by omega, by omega⟩, by omega, by omega⟩
set_option maxRecDepth 100000 in
set_option maxHeartbeats 4000000 in
theorem law_character (C0 : l_H p s m meth c g A b L xs t1 t2) (I : l_I g A s q q2 k σ τ H locs cells slots) (hk : k + 6 ≤ L) (hL : L ≤ 3072) (hl : lv_has ls 4 [(3, .int (nI k)), (2, .ref (q2 0)), (1, .ref (q 0)), (0, .ref b)]) (kk : l_K p l e s m below meth c g A b q q2 k ls Q) : W p l e room_1 s m #[Value.ref b] below meth c H locs cells slots Q (F0 m 715 ls []) := by
  obtain ⟨⟨hP, hD, hS⟩, ⟨hC, hM, hNc, hNm⟩, ⟨cp0, cp1⟩, bc, bs⟩ := I
  obtain ⟨hx, hb, hml, hown, hts, hXs, hbl, hK, hN, hX, hA, hbA⟩ := C0
  have z200 : 16384 ≤ σ.1 200 ∧ σ.1 200 ≤ 1048576 := hC.1.1.1 200
  obtain ⟨In0, gm, ds⟩ := hC.2.2.1
  have z0 : 0 ≤ σ.1 0 := (hC.1.1.1 0).1
  refine lv_aload_n hx hb dL_law_715 rfl (lv_at hl 2 rfl) ?_
  obtain ⟨n1, e1⟩ : ∃ n, n = lw_x xs k 1 := ⟨_, rfl⟩
  refine lw_el (j := 1) hx hb hXs hbl hbA hS hl (by omega) hL dL_law_716 dL_law_717 dL_law_718 dL_law_719 dL_law_720 (by decide) e1 (fun r1 => ?_)
  have hPc := cm_P hP
  have hDc := cm_D hD
  refine xci (wc := CX g q (L2 σ) σ) (wr := MX g q2 0 τ) (va_runV (As := [.int (I n1)]) (rest := []) ⟨hx, hb, hml, hown, hts⟩ (L_X12_character l g q (L2 σ) (l_lb hC) r1 hNc (K_X12_character hC.1.1) H.size) (cwV 1 hts (TB_V tw_1888 tw_1889 tw_1890 tw_1 co_X12_character) rfl rfl rfl (by decide +kernel) ⟨Nat.le_of_ble_eq_true rfl, Nat.le_of_ble_eq_true rfl⟩) (preV (q0 := 0) (ci := 12) rfl xT_bl hPc hK hN hDc rfl rfl xT_at) rfl rfl hl.1 rfl (lv_room (Nat.le_of_ble_eq_true rfl)) dL_law_721 ⟨by show cells + 0 ≤ 139280; omega, by show slots + 0 ≤ 8684410; omega⟩) hP hD hS hA cm_i cm_r cm_C cm_R cm_nd cm_d (fun r w1 H locs hw hP hD hS => ?_)
  obtain ⟨x, rxx, rfl, rfl, hq⟩ := hw
  obtain ⟨σ1, es⟩ : ∃ σ1, σ1 = σ := ⟨σ, rfl⟩; rw [← es] at hP hD; have hC1 := hC; rw [← es] at hC1; have hn1 := hNc; rw [← es] at hn1; have fa0 : σ1.1 0 = σ.1 0 := by rw [es]
  have fa1 : σ1.1 1 = σ.1 1 := by rw [es]
  have w200 : σ1.1 200 = σ.1 200 := by rw [es]
  obtain ⟨q1, eq1⟩ : ∃ q1, q1 = q := ⟨q, rfl⟩; rw [← eq1] at hP hD; have eq0 : q1 0 = q 0 := by rw [eq1]
  obtain ⟨cells1, ec1⟩ : ∃ c1 : Nat, c1 = cells + 0 := ⟨_, rfl⟩; obtain ⟨slots1, es1⟩ : ∃ c1 : Nat, c1 = slots + 0 := ⟨_, rfl⟩; rw [← ec1, ← es1]
  have hNc1 := hn1
  refine lv_pop hx hb dL_law_724 rfl ?_
  refine lv_aload_n hx hb dL_law_725 rfl (lv_at hl 1 rfl) ?_
  refine lw_el (j := 1) hx hb hXs hbl hbA hS hl (by omega) hL dL_law_726 dL_law_727 dL_law_728 dL_law_729 dL_law_730 (by decide) e1 (fun r1 => ?_)
  have hPc := mc_P hP
  have hDc := mc_D hD
  refine xci (wc := MX g q2 0 τ) (wr := CX g q1 (L2 σ1) σ1) (va_runV (As := [.int (I n1)]) (rest := []) ⟨hx, hb, hml, hown, hts⟩ (L_X13_character l g q2 0 (by decide) r1 hNm (K_X13_character hM.1.1 r1) H.size) (cwV 1 hts (TB_V tw_2896 tw_2897 tw_2898 tw_15 co_X13_character) rfl rfl rfl (by decide +kernel) ⟨Nat.le_of_ble_eq_true rfl, Nat.le_of_ble_eq_true rfl⟩) (preV (q0 := 0) (ci := 13) rfl xT_bl hPc hK hN hDc rfl rfl xT_at) rfl rfl hl.1 rfl (lv_room (Nat.le_of_ble_eq_true rfl)) dL_law_731 ⟨by show cells1 + 0 ≤ 139280; omega, by show slots1 + 0 ≤ 8684410; omega⟩) hP hD hS hA mc_i mc_r mc_C mc_R mc_nd mc_d (fun r w1 H locs hw hP hD hS => ?_)
  obtain ⟨y, rxy, rfl, rfl, hq⟩ := hw
  obtain ⟨τ1, es⟩ : ∃ τ1, τ1 = τ := ⟨τ, rfl⟩; rw [← es] at hP hD; have hM1 := hM; rw [← es] at hM1; have hn2 := hNm; rw [← es] at hn2; have fb0 : τ1.1 0 = τ.1 0 := by rw [es]
  have fb1 : τ1.1 1 = τ.1 1 := by rw [es]
  refine lv_pop hx hb dL_law_734 rfl ?_
  refine lv_goto (tgt := 843) hx hb dL_law_735 (by decide) ?_
  exact kk q1 σ1 τ1 H locs _ _ eq0 ⟨⟨hP, hD, hS⟩, ⟨l_C_up hC1 (by omega), hM1, hNc1, hn2⟩, ⟨by omega, by omega⟩, by omega, by omega⟩
end LC
