-- the law, call by call
section LC
variable {p : Program} {l : Launch} {e : Env} {s : State} {m : MethodId} {below : List Frame} {meth : Method} {c : Code} {g : gG} {A : Nat → Prop} {b L : Nat} {xs : Nat → Int32} {t1 t2 : Nat} {ls : Array Slot} {q q2 : Nat → Nat} {k : Nat} {σ τ : S0} {H : Heap} {locs : List Loc} {cells slots : Nat} {Q : State → Prop}
set_option maxRecDepth 100000 in
set_option maxHeartbeats 4000000 in
theorem law_trees (C0 : l_H p s m meth c g A b L xs t1 t2) (I : l_I g A s q q2 k σ τ H locs cells slots) (hk : k + 6 ≤ L) (hL : L ≤ 3072) (hl : lv_has ls 4 [(3, .int (nI k)), (2, .ref (q2 0)), (1, .ref (q 0)), (0, .ref b)]) (kk : l_K p l e s m below meth c g A b q q2 k ls Q) : W p l e room_1 s m #[Value.ref b] below meth c H locs cells slots Q (F0 m 738 ls []) := by
  obtain ⟨⟨hP, hD, hS⟩, ⟨hC, hM, hNc, hNm⟩, ⟨cp0, cp1⟩, bc, bs⟩ := I
  obtain ⟨hx, hb, hml, hown, hts, hXs, hbl, hK, hN, hX, hA, hbA⟩ := C0
  have z200 : 16384 ≤ σ.1 200 ∧ σ.1 200 ≤ 1048576 := hC.1.1.1 200
  obtain ⟨In0, gm, ds⟩ := hC.2.2.1
  have z0 : 0 ≤ σ.1 0 := (hC.1.1.1 0).1
  refine lv_aload_n hx hb dL_law_738 rfl (lv_at hl 2 rfl) ?_
  obtain ⟨n1, e1⟩ : ∃ n, n = lw_x xs k 1 := ⟨_, rfl⟩
  refine lw_el (j := 1) hx hb hXs hbl hbA hS hl (by omega) hL dL_law_739 dL_law_740 dL_law_741 dL_law_742 dL_law_743 (by decide) e1 (fun r1 => ?_)
  have hPc := cm_P hP
  have hDc := cm_D hD
  refine xci (wc := CX g q (L2 σ) σ) (wr := MX g q2 0 τ) (va_runV (As := [.int (I n1)]) (rest := []) ⟨hx, hb, hml, hown, hts⟩ (L_X12_trees l g t1 t2 q (L2 σ) (l_lb hC) r1 hNc (K_X12_trees (In0 := In0) hC.1.1 hC.1.2.2.2.2.2.2.2.2.2.2.2.1 hC.1.2.1 hC.1.2.2.1 hC.1.2.2.2.1 hC.1.2.2.2.2.2.1 gm) H.size) (cwV 1 hts (TB_V tw_1896 tw_1897 tw_1898 tw_1 co_X12_trees) rfl rfl rfl (by decide +kernel) ⟨Nat.le_of_ble_eq_true rfl, Nat.le_of_ble_eq_true rfl⟩) (preV (q0 := 0) (ci := 12) rfl sX_bl hPc hK hN hDc rfl rfl (sX_call hX hS (va_free (wc := CX g q (L2 σ) σ) hD hS hA cm_i cm_C))) rfl rfl hl.1 rfl (lv_room (Nat.le_of_ble_eq_true rfl)) dL_law_744 ⟨by show cells + 0 ≤ 139280; omega, by show slots + 0 ≤ 8684410; omega⟩) hP hD hS hA cm_i cm_r cm_C cm_R cm_nd cm_d (fun r w1 H locs hw hP hD hS => ?_)
  obtain ⟨x, σ1, rxx, rfl, hn1, hf, rfl, hq⟩ := hw
  obtain ⟨hT1, a1⟩ := hq
  have hC1 := l_C_trees hC ds hT1 hf a1
  have fa0 : σ1.1 0 = σ.1 0 := hf.1 0 (by decide)
  have fa1 : σ1.1 1 = σ.1 1 := hf.1 1 (by decide)
  have w200 : σ1.1 200 = σ.1 200 := hf.1 200 (by decide)
  have eL : L2 σ1 = L2 σ := by unfold L2; rw [w200]
  rw [← eL] at hP hD
  obtain ⟨q1, eq1⟩ : ∃ q1, q1 = q := ⟨q, rfl⟩; rw [← eq1] at hP hD; have eq0 : q1 0 = q 0 := by rw [eq1]
  obtain ⟨cells1, ec1⟩ : ∃ c1 : Nat, c1 = cells + 0 := ⟨_, rfl⟩; obtain ⟨slots1, es1⟩ : ∃ c1 : Nat, c1 = slots + 0 := ⟨_, rfl⟩; rw [← ec1, ← es1]
  have hNc1 := hn1
  refine lv_pop hx hb dL_law_747 rfl ?_
  refine lv_aload_n hx hb dL_law_748 rfl (lv_at hl 1 rfl) ?_
  refine lw_el (j := 1) hx hb hXs hbl hbA hS hl (by omega) hL dL_law_749 dL_law_750 dL_law_751 dL_law_752 dL_law_753 (by decide) e1 (fun r1 => ?_)
  have hPc := mc_P hP
  have hDc := mc_D hD
  refine xci (wc := MX g q2 0 τ) (wr := CX g q1 (L2 σ1) σ1) (va_runV (As := [.int (I n1)]) (rest := []) ⟨hx, hb, hml, hown, hts⟩ (L_X13_trees l g q2 0 (by decide) r1 hNm (K_X13_trees hM.1.1 r1 hM.1.2.2.2.2.2.1 hM.1.2.2.2.2.2.2.2.2.2.2.2.2.2.2 hM.1.2.2.2.2.2.2.2.2.2.1 hM.1.2.2.2.2.2.2.2.2.2.2.2.2.1.1.1.1 hM.2.1.2.1 (by have := hM.2.1.2.2.2.2.1; omega) (by have := hM.2.1.2.2.2.2.2; omega) hM.2.1.1.1) H.size) (cwV 1 hts (TB_V tw_2900 tw_2901 tw_2902 tw_15 co_X13_trees) rfl rfl rfl (by decide +kernel) ⟨Nat.le_of_ble_eq_true rfl, Nat.le_of_ble_eq_true rfl⟩) (preV (q0 := 0) (ci := 13) rfl xT_bl hPc hK hN hDc rfl rfl xT_at) rfl rfl hl.1 rfl (lv_room (Nat.le_of_ble_eq_true rfl)) dL_law_754 ⟨by show cells1 + 0 ≤ 139280; omega, by show slots1 + 0 ≤ 8684410; omega⟩) hP hD hS hA mc_i mc_r mc_C mc_R mc_nd mc_d (fun r w1 H locs hw hP hD hS => ?_)
  obtain ⟨y, τ1, rxy, rfl, hn1, hf, rfl, hq⟩ := hw
  obtain ⟨hT1, b1, b2, b3, b4⟩ := hq
  have hM1 := l_M_trees hM hT1 hf b1 b2 b3 b4
  have fb0 : τ1.1 0 = τ.1 0 := hf.1 0 (by decide)
  have fb1 : τ1.1 1 = τ.1 1 := hf.1 1 (by decide)
  have hn2 := hn1
  refine lv_pop hx hb dL_law_757 rfl ?_
  refine lv_goto (tgt := 843) hx hb dL_law_758 (by decide) ?_
  exact kk q1 σ1 τ1 H locs _ _ eq0 ⟨⟨hP, hD, hS⟩, ⟨l_C_up hC1 (by omega), hM1, hNc1, hn2⟩, ⟨by omega, by omega⟩, by omega, by omega⟩
set_option maxRecDepth 100000 in
set_option maxHeartbeats 4000000 in
theorem law_equate (C0 : l_H p s m meth c g A b L xs t1 t2) (I : l_I g A s q q2 k σ τ H locs cells slots) (hk : k + 6 ≤ L) (hL : L ≤ 3072) (hl : lv_has ls 4 [(3, .int (nI k)), (2, .ref (q2 0)), (1, .ref (q 0)), (0, .ref b)]) (kk : l_K p l e s m below meth c g A b q q2 k ls Q) : W p l e room_1 s m #[Value.ref b] below meth c H locs cells slots Q (F0 m 761 ls []) := by
  obtain ⟨⟨hP, hD, hS⟩, ⟨hC, hM, hNc, hNm⟩, ⟨cp0, cp1⟩, bc, bs⟩ := I
  obtain ⟨hx, hb, hml, hown, hts, hXs, hbl, hK, hN, hX, hA, hbA⟩ := C0
  have z200 : 16384 ≤ σ.1 200 ∧ σ.1 200 ≤ 1048576 := hC.1.1.1 200
  obtain ⟨In0, gm, ds⟩ := hC.2.2.1
  have z0 : 0 ≤ σ.1 0 := (hC.1.1.1 0).1
  refine lv_aload_n hx hb dL_law_761 rfl (lv_at hl 2 rfl) ?_
  obtain ⟨n1, e1⟩ : ∃ n, n = lw_x xs k 1 := ⟨_, rfl⟩
  refine lw_el (j := 1) hx hb hXs hbl hbA hS hl (by omega) hL dL_law_762 dL_law_763 dL_law_764 dL_law_765 dL_law_766 (by decide) e1 (fun r1 => ?_)
  have hPc := cm_P hP
  have hDc := cm_D hD
  refine xci (wc := CX g q (L2 σ) σ) (wr := MX g q2 0 τ) (va_runV (As := [.int (I n1)]) (rest := []) ⟨hx, hb, hml, hown, hts⟩ (L_X12_equate l g t1 t2 q (L2 σ) (l_lb hC) r1 hNc (K_X12_equate (In0 := In0) hC.1.1 hC.1.2.2.2.2.2.2.2.2.2.2.2.1 hC.1.2.1 hC.1.2.2.1 hC.1.2.2.2.1 hC.1.2.2.2.2.2.1 gm hC.2.2.2.1.1 hC.2.2.2.1.2.1) H.size) (cwV 1 hts (TB_V tw_1900 tw_1901 tw_1902 tw_1 co_X12_equate) rfl rfl rfl (by decide +kernel) ⟨Nat.le_of_ble_eq_true rfl, Nat.le_of_ble_eq_true rfl⟩) (preV (q0 := 0) (ci := 12) rfl sX_bl hPc hK hN hDc rfl rfl (sX_call hX hS (va_free (wc := CX g q (L2 σ) σ) hD hS hA cm_i cm_C))) rfl rfl hl.1 rfl (lv_room (Nat.le_of_ble_eq_true rfl)) dL_law_767 ⟨by show cells + 0 ≤ 139280; omega, by show slots + 0 ≤ 8684410; omega⟩) hP hD hS hA cm_i cm_r cm_C cm_R cm_nd cm_d (fun r w1 H locs hw hP hD hS => ?_)
  obtain ⟨x, σ1, rxx, rfl, hn1, hf, rfl, hq⟩ := hw
  obtain ⟨hT1, a1, a2, a3⟩ := hq
  have hC1 := l_C_equate hC ds hT1 hf a1 a2 a3
  have fa0 : σ1.1 0 = σ.1 0 := hf.1 0 (by decide)
  have fa1 : σ1.1 1 = σ.1 1 := hf.1 1 (by decide)
  have w200 : σ1.1 200 = σ.1 200 := hf.1 200 (by decide)
  have eL : L2 σ1 = L2 σ := by unfold L2; rw [w200]
  rw [← eL] at hP hD
  obtain ⟨q1, eq1⟩ : ∃ q1, q1 = q := ⟨q, rfl⟩; rw [← eq1] at hP hD; have eq0 : q1 0 = q 0 := by rw [eq1]
  obtain ⟨cells1, ec1⟩ : ∃ c1 : Nat, c1 = cells + 0 := ⟨_, rfl⟩; obtain ⟨slots1, es1⟩ : ∃ c1 : Nat, c1 = slots + 0 := ⟨_, rfl⟩; rw [← ec1, ← es1]
  have hNc1 := hn1
  refine lv_pop hx hb dL_law_770 rfl ?_
  refine lv_aload_n hx hb dL_law_771 rfl (lv_at hl 1 rfl) ?_
  refine lw_el (j := 1) hx hb hXs hbl hbA hS hl (by omega) hL dL_law_772 dL_law_773 dL_law_774 dL_law_775 dL_law_776 (by decide) e1 (fun r1 => ?_)
  have hPc := mc_P hP
  have hDc := mc_D hD
  refine xci (wc := MX g q2 0 τ) (wr := CX g q1 (L2 σ1) σ1) (va_runV (As := [.int (I n1)]) (rest := []) ⟨hx, hb, hml, hown, hts⟩ (L_X13_equate l g q2 0 (by decide) r1 hNm (K3_X13_equate hM.1.1 r1 hM.1.2.2.2.2.2.2.2.2.2.2.2.2.2.2 hM.2.1.1.2.2.2.2 hM.2.1.1.2.2.2.1) H.size) (cwV 1 hts (TB_V tw_3007 tw_3008 tw_3009 tw_15 co_X13_equate) rfl rfl rfl (by decide +kernel) ⟨Nat.le_of_ble_eq_true rfl, Nat.le_of_ble_eq_true rfl⟩) (preV (q0 := 0) (ci := 13) rfl xT_bl hPc hK hN hDc rfl rfl xT_at) rfl rfl hl.1 rfl (lv_room (Nat.le_of_ble_eq_true rfl)) dL_law_777 ⟨by show cells1 + 0 ≤ 139280; omega, by show slots1 + 0 ≤ 8684410; omega⟩) hP hD hS hA mc_i mc_r mc_C mc_R mc_nd mc_d (fun r w1 H locs hw hP hD hS => ?_)
  obtain ⟨y, τ1, rxy, rfl, hn1, hf, rfl, hq⟩ := hw
  obtain ⟨hT1, b1, b2⟩ := hq
  have hM1 := l_M_equate hM hT1 hf b1 b2
  have fb0 : τ1.1 0 = τ.1 0 := hf.1 0 (by decide)
  have fb1 : τ1.1 1 = τ.1 1 := hf.1 1 (by decide)
  have hn2 := hn1
  refine lv_pop hx hb dL_law_780 rfl ?_
  refine lv_goto (tgt := 843) hx hb dL_law_781 (by decide) ?_
  exact kk q1 σ1 τ1 H locs _ _ eq0 ⟨⟨hP, hD, hS⟩, ⟨l_C_up hC1 (by omega), hM1, hNc1, hn2⟩, ⟨by omega, by omega⟩, by omega, by omega⟩
set_option maxRecDepth 100000 in
set_option maxHeartbeats 4000000 in
theorem law_definition (C0 : l_H p s m meth c g A b L xs t1 t2) (I : l_I g A s q q2 k σ τ H locs cells slots) (hk : k + 6 ≤ L) (hL : L ≤ 3072) (hl : lv_has ls 4 [(3, .int (nI k)), (2, .ref (q2 0)), (1, .ref (q 0)), (0, .ref b)]) (kk : l_K p l e s m below meth c g A b q q2 k ls Q) : W p l e room_1 s m #[Value.ref b] below meth c H locs cells slots Q (F0 m 784 ls []) := by
  obtain ⟨⟨hP, hD, hS⟩, ⟨hC, hM, hNc, hNm⟩, ⟨cp0, cp1⟩, bc, bs⟩ := I
  obtain ⟨hx, hb, hml, hown, hts, hXs, hbl, hK, hN, hX, hA, hbA⟩ := C0
  have z200 : 16384 ≤ σ.1 200 ∧ σ.1 200 ≤ 1048576 := hC.1.1.1 200
  obtain ⟨In0, gm, ds⟩ := hC.2.2.1
  have z0 : 0 ≤ σ.1 0 := (hC.1.1.1 0).1
  refine lv_aload_n hx hb dL_law_784 rfl (lv_at hl 2 rfl) ?_
  obtain ⟨n1, e1⟩ : ∃ n, n = lw_x xs k 1 := ⟨_, rfl⟩
  refine lw_el (j := 1) hx hb hXs hbl hbA hS hl (by omega) hL dL_law_785 dL_law_786 dL_law_787 dL_law_788 dL_law_789 (by decide) e1 (fun r1 => ?_)
  have hPc := cm_P hP
  have hDc := cm_D hD
  refine xci (wc := CX g q (L2 σ) σ) (wr := MX g q2 0 τ) (va_runV (As := [.int (I n1)]) (rest := []) ⟨hx, hb, hml, hown, hts⟩ (L_X12_definition l g t1 t2 q (L2 σ) (l_lb hC) r1 hNc (K_X12_definition (In0 := In0) hC.1.1 hC.1.2.2.2.2.2.2.2.2.2.2.2.1 hC.1.2.1 hC.1.2.2.1 hC.1.2.2.2.1 hC.1.2.2.2.2.2.1 gm ds hC.2.2.2.1.1) H.size) (cwV 1 hts (TB_V tw_1910 tw_1911 tw_1912 tw_1 co_X12_definition) rfl rfl rfl (by decide +kernel) ⟨Nat.le_of_ble_eq_true rfl, Nat.le_of_ble_eq_true rfl⟩) (preV (q0 := 0) (ci := 12) rfl sX_bl hPc hK hN hDc rfl rfl (sX_call hX hS (va_free (wc := CX g q (L2 σ) σ) hD hS hA cm_i cm_C))) rfl rfl hl.1 rfl (lv_room (Nat.le_of_ble_eq_true rfl)) dL_law_790 ⟨by show cells + 0 ≤ 139280; omega, by show slots + 0 ≤ 8684410; omega⟩) hP hD hS hA cm_i cm_r cm_C cm_R cm_nd cm_d (fun r w1 H locs hw hP hD hS => ?_)
  obtain ⟨x, σ1, rxx, rfl, hn1, hf, rfl, hq⟩ := hw
  obtain ⟨hT1, a1, a2⟩ := hq
  have hC1 := l_C_definition hC hT1 hf a1 a2
  have fa0 : σ1.1 0 = σ.1 0 := hf.1 0 (by decide)
  have fa1 : σ1.1 1 = σ.1 1 := hf.1 1 (by decide)
  have w200 : σ1.1 200 = σ.1 200 := hf.1 200 (by decide)
  have eL : L2 σ1 = L2 σ := by unfold L2; rw [w200]
  rw [← eL] at hP hD
  obtain ⟨q1, eq1⟩ : ∃ q1, q1 = q := ⟨q, rfl⟩; rw [← eq1] at hP hD; have eq0 : q1 0 = q 0 := by rw [eq1]
  obtain ⟨cells1, ec1⟩ : ∃ c1 : Nat, c1 = cells + 0 := ⟨_, rfl⟩; obtain ⟨slots1, es1⟩ : ∃ c1 : Nat, c1 = slots + 0 := ⟨_, rfl⟩; rw [← ec1, ← es1]
  have hNc1 := hn1
  refine lv_pop hx hb dL_law_793 rfl ?_
  refine lv_aload_n hx hb dL_law_794 rfl (lv_at hl 1 rfl) ?_
  refine lw_el (j := 1) hx hb hXs hbl hbA hS hl (by omega) hL dL_law_795 dL_law_796 dL_law_797 dL_law_798 dL_law_799 (by decide) e1 (fun r1 => ?_)
  have hPc := mc_P hP
  have hDc := mc_D hD
  refine xci (wc := MX g q2 0 τ) (wr := CX g q1 (L2 σ1) σ1) (va_runV (As := [.int (I n1)]) (rest := []) ⟨hx, hb, hml, hown, hts⟩ (L_X13_definition l g q2 0 (by decide) r1 hNm (K_X13_definition hM.1.1 r1 hM.1.2.2.2.2.2.1 hM.1.2.2.2.2.2.2.2.2.2.2.2.2.2.2 hM.1.2.2.2.2.2.2.2.2.2.1 hM.1.2.2.2.2.2.2.2.2.2.2.2.2.1.1.1.1 hM.2.1.2.1 (by have := hM.2.1.2.2.2.2.1; omega) (by have := hM.2.1.2.2.2.2.2; omega) hM.2.1.1.1 hM.2.1.1.2.2.2.2 hM.2.1.1.2.2.2.1) H.size) (cwV 1 hts (TB_V tw_3015 tw_3016 tw_3017 tw_15 co_X13_definition) rfl rfl rfl (by decide +kernel) ⟨Nat.le_of_ble_eq_true rfl, Nat.le_of_ble_eq_true rfl⟩) (preV (q0 := 0) (ci := 13) rfl xT_bl hPc hK hN hDc rfl rfl xT_at) rfl rfl hl.1 rfl (lv_room (Nat.le_of_ble_eq_true rfl)) dL_law_800 ⟨by show cells1 + 0 ≤ 139280; omega, by show slots1 + 0 ≤ 8684410; omega⟩) hP hD hS hA mc_i mc_r mc_C mc_R mc_nd mc_d (fun r w1 H locs hw hP hD hS => ?_)
  obtain ⟨y, τ1, rxy, rfl, hn1, hf, rfl, hq⟩ := hw
  obtain ⟨hT1, b1, b2, b3, b4, b5⟩ := hq
  have hM1 := l_M_definition hM hT1 hf b1 b2 b3 b4 b5
  have fb0 : τ1.1 0 = τ.1 0 := hf.1 0 (by decide)
  have fb1 : τ1.1 1 = τ.1 1 := hf.1 1 (by decide)
  have hn2 := hn1
  refine lv_pop hx hb dL_law_803 rfl ?_
  refine lv_goto (tgt := 843) hx hb dL_law_804 (by decide) ?_
  exact kk q1 σ1 τ1 H locs _ _ eq0 ⟨⟨hP, hD, hS⟩, ⟨l_C_up hC1 (by omega), hM1, hNc1, hn2⟩, ⟨by omega, by omega⟩, by omega, by omega⟩
set_option maxRecDepth 100000 in
set_option maxHeartbeats 4000000 in
theorem law_apply (C0 : l_H p s m meth c g A b L xs t1 t2) (I : l_I g A s q q2 k σ τ H locs cells slots) (hk : k + 6 ≤ L) (hL : L ≤ 3072) (hl : lv_has ls 4 [(3, .int (nI k)), (2, .ref (q2 0)), (1, .ref (q 0)), (0, .ref b)]) (kk : l_K p l e s m below meth c g A b q q2 k ls Q) : W p l e room_1 s m #[Value.ref b] below meth c H locs cells slots Q (F0 m 807 ls []) := by
  obtain ⟨⟨hP, hD, hS⟩, ⟨hC, hM, hNc, hNm⟩, ⟨cp0, cp1⟩, bc, bs⟩ := I
  obtain ⟨hx, hb, hml, hown, hts, hXs, hbl, hK, hN, hX, hA, hbA⟩ := C0
  have z200 : 16384 ≤ σ.1 200 ∧ σ.1 200 ≤ 1048576 := hC.1.1.1 200
  obtain ⟨In0, gm, ds⟩ := hC.2.2.1
  have z0 : 0 ≤ σ.1 0 := (hC.1.1.1 0).1
  refine lv_aload_n hx hb dL_law_807 rfl (lv_at hl 2 rfl) ?_
  obtain ⟨n1, e1⟩ : ∃ n, n = lw_x xs k 1 := ⟨_, rfl⟩
  refine lw_el (j := 1) hx hb hXs hbl hbA hS hl (by omega) hL dL_law_808 dL_law_809 dL_law_810 dL_law_811 dL_law_812 (by decide) e1 (fun r1 => ?_)
  have hPc := cm_P hP
  have hDc := cm_D hD
  refine xci (wc := CX g q (L2 σ) σ) (wr := MX g q2 0 τ) (va_runV (As := [.int (I n1)]) (rest := []) ⟨hx, hb, hml, hown, hts⟩ (L_X12_apply l g t1 t2 q (L2 σ) (l_lb hC) r1 hNc (K_X12_apply (In0 := In0) hC.1.1 hC.1.2.2.2.2.2.2.2.2.2.2.2.1 hC.1.2.1 hC.1.2.2.1 hC.1.2.2.2.1 hC.1.2.2.2.2.2.1 hC.1.2.2.2.2.2.2.2.2.2.1 gm) H.size) (cwV 1 hts (TB_V tw_1915 tw_1916 tw_1917 tw_1 co_X12_apply) rfl rfl rfl (by decide +kernel) ⟨Nat.le_of_ble_eq_true rfl, Nat.le_of_ble_eq_true rfl⟩) (preV (q0 := 0) (ci := 12) rfl sX_bl hPc hK hN hDc rfl rfl (sX_call hX hS (va_free (wc := CX g q (L2 σ) σ) hD hS hA cm_i cm_C))) rfl rfl hl.1 rfl (lv_room (Nat.le_of_ble_eq_true rfl)) dL_law_813 ⟨by show cells + 0 ≤ 139280; omega, by show slots + 0 ≤ 8684410; omega⟩) hP hD hS hA cm_i cm_r cm_C cm_R cm_nd cm_d (fun r w1 H locs hw hP hD hS => ?_)
  obtain ⟨x, σ1, rxx, rfl, hn1, hf, rfl, hq⟩ := hw
  obtain ⟨hT1, a1, a2, a3⟩ := hq
  have hC1 := l_C_apply hC ds hT1 hf a1 a2 a3
  have w200 : σ1.1 200 = σ.1 200 := hf.1 200 (by decide)
  have eL : L2 σ1 = L2 σ := by unfold L2; rw [w200]
  rw [← eL] at hP hD
  obtain ⟨q1, eq1⟩ : ∃ q1, q1 = q := ⟨q, rfl⟩; rw [← eq1] at hP hD; have eq0 : q1 0 = q 0 := by rw [eq1]
  obtain ⟨cells1, ec1⟩ : ∃ c1 : Nat, c1 = cells + 0 := ⟨_, rfl⟩; obtain ⟨slots1, es1⟩ : ∃ c1 : Nat, c1 = slots + 0 := ⟨_, rfl⟩; rw [← ec1, ← es1]
  have hNc1 := hn1
  refine lv_pop hx hb dL_law_816 rfl ?_
  refine lv_aload_n hx hb dL_law_817 rfl (lv_at hl 1 rfl) ?_
  refine lw_el (j := 1) hx hb hXs hbl hbA hS hl (by omega) hL dL_law_818 dL_law_819 dL_law_820 dL_law_821 dL_law_822 (by decide) e1 (fun r1 => ?_)
  have hPc := mc_P hP
  have hDc := mc_D hD
  refine xci (wc := MX g q2 0 τ) (wr := CX g q1 (L2 σ1) σ1) (va_runV (As := [.int (I n1)]) (rest := []) ⟨hx, hb, hml, hown, hts⟩ (L_X13_apply l g q2 0 (by decide) r1 hNm (K_X13_apply hM.1.1 r1 hM.1.2.2.2.2.2.1 hM.1.2.2.2.2.2.2.2.2.2.2.2.2.1.1.1.1 hM.2.1 hM.2.2.1 (by have h1 := hM.1.2.1; have h2 : τ.1 3 ≤ 1000 := (hM.1.1.1 3).2; omega) hM.1.2.2.2.2.1) H.size) (cwV 1 hts (TB_V tw_3157 tw_3158 tw_3159 tw_15 co_X13_apply) rfl rfl rfl (by decide +kernel) ⟨Nat.le_of_ble_eq_true rfl, Nat.le_of_ble_eq_true rfl⟩) (preV (q0 := 0) (ci := 13) rfl xT_bl hPc hK hN hDc rfl rfl xT_at) rfl rfl hl.1 rfl (lv_room (Nat.le_of_ble_eq_true rfl)) dL_law_823 ⟨by show cells1 + 0 ≤ 139280; omega, by show slots1 + 0 ≤ 8684410; omega⟩) hP hD hS hA mc_i mc_r mc_C mc_R mc_nd mc_d (fun r w1 H locs hw hP hD hS => ?_)
  obtain ⟨y, τ1, rxy, rfl, hn1, hf, rfl, hq⟩ := hw
  obtain ⟨hT1, b1, b2⟩ := hq
  have hM1 := l_M_apply hM hT1 hf b1 b2
  have hn2 := hn1
  refine lv_pop hx hb dL_law_826 rfl ?_
  refine lv_goto (tgt := 843) hx hb dL_law_827 (by decide) ?_
  exact kk q1 σ1 τ1 H locs _ _ eq0 ⟨⟨hP, hD, hS⟩, ⟨l_C_up hC1 (by omega), hM1, hNc1, hn2⟩, ⟨by omega, by omega⟩, by omega, by omega⟩
set_option maxRecDepth 100000 in
set_option maxHeartbeats 4000000 in
theorem law_check (C0 : l_H p s m meth c g A b L xs t1 t2) (I : l_I g A s q q2 k σ τ H locs cells slots) (hk : k + 6 ≤ L) (hL : L ≤ 3072) (hl : lv_has ls 4 [(3, .int (nI k)), (2, .ref (q2 0)), (1, .ref (q 0)), (0, .ref b)]) (kk : l_K p l e s m below meth c g A b q q2 k ls Q) : W p l e room_1 s m #[Value.ref b] below meth c H locs cells slots Q (F0 m 830 ls []) := by
  obtain ⟨⟨hP, hD, hS⟩, ⟨hC, hM, hNc, hNm⟩, ⟨cp0, cp1⟩, bc, bs⟩ := I
  obtain ⟨hx, hb, hml, hown, hts, hXs, hbl, hK, hN, hX, hA, hbA⟩ := C0
  have z200 : 16384 ≤ σ.1 200 ∧ σ.1 200 ≤ 1048576 := hC.1.1.1 200
  obtain ⟨In0, gm, ds⟩ := hC.2.2.1
  have z0 : 0 ≤ σ.1 0 := (hC.1.1.1 0).1
  refine lv_aload_n hx hb dL_law_830 rfl (lv_at hl 2 rfl) ?_
  have hPc := cm_P hP
  have hDc := cm_D hD
  refine xci (wc := CX g q (L2 σ) σ) (wr := MX g q2 0 τ) (va_runV (As := []) (rest := []) ⟨hx, hb, hml, hown, hts⟩ (L_X12_check l g t1 t2 q (L2 σ) (l_lb hC) hNc (K_X12_check (In0 := In0) hC.1.1 hC.1.2.2.2.2.2.2.2.2.2.2.2.1 hC.1.2.1 hC.1.2.2.1 hC.1.2.2.2.1 hC.1.2.2.2.2.2.1 hC.1.2.2.2.2.2.2.2.2.2.2.2.2.1 gm ds.1 hC.2.2.2.1.1) H.size) (cwV 0 hts (TB_V tw_1954 tw_1955 tw_1956 tw_1 co_X12_check) rfl rfl rfl (by decide +kernel) ⟨Nat.le_of_ble_eq_true rfl, Nat.le_of_ble_eq_true rfl⟩) (preV (q0 := 0) (ci := 12) rfl sX_bl hPc hK hN hDc rfl rfl (sX_call hX hS (va_free (wc := CX g q (L2 σ) σ) hD hS hA cm_i cm_C))) rfl rfl hl.1 rfl (lv_room (Nat.le_of_ble_eq_true rfl)) dL_law_831 ⟨by show cells + 0 ≤ 139280; omega, by show slots + 0 ≤ 8684410; omega⟩) hP hD hS hA cm_i cm_r cm_C cm_R cm_nd cm_d (fun r w1 H locs hw hP hD hS => ?_)
  obtain ⟨x, σ1, rxx, rfl, hn1, hf, rfl, hq⟩ := hw
  obtain ⟨hT1, a1, a2, a3⟩ := hq
  have hC1 := l_C_check hC ds hT1 hf a1 a2 a3
  have fa0 : σ1.1 0 = σ.1 0 := hf.1 0 (by decide)
  have fa1 : σ1.1 1 = σ.1 1 := hf.1 1 (by decide)
  have w200 : σ1.1 200 = σ.1 200 := hf.1 200 (by decide)
  have eL : L2 σ1 = L2 σ := by unfold L2; rw [w200]
  rw [← eL] at hP hD
  obtain ⟨q1, eq1⟩ : ∃ q1, q1 = q := ⟨q, rfl⟩; rw [← eq1] at hP hD; have eq0 : q1 0 = q 0 := by rw [eq1]
  obtain ⟨cells1, ec1⟩ : ∃ c1 : Nat, c1 = cells + 0 := ⟨_, rfl⟩; obtain ⟨slots1, es1⟩ : ∃ c1 : Nat, c1 = slots + 0 := ⟨_, rfl⟩; rw [← ec1, ← es1]
  have hNc1 := hn1
  refine lv_pop hx hb dL_law_834 rfl ?_
  refine lv_aload_n hx hb dL_law_835 rfl (lv_at hl 1 rfl) ?_
  have hPc := mc_P hP
  have hDc := mc_D hD
  refine xci (wc := MX g q2 0 τ) (wr := CX g q1 (L2 σ1) σ1) (va_runV (As := []) (rest := []) ⟨hx, hb, hml, hown, hts⟩ (L_X13_check l g q2 0 (by decide) hNm (K_X13_check hM.1.1) H.size) (cwV 0 hts (TB_V tw_3181 tw_3182 tw_3183 tw_15 co_X13_check) rfl rfl rfl (by decide +kernel) ⟨Nat.le_of_ble_eq_true rfl, Nat.le_of_ble_eq_true rfl⟩) (preV (q0 := 0) (ci := 13) rfl xT_bl hPc hK hN hDc rfl rfl xT_at) rfl rfl hl.1 rfl (lv_room (Nat.le_of_ble_eq_true rfl)) dL_law_836 ⟨by show cells1 + 0 ≤ 139280; omega, by show slots1 + 0 ≤ 8684410; omega⟩) hP hD hS hA mc_i mc_r mc_C mc_R mc_nd mc_d (fun r w1 H locs hw hP hD hS => ?_)
  obtain ⟨y, rxy, rfl, rfl, hq⟩ := hw
  obtain ⟨τ1, es⟩ : ∃ τ1, τ1 = τ := ⟨τ, rfl⟩; rw [← es] at hP hD; have hM1 := hM; rw [← es] at hM1; have hn2 := hNm; rw [← es] at hn2; have fb0 : τ1.1 0 = τ.1 0 := by rw [es]
  have fb1 : τ1.1 1 = τ.1 1 := by rw [es]
  refine lv_pop hx hb dL_law_839 rfl ?_
  refine lv_goto (tgt := 843) hx hb dL_law_840 (by decide) ?_
  exact kk q1 σ1 τ1 H locs _ _ eq0 ⟨⟨hP, hD, hS⟩, ⟨l_C_up hC1 (by omega), hM1, hNc1, hn2⟩, ⟨by omega, by omega⟩, by omega, by omega⟩
end LC
