-- the law, call by call
section LC
variable {p : Program} {l : Launch} {e : Env} {s : State} {m : MethodId} {below : List Frame} {meth : Method} {c : Code} {g : gG} {A : Nat → Prop} {b L : Nat} {xs : Nat → Int32} {t1 t2 : Nat} {ls : Array Slot} {q q2 : Nat → Nat} {k : Nat} {σ τ : S0} {H : Heap} {locs : List Loc} {cells slots : Nat} {Q : State → Prop}
set_option maxRecDepth 100000 in
set_option maxHeartbeats 4000000 in
theorem law_feed (C0 : l_H p s m meth c g A b L xs t1 t2) (I : l_I g A s q q2 k σ τ H locs cells slots) (hk : k + 6 ≤ L) (hL : L ≤ 3072) (hl : lv_has ls 4 [(3, .int (nI k)), (2, .ref (q2 0)), (1, .ref (q 0)), (0, .ref b)]) (kk : l_K p l e s m below meth c g A b q q2 k ls Q) : W p l e room_1 s m #[Value.ref b] below meth c H locs cells slots Q (F0 m 148 ls []) := by
  obtain ⟨⟨hP, hD, hS⟩, ⟨hC, hM, hNc, hNm⟩, ⟨cp0, cp1⟩, bc, bs⟩ := I
  obtain ⟨hx, hb, hml, hown, hts, hXs, hbl, hK, hN, hX, hA, hbA⟩ := C0
  have z200 : 16384 ≤ σ.1 200 ∧ σ.1 200 ≤ 1048576 := hC.1.1.1 200
  obtain ⟨In0, gm, ds⟩ := hC.2.2.1
  have z0 : 0 ≤ σ.1 0 := (hC.1.1.1 0).1
  refine lv_aload_n hx hb dL_law_148 rfl (lv_at hl 2 rfl) ?_
  obtain ⟨n1, e1⟩ : ∃ n, n = lw_x xs k 1 := ⟨_, rfl⟩
  obtain ⟨n2, e2⟩ : ∃ n, n = lw_x xs k 2 := ⟨_, rfl⟩
  obtain ⟨n3, e3⟩ : ∃ n, n = lw_x xs k 3 := ⟨_, rfl⟩
  obtain ⟨n4, e4⟩ : ∃ n, n = lw_x xs k 4 := ⟨_, rfl⟩
  obtain ⟨n5, e5⟩ : ∃ n, n = lw_x xs k 5 := ⟨_, rfl⟩
  refine lw_el (j := 1) hx hb hXs hbl hbA hS hl (by omega) hL dL_law_149 dL_law_150 dL_law_151 dL_law_152 dL_law_153 (by decide) e1 (fun r1 => ?_)
  refine lw_el (j := 2) hx hb hXs hbl hbA hS hl (by omega) hL dL_law_154 dL_law_155 dL_law_156 dL_law_157 dL_law_158 (by decide) e2 (fun r2 => ?_)
  refine lw_el (j := 3) hx hb hXs hbl hbA hS hl (by omega) hL dL_law_159 dL_law_160 dL_law_161 dL_law_162 dL_law_163 (by decide) e3 (fun r3 => ?_)
  refine lw_el (j := 4) hx hb hXs hbl hbA hS hl (by omega) hL dL_law_164 dL_law_165 dL_law_166 dL_law_167 dL_law_168 (by decide) e4 (fun r4 => ?_)
  refine lw_el (j := 5) hx hb hXs hbl hbA hS hl (by omega) hL dL_law_169 dL_law_170 dL_law_171 dL_law_172 dL_law_173 (by decide) e5 (fun r5 => ?_)
  have hPc := cm_P hP
  have hDc := cm_D hD
  refine xci (wc := CX g q (L2 σ) σ) (wr := MX g q2 0 τ) (va_runV (As := [.int (I n1), .int (I n2), .int (I n3), .int (I n4), .int (I n5)]) (rest := []) ⟨hx, hb, hml, hown, hts⟩ (L_X12_feed l g q (L2 σ) (l_lb hC) r1 r2 r3 r4 r5 hNc (K_X12_feed hC.1.1) H.size) (cwV 5 hts (TB_V tw_933 tw_934 tw_935 tw_1 co_X12_feed) rfl rfl rfl (by decide +kernel) ⟨Nat.le_of_ble_eq_true rfl, Nat.le_of_ble_eq_true rfl⟩) (preV (q0 := 0) (ci := 12) rfl xT_bl hPc hK hN hDc rfl rfl xT_at) rfl rfl hl.1 rfl (lv_room (Nat.le_of_ble_eq_true rfl)) dL_law_174 ⟨by show cells + 0 ≤ 139280; omega, by show slots + 0 ≤ 8684410; omega⟩) hP hD hS hA cm_i cm_r cm_C cm_R cm_nd cm_d (fun r w1 H locs hw hP hD hS => ?_)
  obtain ⟨x, σ1, rxx, rfl, hn1, hf, rfl, hq⟩ := hw
  obtain ⟨hT1, a1, a2, a3, a4⟩ := hq
  have hC1 := l_C_feed hC hT1 hf a1 a2 a3 a4
  have w200 : σ1.1 200 = σ.1 200 := hf.1 200 (by decide)
  have eL : L2 σ1 = L2 σ := by unfold L2; rw [w200]
  rw [← eL] at hP hD
  obtain ⟨q1, eq1⟩ : ∃ q1, q1 = q := ⟨q, rfl⟩; rw [← eq1] at hP hD; have eq0 : q1 0 = q 0 := by rw [eq1]
  obtain ⟨cells1, ec1⟩ : ∃ c1 : Nat, c1 = cells + 0 := ⟨_, rfl⟩; obtain ⟨slots1, es1⟩ : ∃ c1 : Nat, c1 = slots + 0 := ⟨_, rfl⟩; rw [← ec1, ← es1]
  have hNc1 := hn1
  refine lv_pop hx hb dL_law_177 rfl ?_
  refine lv_aload_n hx hb dL_law_178 rfl (lv_at hl 1 rfl) ?_
  refine lw_el (j := 1) hx hb hXs hbl hbA hS hl (by omega) hL dL_law_179 dL_law_180 dL_law_181 dL_law_182 dL_law_183 (by decide) e1 (fun r1 => ?_)
  refine lw_el (j := 2) hx hb hXs hbl hbA hS hl (by omega) hL dL_law_184 dL_law_185 dL_law_186 dL_law_187 dL_law_188 (by decide) e2 (fun r2 => ?_)
  refine lw_el (j := 3) hx hb hXs hbl hbA hS hl (by omega) hL dL_law_189 dL_law_190 dL_law_191 dL_law_192 dL_law_193 (by decide) e3 (fun r3 => ?_)
  refine lw_el (j := 4) hx hb hXs hbl hbA hS hl (by omega) hL dL_law_194 dL_law_195 dL_law_196 dL_law_197 dL_law_198 (by decide) e4 (fun r4 => ?_)
  refine lw_el (j := 5) hx hb hXs hbl hbA hS hl (by omega) hL dL_law_199 dL_law_200 dL_law_201 dL_law_202 dL_law_203 (by decide) e5 (fun r5 => ?_)
  have hPc := mc_P hP
  have hDc := mc_D hD
  refine xci (wc := MX g q2 0 τ) (wr := CX g q1 (L2 σ1) σ1) (va_runV (As := [.int (I n1), .int (I n2), .int (I n3), .int (I n4), .int (I n5)]) (rest := []) ⟨hx, hb, hml, hown, hts⟩ (L_X13_feed l g q2 0 (by decide) r1 r2 r3 r4 r5 hNm (K_X13_feed hM.1.1) H.size) (cwV 5 hts (TB_V tw_2516 tw_2517 tw_2518 tw_15 co_X13_feed) rfl rfl rfl (by decide +kernel) ⟨Nat.le_of_ble_eq_true rfl, Nat.le_of_ble_eq_true rfl⟩) (preV (q0 := 0) (ci := 13) rfl xT_bl hPc hK hN hDc rfl rfl xT_at) rfl rfl hl.1 rfl (lv_room (Nat.le_of_ble_eq_true rfl)) dL_law_204 ⟨by show cells1 + 0 ≤ 139280; omega, by show slots1 + 0 ≤ 8684410; omega⟩) hP hD hS hA mc_i mc_r mc_C mc_R mc_nd mc_d (fun r w1 H locs hw hP hD hS => ?_)
  obtain ⟨y, τ1, rxy, rfl, hn1, hf, rfl, hq⟩ := hw
  obtain ⟨hT1, b1, b2⟩ := hq
  have hM1 := l_M_feed hM hT1 hf b1 b2
  have hn2 := hn1
  refine lv_pop hx hb dL_law_207 rfl ?_
  refine lv_goto (tgt := 843) hx hb dL_law_208 (by decide) ?_
  exact kk q1 σ1 τ1 H locs _ _ eq0 ⟨⟨hP, hD, hS⟩, ⟨l_C_up hC1 (by omega), hM1, hNc1, hn2⟩, ⟨by omega, by omega⟩, by omega, by omega⟩
set_option maxRecDepth 100000 in
set_option maxHeartbeats 4000000 in
theorem law_end (C0 : l_H p s m meth c g A b L xs t1 t2) (I : l_I g A s q q2 k σ τ H locs cells slots) (hk : k + 6 ≤ L) (hL : L ≤ 3072) (hl : lv_has ls 4 [(3, .int (nI k)), (2, .ref (q2 0)), (1, .ref (q 0)), (0, .ref b)]) (kk : l_K p l e s m below meth c g A b q q2 k ls Q) : W p l e room_1 s m #[Value.ref b] below meth c H locs cells slots Q (F0 m 211 ls []) := by
  obtain ⟨⟨hP, hD, hS⟩, ⟨hC, hM, hNc, hNm⟩, ⟨cp0, cp1⟩, bc, bs⟩ := I
  obtain ⟨hx, hb, hml, hown, hts, hXs, hbl, hK, hN, hX, hA, hbA⟩ := C0
  have z200 : 16384 ≤ σ.1 200 ∧ σ.1 200 ≤ 1048576 := hC.1.1.1 200
  obtain ⟨In0, gm, ds⟩ := hC.2.2.1
  have z0 : 0 ≤ σ.1 0 := (hC.1.1.1 0).1
  refine lv_aload_n hx hb dL_law_211 rfl (lv_at hl 2 rfl) ?_
  obtain ⟨n1, e1⟩ : ∃ n, n = lw_x xs k 1 := ⟨_, rfl⟩
  refine lw_el (j := 1) hx hb hXs hbl hbA hS hl (by omega) hL dL_law_212 dL_law_213 dL_law_214 dL_law_215 dL_law_216 (by decide) e1 (fun r1 => ?_)
  have hPc := cm_P hP
  have hDc := cm_D hD
  refine xci (wc := CX g q (L2 σ) σ) (wr := MX g q2 0 τ) (va_runV (As := [.int (I n1)]) (rest := []) ⟨hx, hb, hml, hown, hts⟩ (L_X12_end l g q (L2 σ) (l_lb hC) r1 hNc (K_X12_end hC.1.1 hC.2.2.2.2) H.size) (cwV 1 hts (TB_V tw_941 tw_942 tw_943 tw_1 co_X12_end) rfl rfl rfl (by decide +kernel) ⟨Nat.le_of_ble_eq_true rfl, Nat.le_of_ble_eq_true rfl⟩) (preV (q0 := 0) (ci := 12) rfl xT_bl hPc hK hN hDc rfl rfl xT_at) rfl rfl hl.1 rfl (lv_room (Nat.le_of_ble_eq_true rfl)) dL_law_217 ⟨by show cells + 0 ≤ 139280; omega, by show slots + 0 ≤ 8684410; omega⟩) hP hD hS hA cm_i cm_r cm_C cm_R cm_nd cm_d (fun r w1 H locs hw hP hD hS => ?_)
  obtain ⟨x, σ1, rxx, rfl, hn1, hf, rfl, hq⟩ := hw
  obtain ⟨hT1, a1, a2, a3, a4, a5, a6⟩ := hq
  have hC1 := l_C_end hC hT1 hf a1 a2 a3 a4 a5 a6
  have w200 : σ1.1 200 = σ.1 200 := hf.1 200 (by decide)
  have eL : L2 σ1 = L2 σ := by unfold L2; rw [w200]
  rw [← eL] at hP hD
  obtain ⟨q1, eq1⟩ : ∃ q1, q1 = q := ⟨q, rfl⟩; rw [← eq1] at hP hD; have eq0 : q1 0 = q 0 := by rw [eq1]
  obtain ⟨cells1, ec1⟩ : ∃ c1 : Nat, c1 = cells + 0 := ⟨_, rfl⟩; obtain ⟨slots1, es1⟩ : ∃ c1 : Nat, c1 = slots + 0 := ⟨_, rfl⟩; rw [← ec1, ← es1]
  have hNc1 := hn1
  refine lv_aload_n hx hb dL_law_220 rfl (lv_at hl 1 rfl) ?_
  refine lw_el (j := 1) hx hb hXs hbl hbA hS hl (by omega) hL dL_law_221 dL_law_222 dL_law_223 dL_law_224 dL_law_225 (by decide) e1 (fun r1 => ?_)
  have hPc := mc_P hP
  have hDc := mc_D hD
  refine xci (wc := MX g q2 0 τ) (wr := CX g q1 (L2 σ1) σ1) (va_runV (As := [.int (I n1)]) (rest := [.int (I x)]) ⟨hx, hb, hml, hown, hts⟩ (L_X13_end l g q2 0 (by decide) r1 hNm (K_X13_end hM.1.1 r1 hM.2.2.2.2.2) H.size) (cwV 1 hts (TB_V tw_2520 tw_2521 tw_2522 tw_15 co_X13_end) rfl rfl rfl (by decide +kernel) ⟨Nat.le_of_ble_eq_true rfl, Nat.le_of_ble_eq_true rfl⟩) (preV (q0 := 0) (ci := 13) rfl xT_bl hPc hK hN hDc rfl rfl xT_at) rfl rfl hl.1 rfl (lv_room (Nat.le_of_ble_eq_true rfl)) dL_law_226 ⟨by show cells1 + 0 ≤ 139280; omega, by show slots1 + 0 ≤ 8684410; omega⟩) hP hD hS hA mc_i mc_r mc_C mc_R mc_nd mc_d (fun r w1 H locs hw hP hD hS => ?_)
  obtain ⟨y, τ1, rxy, rfl, hn1, hf, rfl, hq⟩ := hw
  obtain ⟨hT1, b1, b2, b3, b4, b5⟩ := hq
  have hM1 := l_M_end hM hT1 hf b1 b2 b3 b4 b5
  have hn2 := hn1
  have exy : x = y := by omega
  refine lv_icmp_eq (tgt := 843) hx hb dL_law_229 (by decide) (fun _ => ?_) (fun cc => absurd (by rw [exy]) cc)
  exact kk q1 σ1 τ1 H locs _ _ eq0 ⟨⟨hP, hD, hS⟩, ⟨l_C_up hC1 (by omega), hM1, hNc1, hn2⟩, ⟨by omega, by omega⟩, by omega, by omega⟩
set_option maxRecDepth 100000 in
set_option maxHeartbeats 4000000 in
theorem law_read (C0 : l_H p s m meth c g A b L xs t1 t2) (I : l_I g A s q q2 k σ τ H locs cells slots) (hk : k + 6 ≤ L) (hL : L ≤ 3072) (hl : lv_has ls 4 [(3, .int (nI k)), (2, .ref (q2 0)), (1, .ref (q 0)), (0, .ref b)]) (kk : l_K p l e s m below meth c g A b q q2 k ls Q) : W p l e room_1 s m #[Value.ref b] below meth c H locs cells slots Q (F0 m 234 ls []) := by
  obtain ⟨⟨hP, hD, hS⟩, ⟨hC, hM, hNc, hNm⟩, ⟨cp0, cp1⟩, bc, bs⟩ := I
  obtain ⟨hx, hb, hml, hown, hts, hXs, hbl, hK, hN, hX, hA, hbA⟩ := C0
  have z200 : 16384 ≤ σ.1 200 ∧ σ.1 200 ≤ 1048576 := hC.1.1.1 200
  obtain ⟨In0, gm, ds⟩ := hC.2.2.1
  have z0 : 0 ≤ σ.1 0 := (hC.1.1.1 0).1
  refine lv_aload_n hx hb dL_law_234 rfl (lv_at hl 2 rfl) ?_
  have hPc := cm_P hP
  have hDc := cm_D hD
  refine xci (wc := CX g q (L2 σ) σ) (wr := MX g q2 0 τ) (va_runV (As := []) (rest := []) ⟨hx, hb, hml, hown, hts⟩ (L_X12_read l g q (L2 σ) (l_lb hC) hNc (K_X12_read hC.1.1 hC.1.2.1 hC.1.2.2.1 hC.1.2.2.2.1 hC.1.2.2.2.2.1 hC.1.2.2.2.2.2.1 hC.1.2.2.2.2.2.2.1 hC.1.2.2.2.2.2.2.2.1 hC.1.2.2.2.2.2.2.2.2.1 hC.1.2.2.2.2.2.2.2.2.2.1 hC.1.2.2.2.2.2.2.2.2.2.2.1 hC.1.2.2.2.2.2.2.2.2.2.2.2.1 hC.1.2.2.2.2.2.2.2.2.2.2.2.2.1 hC.1.2.2.2.2.2.2.2.2.2.2.2.2.2.1 hC.1.2.2.2.2.2.2.2.2.2.2.2.2.2.2.1 hC.1.2.2.2.2.2.2.2.2.2.2.2.2.2.2.2.1 hC.1.2.2.2.2.2.2.2.2.2.2.2.2.2.2.2.2.1 hC.1.2.2.2.2.2.2.2.2.2.2.2.2.2.2.2.2.2 (by have := hC.2.1.2; omega)) H.size) (cwV 0 hts (TB_V tw_945 tw_946 tw_947 tw_1 co_X12_read) rfl rfl rfl (by decide +kernel) ⟨Nat.le_of_ble_eq_true rfl, Nat.le_of_ble_eq_true rfl⟩) (preV (q0 := 0) (ci := 12) rfl xT_bl hPc hK hN hDc rfl rfl xT_at) rfl rfl hl.1 rfl (lv_room (Nat.le_of_ble_eq_true rfl)) dL_law_235 ⟨by show cells + 0 ≤ 139280; omega, by show slots + 0 ≤ 8684410; omega⟩) hP hD hS hA cm_i cm_r cm_C cm_R cm_nd cm_d (fun r w1 H locs hw hP hD hS => ?_)
  obtain ⟨x, σ1, rxx, rfl, hn1, hf, rfl, hq⟩ := hw
  obtain ⟨hT1, a1, a2, a3, a4, a5, a6, a7, a8, a9, a10, a11, a12, a13, a14, a15, a16, a17, a18, a19, a20, a21, a22, a23⟩ := hq
  have hC1 := l_C_read hC hT1 hf a1 a2 a3 a4 a5 a6 a7 a8 a9 a10 a11 a12 a13 a14 a15 a16 a17 a18 a19 a20 a21 a22 a23
  have w200 : σ1.1 200 = σ.1 200 := hf.1 200 (by decide)
  have eL : L2 σ1 = L2 σ := by unfold L2; rw [w200]
  rw [← eL] at hP hD
  obtain ⟨q1, eq1⟩ : ∃ q1, q1 = q := ⟨q, rfl⟩; rw [← eq1] at hP hD; have eq0 : q1 0 = q 0 := by rw [eq1]
  obtain ⟨cells1, ec1⟩ : ∃ c1 : Nat, c1 = cells + 0 := ⟨_, rfl⟩; obtain ⟨slots1, es1⟩ : ∃ c1 : Nat, c1 = slots + 0 := ⟨_, rfl⟩; rw [← ec1, ← es1]
  have hNc1 := hn1
  refine lv_pop hx hb dL_law_238 rfl ?_
  refine lv_aload_n hx hb dL_law_239 rfl (lv_at hl 1 rfl) ?_
  have hPc := mc_P hP
  have hDc := mc_D hD
  refine xci (wc := MX g q2 0 τ) (wr := CX g q1 (L2 σ1) σ1) (va_runV (As := []) (rest := []) ⟨hx, hb, hml, hown, hts⟩ (L_X13_read l g q2 0 (by decide) hNm (K3_X13_read hM.1.1 hM.1.2.1 hM.1.2.2.1 hM.1.2.2.2.1 hM.1.2.2.2.2.1 hM.1.2.2.2.2.2.1 hM.1.2.2.2.2.2.2.1 hM.1.2.2.2.2.2.2.2.1 hM.1.2.2.2.2.2.2.2.2.1 hM.1.2.2.2.2.2.2.2.2.2.1 hM.1.2.2.2.2.2.2.2.2.2.2.1 hM.1.2.2.2.2.2.2.2.2.2.2.2.1 hM.1.2.2.2.2.2.2.2.2.2.2.2.2.1 hM.1.2.2.2.2.2.2.2.2.2.2.2.2.2.1 hM.1.2.2.2.2.2.2.2.2.2.2.2.2.2.2) H.size) (cwV 0 hts (TB_V tw_2528 tw_2529 tw_2530 tw_15 co_X13_read) rfl rfl rfl (by decide +kernel) ⟨Nat.le_of_ble_eq_true rfl, Nat.le_of_ble_eq_true rfl⟩) (preV (q0 := 0) (ci := 13) rfl xT_bl hPc hK hN hDc rfl rfl xT_at) rfl rfl hl.1 rfl (lv_room (Nat.le_of_ble_eq_true rfl)) dL_law_240 ⟨by show cells1 + 0 ≤ 139280; omega, by show slots1 + 0 ≤ 8684410; omega⟩) hP hD hS hA mc_i mc_r mc_C mc_R mc_nd mc_d (fun r w1 H locs hw hP hD hS => ?_)
  obtain ⟨y, τ1, rxy, rfl, hn1, hf, rfl, hq⟩ := hw
  obtain ⟨hT1, b1, b2, b3, b4, b5, b6, b7, b8, b9, b10, b11, b12, b13, b14, b15, b16, b17, b18, b19, b20, b21, b22, b23, b24, b25⟩ := hq
  have hM1 := l_M_read hM hT1 hf b1 b2 b3 b4 b5 b6 b7 b8 b9 b10 b11 b12 b13 b14 b15 b16 b17 b18 b19 b20 b21 b22 b23 b24 b25
  have hn2 := hn1
  refine lv_pop hx hb dL_law_243 rfl ?_
  refine lv_goto (tgt := 843) hx hb dL_law_244 (by decide) ?_
  exact kk q1 σ1 τ1 H locs _ _ eq0 ⟨⟨hP, hD, hS⟩, ⟨l_C_up hC1 (by omega), hM1, hNc1, hn2⟩, ⟨by omega, by omega⟩, by omega, by omega⟩
set_option maxRecDepth 100000 in
set_option maxHeartbeats 4000000 in
theorem law_place (C0 : l_H p s m meth c g A b L xs t1 t2) (I : l_I g A s q q2 k σ τ H locs cells slots) (hk : k + 6 ≤ L) (hL : L ≤ 3072) (hl : lv_has ls 4 [(3, .int (nI k)), (2, .ref (q2 0)), (1, .ref (q 0)), (0, .ref b)]) (kk : l_K p l e s m below meth c g A b q q2 k ls Q) : W p l e room_1 s m #[Value.ref b] below meth c H locs cells slots Q (F0 m 247 ls []) := by
  obtain ⟨⟨hP, hD, hS⟩, ⟨hC, hM, hNc, hNm⟩, ⟨cp0, cp1⟩, bc, bs⟩ := I
  obtain ⟨hx, hb, hml, hown, hts, hXs, hbl, hK, hN, hX, hA, hbA⟩ := C0
  have z200 : 16384 ≤ σ.1 200 ∧ σ.1 200 ≤ 1048576 := hC.1.1.1 200
  obtain ⟨In0, gm, ds⟩ := hC.2.2.1
  have z0 : 0 ≤ σ.1 0 := (hC.1.1.1 0).1
  refine lv_aload_n hx hb dL_law_247 rfl (lv_at hl 2 rfl) ?_
  have hPc := cm_P hP
  have hDc := cm_D hD
  refine xci (wc := CX g q (L2 σ) σ) (wr := MX g q2 0 τ) (va_runV (As := []) (rest := []) ⟨hx, hb, hml, hown, hts⟩ (L_X12_place l g q (L2 σ) (l_lb hC) hNc (K_X12_place hC.1.1) H.size) (cwV 0 hts (TB_V tw_1393 tw_1394 tw_1395 tw_1 co_X12_place) rfl rfl rfl (by decide +kernel) ⟨Nat.le_of_ble_eq_true rfl, Nat.le_of_ble_eq_true rfl⟩) (preV (q0 := 0) (ci := 12) rfl xT_bl hPc hK hN hDc rfl rfl xT_at) rfl rfl hl.1 rfl (lv_room (Nat.le_of_ble_eq_true rfl)) dL_law_248 ⟨by show cells + 0 ≤ 139280; omega, by show slots + 0 ≤ 8684410; omega⟩) hP hD hS hA cm_i cm_r cm_C cm_R cm_nd cm_d (fun r w1 H locs hw hP hD hS => ?_)
  obtain ⟨x, rxx, rfl, rfl, hq⟩ := hw
  obtain ⟨σ1, es⟩ : ∃ σ1, σ1 = σ := ⟨σ, rfl⟩; rw [← es] at hP hD; have hC1 := hC; rw [← es] at hC1; have hn1 := hNc; rw [← es] at hn1; have fa0 : σ1.1 0 = σ.1 0 := by rw [es]
  have fa1 : σ1.1 1 = σ.1 1 := by rw [es]
  have w200 : σ1.1 200 = σ.1 200 := by rw [es]
  obtain ⟨q1, eq1⟩ : ∃ q1, q1 = q := ⟨q, rfl⟩; rw [← eq1] at hP hD; have eq0 : q1 0 = q 0 := by rw [eq1]
  obtain ⟨cells1, ec1⟩ : ∃ c1 : Nat, c1 = cells + 0 := ⟨_, rfl⟩; obtain ⟨slots1, es1⟩ : ∃ c1 : Nat, c1 = slots + 0 := ⟨_, rfl⟩; rw [← ec1, ← es1]
  have hNc1 := hn1
  refine lv_pop hx hb dL_law_251 rfl ?_
  refine lv_aload_n hx hb dL_law_252 rfl (lv_at hl 1 rfl) ?_
  have hPc := mc_P hP
  have hDc := mc_D hD
  refine xci (wc := MX g q2 0 τ) (wr := CX g q1 (L2 σ1) σ1) (va_runV (As := []) (rest := []) ⟨hx, hb, hml, hown, hts⟩ (L_X13_place l g q2 0 (by decide) hNm (K_X13_place hM.1.1) H.size) (cwV 0 hts (TB_V tw_2791 tw_2792 tw_2793 tw_15 co_X13_place) rfl rfl rfl (by decide +kernel) ⟨Nat.le_of_ble_eq_true rfl, Nat.le_of_ble_eq_true rfl⟩) (preV (q0 := 0) (ci := 13) rfl xT_bl hPc hK hN hDc rfl rfl xT_at) rfl rfl hl.1 rfl (lv_room (Nat.le_of_ble_eq_true rfl)) dL_law_253 ⟨by show cells1 + 0 ≤ 139280; omega, by show slots1 + 0 ≤ 8684410; omega⟩) hP hD hS hA mc_i mc_r mc_C mc_R mc_nd mc_d (fun r w1 H locs hw hP hD hS => ?_)
  obtain ⟨y, rxy, rfl, rfl, hq⟩ := hw
  obtain ⟨τ1, es⟩ : ∃ τ1, τ1 = τ := ⟨τ, rfl⟩; rw [← es] at hP hD; have hM1 := hM; rw [← es] at hM1; have hn2 := hNm; rw [← es] at hn2; have fb0 : τ1.1 0 = τ.1 0 := by rw [es]
  have fb1 : τ1.1 1 = τ.1 1 := by rw [es]
  refine lv_pop hx hb dL_law_256 rfl ?_
  refine lv_goto (tgt := 843) hx hb dL_law_257 (by decide) ?_
  exact kk q1 σ1 τ1 H locs _ _ eq0 ⟨⟨hP, hD, hS⟩, ⟨l_C_up hC1 (by omega), hM1, hNc1, hn2⟩, ⟨by omega, by omega⟩, by omega, by omega⟩
set_option maxRecDepth 100000 in
set_option maxHeartbeats 4000000 in
theorem law_count (C0 : l_H p s m meth c g A b L xs t1 t2) (I : l_I g A s q q2 k σ τ H locs cells slots) (hk : k + 6 ≤ L) (hL : L ≤ 3072) (hl : lv_has ls 4 [(3, .int (nI k)), (2, .ref (q2 0)), (1, .ref (q 0)), (0, .ref b)]) (kk : l_K p l e s m below meth c g A b q q2 k ls Q) : W p l e room_1 s m #[Value.ref b] below meth c H locs cells slots Q (F0 m 260 ls []) := by
  obtain ⟨⟨hP, hD, hS⟩, ⟨hC, hM, hNc, hNm⟩, ⟨cp0, cp1⟩, bc, bs⟩ := I
  obtain ⟨hx, hb, hml, hown, hts, hXs, hbl, hK, hN, hX, hA, hbA⟩ := C0
  have z200 : 16384 ≤ σ.1 200 ∧ σ.1 200 ≤ 1048576 := hC.1.1.1 200
  obtain ⟨In0, gm, ds⟩ := hC.2.2.1
  have z0 : 0 ≤ σ.1 0 := (hC.1.1.1 0).1
  refine lv_aload_n hx hb dL_law_260 rfl (lv_at hl 2 rfl) ?_
  obtain ⟨n1, e1⟩ : ∃ n, n = lw_x xs k 1 := ⟨_, rfl⟩
  refine lw_el (j := 1) hx hb hXs hbl hbA hS hl (by omega) hL dL_law_261 dL_law_262 dL_law_263 dL_law_264 dL_law_265 (by decide) e1 (fun r1 => ?_)
  have hPc := cm_P hP
  have hDc := cm_D hD
  refine xci (wc := CX g q (L2 σ) σ) (wr := MX g q2 0 τ) (va_runV (As := [.int (I n1)]) (rest := []) ⟨hx, hb, hml, hown, hts⟩ (L_X12_count l g q (L2 σ) (l_lb hC) r1 hNc (K_X12_count hC.1.1) H.size) (cwV 1 hts (TB_V tw_1397 tw_1398 tw_1399 tw_1 co_X12_count) rfl rfl rfl (by decide +kernel) ⟨Nat.le_of_ble_eq_true rfl, Nat.le_of_ble_eq_true rfl⟩) (preV (q0 := 0) (ci := 12) rfl xT_bl hPc hK hN hDc rfl rfl xT_at) rfl rfl hl.1 rfl (lv_room (Nat.le_of_ble_eq_true rfl)) dL_law_266 ⟨by show cells + 0 ≤ 139280; omega, by show slots + 0 ≤ 8684410; omega⟩) hP hD hS hA cm_i cm_r cm_C cm_R cm_nd cm_d (fun r w1 H locs hw hP hD hS => ?_)
  obtain ⟨x, rxx, rfl, rfl, hq⟩ := hw
  obtain ⟨σ1, es⟩ : ∃ σ1, σ1 = σ := ⟨σ, rfl⟩; rw [← es] at hP hD; have hC1 := hC; rw [← es] at hC1; have hn1 := hNc; rw [← es] at hn1; have fa0 : σ1.1 0 = σ.1 0 := by rw [es]
  have fa1 : σ1.1 1 = σ.1 1 := by rw [es]
  have w200 : σ1.1 200 = σ.1 200 := by rw [es]
  obtain ⟨q1, eq1⟩ : ∃ q1, q1 = q := ⟨q, rfl⟩; rw [← eq1] at hP hD; have eq0 : q1 0 = q 0 := by rw [eq1]
  obtain ⟨cells1, ec1⟩ : ∃ c1 : Nat, c1 = cells + 0 := ⟨_, rfl⟩; obtain ⟨slots1, es1⟩ : ∃ c1 : Nat, c1 = slots + 0 := ⟨_, rfl⟩; rw [← ec1, ← es1]
  have hNc1 := hn1
  refine lv_pop hx hb dL_law_269 rfl ?_
  refine lv_aload_n hx hb dL_law_270 rfl (lv_at hl 1 rfl) ?_
  refine lw_el (j := 1) hx hb hXs hbl hbA hS hl (by omega) hL dL_law_271 dL_law_272 dL_law_273 dL_law_274 dL_law_275 (by decide) e1 (fun r1 => ?_)
  have hPc := mc_P hP
  have hDc := mc_D hD
  refine xci (wc := MX g q2 0 τ) (wr := CX g q1 (L2 σ1) σ1) (va_runV (As := [.int (I n1)]) (rest := []) ⟨hx, hb, hml, hown, hts⟩ (L_X13_count l g q2 0 (by decide) r1 hNm (K_X13_count hM.1.1) H.size) (cwV 1 hts (TB_V tw_2795 tw_2796 tw_2797 tw_15 co_X13_count) rfl rfl rfl (by decide +kernel) ⟨Nat.le_of_ble_eq_true rfl, Nat.le_of_ble_eq_true rfl⟩) (preV (q0 := 0) (ci := 13) rfl xT_bl hPc hK hN hDc rfl rfl xT_at) rfl rfl hl.1 rfl (lv_room (Nat.le_of_ble_eq_true rfl)) dL_law_276 ⟨by show cells1 + 0 ≤ 139280; omega, by show slots1 + 0 ≤ 8684410; omega⟩) hP hD hS hA mc_i mc_r mc_C mc_R mc_nd mc_d (fun r w1 H locs hw hP hD hS => ?_)
  obtain ⟨y, rxy, rfl, rfl, hq⟩ := hw
  obtain ⟨τ1, es⟩ : ∃ τ1, τ1 = τ := ⟨τ, rfl⟩; rw [← es] at hP hD; have hM1 := hM; rw [← es] at hM1; have hn2 := hNm; rw [← es] at hn2; have fb0 : τ1.1 0 = τ.1 0 := by rw [es]
  have fb1 : τ1.1 1 = τ.1 1 := by rw [es]
  refine lv_pop hx hb dL_law_279 rfl ?_
  refine lv_goto (tgt := 843) hx hb dL_law_280 (by decide) ?_
  exact kk q1 σ1 τ1 H locs _ _ eq0 ⟨⟨hP, hD, hS⟩, ⟨l_C_up hC1 (by omega), hM1, hNc1, hn2⟩, ⟨by omega, by omega⟩, by omega, by omega⟩
end LC
