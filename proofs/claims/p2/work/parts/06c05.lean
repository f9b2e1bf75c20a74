-- methods told as propositions, and tied to the machine
def W_X12_place (σ : S0) (Q : Int → Prop) : Prop :=
  Q (σ.1 2)
set_option maxRecDepth 100000 in
set_option maxHeartbeats 4000000 in
theorem L_X12_place (l : Launch) (g : gG) (q : Nat → Nat) (lb : Nat) (hlb : lb < 2 ^ 31) {σ : S0} {Q : Int → Prop} (hN : n_m σ) (hw : W_X12_place σ Q) (sz : Nat) : MetI l yX12_place cX12_place 1 (some .int) { frames := 0, cells := 0, slots := 0, locals := 0 } g [.ref (q 0)] (CX g q lb σ) sz xT (p_i (CX g q lb) σ Q) 0 0 := by
  refine mkMet (Qc := fun A => QI g A (p_i (CX g q lb) σ Q)) (by decide) (Nat.le_of_ble_eq_true rfl) ?_
  intro p e s m below meth c A H ls hx hb hr hml hown hts hlk hnm hsz hP hK hNb hD hA hAe hS hX hl
  have hl : lv_has ls 1 [(0, .ref (q 0))] := hl
  have hB := hN
  obtain ⟨locs, hlocs⟩ : ∃ z : List Loc, z = [] := ⟨_, rfl⟩
  rw [← hlocs] at hS ⊢
  refine lv_aload_n hx hb dX12_place_0 rfl (lv_at hl 0 rfl) ?_
  refine gfX12_faultPlace hx hb hts hK hP hown (hts _ tw_887) (x := σ.1 2) rfl dX12_place_1 ?_
  exact xri hx hb hr hlk hP hK hD hS ⟨_, (hB.1 2), rfl, rfl, hw⟩ (Nat.le_of_ble_eq_true rfl) (Nat.le_of_ble_eq_true rfl) dX12_place_4
def W_X12_count (n1 : Int) (σ : S0) (Q : Int → Prop) : Prop :=
  (n1 < 0 ∨ 9 < n1 → Q (-1)) ∧ (n1 = 0 → Q (σ.1 7)) ∧ (n1 = 1 → Q (σ.1 5)) ∧ (n1 = 2 → ∃ (Q2 : Int → Prop), W_X3_constants σ Q2 ∧ ∀ (x3 : Int), rg x3 → Q2 x3 → (Q x3)) ∧ (n1 = 3 → ∃ (Q5 : Int → Prop), W_X3_ofKind 0 σ Q5 ∧ ∀ (x6 : Int), rg x6 → Q5 x6 → (Q x6)) ∧ (n1 = 4 → ∃ (Q8 : Int → Prop), W_X3_ofKind 1 σ Q8 ∧ ∀ (x9 : Int), rg x9 → Q8 x9 → (Q x9)) ∧ (n1 = 5 → ∃ (Q11 : Int → Prop), W_X3_ofKind 2 σ Q11 ∧ ∀ (x12 : Int), rg x12 → Q11 x12 → (Q x12)) ∧ (n1 = 6 → ∃ (Q14 : Int → Prop), W_X3_ofKind 3 σ Q14 ∧ ∀ (x15 : Int), rg x15 → Q14 x15 → (∃ (Q17 : Int → Prop), W_X3_ofKind 4 σ Q17 ∧ ∀ (x18 : Int), rg x18 → Q17 x18 → (rg (x15 + x18) ∧ Q (x15 + x18)))) ∧ (n1 = 7 → ∃ (Q21 : Int → Prop), W_X3_ofKind 4 σ Q21 ∧ ∀ (x22 : Int), rg x22 → Q21 x22 → (Q x22)) ∧ (n1 = 8 → Q (σ.1 16)) ∧ (n1 = 9 → Q (σ.1 14))
set_option maxRecDepth 100000 in
set_option maxHeartbeats 4000000 in
theorem L_X12_count (l : Launch) (g : gG) (q : Nat → Nat) (lb : Nat) (hlb : lb < 2 ^ 31) {n1 : Int} {σ : S0} {Q : Int → Prop} (r_n1 : rg n1) (hN : n_m σ) (hw : W_X12_count n1 σ Q) (sz : Nat) : MetI l yX12_count cX12_count 2 (some .int) { frames := 1, cells := 0, slots := 0, locals := 23 } g [.ref (q 0), .int (I n1)] (CX g q lb σ) sz xT (p_i (CX g q lb) σ Q) 0 0 := by
  refine mkMet (Qc := fun A => QI g A (p_i (CX g q lb) σ Q)) (by decide) (Nat.le_of_ble_eq_true rfl) ?_
  intro p e s m below meth c A H ls hx hb hr hml hown hts hlk hnm hsz hP hK hNb hD hA hAe hS hX hl
  have hl : lv_has ls 2 [(0, .ref (q 0)), (1, .int (I n1))] := hl
  have hB := hN
  obtain ⟨locs, hlocs⟩ : ∃ z : List Loc, z = [] := ⟨_, rfl⟩
  rw [← hlocs] at hS ⊢
  refine lv_iload_n hx hb dX12_count_0 rfl (lv_at hl 1 rfl) ?_
  have rr := (r_n1 : rg n1)
  rcases bi_sw (x := n1) 0 9 with c1 | c1
  ·
    replace hw := hw.1 c1
    refine lv_tableOut (tgt := 150) hx hb dX12_count_1 (by rw [I_toInt rr.1 rr.2]; exact c1) (by decide) ?_
    refine lv_iconst (v := I (-1)) hx hb dX12_count_150 rfl ?_
    exact xri hx hb hr hlk hP hK hD hS ⟨_, (by decide), rfl, rfl, hw⟩ (Nat.le_of_ble_eq_true rfl) (Nat.le_of_ble_eq_true rfl) dX12_count_151
  ·
    obtain ⟨k, hk, ec1⟩ := c1
    replace hw := hw.2
    rcases (show k = 0 ∨ k = 1 ∨ k = 2 ∨ k = 3 ∨ k = 4 ∨ k = 5 ∨ k = 6 ∨ k = 7 ∨ k = 8 ∨ k = 9 by omega) with rfl | rfl | rfl | rfl | rfl | rfl | rfl | rfl | rfl | rfl
    ·
      have e9 : n1 = 0 := ec1
      refine lv_tableIn (tgt := 56) hx hb dX12_count_1 (by rw [I_toInt rr.1 rr.2, e9]; decide) (by rw [I_toInt rr.1 rr.2, e9]; decide) (by rw [I_toInt rr.1 rr.2, e9]; rfl) (by decide) ?_
      replace hw := hw.1 e9
      refine lv_aload_n hx hb dX12_count_56 rfl (lv_at hl 0 rfl) ?_
      refine gfX12_library hx hb hts hK hP hown (hts _ tw_889) dX12_count_57 ?_
      refine gfNX3_statements hx hb hts hK hP hown (nb_use hNb tn_105) (x := σ.1 7) rfl dX12_count_60 ?_
      exact xri hx hb hr hlk hP hK hD hS ⟨_, (hB.1 7), rfl, rfl, hw⟩ (Nat.le_of_ble_eq_true rfl) (Nat.le_of_ble_eq_true rfl) dX12_count_63
    ·
      have e9 : n1 = 1 := ec1
      refine lv_tableIn (tgt := 64) hx hb dX12_count_1 (by rw [I_toInt rr.1 rr.2, e9]; decide) (by rw [I_toInt rr.1 rr.2, e9]; decide) (by rw [I_toInt rr.1 rr.2, e9]; rfl) (by decide) ?_
      replace hw := hw.2.1 e9
      refine lv_aload_n hx hb dX12_count_64 rfl (lv_at hl 0 rfl) ?_
      refine gfX12_library hx hb hts hK hP hown (hts _ tw_889) dX12_count_65 ?_
      refine gfNX3_symbols hx hb hts hK hP hown (nb_use hNb tn_63) (x := σ.1 5) rfl dX12_count_68 ?_
      exact xri hx hb hr hlk hP hK hD hS ⟨_, (hB.1 5), rfl, rfl, hw⟩ (Nat.le_of_ble_eq_true rfl) (Nat.le_of_ble_eq_true rfl) dX12_count_71
    ·
      have e9 : n1 = 2 := ec1
      refine lv_tableIn (tgt := 72) hx hb dX12_count_1 (by rw [I_toInt rr.1 rr.2, e9]; decide) (by rw [I_toInt rr.1 rr.2, e9]; decide) (by rw [I_toInt rr.1 rr.2, e9]; rfl) (by decide) ?_
      replace hw := hw.2.2.1 e9
      refine lv_aload_n hx hb dX12_count_72 rfl (lv_at hl 0 rfl) ?_
      refine gfX12_library hx hb hts hK hP hown (hts _ tw_889) dX12_count_73 ?_
      obtain ⟨Q2, hc, hw⟩ := hw
      refine wc_i (X := CX g q lb) (va_runV (As := []) (rest := []) ⟨hx, hb, hml, hown, hts⟩ (L_X3_constants l g q lb hlb  hN hc H.size) (cwV 0 hts (TB_V tw_1401 tw_1402 tw_1403 tw_2 co_X3_constants) rfl rfl rfl (by decide +kernel) ⟨Nat.le_of_ble_eq_true rfl, Nat.le_of_ble_eq_true rfl⟩) (preV (q0 := 1) (ci := 3) rfl xT_bl hP hK hNb hD rfl rfl xT_at) rfl rfl hl.1 rfl (lv_room (Nat.le_of_ble_eq_true rfl)) dX12_count_76 ⟨Nat.le_of_ble_eq_true rfl, Nat.le_of_ble_eq_true rfl⟩) hP hD hS hA (fun x3 H locs r_x3 hq hP hD hS => ?_)
      replace hw := hw x3 r_x3 hq
      exact xri hx hb hr hlk hP hK hD hS ⟨_, r_x3, rfl, rfl, hw⟩ (Nat.le_of_ble_eq_true rfl) (Nat.le_of_ble_eq_true rfl) dX12_count_79
    ·
      have e9 : n1 = 3 := ec1
      refine lv_tableIn (tgt := 80) hx hb dX12_count_1 (by rw [I_toInt rr.1 rr.2, e9]; decide) (by rw [I_toInt rr.1 rr.2, e9]; decide) (by rw [I_toInt rr.1 rr.2, e9]; rfl) (by decide) ?_
      replace hw := hw.2.2.2.1 e9
      refine lv_aload_n hx hb dX12_count_80 rfl (lv_at hl 0 rfl) ?_
      refine gfX12_library hx hb hts hK hP hown (hts _ tw_889) dX12_count_81 ?_
      refine lv_iconst (v := I 0) hx hb dX12_count_84 rfl ?_
      obtain ⟨Q5, hc, hw⟩ := hw
      refine wc_i (X := CX g q lb) (va_runV (As := [.int (I 0)]) (rest := []) ⟨hx, hb, hml, hown, hts⟩ (L_X3_ofKind l g q lb hlb (by decide) hN hc H.size) (cwV 1 hts (TB_V tw_1405 tw_1406 tw_1407 tw_2 co_X3_ofKind) rfl rfl rfl (by decide +kernel) ⟨Nat.le_of_ble_eq_true rfl, Nat.le_of_ble_eq_true rfl⟩) (preV (q0 := 1) (ci := 3) rfl xT_bl hP hK hNb hD rfl rfl xT_at) rfl rfl hl.1 rfl (lv_room (Nat.le_of_ble_eq_true rfl)) dX12_count_85 ⟨Nat.le_of_ble_eq_true rfl, Nat.le_of_ble_eq_true rfl⟩) hP hD hS hA (fun x6 H locs r_x6 hq hP hD hS => ?_)
      replace hw := hw x6 r_x6 hq
      exact xri hx hb hr hlk hP hK hD hS ⟨_, r_x6, rfl, rfl, hw⟩ (Nat.le_of_ble_eq_true rfl) (Nat.le_of_ble_eq_true rfl) dX12_count_88
    ·
      have e9 : n1 = 4 := ec1
      refine lv_tableIn (tgt := 89) hx hb dX12_count_1 (by rw [I_toInt rr.1 rr.2, e9]; decide) (by rw [I_toInt rr.1 rr.2, e9]; decide) (by rw [I_toInt rr.1 rr.2, e9]; rfl) (by decide) ?_
      replace hw := hw.2.2.2.2.1 e9
      refine lv_aload_n hx hb dX12_count_89 rfl (lv_at hl 0 rfl) ?_
      refine gfX12_library hx hb hts hK hP hown (hts _ tw_889) dX12_count_90 ?_
      refine lv_iconst (v := I 1) hx hb dX12_count_93 rfl ?_
      obtain ⟨Q8, hc, hw⟩ := hw
      refine wc_i (X := CX g q lb) (va_runV (As := [.int (I 1)]) (rest := []) ⟨hx, hb, hml, hown, hts⟩ (L_X3_ofKind l g q lb hlb (by decide) hN hc H.size) (cwV 1 hts (TB_V tw_1405 tw_1406 tw_1407 tw_2 co_X3_ofKind) rfl rfl rfl (by decide +kernel) ⟨Nat.le_of_ble_eq_true rfl, Nat.le_of_ble_eq_true rfl⟩) (preV (q0 := 1) (ci := 3) rfl xT_bl hP hK hNb hD rfl rfl xT_at) rfl rfl hl.1 rfl (lv_room (Nat.le_of_ble_eq_true rfl)) dX12_count_94 ⟨Nat.le_of_ble_eq_true rfl, Nat.le_of_ble_eq_true rfl⟩) hP hD hS hA (fun x9 H locs r_x9 hq hP hD hS => ?_)
      replace hw := hw x9 r_x9 hq
      exact xri hx hb hr hlk hP hK hD hS ⟨_, r_x9, rfl, rfl, hw⟩ (Nat.le_of_ble_eq_true rfl) (Nat.le_of_ble_eq_true rfl) dX12_count_97
    ·
      have e9 : n1 = 5 := ec1
      refine lv_tableIn (tgt := 98) hx hb dX12_count_1 (by rw [I_toInt rr.1 rr.2, e9]; decide) (by rw [I_toInt rr.1 rr.2, e9]; decide) (by rw [I_toInt rr.1 rr.2, e9]; rfl) (by decide) ?_
      replace hw := hw.2.2.2.2.2.1 e9
      refine lv_aload_n hx hb dX12_count_98 rfl (lv_at hl 0 rfl) ?_
      refine gfX12_library hx hb hts hK hP hown (hts _ tw_889) dX12_count_99 ?_
      refine lv_iconst (v := I 2) hx hb dX12_count_102 rfl ?_
      obtain ⟨Q11, hc, hw⟩ := hw
      refine wc_i (X := CX g q lb) (va_runV (As := [.int (I 2)]) (rest := []) ⟨hx, hb, hml, hown, hts⟩ (L_X3_ofKind l g q lb hlb (by decide) hN hc H.size) (cwV 1 hts (TB_V tw_1405 tw_1406 tw_1407 tw_2 co_X3_ofKind) rfl rfl rfl (by decide +kernel) ⟨Nat.le_of_ble_eq_true rfl, Nat.le_of_ble_eq_true rfl⟩) (preV (q0 := 1) (ci := 3) rfl xT_bl hP hK hNb hD rfl rfl xT_at) rfl rfl hl.1 rfl (lv_room (Nat.le_of_ble_eq_true rfl)) dX12_count_103 ⟨Nat.le_of_ble_eq_true rfl, Nat.le_of_ble_eq_true rfl⟩) hP hD hS hA (fun x12 H locs r_x12 hq hP hD hS => ?_)
      replace hw := hw x12 r_x12 hq
      exact xri hx hb hr hlk hP hK hD hS ⟨_, r_x12, rfl, rfl, hw⟩ (Nat.le_of_ble_eq_true rfl) (Nat.le_of_ble_eq_true rfl) dX12_count_106
    ·
      have e9 : n1 = 6 := ec1
      refine lv_tableIn (tgt := 107) hx hb dX12_count_1 (by rw [I_toInt rr.1 rr.2, e9]; decide) (by rw [I_toInt rr.1 rr.2, e9]; decide) (by rw [I_toInt rr.1 rr.2, e9]; rfl) (by decide) ?_
      replace hw := hw.2.2.2.2.2.2.1 e9
      refine lv_aload_n hx hb dX12_count_107 rfl (lv_at hl 0 rfl) ?_
      refine gfX12_library hx hb hts hK hP hown (hts _ tw_889) dX12_count_108 ?_
      refine lv_iconst (v := I 3) hx hb dX12_count_111 rfl ?_
      obtain ⟨Q14, hc, hw⟩ := hw
      refine wc_i (X := CX g q lb) (va_runV (As := [.int (I 3)]) (rest := []) ⟨hx, hb, hml, hown, hts⟩ (L_X3_ofKind l g q lb hlb (by decide) hN hc H.size) (cwV 1 hts (TB_V tw_1405 tw_1406 tw_1407 tw_2 co_X3_ofKind) rfl rfl rfl (by decide +kernel) ⟨Nat.le_of_ble_eq_true rfl, Nat.le_of_ble_eq_true rfl⟩) (preV (q0 := 1) (ci := 3) rfl xT_bl hP hK hNb hD rfl rfl xT_at) rfl rfl hl.1 rfl (lv_room (Nat.le_of_ble_eq_true rfl)) dX12_count_112 ⟨Nat.le_of_ble_eq_true rfl, Nat.le_of_ble_eq_true rfl⟩) hP hD hS hA (fun x15 H locs r_x15 hq hP hD hS => ?_)
      replace hw := hw x15 r_x15 hq
      refine lv_aload_n hx hb dX12_count_115 rfl (lv_at hl 0 rfl) ?_
      refine gfX12_library hx hb hts hK hP hown (hts _ tw_889) dX12_count_116 ?_
      refine lv_iconst (v := I 4) hx hb dX12_count_119 rfl ?_
      obtain ⟨Q17, hc, hw⟩ := hw
      refine wc_i (X := CX g q lb) (va_runV (As := [.int (I 4)]) (rest := [.int (I x15)]) ⟨hx, hb, hml, hown, hts⟩ (L_X3_ofKind l g q lb hlb (by decide) hN hc H.size) (cwV 1 hts (TB_V tw_1405 tw_1406 tw_1407 tw_2 co_X3_ofKind) rfl rfl rfl (by decide +kernel) ⟨Nat.le_of_ble_eq_true rfl, Nat.le_of_ble_eq_true rfl⟩) (preV (q0 := 1) (ci := 3) rfl xT_bl hP hK hNb hD rfl rfl xT_at) rfl rfl hl.1 rfl (lv_room (Nat.le_of_ble_eq_true rfl)) dX12_count_120 ⟨Nat.le_of_ble_eq_true rfl, Nat.le_of_ble_eq_true rfl⟩) hP hD hS hA (fun x18 H locs r_x18 hq hP hD hS => ?_)
      replace hw := hw x18 r_x18 hq
      refine bi_iadd hx hb dX12_count_123 ?_
      obtain ⟨c20, hw⟩ := hw
      exact xri hx hb hr hlk hP hK hD hS ⟨_, c20, rfl, rfl, hw⟩ (Nat.le_of_ble_eq_true rfl) (Nat.le_of_ble_eq_true rfl) dX12_count_124
    ·
      have e9 : n1 = 7 := ec1
      refine lv_tableIn (tgt := 125) hx hb dX12_count_1 (by rw [I_toInt rr.1 rr.2, e9]; decide) (by rw [I_toInt rr.1 rr.2, e9]; decide) (by rw [I_toInt rr.1 rr.2, e9]; rfl) (by decide) ?_
      replace hw := hw.2.2.2.2.2.2.2.1 e9
      refine lv_aload_n hx hb dX12_count_125 rfl (lv_at hl 0 rfl) ?_
      refine gfX12_library hx hb hts hK hP hown (hts _ tw_889) dX12_count_126 ?_
      refine lv_iconst (v := I 4) hx hb dX12_count_129 rfl ?_
      obtain ⟨Q21, hc, hw⟩ := hw
      refine wc_i (X := CX g q lb) (va_runV (As := [.int (I 4)]) (rest := []) ⟨hx, hb, hml, hown, hts⟩ (L_X3_ofKind l g q lb hlb (by decide) hN hc H.size) (cwV 1 hts (TB_V tw_1405 tw_1406 tw_1407 tw_2 co_X3_ofKind) rfl rfl rfl (by decide +kernel) ⟨Nat.le_of_ble_eq_true rfl, Nat.le_of_ble_eq_true rfl⟩) (preV (q0 := 1) (ci := 3) rfl xT_bl hP hK hNb hD rfl rfl xT_at) rfl rfl hl.1 rfl (lv_room (Nat.le_of_ble_eq_true rfl)) dX12_count_130 ⟨Nat.le_of_ble_eq_true rfl, Nat.le_of_ble_eq_true rfl⟩) hP hD hS hA (fun x22 H locs r_x22 hq hP hD hS => ?_)
      replace hw := hw x22 r_x22 hq
      exact xri hx hb hr hlk hP hK hD hS ⟨_, r_x22, rfl, rfl, hw⟩ (Nat.le_of_ble_eq_true rfl) (Nat.le_of_ble_eq_true rfl) dX12_count_133
    ·
      have e9 : n1 = 8 := ec1
      refine lv_tableIn (tgt := 134) hx hb dX12_count_1 (by rw [I_toInt rr.1 rr.2, e9]; decide) (by rw [I_toInt rr.1 rr.2, e9]; decide) (by rw [I_toInt rr.1 rr.2, e9]; rfl) (by decide) ?_
      replace hw := hw.2.2.2.2.2.2.2.2.1 e9
      refine lv_aload_n hx hb dX12_count_134 rfl (lv_at hl 0 rfl) ?_
      refine gfX12_assertions hx hb hts hK hP hown (hts _ tw_891) dX12_count_135 ?_
      refine gfNX0_steps hx hb hts hK hP hown (nb_use hNb tn_292) (x := σ.1 16) rfl dX12_count_138 ?_
      exact xri hx hb hr hlk hP hK hD hS ⟨_, (hB.1 16), rfl, rfl, hw⟩ (Nat.le_of_ble_eq_true rfl) (Nat.le_of_ble_eq_true rfl) dX12_count_141
    ·
      have e9 : n1 = 9 := ec1
      refine lv_tableIn (tgt := 142) hx hb dX12_count_1 (by rw [I_toInt rr.1 rr.2, e9]; decide) (by rw [I_toInt rr.1 rr.2, e9]; decide) (by rw [I_toInt rr.1 rr.2, e9]; rfl) (by decide) ?_
      replace hw := hw.2.2.2.2.2.2.2.2.2 e9
      refine lv_aload_n hx hb dX12_count_142 rfl (lv_at hl 0 rfl) ?_
      refine gfX12_assertions hx hb hts hK hP hown (hts _ tw_891) dX12_count_143 ?_
      refine gfNX0_pairs hx hb hts hK hP hown (nb_use hNb tn_264) (x := σ.1 14) rfl dX12_count_146 ?_
      exact xri hx hb hr hlk hP hK hD hS ⟨_, (hB.1 14), rfl, rfl, hw⟩ (Nat.le_of_ble_eq_true rfl) (Nat.le_of_ble_eq_true rfl) dX12_count_149
def W_X12_kind (n1 : Int) (σ : S0) (Q : Int → Prop) : Prop :=
  ∃ (Q1 : Int → Prop), W_X3_isStatement n1 σ Q1 ∧ ∀ (x2 : Int), rg x2 → Q1 x2 → ((x2 = 0 → Q (-1)) ∧ (¬ x2 = 0 → (0 ≤ n1 ∧ n1 < 1500) ∧ (∀ (x6 : Int), rg x6 → x6 = σ.2.1 13 n1 → (Q x6))))
set_option maxRecDepth 100000 in
set_option maxHeartbeats 4000000 in
theorem L_X12_kind (l : Launch) (g : gG) (q : Nat → Nat) (lb : Nat) (hlb : lb < 2 ^ 31) {n1 : Int} {σ : S0} {Q : Int → Prop} (r_n1 : rg n1) (hN : n_m σ) (hw : W_X12_kind n1 σ Q) (sz : Nat) : MetI l yX12_kind cX12_kind 2 (some .int) { frames := 1, cells := 0, slots := 0, locals := 21 } g [.ref (q 0), .int (I n1)] (CX g q lb σ) sz xT (p_i (CX g q lb) σ Q) 0 0 := by
  refine mkMet (Qc := fun A => QI g A (p_i (CX g q lb) σ Q)) (by decide) (Nat.le_of_ble_eq_true rfl) ?_
  intro p e s m below meth c A H ls hx hb hr hml hown hts hlk hnm hsz hP hK hNb hD hA hAe hS hX hl
  have hl : lv_has ls 2 [(0, .ref (q 0)), (1, .int (I n1))] := hl
  have hB := hN
  obtain ⟨locs, hlocs⟩ : ∃ z : List Loc, z = [] := ⟨_, rfl⟩
  rw [← hlocs] at hS ⊢
  refine lv_aload_n hx hb dX12_kind_0 rfl (lv_at hl 0 rfl) ?_
  refine gfX12_library hx hb hts hK hP hown (hts _ tw_889) dX12_kind_1 ?_
  refine lv_iload_n hx hb dX12_kind_4 rfl (lv_at hl 1 rfl) ?_
  obtain ⟨Q1, hc, hw⟩ := hw
  refine wc_i (X := CX g q lb) (va_runV (As := [.int (I n1)]) (rest := []) ⟨hx, hb, hml, hown, hts⟩ (L_X3_isStatement l g q lb hlb r_n1 hN hc H.size) (cwV 1 hts (TB_V tw_1413 tw_1414 tw_1415 tw_2 co_X3_isStatement) rfl rfl rfl (by decide +kernel) ⟨Nat.le_of_ble_eq_true rfl, Nat.le_of_ble_eq_true rfl⟩) (preV (q0 := 1) (ci := 3) rfl xT_bl hP hK hNb hD rfl rfl xT_at) rfl rfl hl.1 rfl (lv_room (Nat.le_of_ble_eq_true rfl)) dX12_kind_5 ⟨Nat.le_of_ble_eq_true rfl, Nat.le_of_ble_eq_true rfl⟩) hP hD hS hA (fun x2 H locs r_x2 hq hP hD hS => ?_)
  replace hw := hw x2 r_x2 hq
  refine bi_if_eq (tgt := 23) hx hb r_x2 dX12_kind_8 (by decide) (fun c4 => ?_) (fun c4 => ?_)
  ·
    replace hw := hw.1 c4
    refine lv_iconst (v := I (-1)) hx hb dX12_kind_23 rfl ?_
    exact xri hx hb hr hlk hP hK hD hS ⟨_, (by decide), rfl, rfl, hw⟩ (Nat.le_of_ble_eq_true rfl) (Nat.le_of_ble_eq_true rfl) dX12_kind_24
  ·
    replace hw := hw.2 c4
    refine lv_aload_n hx hb dX12_kind_11 rfl (lv_at hl 0 rfl) ?_
    refine gfX12_library hx hb hts hK hP hown (hts _ tw_889) dX12_kind_12 ?_
    refine gfNX3_kind hx hb hts hK hP hown (nb_use hNb tn_75) dX12_kind_15 ?_
    refine lv_iload_n hx hb dX12_kind_18 rfl (lv_at hl 1 rfl) ?_
    obtain ⟨c5, hw⟩ := hw
    refine ldCX3_kind hx hb hK hP hN c5 dX12_kind_19 (fun x6 r_x6 e_x6 => ?_)
    replace hw := hw x6 r_x6 e_x6
    refine lv_goto (tgt := 24) hx hb dX12_kind_20 (by decide) ?_
    exact xri hx hb hr hlk hP hK hD hS ⟨_, r_x6, rfl, rfl, hw⟩ (Nat.le_of_ble_eq_true rfl) (Nat.le_of_ble_eq_true rfl) dX12_kind_24
def W_X12_length (n1 : Int) (σ : S0) (Q : Int → Prop) : Prop :=
  ∃ (Q1 : Int → Prop), W_X3_isStatement n1 σ Q1 ∧ ∀ (x2 : Int), rg x2 → Q1 x2 → ((x2 = 0 → Q (-1)) ∧ (¬ x2 = 0 → ∃ (Q5 : Int → Prop), W_X3_lengthOf n1 σ Q5 ∧ ∀ (x6 : Int), rg x6 → Q5 x6 → (Q x6)))
set_option maxRecDepth 100000 in
set_option maxHeartbeats 4000000 in
theorem L_X12_length (l : Launch) (g : gG) (q : Nat → Nat) (lb : Nat) (hlb : lb < 2 ^ 31) {n1 : Int} {σ : S0} {Q : Int → Prop} (r_n1 : rg n1) (hN : n_m σ) (hw : W_X12_length n1 σ Q) (sz : Nat) : MetI l yX12_length cX12_length 2 (some .int) { frames := 1, cells := 0, slots := 0, locals := 21 } g [.ref (q 0), .int (I n1)] (CX g q lb σ) sz xT (p_i (CX g q lb) σ Q) 0 0 := by
  refine mkMet (Qc := fun A => QI g A (p_i (CX g q lb) σ Q)) (by decide) (Nat.le_of_ble_eq_true rfl) ?_
  intro p e s m below meth c A H ls hx hb hr hml hown hts hlk hnm hsz hP hK hNb hD hA hAe hS hX hl
  have hl : lv_has ls 2 [(0, .ref (q 0)), (1, .int (I n1))] := hl
  have hB := hN
  obtain ⟨locs, hlocs⟩ : ∃ z : List Loc, z = [] := ⟨_, rfl⟩
  rw [← hlocs] at hS ⊢
  refine lv_aload_n hx hb dX12_length_0 rfl (lv_at hl 0 rfl) ?_
  refine gfX12_library hx hb hts hK hP hown (hts _ tw_889) dX12_length_1 ?_
  refine lv_iload_n hx hb dX12_length_4 rfl (lv_at hl 1 rfl) ?_
  obtain ⟨Q1, hc, hw⟩ := hw
  refine wc_i (X := CX g q lb) (va_runV (As := [.int (I n1)]) (rest := []) ⟨hx, hb, hml, hown, hts⟩ (L_X3_isStatement l g q lb hlb r_n1 hN hc H.size) (cwV 1 hts (TB_V tw_1413 tw_1414 tw_1415 tw_2 co_X3_isStatement) rfl rfl rfl (by decide +kernel) ⟨Nat.le_of_ble_eq_true rfl, Nat.le_of_ble_eq_true rfl⟩) (preV (q0 := 1) (ci := 3) rfl xT_bl hP hK hNb hD rfl rfl xT_at) rfl rfl hl.1 rfl (lv_room (Nat.le_of_ble_eq_true rfl)) dX12_length_5 ⟨Nat.le_of_ble_eq_true rfl, Nat.le_of_ble_eq_true rfl⟩) hP hD hS hA (fun x2 H locs r_x2 hq hP hD hS => ?_)
  replace hw := hw x2 r_x2 hq
  refine bi_if_eq (tgt := 22) hx hb r_x2 dX12_length_8 (by decide) (fun c4 => ?_) (fun c4 => ?_)
  ·
    replace hw := hw.1 c4
    refine lv_iconst (v := I (-1)) hx hb dX12_length_22 rfl ?_
    exact xri hx hb hr hlk hP hK hD hS ⟨_, (by decide), rfl, rfl, hw⟩ (Nat.le_of_ble_eq_true rfl) (Nat.le_of_ble_eq_true rfl) dX12_length_23
  ·
    replace hw := hw.2 c4
    refine lv_aload_n hx hb dX12_length_11 rfl (lv_at hl 0 rfl) ?_
    refine gfX12_library hx hb hts hK hP hown (hts _ tw_889) dX12_length_12 ?_
    refine lv_iload_n hx hb dX12_length_15 rfl (lv_at hl 1 rfl) ?_
    obtain ⟨Q5, hc, hw⟩ := hw
    refine wc_i (X := CX g q lb) (va_runV (As := [.int (I n1)]) (rest := []) ⟨hx, hb, hml, hown, hts⟩ (L_X3_lengthOf l g q lb hlb r_n1 hN hc H.size) (cwV 1 hts (TB_V tw_1421 tw_1292 tw_1293 tw_2 co_X3_lengthOf) rfl rfl rfl (by decide +kernel) ⟨Nat.le_of_ble_eq_true rfl, Nat.le_of_ble_eq_true rfl⟩) (preV (q0 := 1) (ci := 3) rfl xT_bl hP hK hNb hD rfl rfl xT_at) rfl rfl hl.1 rfl (lv_room (Nat.le_of_ble_eq_true rfl)) dX12_length_16 ⟨Nat.le_of_ble_eq_true rfl, Nat.le_of_ble_eq_true rfl⟩) hP hD hS hA (fun x6 H locs r_x6 hq hP hD hS => ?_)
    replace hw := hw x6 r_x6 hq
    refine lv_goto (tgt := 23) hx hb dX12_length_19 (by decide) ?_
    exact xri hx hb hr hlk hP hK hD hS ⟨_, r_x6, rfl, rfl, hw⟩ (Nat.le_of_ble_eq_true rfl) (Nat.le_of_ble_eq_true rfl) dX12_length_23
def W_X12_symbol (n1 : Int) (n2 : Int) (σ : S0) (Q : Int → Prop) : Prop :=
  ∃ (Q1 : Int → Prop), W_X3_isStatement n1 σ Q1 ∧ ∀ (x2 : Int), rg x2 → Q1 x2 → ((x2 = 0 → Q (-1)) ∧ (¬ x2 = 0 → (n2 < 0 → Q (-1)) ∧ (0 ≤ n2 → ∃ (Q6 : Int → Prop), W_X3_lengthOf n1 σ Q6 ∧ ∀ (x7 : Int), rg x7 → Q6 x7 → ((n2 < x7 → (0 ≤ n1 ∧ n1 < 1501) ∧ (∀ (x11 : Int), rg x11 → x11 = σ.2.1 14 n1 → ((0 ≤ (x11 + n2) ∧ (x11 + n2) < 30000) ∧ (∀ (x13 : Int), rg x13 → x13 = σ.2.1 15 (x11 + n2) → (Q x13))))) ∧ (x7 ≤ n2 → Q (-1))))))
set_option maxRecDepth 100000 in
set_option maxHeartbeats 4000000 in
theorem L_X12_symbol (l : Launch) (g : gG) (q : Nat → Nat) (lb : Nat) (hlb : lb < 2 ^ 31) {n1 : Int} {n2 : Int} {σ : S0} {Q : Int → Prop} (r_n1 : rg n1) (r_n2 : rg n2) (hN : n_m σ) (hw : W_X12_symbol n1 n2 σ Q) (sz : Nat) : MetI l yX12_symbol cX12_symbol 3 (some .int) { frames := 1, cells := 0, slots := 0, locals := 21 } g [.ref (q 0), .int (I n1), .int (I n2)] (CX g q lb σ) sz xT (p_i (CX g q lb) σ Q) 0 0 := by
  refine mkMet (Qc := fun A => QI g A (p_i (CX g q lb) σ Q)) (by decide) (Nat.le_of_ble_eq_true rfl) ?_
  intro p e s m below meth c A H ls hx hb hr hml hown hts hlk hnm hsz hP hK hNb hD hA hAe hS hX hl
  have hl : lv_has ls 3 [(0, .ref (q 0)), (1, .int (I n1)), (2, .int (I n2))] := hl
  have hB := hN
  obtain ⟨locs, hlocs⟩ : ∃ z : List Loc, z = [] := ⟨_, rfl⟩
  rw [← hlocs] at hS ⊢
  refine lv_aload_n hx hb dX12_symbol_0 rfl (lv_at hl 0 rfl) ?_
  refine gfX12_library hx hb hts hK hP hown (hts _ tw_889) dX12_symbol_1 ?_
  refine lv_iload_n hx hb dX12_symbol_4 rfl (lv_at hl 1 rfl) ?_
  obtain ⟨Q1, hc, hw⟩ := hw
  refine wc_i (X := CX g q lb) (va_runV (As := [.int (I n1)]) (rest := []) ⟨hx, hb, hml, hown, hts⟩ (L_X3_isStatement l g q lb hlb r_n1 hN hc H.size) (cwV 1 hts (TB_V tw_1413 tw_1414 tw_1415 tw_2 co_X3_isStatement) rfl rfl rfl (by decide +kernel) ⟨Nat.le_of_ble_eq_true rfl, Nat.le_of_ble_eq_true rfl⟩) (preV (q0 := 1) (ci := 3) rfl xT_bl hP hK hNb hD rfl rfl xT_at) rfl rfl hl.1 rfl (lv_room (Nat.le_of_ble_eq_true rfl)) dX12_symbol_5 ⟨Nat.le_of_ble_eq_true rfl, Nat.le_of_ble_eq_true rfl⟩) hP hD hS hA (fun x2 H locs r_x2 hq hP hD hS => ?_)
  replace hw := hw x2 r_x2 hq
  refine bi_if_eq (tgt := 27) hx hb r_x2 dX12_symbol_8 (by decide) (fun c4 => ?_) (fun c4 => ?_)
  ·
    replace hw := hw.1 c4
    refine lv_iconst (v := I (-1)) hx hb dX12_symbol_27 rfl ?_
    exact xri hx hb hr hlk hP hK hD hS ⟨_, (by decide), rfl, rfl, hw⟩ (Nat.le_of_ble_eq_true rfl) (Nat.le_of_ble_eq_true rfl) dX12_symbol_28
  ·
    replace hw := hw.2 c4
    refine lv_iload_n hx hb dX12_symbol_11 rfl (lv_at hl 2 rfl) ?_
    refine bi_if_lt (tgt := 27) hx hb r_n2 dX12_symbol_12 (by decide) (fun c5 => ?_) (fun c5 => ?_)
    ·
      replace hw := hw.1 c5
      refine lv_iconst (v := I (-1)) hx hb dX12_symbol_27 rfl ?_
      exact xri hx hb hr hlk hP hK hD hS ⟨_, (by decide), rfl, rfl, hw⟩ (Nat.le_of_ble_eq_true rfl) (Nat.le_of_ble_eq_true rfl) dX12_symbol_28
    ·
      replace hw := hw.2 c5
      refine lv_iload_n hx hb dX12_symbol_15 rfl (lv_at hl 2 rfl) ?_
      refine lv_aload_n hx hb dX12_symbol_16 rfl (lv_at hl 0 rfl) ?_
      refine gfX12_library hx hb hts hK hP hown (hts _ tw_889) dX12_symbol_17 ?_
      refine lv_iload_n hx hb dX12_symbol_20 rfl (lv_at hl 1 rfl) ?_
      obtain ⟨Q6, hc, hw⟩ := hw
      refine wc_i (X := CX g q lb) (va_runV (As := [.int (I n1)]) (rest := [.int (I n2)]) ⟨hx, hb, hml, hown, hts⟩ (L_X3_lengthOf l g q lb hlb r_n1 hN hc H.size) (cwV 1 hts (TB_V tw_1421 tw_1292 tw_1293 tw_2 co_X3_lengthOf) rfl rfl rfl (by decide +kernel) ⟨Nat.le_of_ble_eq_true rfl, Nat.le_of_ble_eq_true rfl⟩) (preV (q0 := 1) (ci := 3) rfl xT_bl hP hK hNb hD rfl rfl xT_at) rfl rfl hl.1 rfl (lv_room (Nat.le_of_ble_eq_true rfl)) dX12_symbol_21 ⟨Nat.le_of_ble_eq_true rfl, Nat.le_of_ble_eq_true rfl⟩) hP hD hS hA (fun x7 H locs r_x7 hq hP hD hS => ?_)
      replace hw := hw x7 r_x7 hq
      refine bi_icmp_lt (tgt := 29) hx hb r_n2 r_x7 dX12_symbol_24 (by decide) (fun c9 => ?_) (fun c9 => ?_)
      ·
        replace hw := hw.1 c9
        refine lv_aload_n hx hb dX12_symbol_29 rfl (lv_at hl 0 rfl) ?_
        refine gfX12_library hx hb hts hK hP hown (hts _ tw_889) dX12_symbol_30 ?_
        refine gfNX3_text hx hb hts hK hP hown (nb_use hNb tn_90) dX12_symbol_33 ?_
        refine lv_aload_n hx hb dX12_symbol_36 rfl (lv_at hl 0 rfl) ?_
        refine gfX12_library hx hb hts hK hP hown (hts _ tw_889) dX12_symbol_37 ?_
        refine gfNX3_at hx hb hts hK hP hown (nb_use hNb tn_83) dX12_symbol_40 ?_
        refine lv_iload_n hx hb dX12_symbol_43 rfl (lv_at hl 1 rfl) ?_
        obtain ⟨c10, hw⟩ := hw
        refine ldCX3_at hx hb hK hP hN c10 dX12_symbol_44 (fun x11 r_x11 e_x11 => ?_)
        replace hw := hw x11 r_x11 e_x11
        refine lv_iload_n hx hb dX12_symbol_45 rfl (lv_at hl 2 rfl) ?_
        refine bi_iadd hx hb dX12_symbol_46 ?_
        obtain ⟨c12, hw⟩ := hw
        refine ldCX3_text hx hb hK hP hN c12 dX12_symbol_47 (fun x13 r_x13 e_x13 => ?_)
        replace hw := hw x13 r_x13 e_x13
        exact xri hx hb hr hlk hP hK hD hS ⟨_, r_x13, rfl, rfl, hw⟩ (Nat.le_of_ble_eq_true rfl) (Nat.le_of_ble_eq_true rfl) dX12_symbol_48
      ·
        replace hw := hw.2 c9
        refine lv_iconst (v := I (-1)) hx hb dX12_symbol_27 rfl ?_
        exact xri hx hb hr hlk hP hK hD hS ⟨_, (by decide), rfl, rfl, hw⟩ (Nat.le_of_ble_eq_true rfl) (Nat.le_of_ble_eq_true rfl) dX12_symbol_28
def W_X12_variable (n1 : Int) (σ : S0) (Q : Int → Prop) : Prop :=
  ∃ (Q1 : Int → Prop), W_X3_isSymbol n1 σ Q1 ∧ ∀ (x2 : Int), rg x2 → Q1 x2 → ((¬ x2 = 0 → (0 ≤ n1 ∧ n1 < 1000) ∧ (∀ (x6 : Int), rg x6 → x6 = σ.2.1 8 n1 → ((x6 = 0 → Q 0) ∧ (¬ x6 = 0 → Q 1)))) ∧ (x2 = 0 → Q (-1)))
set_option maxRecDepth 100000 in
set_option maxHeartbeats 4000000 in
theorem L_X12_variable (l : Launch) (g : gG) (q : Nat → Nat) (lb : Nat) (hlb : lb < 2 ^ 31) {n1 : Int} {σ : S0} {Q : Int → Prop} (r_n1 : rg n1) (hN : n_m σ) (hw : W_X12_variable n1 σ Q) (sz : Nat) : MetI l yX12_variable cX12_variable 2 (some .int) { frames := 1, cells := 0, slots := 0, locals := 21 } g [.ref (q 0), .int (I n1)] (CX g q lb σ) sz xT (p_i (CX g q lb) σ Q) 0 0 := by
  refine mkMet (Qc := fun A => QI g A (p_i (CX g q lb) σ Q)) (by decide) (Nat.le_of_ble_eq_true rfl) ?_
  intro p e s m below meth c A H ls hx hb hr hml hown hts hlk hnm hsz hP hK hNb hD hA hAe hS hX hl
  have hl : lv_has ls 2 [(0, .ref (q 0)), (1, .int (I n1))] := hl
  have hB := hN
  obtain ⟨locs, hlocs⟩ : ∃ z : List Loc, z = [] := ⟨_, rfl⟩
  rw [← hlocs] at hS ⊢
  refine lv_aload_n hx hb dX12_variable_0 rfl (lv_at hl 0 rfl) ?_
  refine gfX12_library hx hb hts hK hP hown (hts _ tw_889) dX12_variable_1 ?_
  refine lv_iload_n hx hb dX12_variable_4 rfl (lv_at hl 1 rfl) ?_
  obtain ⟨Q1, hc, hw⟩ := hw
  refine wc_i (X := CX g q lb) (va_runV (As := [.int (I n1)]) (rest := []) ⟨hx, hb, hml, hown, hts⟩ (L_X3_isSymbol l g q lb hlb r_n1 hN hc H.size) (cwV 1 hts (TB_V tw_1430 tw_1431 tw_1432 tw_2 co_X3_isSymbol) rfl rfl rfl (by decide +kernel) ⟨Nat.le_of_ble_eq_true rfl, Nat.le_of_ble_eq_true rfl⟩) (preV (q0 := 1) (ci := 3) rfl xT_bl hP hK hNb hD rfl rfl xT_at) rfl rfl hl.1 rfl (lv_room (Nat.le_of_ble_eq_true rfl)) dX12_variable_5 ⟨Nat.le_of_ble_eq_true rfl, Nat.le_of_ble_eq_true rfl⟩) hP hD hS hA (fun x2 H locs r_x2 hq hP hD hS => ?_)
  replace hw := hw x2 r_x2 hq
  refine bi_if_ne (tgt := 13) hx hb r_x2 dX12_variable_8 (by decide) (fun c4 => ?_) (fun c4 => ?_)
  ·
    replace hw := hw.1 c4
    refine lv_aload_n hx hb dX12_variable_13 rfl (lv_at hl 0 rfl) ?_
    refine gfX12_library hx hb hts hK hP hown (hts _ tw_889) dX12_variable_14 ?_
    refine gfNX3_variable hx hb hts hK hP hown (nb_use hNb tn_49) dX12_variable_17 ?_
    refine lv_iload_n hx hb dX12_variable_20 rfl (lv_at hl 1 rfl) ?_
    obtain ⟨c5, hw⟩ := hw
    refine ldCX3_variable hx hb hK hP hN c5 dX12_variable_21 (fun x6 r_x6 e_x6 => ?_)
    replace hw := hw x6 r_x6 e_x6
    refine bi_if_eq (tgt := 29) hx hb r_x6 dX12_variable_22 (by decide) (fun c7 => ?_) (fun c7 => ?_)
    ·
      replace hw := hw.1 c7
      refine lv_iconst (v := I 0) hx hb dX12_variable_29 rfl ?_
      exact xri hx hb hr hlk hP hK hD hS ⟨_, (by decide), rfl, rfl, hw⟩ (Nat.le_of_ble_eq_true rfl) (Nat.le_of_ble_eq_true rfl) dX12_variable_30
    ·
      replace hw := hw.2 c7
      refine lv_iconst (v := I 1) hx hb dX12_variable_25 rfl ?_
      refine lv_goto (tgt := 30) hx hb dX12_variable_26 (by decide) ?_
      exact xri hx hb hr hlk hP hK hD hS ⟨_, (by decide), rfl, rfl, hw⟩ (Nat.le_of_ble_eq_true rfl) (Nat.le_of_ble_eq_true rfl) dX12_variable_30
  ·
    replace hw := hw.2 c4
    refine lv_iconst (v := I (-1)) hx hb dX12_variable_11 rfl ?_
    exact xri hx hb hr hlk hP hK hD hS ⟨_, (by decide), rfl, rfl, hw⟩ (Nat.le_of_ble_eq_true rfl) (Nat.le_of_ble_eq_true rfl) dX12_variable_12
def W_X3_symbolNamed_q13 (n2 : Int) (n3 : Int) (σ : S0) (Q : Int → Prop) : Prop :=
  ∃ (Q1 : Int → Prop), W_X3_nameOf_q13 n2 n3 σ Q1 ∧ ∀ (x2 : Int), rg x2 → Q1 x2 → (∃ (Q4 : Int → Prop), W_X3_symbolOf x2 σ Q4 ∧ ∀ (x5 : Int), rg x5 → Q4 x5 → (Q x5))
set_option maxRecDepth 100000 in
set_option maxHeartbeats 4000000 in
theorem L_X3_symbolNamed_q13 (l : Launch) (g : gG) (q : Nat → Nat) (lb : Nat) (hlb : lb < 2 ^ 31) {n2 : Int} {n3 : Int} {σ : S0} {Q : Int → Prop} (r_n2 : rg n2) (r_n3 : rg n3) (hN : n_m σ) (hw : W_X3_symbolNamed_q13 n2 n3 σ Q) (sz : Nat) : MetI l yX3_symbolNamed cX3_symbolNamed 4 (some .int) { frames := 2, cells := 0, slots := 0, locals := 51 } g [.ref (q 1), .ref (q 13), .int (I n2), .int (I n3)] (CX g q lb σ) sz xT (p_i (CX g q lb) σ Q) 0 0 := by
  refine mkMet (Qc := fun A => QI g A (p_i (CX g q lb) σ Q)) (by decide) (Nat.le_of_ble_eq_true rfl) ?_
  intro p e s m below meth c A H ls hx hb hr hml hown hts hlk hnm hsz hP hK hNb hD hA hAe hS hX hl
  have hl : lv_has ls 4 [(0, .ref (q 1)), (1, .ref (q 13)), (2, .int (I n2)), (3, .int (I n3))] := hl
  have hB := hN
  obtain ⟨locs, hlocs⟩ : ∃ z : List Loc, z = [] := ⟨_, rfl⟩
  rw [← hlocs] at hS ⊢
  refine lv_aload_n hx hb dX3_symbolNamed_0 rfl (lv_at hl 0 rfl) ?_
  refine lv_aload_n hx hb dX3_symbolNamed_1 rfl (lv_at hl 0 rfl) ?_
  refine lv_aload_n hx hb dX3_symbolNamed_2 rfl (lv_at hl 1 rfl) ?_
  refine lv_iload_n hx hb dX3_symbolNamed_3 rfl (lv_at hl 2 rfl) ?_
  refine lv_iload_n hx hb dX3_symbolNamed_4 rfl (lv_at hl 3 rfl) ?_
  obtain ⟨Q1, hc, hw⟩ := hw
  refine wc_i (X := CX g q lb) (va_runV (As := [.ref (q 13), .int (I n2), .int (I n3)]) (rest := [.ref (q 1)]) ⟨hx, hb, hml, hown, hts⟩ (L_X3_nameOf_q13 l g q lb hlb r_n2 r_n3 hN hc H.size) (cwV 3 hts (TB_V tw_1444 tw_1104 tw_1105 tw_2 co_X3_nameOf) rfl rfl rfl (by decide +kernel) ⟨Nat.le_of_ble_eq_true rfl, Nat.le_of_ble_eq_true rfl⟩) (preV (q0 := 1) (ci := 3) rfl xT_bl hP hK hNb hD rfl rfl xT_at) rfl rfl hl.1 rfl (lv_room (Nat.le_of_ble_eq_true rfl)) dX3_symbolNamed_5 ⟨Nat.le_of_ble_eq_true rfl, Nat.le_of_ble_eq_true rfl⟩) hP hD hS hA (fun x2 H locs r_x2 hq hP hD hS => ?_)
  replace hw := hw x2 r_x2 hq
  obtain ⟨Q4, hc, hw⟩ := hw
  refine wc_i (X := CX g q lb) (va_runV (As := [.int (I x2)]) (rest := []) ⟨hx, hb, hml, hown, hts⟩ (L_X3_symbolOf l g q lb hlb r_x2 hN hc H.size) (cwV 1 hts (TB_V tw_1450 tw_1115 tw_1116 tw_2 co_X3_symbolOf) rfl rfl rfl (by decide +kernel) ⟨Nat.le_of_ble_eq_true rfl, Nat.le_of_ble_eq_true rfl⟩) (preV (q0 := 1) (ci := 3) rfl xT_bl hP hK hNb hD rfl rfl xT_at) rfl rfl hl.1 rfl (lv_room (Nat.le_of_ble_eq_true rfl)) dX3_symbolNamed_8 ⟨Nat.le_of_ble_eq_true rfl, Nat.le_of_ble_eq_true rfl⟩) hP hD hS hA (fun x5 H locs r_x5 hq hP hD hS => ?_)
  replace hw := hw x5 r_x5 hq
  exact xri hx hb hr hlk hP hK hD hS ⟨_, r_x5, rfl, rfl, hw⟩ (Nat.le_of_ble_eq_true rfl) (Nat.le_of_ble_eq_true rfl) dX3_symbolNamed_11
def W_X3_statementNamed_q13 (n2 : Int) (n3 : Int) (σ : S0) (Q : Int → Prop) : Prop :=
  ∃ (Q1 : Int → Prop), W_X3_nameOf_q13 n2 n3 σ Q1 ∧ ∀ (x2 : Int), rg x2 → Q1 x2 → (∃ (Q4 : Int → Prop), W_X3_statementOf x2 σ Q4 ∧ ∀ (x5 : Int), rg x5 → Q4 x5 → (Q x5))
set_option maxRecDepth 100000 in
set_option maxHeartbeats 4000000 in
theorem L_X3_statementNamed_q13 (l : Launch) (g : gG) (q : Nat → Nat) (lb : Nat) (hlb : lb < 2 ^ 31) {n2 : Int} {n3 : Int} {σ : S0} {Q : Int → Prop} (r_n2 : rg n2) (r_n3 : rg n3) (hN : n_m σ) (hw : W_X3_statementNamed_q13 n2 n3 σ Q) (sz : Nat) : MetI l yX3_statementNamed cX3_statementNamed 4 (some .int) { frames := 2, cells := 0, slots := 0, locals := 51 } g [.ref (q 1), .ref (q 13), .int (I n2), .int (I n3)] (CX g q lb σ) sz xT (p_i (CX g q lb) σ Q) 0 0 := by
  refine mkMet (Qc := fun A => QI g A (p_i (CX g q lb) σ Q)) (by decide) (Nat.le_of_ble_eq_true rfl) ?_
  intro p e s m below meth c A H ls hx hb hr hml hown hts hlk hnm hsz hP hK hNb hD hA hAe hS hX hl
  have hl : lv_has ls 4 [(0, .ref (q 1)), (1, .ref (q 13)), (2, .int (I n2)), (3, .int (I n3))] := hl
  have hB := hN
  obtain ⟨locs, hlocs⟩ : ∃ z : List Loc, z = [] := ⟨_, rfl⟩
  rw [← hlocs] at hS ⊢
  refine lv_aload_n hx hb dX3_statementNamed_0 rfl (lv_at hl 0 rfl) ?_
  refine lv_aload_n hx hb dX3_statementNamed_1 rfl (lv_at hl 0 rfl) ?_
  refine lv_aload_n hx hb dX3_statementNamed_2 rfl (lv_at hl 1 rfl) ?_
  refine lv_iload_n hx hb dX3_statementNamed_3 rfl (lv_at hl 2 rfl) ?_
  refine lv_iload_n hx hb dX3_statementNamed_4 rfl (lv_at hl 3 rfl) ?_
  obtain ⟨Q1, hc, hw⟩ := hw
  refine wc_i (X := CX g q lb) (va_runV (As := [.ref (q 13), .int (I n2), .int (I n3)]) (rest := [.ref (q 1)]) ⟨hx, hb, hml, hown, hts⟩ (L_X3_nameOf_q13 l g q lb hlb r_n2 r_n3 hN hc H.size) (cwV 3 hts (TB_V tw_1444 tw_1104 tw_1105 tw_2 co_X3_nameOf) rfl rfl rfl (by decide +kernel) ⟨Nat.le_of_ble_eq_true rfl, Nat.le_of_ble_eq_true rfl⟩) (preV (q0 := 1) (ci := 3) rfl xT_bl hP hK hNb hD rfl rfl xT_at) rfl rfl hl.1 rfl (lv_room (Nat.le_of_ble_eq_true rfl)) dX3_statementNamed_5 ⟨Nat.le_of_ble_eq_true rfl, Nat.le_of_ble_eq_true rfl⟩) hP hD hS hA (fun x2 H locs r_x2 hq hP hD hS => ?_)
  replace hw := hw x2 r_x2 hq
  obtain ⟨Q4, hc, hw⟩ := hw
  refine wc_i (X := CX g q lb) (va_runV (As := [.int (I x2)]) (rest := []) ⟨hx, hb, hml, hown, hts⟩ (L_X3_statementOf l g q lb hlb r_x2 hN hc H.size) (cwV 1 hts (TB_V tw_1445 tw_1122 tw_1123 tw_2 co_X3_statementOf) rfl rfl rfl (by decide +kernel) ⟨Nat.le_of_ble_eq_true rfl, Nat.le_of_ble_eq_true rfl⟩) (preV (q0 := 1) (ci := 3) rfl xT_bl hP hK hNb hD rfl rfl xT_at) rfl rfl hl.1 rfl (lv_room (Nat.le_of_ble_eq_true rfl)) dX3_statementNamed_8 ⟨Nat.le_of_ble_eq_true rfl, Nat.le_of_ble_eq_true rfl⟩) hP hD hS hA (fun x5 H locs r_x5 hq hP hD hS => ?_)
  replace hw := hw x5 r_x5 hq
  exact xri hx hb hr hlk hP hK hD hS ⟨_, r_x5, rfl, rfl, hw⟩ (Nat.le_of_ble_eq_true rfl) (Nat.le_of_ble_eq_true rfl) dX3_statementNamed_11
def W_X12_find (n1 : Int) (σ : S0) (Q : Int → S0 → Prop) : Prop :=
  ∃ (Q1 : S0 → Prop), W_X12_useTape σ Q1 ∧ ∀ (τ3 : S0), n_m τ3 → f_r [0, 1] [] [] σ τ3 → Q1 τ3 → (rg (σ.1 0) ∧ ∃ (Q5 : Int → Prop), W_X12_skipBlanks_q13 0 (σ.1 0) τ3 Q5 ∧ ∀ (x6 : Int), rg x6 → Q5 x6 → (∃ (Q8 : Int → Prop), W_X12_tokenEnd_q13 x6 (σ.1 0) τ3 Q8 ∧ ∀ (x9 : Int), rg x9 → Q8 x9 → ((x9 = x6 → Q (-1) τ3) ∧ (¬ x9 = x6 → ∃ (Q12 : Int → Prop), W_X12_skipBlanks_q13 x9 (σ.1 0) τ3 Q12 ∧ ∀ (x13 : Int), rg x13 → Q12 x13 → ((σ.1 0 ≤ x13 → (¬ n1 = 0 → (¬ n1 = 1 → Q (-1) τ3) ∧ (n1 = 1 → rg (x9 - x6) ∧ ∃ (Q19 : Int → Prop), W_X3_symbolNamed_q13 x6 (x9 - x6) τ3 Q19 ∧ ∀ (x20 : Int), rg x20 → Q19 x20 → (Q x20 τ3))) ∧ (n1 = 0 → rg (x9 - x6) ∧ ∃ (Q23 : Int → Prop), W_X3_statementNamed_q13 x6 (x9 - x6) τ3 Q23 ∧ ∀ (x24 : Int), rg x24 → Q23 x24 → (Q x24 τ3))) ∧ (x13 < σ.1 0 → Q (-1) τ3))))))
set_option maxRecDepth 100000 in
set_option maxHeartbeats 4000000 in
theorem L_X12_find (l : Launch) (g : gG) (q : Nat → Nat) (lb : Nat) (hlb : lb < 2 ^ 31) {n1 : Int} {σ : S0} {Q : Int → S0 → Prop} (r_n1 : rg n1) (hN : n_m σ) (hw : W_X12_find n1 σ Q) (sz : Nat) : MetI l yX12_find cX12_find 5 (some .int) { frames := 3, cells := 0, slots := 0, locals := 74 } g [.ref (q 0), .int (I n1)] (CX g q lb σ) sz xT (p_I (CX g q lb) [0, 1] [] [] σ Q) 0 0 := by
  refine mkMet (Qc := fun A => QI g A (p_I (CX g q lb) [0, 1] [] [] σ Q)) (by decide) (Nat.le_of_ble_eq_true rfl) ?_
  intro p e s m below meth c A H ls hx hb hr hml hown hts hlk hnm hsz hP hK hNb hD hA hAe hS hX hl
  have hl : lv_has ls 5 [(0, .ref (q 0)), (1, .int (I n1))] := hl
  have hB := hN
  have hF : f_r [0, 1] [] [] σ σ := f_0
  obtain ⟨locs, hlocs⟩ : ∃ z : List Loc, z = [] := ⟨_, rfl⟩
  rw [← hlocs] at hS ⊢
  refine lv_aload_n hx hb dX12_find_0 rfl (lv_at hl 0 rfl) ?_
  refine gfX12_tapeLength hx hb hts hK hP hown (hts _ tw_885) (x := σ.1 0) rfl dX12_find_1 ?_
  refine lv_istore_n (lv' := [(2, .int (I (σ.1 0))), (0, .ref (q 0)), (1, .int (I n1))]) hx hb dX12_find_4 rfl hl (by decide) rfl (fun ls hl => ?_)
  refine lv_aload_n hx hb dX12_find_5 rfl (lv_at hl 1 rfl) ?_
  obtain ⟨Q1, hc, hw⟩ := hw
  refine wc_V (X := CX g q lb) (va_runV (As := []) (rest := []) ⟨hx, hb, hml, hown, hts⟩ (L_X12_useTape l g q lb hlb  hN hc H.size) (cwV 0 hts (TB_V tw_1389 tw_1391 ts_51 tw_1 co_X12_useTape) rfl rfl rfl (by decide +kernel) ⟨Nat.le_of_ble_eq_true rfl, Nat.le_of_ble_eq_true rfl⟩) (preV (q0 := 0) (ci := 12) rfl xT_bl hP hK hNb hD rfl rfl xT_at) rfl rfl hl.1 rfl (lv_room (Nat.le_of_ble_eq_true rfl)) dX12_find_6 ⟨Nat.le_of_ble_eq_true rfl, Nat.le_of_ble_eq_true rfl⟩) hP hD hS hA (fun τ3 H locs hN hf hq hP hD hS => ?_)
  replace hw := hw τ3 hN hf hq
  have hF : f_r [0, 1] [] [] σ τ3 := f_t hF hf (by decide) (by decide) (by decide)
  have hB := hN
  refine lv_aload_n hx hb dX12_find_9 rfl (lv_at hl 1 rfl) ?_
  refine gfX12_tape hx hb hts hK hP hown (hts _ tw_884) dX12_find_10 ?_
  refine lv_iconst (v := I 0) hx hb dX12_find_13 rfl ?_
  refine lv_iload_n hx hb dX12_find_14 rfl (lv_at hl 0 rfl) ?_
  obtain ⟨c4, hw⟩ := hw
  obtain ⟨Q5, hc, hw⟩ := hw
  refine wc_i (X := CX g q lb) (va_runS (As := [.ref (q 13), .int (I 0), .int (I (σ.1 0))]) (rest := []) ⟨hx, hb, hml, hown, hts⟩ (L_X12_skipBlanks_q13 l g q lb hlb (by decide) c4 hN hc H.size) (cwS 3 hts (TB_S tw_1438 tw_974 tw_1 co_X12_skipBlanks) rfl rfl rfl (by decide +kernel) ⟨Nat.le_of_ble_eq_true rfl, Nat.le_of_ble_eq_true rfl⟩) (preS xT_bl hP hK hNb hD xT_at) rfl rfl hl.1 rfl (lv_room (Nat.le_of_ble_eq_true rfl)) dX12_find_15 ⟨Nat.le_of_ble_eq_true rfl, Nat.le_of_ble_eq_true rfl⟩) hP hD hS hA (fun x6 H locs r_x6 hq hP hD hS => ?_)
  replace hw := hw x6 r_x6 hq
  refine lv_istore_n (lv' := [(3, .int (I x6)), (2, .int (I (σ.1 0))), (0, .ref (q 0)), (1, .int (I n1))]) hx hb dX12_find_18 rfl hl (by decide) rfl (fun ls hl => ?_)
  refine lv_aload_n hx hb dX12_find_19 rfl (lv_at hl 2 rfl) ?_
  refine gfX12_tape hx hb hts hK hP hown (hts _ tw_884) dX12_find_20 ?_
  refine lv_iload_n hx hb dX12_find_23 rfl (lv_at hl 0 rfl) ?_
  refine lv_iload_n hx hb dX12_find_24 rfl (lv_at hl 1 rfl) ?_
  obtain ⟨Q8, hc, hw⟩ := hw
  refine wc_i (X := CX g q lb) (va_runS (As := [.ref (q 13), .int (I x6), .int (I (σ.1 0))]) (rest := []) ⟨hx, hb, hml, hown, hts⟩ (L_X12_tokenEnd_q13 l g q lb hlb r_x6 c4 hN hc H.size) (cwS 3 hts (TB_S tw_1439 tw_980 tw_1 co_X12_tokenEnd) rfl rfl rfl (by decide +kernel) ⟨Nat.le_of_ble_eq_true rfl, Nat.le_of_ble_eq_true rfl⟩) (preS xT_bl hP hK hNb hD xT_at) rfl rfl hl.1 rfl (lv_room (Nat.le_of_ble_eq_true rfl)) dX12_find_25 ⟨Nat.le_of_ble_eq_true rfl, Nat.le_of_ble_eq_true rfl⟩) hP hD hS hA (fun x9 H locs r_x9 hq hP hD hS => ?_)
  replace hw := hw x9 r_x9 hq
  refine lv_istore (lv' := [(4, .int (I x9)), (3, .int (I x6)), (2, .int (I (σ.1 0))), (0, .ref (q 0)), (1, .int (I n1))]) hx hb dX12_find_28 hl (by decide) rfl (fun ls hl => ?_)
  refine lv_iload hx hb dX12_find_30 (lv_at hl 0 rfl) ?_
  refine lv_iload_n hx hb dX12_find_32 rfl (lv_at hl 1 rfl) ?_
  refine bi_icmp_eq (tgt := 50) hx hb r_x9 r_x6 dX12_find_33 (by decide) (fun c11 => ?_) (fun c11 => ?_)
  ·
    replace hw := hw.1 c11
    refine lv_iconst (v := I (-1)) hx hb dX12_find_50 rfl ?_
    exact xri hx hb hr hlk hP hK hD hS ⟨_, _, (by decide), rfl, hN, hF, rfl, hw⟩ (Nat.le_of_ble_eq_true rfl) (Nat.le_of_ble_eq_true rfl) dX12_find_51
  ·
    replace hw := hw.2 c11
    refine lv_aload_n hx hb dX12_find_36 rfl (lv_at hl 3 rfl) ?_
    refine gfX12_tape hx hb hts hK hP hown (hts _ tw_884) dX12_find_37 ?_
    refine lv_iload hx hb dX12_find_40 (lv_at hl 0 rfl) ?_
    refine lv_iload_n hx hb dX12_find_42 rfl (lv_at hl 2 rfl) ?_
    obtain ⟨Q12, hc, hw⟩ := hw
    refine wc_i (X := CX g q lb) (va_runS (As := [.ref (q 13), .int (I x9), .int (I (σ.1 0))]) (rest := []) ⟨hx, hb, hml, hown, hts⟩ (L_X12_skipBlanks_q13 l g q lb hlb r_x9 c4 hN hc H.size) (cwS 3 hts (TB_S tw_1438 tw_974 tw_1 co_X12_skipBlanks) rfl rfl rfl (by decide +kernel) ⟨Nat.le_of_ble_eq_true rfl, Nat.le_of_ble_eq_true rfl⟩) (preS xT_bl hP hK hNb hD xT_at) rfl rfl hl.1 rfl (lv_room (Nat.le_of_ble_eq_true rfl)) dX12_find_43 ⟨Nat.le_of_ble_eq_true rfl, Nat.le_of_ble_eq_true rfl⟩) hP hD hS hA (fun x13 H locs r_x13 hq hP hD hS => ?_)
    replace hw := hw x13 r_x13 hq
    refine lv_iload_n hx hb dX12_find_46 rfl (lv_at hl 2 rfl) ?_
    refine bi_icmp_ge (tgt := 52) hx hb r_x13 c4 dX12_find_47 (by decide) (fun c15 => ?_) (fun c15 => ?_)
    ·
      replace hw := hw.1 c15
      refine lv_iload_n hx hb dX12_find_52 rfl (lv_at hl 4 rfl) ?_
      refine bi_if_ne (tgt := 73) hx hb r_n1 dX12_find_53 (by decide) (fun c16 => ?_) (fun c16 => ?_)
      ·
        replace hw := hw.1 c16
        refine lv_iload_n hx hb dX12_find_73 rfl (lv_at hl 4 rfl) ?_
        refine lv_iconst (v := I 1) hx hb dX12_find_74 rfl ?_
        refine bi_icmp_ne (tgt := 97) hx hb r_n1 (by decide) dX12_find_75 (by decide) (fun c17 => ?_) (fun c17 => ?_)
        ·
          replace hw := hw.1 c17
          refine lv_iconst (v := I (-1)) hx hb dX12_find_97 rfl ?_
          exact xri hx hb hr hlk hP hK hD hS ⟨_, _, (by decide), rfl, hN, hF, rfl, hw⟩ (Nat.le_of_ble_eq_true rfl) (Nat.le_of_ble_eq_true rfl) dX12_find_98
        ·
          replace hw := hw.2 c17
          refine lv_aload_n hx hb dX12_find_78 rfl (lv_at hl 3 rfl) ?_
          refine gfX12_library hx hb hts hK hP hown (hts _ tw_889) dX12_find_79 ?_
          refine lv_aload_n hx hb dX12_find_82 rfl (lv_at hl 3 rfl) ?_
          refine gfX12_tape hx hb hts hK hP hown (hts _ tw_884) dX12_find_83 ?_
          refine lv_iload_n hx hb dX12_find_86 rfl (lv_at hl 1 rfl) ?_
          refine lv_iload hx hb dX12_find_87 (lv_at hl 0 rfl) ?_
          refine lv_iload_n hx hb dX12_find_89 rfl (lv_at hl 1 rfl) ?_
          refine bi_isub hx hb dX12_find_90 ?_
          obtain ⟨c18, hw⟩ := hw
          obtain ⟨Q19, hc, hw⟩ := hw
          refine wc_i (X := CX g q lb) (va_runV (As := [.ref (q 13), .int (I x6), .int (I (x9 - x6))]) (rest := []) ⟨hx, hb, hml, hown, hts⟩ (L_X3_symbolNamed_q13 l g q lb hlb r_x6 c18 hN hc H.size) (cwV 3 hts (TB_V tw_1446 tw_1447 tw_1448 tw_2 co_X3_symbolNamed) rfl rfl rfl (by decide +kernel) ⟨Nat.le_of_ble_eq_true rfl, Nat.le_of_ble_eq_true rfl⟩) (preV (q0 := 1) (ci := 3) rfl xT_bl hP hK hNb hD rfl rfl xT_at) rfl rfl hl.1 rfl (lv_room (Nat.le_of_ble_eq_true rfl)) dX12_find_91 ⟨Nat.le_of_ble_eq_true rfl, Nat.le_of_ble_eq_true rfl⟩) hP hD hS hA (fun x20 H locs r_x20 hq hP hD hS => ?_)
          replace hw := hw x20 r_x20 hq
          refine lv_goto (tgt := 98) hx hb dX12_find_94 (by decide) ?_
          exact xri hx hb hr hlk hP hK hD hS ⟨_, _, r_x20, rfl, hN, hF, rfl, hw⟩ (Nat.le_of_ble_eq_true rfl) (Nat.le_of_ble_eq_true rfl) dX12_find_98
      ·
        replace hw := hw.2 c16
        refine lv_aload_n hx hb dX12_find_56 rfl (lv_at hl 3 rfl) ?_
        refine gfX12_library hx hb hts hK hP hown (hts _ tw_889) dX12_find_57 ?_
        refine lv_aload_n hx hb dX12_find_60 rfl (lv_at hl 3 rfl) ?_
        refine gfX12_tape hx hb hts hK hP hown (hts _ tw_884) dX12_find_61 ?_
        refine lv_iload_n hx hb dX12_find_64 rfl (lv_at hl 1 rfl) ?_
        refine lv_iload hx hb dX12_find_65 (lv_at hl 0 rfl) ?_
        refine lv_iload_n hx hb dX12_find_67 rfl (lv_at hl 1 rfl) ?_
        refine bi_isub hx hb dX12_find_68 ?_
        obtain ⟨c22, hw⟩ := hw
        obtain ⟨Q23, hc, hw⟩ := hw
        refine wc_i (X := CX g q lb) (va_runV (As := [.ref (q 13), .int (I x6), .int (I (x9 - x6))]) (rest := []) ⟨hx, hb, hml, hown, hts⟩ (L_X3_statementNamed_q13 l g q lb hlb r_x6 c22 hN hc H.size) (cwV 3 hts (TB_V tw_1440 tw_1441 tw_1442 tw_2 co_X3_statementNamed) rfl rfl rfl (by decide +kernel) ⟨Nat.le_of_ble_eq_true rfl, Nat.le_of_ble_eq_true rfl⟩) (preV (q0 := 1) (ci := 3) rfl xT_bl hP hK hNb hD rfl rfl xT_at) rfl rfl hl.1 rfl (lv_room (Nat.le_of_ble_eq_true rfl)) dX12_find_69 ⟨Nat.le_of_ble_eq_true rfl, Nat.le_of_ble_eq_true rfl⟩) hP hD hS hA (fun x24 H locs r_x24 hq hP hD hS => ?_)
        replace hw := hw x24 r_x24 hq
        exact xri hx hb hr hlk hP hK hD hS ⟨_, _, r_x24, rfl, hN, hF, rfl, hw⟩ (Nat.le_of_ble_eq_true rfl) (Nat.le_of_ble_eq_true rfl) dX12_find_72
    ·
      replace hw := hw.2 c15
      refine lv_iconst (v := I (-1)) hx hb dX12_find_50 rfl ?_
      exact xri hx hb hr hlk hP hK hD hS ⟨_, _, (by decide), rfl, hN, hF, rfl, hw⟩ (Nat.le_of_ble_eq_true rfl) (Nat.le_of_ble_eq_true rfl) dX12_find_51
def W_X12_frame (n1 : Int) (n2 : Int) (σ : S0) (Q : Int → Prop) : Prop :=
  ∃ (Q1 : Int → Prop), W_X3_isAssertion n1 σ Q1 ∧ ∀ (x2 : Int), rg x2 → Q1 x2 → ((¬ x2 = 0 → (n2 < 0 ∨ 2 < n2 → Q (-1)) ∧ (n2 = 0 → (0 ≤ n1 ∧ n1 < 1500) ∧ (∀ (x7 : Int), rg x7 → x7 = σ.2.1 28 n1 → (Q x7))) ∧ (n2 = 1 → (0 ≤ n1 ∧ n1 < 1500) ∧ (∀ (x9 : Int), rg x9 → x9 = σ.2.1 31 n1 → (Q x9))) ∧ (n2 = 2 → (0 ≤ n1 ∧ n1 < 1500) ∧ (∀ (x11 : Int), rg x11 → x11 = σ.2.1 13 n1 → ((¬ x11 = 4 → ∃ (Q13 : Int → Prop), W_X0_restCount n1 σ Q13 ∧ ∀ (x14 : Int), rg x14 → Q13 x14 → (Q x14)) ∧ (x11 = 4 → Q (-1)))))) ∧ (x2 = 0 → Q (-1)))
set_option maxRecDepth 100000 in
set_option maxHeartbeats 4000000 in
theorem L_X12_frame (l : Launch) (g : gG) (q : Nat → Nat) (lb : Nat) (hlb : lb < 2 ^ 31) {n1 : Int} {n2 : Int} {σ : S0} {Q : Int → Prop} (r_n1 : rg n1) (r_n2 : rg n2) (hN : n_m σ) (hw : W_X12_frame n1 n2 σ Q) (sz : Nat) : MetI l yX12_frame cX12_frame 3 (some .int) { frames := 2, cells := 0, slots := 0, locals := 44 } g [.ref (q 0), .int (I n1), .int (I n2)] (CX g q lb σ) sz xT (p_i (CX g q lb) σ Q) 0 0 := by
  refine mkMet (Qc := fun A => QI g A (p_i (CX g q lb) σ Q)) (by decide) (Nat.le_of_ble_eq_true rfl) ?_
  intro p e s m below meth c A H ls hx hb hr hml hown hts hlk hnm hsz hP hK hNb hD hA hAe hS hX hl
  have hl : lv_has ls 3 [(0, .ref (q 0)), (1, .int (I n1)), (2, .int (I n2))] := hl
  have hB := hN
  obtain ⟨locs, hlocs⟩ : ∃ z : List Loc, z = [] := ⟨_, rfl⟩
  rw [← hlocs] at hS ⊢
  refine lv_aload_n hx hb dX12_frame_0 rfl (lv_at hl 0 rfl) ?_
  refine gfX12_library hx hb hts hK hP hown (hts _ tw_889) dX12_frame_1 ?_
  refine lv_iload_n hx hb dX12_frame_4 rfl (lv_at hl 1 rfl) ?_
  obtain ⟨Q1, hc, hw⟩ := hw
  refine wc_i (X := CX g q lb) (va_runV (As := [.int (I n1)]) (rest := []) ⟨hx, hb, hml, hown, hts⟩ (L_X3_isAssertion l g q lb hlb r_n1 hN hc H.size) (cwV 1 hts (TB_V tw_1455 tw_1456 tw_1457 tw_2 co_X3_isAssertion) rfl rfl rfl (by decide +kernel) ⟨Nat.le_of_ble_eq_true rfl, Nat.le_of_ble_eq_true rfl⟩) (preV (q0 := 1) (ci := 3) rfl xT_bl hP hK hNb hD rfl rfl xT_at) rfl rfl hl.1 rfl (lv_room (Nat.le_of_ble_eq_true rfl)) dX12_frame_5 ⟨Nat.le_of_ble_eq_true rfl, Nat.le_of_ble_eq_true rfl⟩) hP hD hS hA (fun x2 H locs r_x2 hq hP hD hS => ?_)
  replace hw := hw x2 r_x2 hq
  refine bi_if_ne (tgt := 13) hx hb r_x2 dX12_frame_8 (by decide) (fun c4 => ?_) (fun c4 => ?_)
  ·
    replace hw := hw.1 c4
    refine lv_iload_n hx hb dX12_frame_13 rfl (lv_at hl 2 rfl) ?_
    have rr := (r_n2 : rg n2)
    rcases bi_sw (x := n2) 0 2 with c5 | c5
    ·
      replace hw := hw.1 c5
      refine lv_tableOut (tgt := 86) hx hb dX12_frame_14 (by rw [I_toInt rr.1 rr.2]; exact c5) (by decide) ?_
      refine lv_iconst (v := I (-1)) hx hb dX12_frame_86 rfl ?_
      exact xri hx hb hr hlk hP hK hD hS ⟨_, (by decide), rfl, rfl, hw⟩ (Nat.le_of_ble_eq_true rfl) (Nat.le_of_ble_eq_true rfl) dX12_frame_87
    ·
      obtain ⟨k, hk, ec5⟩ := c5
      replace hw := hw.2
      rcases (show k = 0 ∨ k = 1 ∨ k = 2 by omega) with rfl | rfl | rfl
      ·
        have e9 : n2 = 0 := ec5
        refine lv_tableIn (tgt := 40) hx hb dX12_frame_14 (by rw [I_toInt rr.1 rr.2, e9]; decide) (by rw [I_toInt rr.1 rr.2, e9]; decide) (by rw [I_toInt rr.1 rr.2, e9]; rfl) (by decide) ?_
        replace hw := hw.1 e9
        refine lv_aload_n hx hb dX12_frame_40 rfl (lv_at hl 0 rfl) ?_
        refine gfX12_assertions hx hb hts hK hP hown (hts _ tw_891) dX12_frame_41 ?_
        refine gfNX0_frameSize hx hb hts hK hP hown (nb_use hNb tn_247) dX12_frame_44 ?_
        refine lv_iload_n hx hb dX12_frame_47 rfl (lv_at hl 1 rfl) ?_
        obtain ⟨c6, hw⟩ := hw
        refine ldCX0_frameSize hx hb hK hP hN c6 dX12_frame_48 (fun x7 r_x7 e_x7 => ?_)
        replace hw := hw x7 r_x7 e_x7
        exact xri hx hb hr hlk hP hK hD hS ⟨_, r_x7, rfl, rfl, hw⟩ (Nat.le_of_ble_eq_true rfl) (Nat.le_of_ble_eq_true rfl) dX12_frame_49
      ·
        have e9 : n2 = 1 := ec5
        refine lv_tableIn (tgt := 50) hx hb dX12_frame_14 (by rw [I_toInt rr.1 rr.2, e9]; decide) (by rw [I_toInt rr.1 rr.2, e9]; decide) (by rw [I_toInt rr.1 rr.2, e9]; rfl) (by decide) ?_
        replace hw := hw.2.1 e9
        refine lv_aload_n hx hb dX12_frame_50 rfl (lv_at hl 0 rfl) ?_
        refine gfX12_assertions hx hb hts hK hP hown (hts _ tw_891) dX12_frame_51 ?_
        refine gfNX0_pairSize hx hb hts hK hP hown (nb_use hNb tn_261) dX12_frame_54 ?_
        refine lv_iload_n hx hb dX12_frame_57 rfl (lv_at hl 1 rfl) ?_
        obtain ⟨c8, hw⟩ := hw
        refine ldCX0_pairSize hx hb hK hP hN c8 dX12_frame_58 (fun x9 r_x9 e_x9 => ?_)
        replace hw := hw x9 r_x9 e_x9
        exact xri hx hb hr hlk hP hK hD hS ⟨_, r_x9, rfl, rfl, hw⟩ (Nat.le_of_ble_eq_true rfl) (Nat.le_of_ble_eq_true rfl) dX12_frame_59
      ·
        have e9 : n2 = 2 := ec5
        refine lv_tableIn (tgt := 60) hx hb dX12_frame_14 (by rw [I_toInt rr.1 rr.2, e9]; decide) (by rw [I_toInt rr.1 rr.2, e9]; decide) (by rw [I_toInt rr.1 rr.2, e9]; rfl) (by decide) ?_
        replace hw := hw.2.2 e9
        refine lv_aload_n hx hb dX12_frame_60 rfl (lv_at hl 0 rfl) ?_
        refine gfX12_library hx hb hts hK hP hown (hts _ tw_889) dX12_frame_61 ?_
        refine gfNX3_kind hx hb hts hK hP hown (nb_use hNb tn_75) dX12_frame_64 ?_
        refine lv_iload_n hx hb dX12_frame_67 rfl (lv_at hl 1 rfl) ?_
        obtain ⟨c10, hw⟩ := hw
        refine ldCX3_kind hx hb hK hP hN c10 dX12_frame_68 (fun x11 r_x11 e_x11 => ?_)
        replace hw := hw x11 r_x11 e_x11
        refine lv_iconst (v := I 4) hx hb dX12_frame_69 rfl ?_
        refine bi_icmp_ne (tgt := 77) hx hb r_x11 (by decide) dX12_frame_70 (by decide) (fun c12 => ?_) (fun c12 => ?_)
        ·
          replace hw := hw.1 c12
          refine lv_aload_n hx hb dX12_frame_77 rfl (lv_at hl 0 rfl) ?_
          refine gfX12_assertions hx hb hts hK hP hown (hts _ tw_891) dX12_frame_78 ?_
          refine lv_iload_n hx hb dX12_frame_81 rfl (lv_at hl 1 rfl) ?_
          obtain ⟨Q13, hc, hw⟩ := hw
          refine wc_i (X := CX g q lb) (va_runV (As := [.int (I n1)]) (rest := []) ⟨hx, hb, hml, hown, hts⟩ (L_X0_restCount l g q lb hlb r_n1 hN hc H.size) (cwV 1 hts (TB_V tw_1460 tw_1461 tw_1462 tw_5 co_X0_restCount) rfl rfl rfl (by decide +kernel) ⟨Nat.le_of_ble_eq_true rfl, Nat.le_of_ble_eq_true rfl⟩) (preV (q0 := 3) (ci := 0) rfl xT_bl hP hK hNb hD rfl rfl xT_at) rfl rfl hl.1 rfl (lv_room (Nat.le_of_ble_eq_true rfl)) dX12_frame_82 ⟨Nat.le_of_ble_eq_true rfl, Nat.le_of_ble_eq_true rfl⟩) hP hD hS hA (fun x14 H locs r_x14 hq hP hD hS => ?_)
          replace hw := hw x14 r_x14 hq
          exact xri hx hb hr hlk hP hK hD hS ⟨_, r_x14, rfl, rfl, hw⟩ (Nat.le_of_ble_eq_true rfl) (Nat.le_of_ble_eq_true rfl) dX12_frame_85
        ·
          replace hw := hw.2 c12
          refine lv_iconst (v := I (-1)) hx hb dX12_frame_73 rfl ?_
          refine lv_goto (tgt := 85) hx hb dX12_frame_74 (by decide) ?_
          exact xri hx hb hr hlk hP hK hD hS ⟨_, (by decide), rfl, rfl, hw⟩ (Nat.le_of_ble_eq_true rfl) (Nat.le_of_ble_eq_true rfl) dX12_frame_85
  ·
    replace hw := hw.2 c4
    refine lv_iconst (v := I (-1)) hx hb dX12_frame_11 rfl ?_
    exact xri hx hb hr hlk hP hK hD hS ⟨_, (by decide), rfl, rfl, hw⟩ (Nat.le_of_ble_eq_true rfl) (Nat.le_of_ble_eq_true rfl) dX12_frame_12
def W_X12_hypothesis (n1 : Int) (n2 : Int) (σ : S0) (Q : Int → Prop) : Prop :=
  ∃ (Q1 : Int → Prop), W_X3_isAssertion n1 σ Q1 ∧ ∀ (x2 : Int), rg x2 → Q1 x2 → ((x2 = 0 → Q (-1)) ∧ (¬ x2 = 0 → (n2 < 0 → Q (-1)) ∧ (0 ≤ n2 → (0 ≤ n1 ∧ n1 < 1500) ∧ (∀ (x7 : Int), rg x7 → x7 = σ.2.1 28 n1 → ((n2 < x7 → ∀ (x9 : Int), rg x9 → x9 = σ.2.1 27 n1 → ((0 ≤ (x9 + n2) ∧ (x9 + n2) < 90000) ∧ (∀ (x11 : Int), rg x11 → x11 = σ.2.1 29 (x9 + n2) → (Q x11)))) ∧ (x7 ≤ n2 → Q (-1)))))))
set_option maxRecDepth 100000 in
set_option maxHeartbeats 4000000 in
theorem L_X12_hypothesis (l : Launch) (g : gG) (q : Nat → Nat) (lb : Nat) (hlb : lb < 2 ^ 31) {n1 : Int} {n2 : Int} {σ : S0} {Q : Int → Prop} (r_n1 : rg n1) (r_n2 : rg n2) (hN : n_m σ) (hw : W_X12_hypothesis n1 n2 σ Q) (sz : Nat) : MetI l yX12_hypothesis cX12_hypothesis 3 (some .int) { frames := 2, cells := 0, slots := 0, locals := 42 } g [.ref (q 0), .int (I n1), .int (I n2)] (CX g q lb σ) sz xT (p_i (CX g q lb) σ Q) 0 0 := by
  refine mkMet (Qc := fun A => QI g A (p_i (CX g q lb) σ Q)) (by decide) (Nat.le_of_ble_eq_true rfl) ?_
  intro p e s m below meth c A H ls hx hb hr hml hown hts hlk hnm hsz hP hK hNb hD hA hAe hS hX hl
  have hl : lv_has ls 3 [(0, .ref (q 0)), (1, .int (I n1)), (2, .int (I n2))] := hl
  have hB := hN
  obtain ⟨locs, hlocs⟩ : ∃ z : List Loc, z = [] := ⟨_, rfl⟩
  rw [← hlocs] at hS ⊢
  refine lv_aload_n hx hb dX12_hypothesis_0 rfl (lv_at hl 0 rfl) ?_
  refine gfX12_library hx hb hts hK hP hown (hts _ tw_889) dX12_hypothesis_1 ?_
  refine lv_iload_n hx hb dX12_hypothesis_4 rfl (lv_at hl 1 rfl) ?_
  obtain ⟨Q1, hc, hw⟩ := hw
  refine wc_i (X := CX g q lb) (va_runV (As := [.int (I n1)]) (rest := []) ⟨hx, hb, hml, hown, hts⟩ (L_X3_isAssertion l g q lb hlb r_n1 hN hc H.size) (cwV 1 hts (TB_V tw_1455 tw_1456 tw_1457 tw_2 co_X3_isAssertion) rfl rfl rfl (by decide +kernel) ⟨Nat.le_of_ble_eq_true rfl, Nat.le_of_ble_eq_true rfl⟩) (preV (q0 := 1) (ci := 3) rfl xT_bl hP hK hNb hD rfl rfl xT_at) rfl rfl hl.1 rfl (lv_room (Nat.le_of_ble_eq_true rfl)) dX12_hypothesis_5 ⟨Nat.le_of_ble_eq_true rfl, Nat.le_of_ble_eq_true rfl⟩) hP hD hS hA (fun x2 H locs r_x2 hq hP hD hS => ?_)
  replace hw := hw x2 r_x2 hq
  refine bi_if_eq (tgt := 28) hx hb r_x2 dX12_hypothesis_8 (by decide) (fun c4 => ?_) (fun c4 => ?_)
  ·
    replace hw := hw.1 c4
    refine lv_iconst (v := I (-1)) hx hb dX12_hypothesis_28 rfl ?_
    exact xri hx hb hr hlk hP hK hD hS ⟨_, (by decide), rfl, rfl, hw⟩ (Nat.le_of_ble_eq_true rfl) (Nat.le_of_ble_eq_true rfl) dX12_hypothesis_29
  ·
    replace hw := hw.2 c4
    refine lv_iload_n hx hb dX12_hypothesis_11 rfl (lv_at hl 2 rfl) ?_
    refine bi_if_lt (tgt := 28) hx hb r_n2 dX12_hypothesis_12 (by decide) (fun c5 => ?_) (fun c5 => ?_)
    ·
      replace hw := hw.1 c5
      refine lv_iconst (v := I (-1)) hx hb dX12_hypothesis_28 rfl ?_
      exact xri hx hb hr hlk hP hK hD hS ⟨_, (by decide), rfl, rfl, hw⟩ (Nat.le_of_ble_eq_true rfl) (Nat.le_of_ble_eq_true rfl) dX12_hypothesis_29
    ·
      replace hw := hw.2 c5
      refine lv_iload_n hx hb dX12_hypothesis_15 rfl (lv_at hl 2 rfl) ?_
      refine lv_aload_n hx hb dX12_hypothesis_16 rfl (lv_at hl 0 rfl) ?_
      refine gfX12_assertions hx hb hts hK hP hown (hts _ tw_891) dX12_hypothesis_17 ?_
      refine gfNX0_frameSize hx hb hts hK hP hown (nb_use hNb tn_247) dX12_hypothesis_20 ?_
      refine lv_iload_n hx hb dX12_hypothesis_23 rfl (lv_at hl 1 rfl) ?_
      obtain ⟨c6, hw⟩ := hw
      refine ldCX0_frameSize hx hb hK hP hN c6 dX12_hypothesis_24 (fun x7 r_x7 e_x7 => ?_)
      replace hw := hw x7 r_x7 e_x7
      refine bi_icmp_lt (tgt := 30) hx hb r_n2 r_x7 dX12_hypothesis_25 (by decide) (fun c8 => ?_) (fun c8 => ?_)
      ·
        replace hw := hw.1 c8
        refine lv_aload_n hx hb dX12_hypothesis_30 rfl (lv_at hl 0 rfl) ?_
        refine gfX12_assertions hx hb hts hK hP hown (hts _ tw_891) dX12_hypothesis_31 ?_
        refine gfNX0_hypotheses hx hb hts hK hP hown (nb_use hNb tn_254) dX12_hypothesis_34 ?_
        refine lv_aload_n hx hb dX12_hypothesis_37 rfl (lv_at hl 0 rfl) ?_
        refine gfX12_assertions hx hb hts hK hP hown (hts _ tw_891) dX12_hypothesis_38 ?_
        refine gfNX0_frameAt hx hb hts hK hP hown (nb_use hNb tn_239) dX12_hypothesis_41 ?_
        refine lv_iload_n hx hb dX12_hypothesis_44 rfl (lv_at hl 1 rfl) ?_
        refine ldCX0_frameAt hx hb hK hP hN c6 dX12_hypothesis_45 (fun x9 r_x9 e_x9 => ?_)
        replace hw := hw x9 r_x9 e_x9
        refine lv_iload_n hx hb dX12_hypothesis_46 rfl (lv_at hl 2 rfl) ?_
        refine bi_iadd hx hb dX12_hypothesis_47 ?_
        obtain ⟨c10, hw⟩ := hw
        refine ldCX0_hypotheses hx hb hK hP hN c10 dX12_hypothesis_48 (fun x11 r_x11 e_x11 => ?_)
        replace hw := hw x11 r_x11 e_x11
        exact xri hx hb hr hlk hP hK hD hS ⟨_, r_x11, rfl, rfl, hw⟩ (Nat.le_of_ble_eq_true rfl) (Nat.le_of_ble_eq_true rfl) dX12_hypothesis_49
      ·
        replace hw := hw.2 c8
        refine lv_iconst (v := I (-1)) hx hb dX12_hypothesis_28 rfl ?_
        exact xri hx hb hr hlk hP hK hD hS ⟨_, (by decide), rfl, rfl, hw⟩ (Nat.le_of_ble_eq_true rfl) (Nat.le_of_ble_eq_true rfl) dX12_hypothesis_29
def W_X12_apart (n1 : Int) (n2 : Int) (n3 : Int) (σ : S0) (Q : Int → Prop) : Prop :=
  ∃ (Q1 : Int → Prop), W_X3_isAssertion n1 σ Q1 ∧ ∀ (x2 : Int), rg x2 → Q1 x2 → ((¬ x2 = 0 → ∃ (Q5 : Int → Prop), W_X0_isPair n1 n2 n3 σ Q5 ∧ ∀ (x6 : Int), rg x6 → Q5 x6 → ((x6 = 0 → Q 0) ∧ (¬ x6 = 0 → Q 1))) ∧ (x2 = 0 → Q (-1)))
set_option maxRecDepth 100000 in
set_option maxHeartbeats 4000000 in
theorem L_X12_apart (l : Launch) (g : gG) (q : Nat → Nat) (lb : Nat) (hlb : lb < 2 ^ 31) {n1 : Int} {n2 : Int} {n3 : Int} {σ : S0} {Q : Int → Prop} (r_n1 : rg n1) (r_n2 : rg n2) (r_n3 : rg n3) (hN : n_m σ) (hw : W_X12_apart n1 n2 n3 σ Q) (sz : Nat) : MetI l yX12_apart cX12_apart 4 (some .int) { frames := 2, cells := 0, slots := 0, locals := 47 } g [.ref (q 0), .int (I n1), .int (I n2), .int (I n3)] (CX g q lb σ) sz xT (p_i (CX g q lb) σ Q) 0 0 := by
  refine mkMet (Qc := fun A => QI g A (p_i (CX g q lb) σ Q)) (by decide) (Nat.le_of_ble_eq_true rfl) ?_
  intro p e s m below meth c A H ls hx hb hr hml hown hts hlk hnm hsz hP hK hNb hD hA hAe hS hX hl
  have hl : lv_has ls 4 [(0, .ref (q 0)), (1, .int (I n1)), (2, .int (I n2)), (3, .int (I n3))] := hl
  have hB := hN
  obtain ⟨locs, hlocs⟩ : ∃ z : List Loc, z = [] := ⟨_, rfl⟩
  rw [← hlocs] at hS ⊢
  refine lv_aload_n hx hb dX12_apart_0 rfl (lv_at hl 0 rfl) ?_
  refine gfX12_library hx hb hts hK hP hown (hts _ tw_889) dX12_apart_1 ?_
  refine lv_iload_n hx hb dX12_apart_4 rfl (lv_at hl 1 rfl) ?_
  obtain ⟨Q1, hc, hw⟩ := hw
  refine wc_i (X := CX g q lb) (va_runV (As := [.int (I n1)]) (rest := []) ⟨hx, hb, hml, hown, hts⟩ (L_X3_isAssertion l g q lb hlb r_n1 hN hc H.size) (cwV 1 hts (TB_V tw_1455 tw_1456 tw_1457 tw_2 co_X3_isAssertion) rfl rfl rfl (by decide +kernel) ⟨Nat.le_of_ble_eq_true rfl, Nat.le_of_ble_eq_true rfl⟩) (preV (q0 := 1) (ci := 3) rfl xT_bl hP hK hNb hD rfl rfl xT_at) rfl rfl hl.1 rfl (lv_room (Nat.le_of_ble_eq_true rfl)) dX12_apart_5 ⟨Nat.le_of_ble_eq_true rfl, Nat.le_of_ble_eq_true rfl⟩) hP hD hS hA (fun x2 H locs r_x2 hq hP hD hS => ?_)
  replace hw := hw x2 r_x2 hq
  refine bi_if_ne (tgt := 13) hx hb r_x2 dX12_apart_8 (by decide) (fun c4 => ?_) (fun c4 => ?_)
  ·
    replace hw := hw.1 c4
    refine lv_aload_n hx hb dX12_apart_13 rfl (lv_at hl 0 rfl) ?_
    refine gfX12_assertions hx hb hts hK hP hown (hts _ tw_891) dX12_apart_14 ?_
    refine lv_iload_n hx hb dX12_apart_17 rfl (lv_at hl 1 rfl) ?_
    refine lv_iload_n hx hb dX12_apart_18 rfl (lv_at hl 2 rfl) ?_
    refine lv_iload_n hx hb dX12_apart_19 rfl (lv_at hl 3 rfl) ?_
    obtain ⟨Q5, hc, hw⟩ := hw
    refine wc_i (X := CX g q lb) (va_runV (As := [.int (I n1), .int (I n2), .int (I n3)]) (rest := []) ⟨hx, hb, hml, hown, hts⟩ (L_X0_isPair l g q lb hlb r_n1 r_n2 r_n3 hN hc H.size) (cwV 3 hts (TB_V tw_1478 tw_1479 tw_1480 tw_5 co_X0_isPair) rfl rfl rfl (by decide +kernel) ⟨Nat.le_of_ble_eq_true rfl, Nat.le_of_ble_eq_true rfl⟩) (preV (q0 := 3) (ci := 0) rfl xT_bl hP hK hNb hD rfl rfl xT_at) rfl rfl hl.1 rfl (lv_room (Nat.le_of_ble_eq_true rfl)) dX12_apart_20 ⟨Nat.le_of_ble_eq_true rfl, Nat.le_of_ble_eq_true rfl⟩) hP hD hS hA (fun x6 H locs r_x6 hq hP hD hS => ?_)
    replace hw := hw x6 r_x6 hq
    refine bi_if_eq (tgt := 30) hx hb r_x6 dX12_apart_23 (by decide) (fun c8 => ?_) (fun c8 => ?_)
    ·
      replace hw := hw.1 c8
      refine lv_iconst (v := I 0) hx hb dX12_apart_30 rfl ?_
      exact xri hx hb hr hlk hP hK hD hS ⟨_, (by decide), rfl, rfl, hw⟩ (Nat.le_of_ble_eq_true rfl) (Nat.le_of_ble_eq_true rfl) dX12_apart_31
    ·
      replace hw := hw.2 c8
      refine lv_iconst (v := I 1) hx hb dX12_apart_26 rfl ?_
      refine lv_goto (tgt := 31) hx hb dX12_apart_27 (by decide) ?_
      exact xri hx hb hr hlk hP hK hD hS ⟨_, (by decide), rfl, rfl, hw⟩ (Nat.le_of_ble_eq_true rfl) (Nat.le_of_ble_eq_true rfl) dX12_apart_31
  ·
    replace hw := hw.2 c4
    refine lv_iconst (v := I (-1)) hx hb dX12_apart_11 rfl ?_
    exact xri hx hb hr hlk hP hK hD hS ⟨_, (by decide), rfl, rfl, hw⟩ (Nat.le_of_ble_eq_true rfl) (Nat.le_of_ble_eq_true rfl) dX12_apart_12
def W_X12_rows (n1 : Int) (σ : S0) (Q : Int → Prop) : Prop :=
  ∃ (Q1 : Int → Prop), W_X3_isProved n1 σ Q1 ∧ ∀ (x2 : Int), rg x2 → Q1 x2 → ((x2 = 0 → Q (-1)) ∧ (¬ x2 = 0 → (0 ≤ n1 ∧ n1 < 1500) ∧ (∀ (x6 : Int), rg x6 → x6 = σ.2.1 34 n1 → (Q x6))))
set_option maxRecDepth 100000 in
set_option maxHeartbeats 4000000 in
theorem L_X12_rows (l : Launch) (g : gG) (q : Nat → Nat) (lb : Nat) (hlb : lb < 2 ^ 31) {n1 : Int} {σ : S0} {Q : Int → Prop} (r_n1 : rg n1) (hN : n_m σ) (hw : W_X12_rows n1 σ Q) (sz : Nat) : MetI l yX12_rows cX12_rows 2 (some .int) { frames := 2, cells := 0, slots := 0, locals := 42 } g [.ref (q 0), .int (I n1)] (CX g q lb σ) sz xT (p_i (CX g q lb) σ Q) 0 0 := by
  refine mkMet (Qc := fun A => QI g A (p_i (CX g q lb) σ Q)) (by decide) (Nat.le_of_ble_eq_true rfl) ?_
  intro p e s m below meth c A H ls hx hb hr hml hown hts hlk hnm hsz hP hK hNb hD hA hAe hS hX hl
  have hl : lv_has ls 2 [(0, .ref (q 0)), (1, .int (I n1))] := hl
  have hB := hN
  obtain ⟨locs, hlocs⟩ : ∃ z : List Loc, z = [] := ⟨_, rfl⟩
  rw [← hlocs] at hS ⊢
  refine lv_aload_n hx hb dX12_rows_0 rfl (lv_at hl 0 rfl) ?_
  refine gfX12_library hx hb hts hK hP hown (hts _ tw_889) dX12_rows_1 ?_
  refine lv_iload_n hx hb dX12_rows_4 rfl (lv_at hl 1 rfl) ?_
  obtain ⟨Q1, hc, hw⟩ := hw
  refine wc_i (X := CX g q lb) (va_runV (As := [.int (I n1)]) (rest := []) ⟨hx, hb, hml, hown, hts⟩ (L_X3_isProved l g q lb hlb r_n1 hN hc H.size) (cwV 1 hts (TB_V tw_1488 tw_1489 tw_1490 tw_2 co_X3_isProved) rfl rfl rfl (by decide +kernel) ⟨Nat.le_of_ble_eq_true rfl, Nat.le_of_ble_eq_true rfl⟩) (preV (q0 := 1) (ci := 3) rfl xT_bl hP hK hNb hD rfl rfl xT_at) rfl rfl hl.1 rfl (lv_room (Nat.le_of_ble_eq_true rfl)) dX12_rows_5 ⟨Nat.le_of_ble_eq_true rfl, Nat.le_of_ble_eq_true rfl⟩) hP hD hS hA (fun x2 H locs r_x2 hq hP hD hS => ?_)
  replace hw := hw x2 r_x2 hq
  refine bi_if_eq (tgt := 23) hx hb r_x2 dX12_rows_8 (by decide) (fun c4 => ?_) (fun c4 => ?_)
  ·
    replace hw := hw.1 c4
    refine lv_iconst (v := I (-1)) hx hb dX12_rows_23 rfl ?_
    exact xri hx hb hr hlk hP hK hD hS ⟨_, (by decide), rfl, rfl, hw⟩ (Nat.le_of_ble_eq_true rfl) (Nat.le_of_ble_eq_true rfl) dX12_rows_24
  ·
    replace hw := hw.2 c4
    refine lv_aload_n hx hb dX12_rows_11 rfl (lv_at hl 0 rfl) ?_
    refine gfX12_assertions hx hb hts hK hP hown (hts _ tw_891) dX12_rows_12 ?_
    refine gfNX0_rowCount hx hb hts hK hP hown (nb_use hNb tn_272) dX12_rows_15 ?_
    refine lv_iload_n hx hb dX12_rows_18 rfl (lv_at hl 1 rfl) ?_
    obtain ⟨c5, hw⟩ := hw
    refine ldCX0_rowCount hx hb hK hP hN c5 dX12_rows_19 (fun x6 r_x6 e_x6 => ?_)
    replace hw := hw x6 r_x6 e_x6
    refine lv_goto (tgt := 24) hx hb dX12_rows_20 (by decide) ?_
    exact xri hx hb hr hlk hP hK hD hS ⟨_, r_x6, rfl, rfl, hw⟩ (Nat.le_of_ble_eq_true rfl) (Nat.le_of_ble_eq_true rfl) dX12_rows_24
def W_X12_isRow (n1 : Int) (n2 : Int) (σ : S0) (Q : Int → Prop) : Prop :=
  ∃ (Q1 : Int → Prop), W_X3_isProved n1 σ Q1 ∧ ∀ (x2 : Int), rg x2 → Q1 x2 → ((x2 = 0 → Q 0) ∧ (¬ x2 = 0 → (n2 < 0 → Q 0) ∧ (0 ≤ n2 → (0 ≤ n1 ∧ n1 < 1500) ∧ (∀ (x7 : Int), rg x7 → x7 = σ.2.1 34 n1 → ((x7 ≤ n2 → Q 0) ∧ (n2 < x7 → Q 1))))))
set_option maxRecDepth 100000 in
set_option maxHeartbeats 4000000 in
theorem L_X12_isRow (l : Launch) (g : gG) (q : Nat → Nat) (lb : Nat) (hlb : lb < 2 ^ 31) {n1 : Int} {n2 : Int} {σ : S0} {Q : Int → Prop} (r_n1 : rg n1) (r_n2 : rg n2) (hN : n_m σ) (hw : W_X12_isRow n1 n2 σ Q) (sz : Nat) : MetI l yX12_isRow cX12_isRow 3 (some .boolean) { frames := 2, cells := 0, slots := 0, locals := 42 } g [.ref (q 0), .int (I n1), .int (I n2)] (CX g q lb σ) sz xT (p_i (CX g q lb) σ Q) 0 0 := by
  refine mkMet (Qc := fun A => QI g A (p_i (CX g q lb) σ Q)) (by decide) (Nat.le_of_ble_eq_true rfl) ?_
  intro p e s m below meth c A H ls hx hb hr hml hown hts hlk hnm hsz hP hK hNb hD hA hAe hS hX hl
  have hl : lv_has ls 3 [(0, .ref (q 0)), (1, .int (I n1)), (2, .int (I n2))] := hl
  have hB := hN
  obtain ⟨locs, hlocs⟩ : ∃ z : List Loc, z = [] := ⟨_, rfl⟩
  rw [← hlocs] at hS ⊢
  refine lv_aload_n hx hb dX12_isRow_0 rfl (lv_at hl 0 rfl) ?_
  refine gfX12_library hx hb hts hK hP hown (hts _ tw_889) dX12_isRow_1 ?_
  refine lv_iload_n hx hb dX12_isRow_4 rfl (lv_at hl 1 rfl) ?_
  obtain ⟨Q1, hc, hw⟩ := hw
  refine wc_i (X := CX g q lb) (va_runV (As := [.int (I n1)]) (rest := []) ⟨hx, hb, hml, hown, hts⟩ (L_X3_isProved l g q lb hlb r_n1 hN hc H.size) (cwV 1 hts (TB_V tw_1488 tw_1489 tw_1490 tw_2 co_X3_isProved) rfl rfl rfl (by decide +kernel) ⟨Nat.le_of_ble_eq_true rfl, Nat.le_of_ble_eq_true rfl⟩) (preV (q0 := 1) (ci := 3) rfl xT_bl hP hK hNb hD rfl rfl xT_at) rfl rfl hl.1 rfl (lv_room (Nat.le_of_ble_eq_true rfl)) dX12_isRow_5 ⟨Nat.le_of_ble_eq_true rfl, Nat.le_of_ble_eq_true rfl⟩) hP hD hS hA (fun x2 H locs r_x2 hq hP hD hS => ?_)
  replace hw := hw x2 r_x2 hq
  refine bi_if_eq (tgt := 32) hx hb r_x2 dX12_isRow_8 (by decide) (fun c4 => ?_) (fun c4 => ?_)
  ·
    replace hw := hw.1 c4
    refine lv_iconst (v := I 0) hx hb dX12_isRow_32 rfl ?_
    exact xrz hx hb hr (by decide) hlk hP hK hD hS ⟨_, (by decide), rfl, rfl, hw⟩ (Nat.le_of_ble_eq_true rfl) (Nat.le_of_ble_eq_true rfl) dX12_isRow_33
  ·
    replace hw := hw.2 c4
    refine lv_iload_n hx hb dX12_isRow_11 rfl (lv_at hl 2 rfl) ?_
    refine bi_if_lt (tgt := 32) hx hb r_n2 dX12_isRow_12 (by decide) (fun c5 => ?_) (fun c5 => ?_)
    ·
      replace hw := hw.1 c5
      refine lv_iconst (v := I 0) hx hb dX12_isRow_32 rfl ?_
      exact xrz hx hb hr (by decide) hlk hP hK hD hS ⟨_, (by decide), rfl, rfl, hw⟩ (Nat.le_of_ble_eq_true rfl) (Nat.le_of_ble_eq_true rfl) dX12_isRow_33
    ·
      replace hw := hw.2 c5
      refine lv_iload_n hx hb dX12_isRow_15 rfl (lv_at hl 2 rfl) ?_
      refine lv_aload_n hx hb dX12_isRow_16 rfl (lv_at hl 0 rfl) ?_
      refine gfX12_assertions hx hb hts hK hP hown (hts _ tw_891) dX12_isRow_17 ?_
      refine gfNX0_rowCount hx hb hts hK hP hown (nb_use hNb tn_272) dX12_isRow_20 ?_
      refine lv_iload_n hx hb dX12_isRow_23 rfl (lv_at hl 1 rfl) ?_
      obtain ⟨c6, hw⟩ := hw
      refine ldCX0_rowCount hx hb hK hP hN c6 dX12_isRow_24 (fun x7 r_x7 e_x7 => ?_)
      replace hw := hw x7 r_x7 e_x7
      refine bi_icmp_ge (tgt := 32) hx hb r_n2 r_x7 dX12_isRow_25 (by decide) (fun c8 => ?_) (fun c8 => ?_)
      ·
        replace hw := hw.1 c8
        refine lv_iconst (v := I 0) hx hb dX12_isRow_32 rfl ?_
        exact xrz hx hb hr (by decide) hlk hP hK hD hS ⟨_, (by decide), rfl, rfl, hw⟩ (Nat.le_of_ble_eq_true rfl) (Nat.le_of_ble_eq_true rfl) dX12_isRow_33
      ·
        replace hw := hw.2 c8
        refine lv_iconst (v := I 1) hx hb dX12_isRow_28 rfl ?_
        refine lv_goto (tgt := 33) hx hb dX12_isRow_29 (by decide) ?_
        exact xrz hx hb hr (by decide) hlk hP hK hD hS ⟨_, (by decide), rfl, rfl, hw⟩ (Nat.le_of_ble_eq_true rfl) (Nat.le_of_ble_eq_true rfl) dX12_isRow_33
def W_X12_row (n1 : Int) (n2 : Int) (σ : S0) (Q : Int → Prop) : Prop :=
  ∃ (Q1 : Int → Prop), W_X12_isRow n1 n2 σ Q1 ∧ ∀ (x2 : Int), rg x2 → Q1 x2 → ((x2 = 0 → Q (-1)) ∧ (¬ x2 = 0 → (0 ≤ n1 ∧ n1 < 1500) ∧ (∀ (x6 : Int), rg x6 → x6 = σ.2.1 33 n1 → ((0 ≤ (x6 + n2) ∧ (x6 + n2) < 20000) ∧ (∀ (x8 : Int), rg x8 → x8 = σ.2.1 35 (x6 + n2) → (Q x8))))))
set_option maxRecDepth 100000 in
set_option maxHeartbeats 4000000 in
theorem L_X12_row (l : Launch) (g : gG) (q : Nat → Nat) (lb : Nat) (hlb : lb < 2 ^ 31) {n1 : Int} {n2 : Int} {σ : S0} {Q : Int → Prop} (r_n1 : rg n1) (r_n2 : rg n2) (hN : n_m σ) (hw : W_X12_row n1 n2 σ Q) (sz : Nat) : MetI l yX12_row cX12_row 3 (some .int) { frames := 3, cells := 0, slots := 0, locals := 64 } g [.ref (q 0), .int (I n1), .int (I n2)] (CX g q lb σ) sz xT (p_i (CX g q lb) σ Q) 0 0 := by
  refine mkMet (Qc := fun A => QI g A (p_i (CX g q lb) σ Q)) (by decide) (Nat.le_of_ble_eq_true rfl) ?_
  intro p e s m below meth c A H ls hx hb hr hml hown hts hlk hnm hsz hP hK hNb hD hA hAe hS hX hl
  have hl : lv_has ls 3 [(0, .ref (q 0)), (1, .int (I n1)), (2, .int (I n2))] := hl
  have hB := hN
  obtain ⟨locs, hlocs⟩ : ∃ z : List Loc, z = [] := ⟨_, rfl⟩
  rw [← hlocs] at hS ⊢
  refine lv_aload_n hx hb dX12_row_0 rfl (lv_at hl 0 rfl) ?_
  refine lv_iload_n hx hb dX12_row_1 rfl (lv_at hl 1 rfl) ?_
  refine lv_iload_n hx hb dX12_row_2 rfl (lv_at hl 2 rfl) ?_
  obtain ⟨Q1, hc, hw⟩ := hw
  refine wc_i (X := CX g q lb) (va_runV (As := [.int (I n1), .int (I n2)]) (rest := []) ⟨hx, hb, hml, hown, hts⟩ (L_X12_isRow l g q lb hlb r_n1 r_n2 hN hc H.size) (cwV 2 hts (TB_V tw_1496 tw_1498 ts_52 tw_1 co_X12_isRow) rfl rfl rfl (by decide +kernel) ⟨Nat.le_of_ble_eq_true rfl, Nat.le_of_ble_eq_true rfl⟩) (preV (q0 := 0) (ci := 12) rfl xT_bl hP hK hNb hD rfl rfl xT_at) rfl rfl hl.1 rfl (lv_room (Nat.le_of_ble_eq_true rfl)) dX12_row_3 ⟨Nat.le_of_ble_eq_true rfl, Nat.le_of_ble_eq_true rfl⟩) hP hD hS hA (fun x2 H locs r_x2 hq hP hD hS => ?_)
  replace hw := hw x2 r_x2 hq
  refine bi_if_eq (tgt := 31) hx hb r_x2 dX12_row_6 (by decide) (fun c4 => ?_) (fun c4 => ?_)
  ·
    replace hw := hw.1 c4
    refine lv_iconst (v := I (-1)) hx hb dX12_row_31 rfl ?_
    exact xri hx hb hr hlk hP hK hD hS ⟨_, (by decide), rfl, rfl, hw⟩ (Nat.le_of_ble_eq_true rfl) (Nat.le_of_ble_eq_true rfl) dX12_row_32
  ·
    replace hw := hw.2 c4
    refine lv_aload_n hx hb dX12_row_9 rfl (lv_at hl 0 rfl) ?_
    refine gfX12_assertions hx hb hts hK hP hown (hts _ tw_891) dX12_row_10 ?_
    refine gfNX0_rowStatement hx hb hts hK hP hown (nb_use hNb tn_276) dX12_row_13 ?_
    refine lv_aload_n hx hb dX12_row_16 rfl (lv_at hl 0 rfl) ?_
    refine gfX12_assertions hx hb hts hK hP hown (hts _ tw_891) dX12_row_17 ?_
    refine gfNX0_rowAt hx hb hts hK hP hown (nb_use hNb tn_268) dX12_row_20 ?_
    refine lv_iload_n hx hb dX12_row_23 rfl (lv_at hl 1 rfl) ?_
    obtain ⟨c5, hw⟩ := hw
    refine ldCX0_rowAt hx hb hK hP hN c5 dX12_row_24 (fun x6 r_x6 e_x6 => ?_)
    replace hw := hw x6 r_x6 e_x6
    refine lv_iload_n hx hb dX12_row_25 rfl (lv_at hl 2 rfl) ?_
    refine bi_iadd hx hb dX12_row_26 ?_
    obtain ⟨c7, hw⟩ := hw
    refine ldCX0_rowStatement hx hb hK hP hN c7 dX12_row_27 (fun x8 r_x8 e_x8 => ?_)
    replace hw := hw x8 r_x8 e_x8
    refine lv_goto (tgt := 32) hx hb dX12_row_28 (by decide) ?_
    exact xri hx hb hr hlk hP hK hD hS ⟨_, r_x8, rfl, rfl, hw⟩ (Nat.le_of_ble_eq_true rfl) (Nat.le_of_ble_eq_true rfl) dX12_row_32
def W_X12_from (n1 : Int) (n2 : Int) (n3 : Int) (σ : S0) (Q : Int → Prop) : Prop :=
  ∃ (Q1 : Int → Prop), W_X12_isRow n1 n2 σ Q1 ∧ ∀ (x2 : Int), rg x2 → Q1 x2 → ((¬ x2 = 0 → (0 ≤ n1 ∧ n1 < 1500) ∧ (∀ (x6 : Int), rg x6 → x6 = σ.2.1 33 n1 → ((n3 < 0 → Q (-1)) ∧ (0 ≤ n3 → rg (x6 + n2) ∧ ∃ (Q9 : Int → Prop), W_X0_childCount (x6 + n2) σ Q9 ∧ ∀ (x10 : Int), rg x10 → Q9 x10 → ((n3 < x10 → (0 ≤ (x6 + n2) ∧ (x6 + n2) < 20001) ∧ (∀ (x14 : Int), rg x14 → x14 = σ.2.1 36 (x6 + n2) → ((0 ≤ (x14 + n3) ∧ (x14 + n3) < 20000) ∧ (∀ (x16 : Int), rg x16 → x16 = σ.2.1 37 (x14 + n3) → (Q x16))))) ∧ (x10 ≤ n3 → Q (-1))))))) ∧ (x2 = 0 → Q (-1)))
set_option maxRecDepth 100000 in
set_option maxHeartbeats 4000000 in
theorem L_X12_from (l : Launch) (g : gG) (q : Nat → Nat) (lb : Nat) (hlb : lb < 2 ^ 31) {n1 : Int} {n2 : Int} {n3 : Int} {σ : S0} {Q : Int → Prop} (r_n1 : rg n1) (r_n2 : rg n2) (r_n3 : rg n3) (hN : n_m σ) (hw : W_X12_from n1 n2 n3 σ Q) (sz : Nat) : MetI l yX12_from cX12_from 5 (some .int) { frames := 3, cells := 0, slots := 0, locals := 64 } g [.ref (q 0), .int (I n1), .int (I n2), .int (I n3)] (CX g q lb σ) sz xT (p_i (CX g q lb) σ Q) 0 0 := by
  refine mkMet (Qc := fun A => QI g A (p_i (CX g q lb) σ Q)) (by decide) (Nat.le_of_ble_eq_true rfl) ?_
  intro p e s m below meth c A H ls hx hb hr hml hown hts hlk hnm hsz hP hK hNb hD hA hAe hS hX hl
  have hl : lv_has ls 5 [(0, .ref (q 0)), (1, .int (I n1)), (2, .int (I n2)), (3, .int (I n3))] := hl
  have hB := hN
  obtain ⟨locs, hlocs⟩ : ∃ z : List Loc, z = [] := ⟨_, rfl⟩
  rw [← hlocs] at hS ⊢
  refine lv_aload_n hx hb dX12_from_0 rfl (lv_at hl 0 rfl) ?_
  refine lv_iload_n hx hb dX12_from_1 rfl (lv_at hl 1 rfl) ?_
  refine lv_iload_n hx hb dX12_from_2 rfl (lv_at hl 2 rfl) ?_
  obtain ⟨Q1, hc, hw⟩ := hw
  refine wc_i (X := CX g q lb) (va_runV (As := [.int (I n1), .int (I n2)]) (rest := []) ⟨hx, hb, hml, hown, hts⟩ (L_X12_isRow l g q lb hlb r_n1 r_n2 hN hc H.size) (cwV 2 hts (TB_V tw_1496 tw_1498 ts_52 tw_1 co_X12_isRow) rfl rfl rfl (by decide +kernel) ⟨Nat.le_of_ble_eq_true rfl, Nat.le_of_ble_eq_true rfl⟩) (preV (q0 := 0) (ci := 12) rfl xT_bl hP hK hNb hD rfl rfl xT_at) rfl rfl hl.1 rfl (lv_room (Nat.le_of_ble_eq_true rfl)) dX12_from_3 ⟨Nat.le_of_ble_eq_true rfl, Nat.le_of_ble_eq_true rfl⟩) hP hD hS hA (fun x2 H locs r_x2 hq hP hD hS => ?_)
  replace hw := hw x2 r_x2 hq
  refine bi_if_ne (tgt := 11) hx hb r_x2 dX12_from_6 (by decide) (fun c4 => ?_) (fun c4 => ?_)
  ·
    replace hw := hw.1 c4
    refine lv_aload_n hx hb dX12_from_11 rfl (lv_at hl 0 rfl) ?_
    refine gfX12_assertions hx hb hts hK hP hown (hts _ tw_891) dX12_from_12 ?_
    refine gfNX0_rowAt hx hb hts hK hP hown (nb_use hNb tn_268) dX12_from_15 ?_
    refine lv_iload_n hx hb dX12_from_18 rfl (lv_at hl 1 rfl) ?_
    obtain ⟨c5, hw⟩ := hw
    refine ldCX0_rowAt hx hb hK hP hN c5 dX12_from_19 (fun x6 r_x6 e_x6 => ?_)
    replace hw := hw x6 r_x6 e_x6
    refine lv_iload_n hx hb dX12_from_20 rfl (lv_at hl 2 rfl) ?_
    refine bi_iadd hx hb dX12_from_21 ?_
    refine lv_istore (lv' := [(4, .int (I (x6 + n2))), (0, .ref (q 0)), (1, .int (I n1)), (2, .int (I n2)), (3, .int (I n3))]) hx hb dX12_from_22 hl (by decide) rfl (fun ls hl => ?_)
    refine lv_iload_n hx hb dX12_from_24 rfl (lv_at hl 4 rfl) ?_
    refine bi_if_lt (tgt := 41) hx hb r_n3 dX12_from_25 (by decide) (fun c7 => ?_) (fun c7 => ?_)
    ·
      replace hw := hw.1 c7
      refine lv_iconst (v := I (-1)) hx hb dX12_from_41 rfl ?_
      exact xri hx hb hr hlk hP hK hD hS ⟨_, (by decide), rfl, rfl, hw⟩ (Nat.le_of_ble_eq_true rfl) (Nat.le_of_ble_eq_true rfl) dX12_from_42
    ·
      replace hw := hw.2 c7
      refine lv_iload_n hx hb dX12_from_28 rfl (lv_at hl 4 rfl) ?_
      refine lv_aload_n hx hb dX12_from_29 rfl (lv_at hl 1 rfl) ?_
      refine gfX12_assertions hx hb hts hK hP hown (hts _ tw_891) dX12_from_30 ?_
      refine lv_iload hx hb dX12_from_33 (lv_at hl 0 rfl) ?_
      obtain ⟨c8, hw⟩ := hw
      obtain ⟨Q9, hc, hw⟩ := hw
      refine wc_i (X := CX g q lb) (va_runV (As := [.int (I (x6 + n2))]) (rest := [.int (I n3)]) ⟨hx, hb, hml, hown, hts⟩ (L_X0_childCount l g q lb hlb c8 hN hc H.size) (cwV 1 hts (TB_V tw_1504 tw_1505 tw_1506 tw_5 co_X0_childCount) rfl rfl rfl (by decide +kernel) ⟨Nat.le_of_ble_eq_true rfl, Nat.le_of_ble_eq_true rfl⟩) (preV (q0 := 3) (ci := 0) rfl xT_bl hP hK hNb hD rfl rfl xT_at) rfl rfl hl.1 rfl (lv_room (Nat.le_of_ble_eq_true rfl)) dX12_from_35 ⟨Nat.le_of_ble_eq_true rfl, Nat.le_of_ble_eq_true rfl⟩) hP hD hS hA (fun x10 H locs r_x10 hq hP hD hS => ?_)
      replace hw := hw x10 r_x10 hq
      refine bi_icmp_lt (tgt := 43) hx hb r_n3 r_x10 dX12_from_38 (by decide) (fun c12 => ?_) (fun c12 => ?_)
      ·
        replace hw := hw.1 c12
        refine lv_aload_n hx hb dX12_from_43 rfl (lv_at hl 1 rfl) ?_
        refine gfX12_assertions hx hb hts hK hP hown (hts _ tw_891) dX12_from_44 ?_
        refine gfNX0_children hx hb hts hK hP hown (nb_use hNb tn_287) dX12_from_47 ?_
        refine lv_aload_n hx hb dX12_from_50 rfl (lv_at hl 1 rfl) ?_
        refine gfX12_assertions hx hb hts hK hP hown (hts _ tw_891) dX12_from_51 ?_
        refine gfNX0_childAt hx hb hts hK hP hown (nb_use hNb tn_282) dX12_from_54 ?_
        refine lv_iload hx hb dX12_from_57 (lv_at hl 0 rfl) ?_
        obtain ⟨c13, hw⟩ := hw
        refine ldCX0_childAt hx hb hK hP hN c13 dX12_from_59 (fun x14 r_x14 e_x14 => ?_)
        replace hw := hw x14 r_x14 e_x14
        refine lv_iload_n hx hb dX12_from_60 rfl (lv_at hl 4 rfl) ?_
        refine bi_iadd hx hb dX12_from_61 ?_
        obtain ⟨c15, hw⟩ := hw
        refine ldCX0_children hx hb hK hP hN c15 dX12_from_62 (fun x16 r_x16 e_x16 => ?_)
        replace hw := hw x16 r_x16 e_x16
        exact xri hx hb hr hlk hP hK hD hS ⟨_, r_x16, rfl, rfl, hw⟩ (Nat.le_of_ble_eq_true rfl) (Nat.le_of_ble_eq_true rfl) dX12_from_63
      ·
        replace hw := hw.2 c12
        refine lv_iconst (v := I (-1)) hx hb dX12_from_41 rfl ?_
        exact xri hx hb hr hlk hP hK hD hS ⟨_, (by decide), rfl, rfl, hw⟩ (Nat.le_of_ble_eq_true rfl) (Nat.le_of_ble_eq_true rfl) dX12_from_42
  ·
    replace hw := hw.2 c4
    refine lv_iconst (v := I (-1)) hx hb dX12_from_9 rfl ?_
    exact xri hx hb hr hlk hP hK hD hS ⟨_, (by decide), rfl, rfl, hw⟩ (Nat.le_of_ble_eq_true rfl) (Nat.le_of_ble_eq_true rfl) dX12_from_10
def W_X12_rests (n1 : Int) (n2 : Int) (σ : S0) (Q : Int → Prop) : Prop :=
  ∃ (Q1 : Int → Prop), W_X3_isProved n1 σ Q1 ∧ ∀ (x2 : Int), rg x2 → Q1 x2 → ((x2 = 0 → Q (-1)) ∧ (¬ x2 = 0 → ∃ (Q5 : Int → Prop), W_X3_isAssertion n2 σ Q5 ∧ ∀ (x6 : Int), rg x6 → Q5 x6 → ((¬ x6 = 0 → ∃ (Q9 : Int → Prop), W_X0_restsOn n1 n2 σ Q9 ∧ ∀ (x10 : Int), rg x10 → Q9 x10 → ((x10 = 0 → Q 0) ∧ (¬ x10 = 0 → Q 1))) ∧ (x6 = 0 → Q (-1)))))
set_option maxRecDepth 100000 in
set_option maxHeartbeats 4000000 in
theorem L_X12_rests (l : Launch) (g : gG) (q : Nat → Nat) (lb : Nat) (hlb : lb < 2 ^ 31) {n1 : Int} {n2 : Int} {σ : S0} {Q : Int → Prop} (r_n1 : rg n1) (r_n2 : rg n2) (hN : n_m σ) (hw : W_X12_rests n1 n2 σ Q) (sz : Nat) : MetI l yX12_rests cX12_rests 3 (some .int) { frames := 2, cells := 0, slots := 0, locals := 42 } g [.ref (q 0), .int (I n1), .int (I n2)] (CX g q lb σ) sz xT (p_i (CX g q lb) σ Q) 0 0 := by
  refine mkMet (Qc := fun A => QI g A (p_i (CX g q lb) σ Q)) (by decide) (Nat.le_of_ble_eq_true rfl) ?_
  intro p e s m below meth c A H ls hx hb hr hml hown hts hlk hnm hsz hP hK hNb hD hA hAe hS hX hl
  have hl : lv_has ls 3 [(0, .ref (q 0)), (1, .int (I n1)), (2, .int (I n2))] := hl
  have hB := hN
  obtain ⟨locs, hlocs⟩ : ∃ z : List Loc, z = [] := ⟨_, rfl⟩
  rw [← hlocs] at hS ⊢
  refine lv_aload_n hx hb dX12_rests_0 rfl (lv_at hl 0 rfl) ?_
  refine gfX12_library hx hb hts hK hP hown (hts _ tw_889) dX12_rests_1 ?_
  refine lv_iload_n hx hb dX12_rests_4 rfl (lv_at hl 1 rfl) ?_
  obtain ⟨Q1, hc, hw⟩ := hw
  refine wc_i (X := CX g q lb) (va_runV (As := [.int (I n1)]) (rest := []) ⟨hx, hb, hml, hown, hts⟩ (L_X3_isProved l g q lb hlb r_n1 hN hc H.size) (cwV 1 hts (TB_V tw_1488 tw_1489 tw_1490 tw_2 co_X3_isProved) rfl rfl rfl (by decide +kernel) ⟨Nat.le_of_ble_eq_true rfl, Nat.le_of_ble_eq_true rfl⟩) (preV (q0 := 1) (ci := 3) rfl xT_bl hP hK hNb hD rfl rfl xT_at) rfl rfl hl.1 rfl (lv_room (Nat.le_of_ble_eq_true rfl)) dX12_rests_5 ⟨Nat.le_of_ble_eq_true rfl, Nat.le_of_ble_eq_true rfl⟩) hP hD hS hA (fun x2 H locs r_x2 hq hP hD hS => ?_)
  replace hw := hw x2 r_x2 hq
  refine bi_if_eq (tgt := 22) hx hb r_x2 dX12_rests_8 (by decide) (fun c4 => ?_) (fun c4 => ?_)
  ·
    replace hw := hw.1 c4
    refine lv_iconst (v := I (-1)) hx hb dX12_rests_22 rfl ?_
    exact xri hx hb hr hlk hP hK hD hS ⟨_, (by decide), rfl, rfl, hw⟩ (Nat.le_of_ble_eq_true rfl) (Nat.le_of_ble_eq_true rfl) dX12_rests_23
  ·
    replace hw := hw.2 c4
    refine lv_aload_n hx hb dX12_rests_11 rfl (lv_at hl 0 rfl) ?_
    refine gfX12_library hx hb hts hK hP hown (hts _ tw_889) dX12_rests_12 ?_
    refine lv_iload_n hx hb dX12_rests_15 rfl (lv_at hl 2 rfl) ?_
    obtain ⟨Q5, hc, hw⟩ := hw
    refine wc_i (X := CX g q lb) (va_runV (As := [.int (I n2)]) (rest := []) ⟨hx, hb, hml, hown, hts⟩ (L_X3_isAssertion l g q lb hlb r_n2 hN hc H.size) (cwV 1 hts (TB_V tw_1455 tw_1456 tw_1457 tw_2 co_X3_isAssertion) rfl rfl rfl (by decide +kernel) ⟨Nat.le_of_ble_eq_true rfl, Nat.le_of_ble_eq_true rfl⟩) (preV (q0 := 1) (ci := 3) rfl xT_bl hP hK hNb hD rfl rfl xT_at) rfl rfl hl.1 rfl (lv_room (Nat.le_of_ble_eq_true rfl)) dX12_rests_16 ⟨Nat.le_of_ble_eq_true rfl, Nat.le_of_ble_eq_true rfl⟩) hP hD hS hA (fun x6 H locs r_x6 hq hP hD hS => ?_)
    replace hw := hw x6 r_x6 hq
    refine bi_if_ne (tgt := 24) hx hb r_x6 dX12_rests_19 (by decide) (fun c8 => ?_) (fun c8 => ?_)
    ·
      replace hw := hw.1 c8
      refine lv_aload_n hx hb dX12_rests_24 rfl (lv_at hl 0 rfl) ?_
      refine gfX12_assertions hx hb hts hK hP hown (hts _ tw_891) dX12_rests_25 ?_
      refine lv_iload_n hx hb dX12_rests_28 rfl (lv_at hl 1 rfl) ?_
      refine lv_iload_n hx hb dX12_rests_29 rfl (lv_at hl 2 rfl) ?_
      obtain ⟨Q9, hc, hw⟩ := hw
      refine wc_i (X := CX g q lb) (va_runV (As := [.int (I n1), .int (I n2)]) (rest := []) ⟨hx, hb, hml, hown, hts⟩ (L_X0_restsOn l g q lb hlb r_n1 r_n2 hN hc H.size) (cwV 2 hts (TB_V tw_1512 tw_1366 tw_1367 tw_5 co_X0_restsOn) rfl rfl rfl (by decide +kernel) ⟨Nat.le_of_ble_eq_true rfl, Nat.le_of_ble_eq_true rfl⟩) (preV (q0 := 3) (ci := 0) rfl xT_bl hP hK hNb hD rfl rfl xT_at) rfl rfl hl.1 rfl (lv_room (Nat.le_of_ble_eq_true rfl)) dX12_rests_30 ⟨Nat.le_of_ble_eq_true rfl, Nat.le_of_ble_eq_true rfl⟩) hP hD hS hA (fun x10 H locs r_x10 hq hP hD hS => ?_)
      replace hw := hw x10 r_x10 hq
      refine bi_if_eq (tgt := 40) hx hb r_x10 dX12_rests_33 (by decide) (fun c12 => ?_) (fun c12 => ?_)
      ·
        replace hw := hw.1 c12
        refine lv_iconst (v := I 0) hx hb dX12_rests_40 rfl ?_
        exact xri hx hb hr hlk hP hK hD hS ⟨_, (by decide), rfl, rfl, hw⟩ (Nat.le_of_ble_eq_true rfl) (Nat.le_of_ble_eq_true rfl) dX12_rests_41
      ·
        replace hw := hw.2 c12
        refine lv_iconst (v := I 1) hx hb dX12_rests_36 rfl ?_
        refine lv_goto (tgt := 41) hx hb dX12_rests_37 (by decide) ?_
        exact xri hx hb hr hlk hP hK hD hS ⟨_, (by decide), rfl, rfl, hw⟩ (Nat.le_of_ble_eq_true rfl) (Nat.le_of_ble_eq_true rfl) dX12_rests_41
    ·
      replace hw := hw.2 c8
      refine lv_iconst (v := I (-1)) hx hb dX12_rests_22 rfl ?_
      exact xri hx hb hr hlk hP hK hD hS ⟨_, (by decide), rfl, rfl, hw⟩ (Nat.le_of_ble_eq_true rfl) (Nat.le_of_ble_eq_true rfl) dX12_rests_23
def W_X12_size (n1 : Int) (σ : S0) (Q : Int64 → Prop) : Prop :=
  ∃ (Q1 : Int → Prop), W_X3_isProved n1 σ Q1 ∧ ∀ (x2 : Int), rg x2 → Q1 x2 → ((¬ x2 = 0 → ∃ (Q5 : Int64 → Prop), W_X0_labelsOf n1 σ Q5 ∧ ∀ (x6 : Int64), Q5 x6 → ((x6 ≤ 1000000000000000000 → Q x6) ∧ (1000000000000000000 < x6 → Q (-2)))) ∧ (x2 = 0 → Q (-1)))
set_option maxRecDepth 100000 in
set_option maxHeartbeats 4000000 in
theorem L_X12_size (l : Launch) (g : gG) (q : Nat → Nat) (lb : Nat) (hlb : lb < 2 ^ 31) {n1 : Int} {σ : S0} {Q : Int64 → Prop} (r_n1 : rg n1) (hN : n_m σ) (hw : W_X12_size n1 σ Q) (sz : Nat) : MetL l yX12_size cX12_size 4 (some .long) { frames := 2, cells := 0, slots := 0, locals := 42 } g [.ref (q 0), .int (I n1)] (CX g q lb σ) sz xT (p_l (CX g q lb) σ Q) 0 0 := by
  refine mkMet (Qc := fun A => QL g A (p_l (CX g q lb) σ Q)) (by decide) (Nat.le_of_ble_eq_true rfl) ?_
  intro p e s m below meth c A H ls hx hb hr hml hown hts hlk hnm hsz hP hK hNb hD hA hAe hS hX hl
  have hl : lv_has ls 4 [(0, .ref (q 0)), (1, .int (I n1))] := hl
  have hB := hN
  obtain ⟨locs, hlocs⟩ : ∃ z : List Loc, z = [] := ⟨_, rfl⟩
  rw [← hlocs] at hS ⊢
  refine lv_aload_n hx hb dX12_size_0 rfl (lv_at hl 0 rfl) ?_
  refine gfX12_library hx hb hts hK hP hown (hts _ tw_889) dX12_size_1 ?_
  refine lv_iload_n hx hb dX12_size_4 rfl (lv_at hl 1 rfl) ?_
  obtain ⟨Q1, hc, hw⟩ := hw
  refine wc_i (X := CX g q lb) (va_runV (As := [.int (I n1)]) (rest := []) ⟨hx, hb, hml, hown, hts⟩ (L_X3_isProved l g q lb hlb r_n1 hN hc H.size) (cwV 1 hts (TB_V tw_1488 tw_1489 tw_1490 tw_2 co_X3_isProved) rfl rfl rfl (by decide +kernel) ⟨Nat.le_of_ble_eq_true rfl, Nat.le_of_ble_eq_true rfl⟩) (preV (q0 := 1) (ci := 3) rfl xT_bl hP hK hNb hD rfl rfl xT_at) rfl rfl hl.1 rfl (lv_room (Nat.le_of_ble_eq_true rfl)) dX12_size_5 ⟨Nat.le_of_ble_eq_true rfl, Nat.le_of_ble_eq_true rfl⟩) hP hD hS hA (fun x2 H locs r_x2 hq hP hD hS => ?_)
  replace hw := hw x2 r_x2 hq
  refine bi_if_ne (tgt := 15) hx hb r_x2 dX12_size_8 (by decide) (fun c4 => ?_) (fun c4 => ?_)
  ·
    replace hw := hw.1 c4
    refine lv_aload_n hx hb dX12_size_15 rfl (lv_at hl 0 rfl) ?_
    refine gfX12_assertions hx hb hts hK hP hown (hts _ tw_891) dX12_size_16 ?_
    refine lv_iload_n hx hb dX12_size_19 rfl (lv_at hl 1 rfl) ?_
    obtain ⟨Q5, hc, hw⟩ := hw
    refine wc_l (X := CX g q lb) (va_runV (As := [.int (I n1)]) (rest := []) ⟨hx, hb, hml, hown, hts⟩ (L_X0_labelsOf l g q lb hlb r_n1 hN hc H.size) (cwV 1 hts (TB_V tw_1518 tw_1519 tw_1520 tw_5 co_X0_labelsOf) rfl rfl rfl (by decide +kernel) ⟨Nat.le_of_ble_eq_true rfl, Nat.le_of_ble_eq_true rfl⟩) (preV (q0 := 3) (ci := 0) rfl xT_bl hP hK hNb hD rfl rfl xT_at) rfl rfl hl.1 rfl (lv_room (Nat.le_of_ble_eq_true rfl)) dX12_size_20 ⟨Nat.le_of_ble_eq_true rfl, Nat.le_of_ble_eq_true rfl⟩) hP hD hS hA (fun x6 H locs hq hP hD hS => ?_)
    replace hw := hw x6 hq
    refine lv_lstore_n (lv' := [(2, .long x6), (0, .ref (q 0)), (1, .int (I n1))]) hx hb dX12_size_23 rfl hl (by decide) rfl (fun ls hl => ?_)
    refine lv_lload_n hx hb dX12_size_24 rfl (lv_at hl 0 rfl) ?_
    refine lv_ldc2 (own := RX12) (v := 1000000000000000000) hx hb hown (hts _ tw_1522) dX12_size_25 ?_
    refine bi_lcmp_le (tgt := 38) hx hb dX12_size_28 dX12_size_29 (by decide) (fun c8 => ?_) (fun c8 => ?_)
    ·
      replace hw := hw.1 c8
      refine lv_lload_n hx hb dX12_size_38 rfl (lv_at hl 0 rfl) ?_
      exact xrl hx hb hr hlk hP hK hD hS ⟨rfl, hw⟩ (Nat.le_of_ble_eq_true rfl) (Nat.le_of_ble_eq_true rfl) dX12_size_39
    ·
      replace hw := hw.2 c8
      refine lv_ldc2 (own := RX12) (v := (-2)) hx hb hown (hts _ tw_1523) dX12_size_32 ?_
      refine lv_goto (tgt := 39) hx hb dX12_size_35 (by decide) ?_
      exact xrl hx hb hr hlk hP hK hD hS ⟨rfl, hw⟩ (Nat.le_of_ble_eq_true rfl) (Nat.le_of_ble_eq_true rfl) dX12_size_39
  ·
    replace hw := hw.2 c4
    refine lv_ldc2 (own := RX12) (v := (-1)) hx hb hown (hts _ tw_1517) dX12_size_11 ?_
    exact xrl hx hb hr hlk hP hK hD hS ⟨rfl, hw⟩ (Nat.le_of_ble_eq_true rfl) (Nat.le_of_ble_eq_true rfl) dX12_size_14
def W_X5_putSymbols_q55 (n2 : Int) (n3 : Int) (σ : S0) (Q : S0 → Prop) : Prop :=
  ∀ (P3 : Int → Int → S0 → Prop),
  (∀ (u3 : Int) (u4 : Int) (τ : S0), ((u3 ≤ u4 → Q τ) ∧ (u4 < u3 → (¬ τ.1 64 = 0 → Q τ) ∧ (τ.1 64 = 0 → (0 ≤ u4 ∧ u4 < 42000) ∧ (∀ (x4 : Int), rg x4 → x4 = τ.2.1 39 u4 → (∃ (Q5 : S0 → Prop), W_X5_putSymbol x4 τ Q5 ∧ ∀ (τ7 : S0), n_m τ7 → f_r [63, 64] [101, 102] [] τ τ7 → Q5 τ7 → (rg (u4 + 1) ∧ P3 u3 (u4 + 1) τ7)))))) → P3 u3 u4 τ) →
  P3 n3 n2 σ
set_option maxRecDepth 100000 in
set_option maxHeartbeats 4000000 in
theorem L_X5_putSymbols_q55 (l : Launch) (g : gG) (q : Nat → Nat) (lb : Nat) (hlb : lb < 2 ^ 31) {n2 : Int} {n3 : Int} {σ : S0} {Q : S0 → Prop} (r_n2 : rg n2) (r_n3 : rg n3) (hN : n_m σ) (hw : W_X5_putSymbols_q55 n2 n3 σ Q) (sz : Nat) : MetV l yX5_putSymbols cX5_putSymbols 5 { frames := 4, cells := 0, slots := 0, locals := 84 } g [.ref (q 12), .ref (q 55), .int (I n2), .int (I n3)] (CX g q lb σ) sz xT (p_V (CX g q lb) [63, 64] [101, 102] [] σ Q) 0 0 := by
  refine mkMet (Qc := fun A => QV g A (p_V (CX g q lb) [63, 64] [101, 102] [] σ Q)) (by decide) (Nat.le_of_ble_eq_true rfl) ?_
  intro p e s m below meth c A H ls hx hb hr hml hown hts hlk hnm hsz hP hK hNb hD hA hAe hS hX hl
  have hl : lv_has ls 5 [(0, .ref (q 12)), (1, .ref (q 55)), (2, .int (I n2)), (3, .int (I n3))] := hl
  have hB := hN
  have hF : f_r [63, 64] [101, 102] [] σ σ := f_0
  obtain ⟨locs, hlocs⟩ : ∃ z : List Loc, z = [] := ⟨_, rfl⟩
  rw [← hlocs] at hS ⊢
  obtain ⟨P3, hP3⟩ : ∃ P : Int → Int → S0 → Prop, ∀ (u3 : Int) (u4 : Int) (τ : S0), (P u3 u4 τ ↔ (rg u3 → rg u4 → n_m τ → f_r [63, 64] [101, 102] [] σ τ → ∀ (H : Heap) (locs : List Loc) (ls : Array Slot), KP g (CX g q lb τ) H → va_D A (CX g q lb τ) → va_S A s.heap H locs → lv_has ls 5 [(0, .ref (q 12)), (1, .ref (q 55)), (3, .int (I u3)), (4, .int (I u4))] → W p l e ({ frames := 4, cells := 0, slots := 0, locals := 84 }) s m [.ref (q 12), .ref (q 55), .int (I n2), .int (I n3)].toArray below meth c H locs 0 0 (MQ below (QV g A (p_V (CX g q lb) [63, 64] [101, 102] [] σ Q)) [.ref (q 12), .ref (q 55), .int (I n2), .int (I n3)].toArray s 0 0 A) (F0 m 3 ls []))) := ⟨_, fun _ _ _ => Iff.rfl⟩
  refine (fun hw => ?_) (hw P3 ?_)
  ·
    refine lv_iload_n hx hb dX5_putSymbols_0 rfl (lv_at hl 2 rfl) ?_
    refine lv_istore (lv' := [(4, .int (I n2)), (0, .ref (q 12)), (1, .ref (q 55)), (2, .int (I n2)), (3, .int (I n3))]) hx hb dX5_putSymbols_1 hl (by decide) rfl (fun ls hl => ?_)
    exact (hP3 _ _ _).mp hw r_n3 r_n2 hN hF H locs ls hP hD hS (lv_sub hl [1, 2, 4, 0] rfl)
  ·
    intro u3 u4 τ hw
    refine (hP3 _ _ _).mpr ?_
    intro r_u3 r_u4 hN hF H locs ls hP hD hS hl
    have hB := hN
    refine lv_iload hx hb dX5_putSymbols_3 (lv_at hl 3 rfl) ?_
    refine lv_iload_n hx hb dX5_putSymbols_5 rfl (lv_at hl 2 rfl) ?_
    refine bi_icmp_ge (tgt := 30) hx hb r_u4 r_u3 dX5_putSymbols_6 (by decide) (fun c1 => ?_) (fun c1 => ?_)
    ·
      replace hw := hw.1 c1
      exact xrv hx hb hr hlk hP hK hD hS ⟨_, hN, hF, rfl, hw⟩ (Nat.le_of_ble_eq_true rfl) (Nat.le_of_ble_eq_true rfl) dX5_putSymbols_30
    ·
      replace hw := hw.2 c1
      refine lv_aload_n hx hb dX5_putSymbols_9 rfl (lv_at hl 0 rfl) ?_
      refine gfX5_overflow hx hb hts hK hP hown (hts _ tw_868) (x := τ.1 64) rfl dX5_putSymbols_10 ?_
      refine bi_if_ne (tgt := 30) hx hb (hB.1 64) dX5_putSymbols_13 (by decide) (fun c2 => ?_) (fun c2 => ?_)
      ·
        replace hw := hw.1 c2
        exact xrv hx hb hr hlk hP hK hD hS ⟨_, hN, hF, rfl, hw⟩ (Nat.le_of_ble_eq_true rfl) (Nat.le_of_ble_eq_true rfl) dX5_putSymbols_30
      ·
        replace hw := hw.2 c2
        refine lv_aload_n hx hb dX5_putSymbols_16 rfl (lv_at hl 0 rfl) ?_
        refine lv_aload_n hx hb dX5_putSymbols_17 rfl (lv_at hl 1 rfl) ?_
        refine lv_iload hx hb dX5_putSymbols_18 (lv_at hl 3 rfl) ?_
        obtain ⟨c3, hw⟩ := hw
        refine ldCX6_data hx hb hK hP hN c3 dX5_putSymbols_20 (fun x4 r_x4 e_x4 => ?_)
        replace hw := hw x4 r_x4 e_x4
        obtain ⟨Q5, hc, hw⟩ := hw
        refine wc_V (X := CX g q lb) (va_runV (As := [.int (I x4)]) (rest := []) ⟨hx, hb, hml, hown, hts⟩ (L_X5_putSymbol l g q lb hlb r_x4 hN hc H.size) (cwV 1 hts (TB_V tw_1586 tw_1537 tw_1538 tw_14 co_X5_putSymbol) rfl rfl rfl (by decide +kernel) ⟨Nat.le_of_ble_eq_true rfl, Nat.le_of_ble_eq_true rfl⟩) (preV (q0 := 12) (ci := 5) rfl xT_bl hP hK hNb hD rfl rfl xT_at) rfl rfl hl.1 rfl (lv_room (Nat.le_of_ble_eq_true rfl)) dX5_putSymbols_21 ⟨Nat.le_of_ble_eq_true rfl, Nat.le_of_ble_eq_true rfl⟩) hP hD hS hA (fun τ7 H locs hN hf hq hP hD hS => ?_)
        replace hw := hw τ7 hN hf hq
        have hF : f_r [63, 64] [101, 102] [] σ τ7 := f_t hF hf (by decide) (by decide) (by decide)
        have hB := hN
        refine lv_iinc (v := I (u4 + 1)) (lv' := [(4, .int (I (u4 + 1))), (0, .ref (q 12)), (1, .ref (q 55)), (3, .int (I u3))]) hx hb dX5_putSymbols_24 hl (k := 3) rfl (I_add _ _) (by decide) rfl (fun ls hl => ?_)
        refine lv_goto (tgt := 3) hx hb dX5_putSymbols_27 (by decide) ?_
        obtain ⟨c8, hw⟩ := hw
        exact (hP3 _ _ _).mp hw r_u3 c8 hN hF H locs ls hP hD hS (lv_sub hl [1, 2, 3, 0] rfl)
def W_X12_character (n1 : Int) (σ : S0) (Q : Int → Prop) : Prop :=
  ∃ (Q1 : Int → Prop), W_X5_shown n1 σ Q1 ∧ ∀ (x2 : Int), rg x2 → Q1 x2 → (Q x2)
set_option maxRecDepth 100000 in
set_option maxHeartbeats 4000000 in
theorem L_X12_character (l : Launch) (g : gG) (q : Nat → Nat) (lb : Nat) (hlb : lb < 2 ^ 31) {n1 : Int} {σ : S0} {Q : Int → Prop} (r_n1 : rg n1) (hN : n_m σ) (hw : W_X12_character n1 σ Q) (sz : Nat) : MetI l yX12_character cX12_character 2 (some .int) { frames := 1, cells := 0, slots := 0, locals := 21 } g [.ref (q 0), .int (I n1)] (CX g q lb σ) sz xT (p_i (CX g q lb) σ Q) 0 0 := by
  refine mkMet (Qc := fun A => QI g A (p_i (CX g q lb) σ Q)) (by decide) (Nat.le_of_ble_eq_true rfl) ?_
  intro p e s m below meth c A H ls hx hb hr hml hown hts hlk hnm hsz hP hK hNb hD hA hAe hS hX hl
  have hl : lv_has ls 2 [(0, .ref (q 0)), (1, .int (I n1))] := hl
  have hB := hN
  obtain ⟨locs, hlocs⟩ : ∃ z : List Loc, z = [] := ⟨_, rfl⟩
  rw [← hlocs] at hS ⊢
  refine lv_aload_n hx hb dX12_character_0 rfl (lv_at hl 0 rfl) ?_
  refine gfX12_paper hx hb hts hK hP hown (hts _ tw_899) dX12_character_1 ?_
  refine lv_iload_n hx hb dX12_character_4 rfl (lv_at hl 1 rfl) ?_
  obtain ⟨Q1, hc, hw⟩ := hw
  refine wc_i (X := CX g q lb) (va_runV (As := [.int (I n1)]) (rest := []) ⟨hx, hb, hml, hown, hts⟩ (L_X5_shown l g q lb hlb r_n1 hN hc H.size) (cwV 1 hts (TB_V tw_1892 tw_1893 tw_1894 tw_14 co_X5_shown) rfl rfl rfl (by decide +kernel) ⟨Nat.le_of_ble_eq_true rfl, Nat.le_of_ble_eq_true rfl⟩) (preV (q0 := 12) (ci := 5) rfl xT_bl hP hK hNb hD rfl rfl xT_at) rfl rfl hl.1 rfl (lv_room (Nat.le_of_ble_eq_true rfl)) dX12_character_5 ⟨Nat.le_of_ble_eq_true rfl, Nat.le_of_ble_eq_true rfl⟩) hP hD hS hA (fun x2 H locs r_x2 hq hP hD hS => ?_)
  replace hw := hw x2 r_x2 hq
  exact xri hx hb hr hlk hP hK hD hS ⟨_, r_x2, rfl, rfl, hw⟩ (Nat.le_of_ble_eq_true rfl) (Nat.le_of_ble_eq_true rfl) dX12_character_8
def W_X12_takeRow (σ : S0) (Q : Int → S0 → Prop) : Prop :=
  ∀ (P24 : Int → Int → Int → Int → S0 → Prop) (P72 : Int → Int → Int → Int → Int → S0 → Prop) (P96 : Int → Int → Int → Int → S0 → Prop),
  (∀ (u1 : Int) (u2 : Int) (u3 : Int) (u4 : Int) (τ : S0), ((u1 ≤ u4 → Q u2 τ) ∧ (u4 < u1 → (u1 ≤ u3 → Q u2 τ) ∧ (u3 < u1 → ∃ (Q10 : Int → Prop), W_X12_tokenEnd_q13 u3 u1 τ Q10 ∧ ∀ (x11 : Int), rg x11 → Q10 x11 → ((¬ x11 = u3 → rg (x11 - u3) ∧ ∃ (Q15 : Int → Prop), W_X3_symbolNamed_q13 u3 (x11 - u3) τ Q15 ∧ ∀ (x16 : Int), rg x16 → Q15 x16 → (P72 u1 u2 u4 x11 x16 τ)) ∧ (x11 = u3 → P72 u1 u2 u4 x11 (-1) τ))))) → P24 u1 u2 u3 u4 τ) →
  (∀ (u1 : Int) (u2 : Int) (u4 : Int) (u5 : Int) (k0 : Int) (τ : S0), ((¬ k0 = (-1) → (60 ≤ u2 → P96 u1 u2 u4 u5 τ) ∧ (u2 < 60 → (0 ≤ u2 ∧ u2 < 60) ∧ (P96 u1 u2 u4 u5 (s_a τ 1 u2 k0)))) ∧ (k0 = (-1) → Q (-1) τ)) → P72 u1 u2 u4 u5 k0 τ) →
  (∀ (u1 : Int) (u2 : Int) (u4 : Int) (u5 : Int) (τ : S0), (∃ (Q21 : Int → Prop), W_X12_skipBlanks_q13 u5 u1 τ Q21 ∧ ∀ (x22 : Int), rg x22 → Q21 x22 → (rg (u2 + 1) ∧ rg (u4 + 1) ∧ P24 u1 (u2 + 1) x22 (u4 + 1) τ)) → P96 u1 u2 u4 u5 τ) →
  ∃ (Q1 : S0 → Prop), W_X12_useTape σ Q1 ∧ ∀ (τ3 : S0), n_m τ3 → f_r [0, 1] [] [] σ τ3 → Q1 τ3 → (rg (σ.1 0) ∧ ∃ (Q5 : Int → Prop), W_X12_skipBlanks_q13 0 (σ.1 0) τ3 Q5 ∧ ∀ (x6 : Int), rg x6 → Q5 x6 → (P24 (σ.1 0) 0 x6 0 τ3))
set_option maxRecDepth 100000 in
set_option maxHeartbeats 4000000 in
theorem L_X12_takeRow (l : Launch) (g : gG) (q : Nat → Nat) (lb : Nat) (hlb : lb < 2 ^ 31) {σ : S0} {Q : Int → S0 → Prop} (hN : n_m σ) (hw : W_X12_takeRow σ Q) (sz : Nat) : MetI l yX12_takeRow cX12_takeRow 7 (some .int) { frames := 3, cells := 0, slots := 0, locals := 74 } g [.ref (q 0)] (CX g q lb σ) sz xT (p_I (CX g q lb) [0, 1] [1] [] σ Q) 0 0 := by
  refine mkMet (Qc := fun A => QI g A (p_I (CX g q lb) [0, 1] [1] [] σ Q)) (by decide) (Nat.le_of_ble_eq_true rfl) ?_
  intro p e s m below meth c A H ls hx hb hr hml hown hts hlk hnm hsz hP hK hNb hD hA hAe hS hX hl
  have hl : lv_has ls 7 [(0, .ref (q 0))] := hl
  have hB := hN
  have hF : f_r [0, 1] [1] [] σ σ := f_0
  obtain ⟨locs, hlocs⟩ : ∃ z : List Loc, z = [] := ⟨_, rfl⟩
  rw [← hlocs] at hS ⊢
  obtain ⟨P24, hP24⟩ : ∃ P : Int → Int → Int → Int → S0 → Prop, ∀ (u1 : Int) (u2 : Int) (u3 : Int) (u4 : Int) (τ : S0), (P u1 u2 u3 u4 τ ↔ (rg u1 → rg u2 → rg u3 → rg u4 → n_m τ → f_r [0, 1] [1] [] σ τ → ∀ (H : Heap) (locs : List Loc) (ls : Array Slot), KP g (CX g q lb τ) H → va_D A (CX g q lb τ) → va_S A s.heap H locs → lv_has ls 7 [(0, .ref (q 0)), (1, .int (I u1)), (2, .int (I u2)), (3, .int (I u3)), (4, .int (I u4))] → W p l e ({ frames := 3, cells := 0, slots := 0, locals := 74 }) s m [.ref (q 0)].toArray below meth c H locs 0 0 (MQ below (QI g A (p_I (CX g q lb) [0, 1] [1] [] σ Q)) [.ref (q 0)].toArray s 0 0 A) (F0 m 24 ls []))) := ⟨_, fun _ _ _ _ _ => Iff.rfl⟩
  obtain ⟨P72, hP72⟩ : ∃ P : Int → Int → Int → Int → Int → S0 → Prop, ∀ (u1 : Int) (u2 : Int) (u4 : Int) (u5 : Int) (k0 : Int) (τ : S0), (P u1 u2 u4 u5 k0 τ ↔ (rg u1 → rg u2 → rg u4 → rg u5 → rg k0 → n_m τ → f_r [0, 1] [1] [] σ τ → ∀ (H : Heap) (locs : List Loc) (ls : Array Slot), KP g (CX g q lb τ) H → va_D A (CX g q lb τ) → va_S A s.heap H locs → lv_has ls 7 [(0, .ref (q 0)), (1, .int (I u1)), (2, .int (I u2)), (4, .int (I u4)), (5, .int (I u5))] → W p l e ({ frames := 3, cells := 0, slots := 0, locals := 74 }) s m [.ref (q 0)].toArray below meth c H locs 0 0 (MQ below (QI g A (p_I (CX g q lb) [0, 1] [1] [] σ Q)) [.ref (q 0)].toArray s 0 0 A) (F0 m 72 ls [.int (I k0)]))) := ⟨_, fun _ _ _ _ _ _ => Iff.rfl⟩
  obtain ⟨P96, hP96⟩ : ∃ P : Int → Int → Int → Int → S0 → Prop, ∀ (u1 : Int) (u2 : Int) (u4 : Int) (u5 : Int) (τ : S0), (P u1 u2 u4 u5 τ ↔ (rg u1 → rg u2 → rg u4 → rg u5 → n_m τ → f_r [0, 1] [1] [] σ τ → ∀ (H : Heap) (locs : List Loc) (ls : Array Slot), KP g (CX g q lb τ) H → va_D A (CX g q lb τ) → va_S A s.heap H locs → lv_has ls 7 [(0, .ref (q 0)), (1, .int (I u1)), (2, .int (I u2)), (4, .int (I u4)), (5, .int (I u5))] → W p l e ({ frames := 3, cells := 0, slots := 0, locals := 74 }) s m [.ref (q 0)].toArray below meth c H locs 0 0 (MQ below (QI g A (p_I (CX g q lb) [0, 1] [1] [] σ Q)) [.ref (q 0)].toArray s 0 0 A) (F0 m 96 ls []))) := ⟨_, fun _ _ _ _ _ => Iff.rfl⟩
  refine (fun hw => ?_) (hw P24 P72 P96 ?_ ?_ ?_)
  ·
    refine lv_aload_n hx hb dX12_takeRow_0 rfl (lv_at hl 0 rfl) ?_
    refine gfX12_tapeLength hx hb hts hK hP hown (hts _ tw_885) (x := σ.1 0) rfl dX12_takeRow_1 ?_
    refine lv_istore_n (lv' := [(1, .int (I (σ.1 0))), (0, .ref (q 0))]) hx hb dX12_takeRow_4 rfl hl (by decide) rfl (fun ls hl => ?_)
    refine lv_aload_n hx hb dX12_takeRow_5 rfl (lv_at hl 1 rfl) ?_
    obtain ⟨Q1, hc, hw⟩ := hw
    refine wc_V (X := CX g q lb) (va_runV (As := []) (rest := []) ⟨hx, hb, hml, hown, hts⟩ (L_X12_useTape l g q lb hlb  hN hc H.size) (cwV 0 hts (TB_V tw_1389 tw_1391 ts_51 tw_1 co_X12_useTape) rfl rfl rfl (by decide +kernel) ⟨Nat.le_of_ble_eq_true rfl, Nat.le_of_ble_eq_true rfl⟩) (preV (q0 := 0) (ci := 12) rfl xT_bl hP hK hNb hD rfl rfl xT_at) rfl rfl hl.1 rfl (lv_room (Nat.le_of_ble_eq_true rfl)) dX12_takeRow_6 ⟨Nat.le_of_ble_eq_true rfl, Nat.le_of_ble_eq_true rfl⟩) hP hD hS hA (fun τ3 H locs hN hf hq hP hD hS => ?_)
    replace hw := hw τ3 hN hf hq
    have hF : f_r [0, 1] [1] [] σ τ3 := f_t hF hf (by decide) (by decide) (by decide)
    have hB := hN
    refine lv_iconst (v := I 0) hx hb dX12_takeRow_9 rfl ?_
    refine lv_istore_n (lv' := [(2, .int (I 0)), (1, .int (I (σ.1 0))), (0, .ref (q 0))]) hx hb dX12_takeRow_10 rfl hl (by decide) rfl (fun ls hl => ?_)
    refine lv_aload_n hx hb dX12_takeRow_11 rfl (lv_at hl 2 rfl) ?_
    refine gfX12_tape hx hb hts hK hP hown (hts _ tw_884) dX12_takeRow_12 ?_
    refine lv_iconst (v := I 0) hx hb dX12_takeRow_15 rfl ?_
    refine lv_iload_n hx hb dX12_takeRow_16 rfl (lv_at hl 1 rfl) ?_
    obtain ⟨c4, hw⟩ := hw
    obtain ⟨Q5, hc, hw⟩ := hw
    refine wc_i (X := CX g q lb) (va_runS (As := [.ref (q 13), .int (I 0), .int (I (σ.1 0))]) (rest := []) ⟨hx, hb, hml, hown, hts⟩ (L_X12_skipBlanks_q13 l g q lb hlb (by decide) c4 hN hc H.size) (cwS 3 hts (TB_S tw_1438 tw_974 tw_1 co_X12_skipBlanks) rfl rfl rfl (by decide +kernel) ⟨Nat.le_of_ble_eq_true rfl, Nat.le_of_ble_eq_true rfl⟩) (preS xT_bl hP hK hNb hD xT_at) rfl rfl hl.1 rfl (lv_room (Nat.le_of_ble_eq_true rfl)) dX12_takeRow_17 ⟨Nat.le_of_ble_eq_true rfl, Nat.le_of_ble_eq_true rfl⟩) hP hD hS hA (fun x6 H locs r_x6 hq hP hD hS => ?_)
    replace hw := hw x6 r_x6 hq
    refine lv_istore_n (lv' := [(3, .int (I x6)), (2, .int (I 0)), (1, .int (I (σ.1 0))), (0, .ref (q 0))]) hx hb dX12_takeRow_20 rfl hl (by decide) rfl (fun ls hl => ?_)
    refine lv_iconst (v := I 0) hx hb dX12_takeRow_21 rfl ?_
    refine lv_istore (lv' := [(4, .int (I 0)), (3, .int (I x6)), (2, .int (I 0)), (1, .int (I (σ.1 0))), (0, .ref (q 0))]) hx hb dX12_takeRow_22 hl (by decide) rfl (fun ls hl => ?_)
    exact (hP24 _ _ _ _ _).mp hw c4 (by decide) r_x6 (by decide) hN hF H locs ls hP hD hS (lv_sub hl [4, 3, 2, 1, 0] rfl)
  ·
    intro u1 u2 u3 u4 τ hw
    refine (hP24 _ _ _ _ _).mpr ?_
    intro r_u1 r_u2 r_u3 r_u4 hN hF H locs ls hP hD hS hl
    have hB := hN
    refine lv_iload hx hb dX12_takeRow_24 (lv_at hl 4 rfl) ?_
    refine lv_iload_n hx hb dX12_takeRow_26 rfl (lv_at hl 1 rfl) ?_
    refine bi_icmp_ge (tgt := 116) hx hb r_u4 r_u1 dX12_takeRow_27 (by decide) (fun c8 => ?_) (fun c8 => ?_)
    ·
      replace hw := hw.1 c8
      refine lv_iload_n hx hb dX12_takeRow_116 rfl (lv_at hl 2 rfl) ?_
      exact xri hx hb hr hlk hP hK hD hS ⟨_, _, r_u2, rfl, hN, hF, rfl, hw⟩ (Nat.le_of_ble_eq_true rfl) (Nat.le_of_ble_eq_true rfl) dX12_takeRow_117
    ·
      replace hw := hw.2 c8
      refine lv_iload_n hx hb dX12_takeRow_30 rfl (lv_at hl 3 rfl) ?_
      refine lv_iload_n hx hb dX12_takeRow_31 rfl (lv_at hl 1 rfl) ?_
      refine bi_icmp_ge (tgt := 116) hx hb r_u3 r_u1 dX12_takeRow_32 (by decide) (fun c9 => ?_) (fun c9 => ?_)
      ·
        replace hw := hw.1 c9
        refine lv_iload_n hx hb dX12_takeRow_116 rfl (lv_at hl 2 rfl) ?_
        exact xri hx hb hr hlk hP hK hD hS ⟨_, _, r_u2, rfl, hN, hF, rfl, hw⟩ (Nat.le_of_ble_eq_true rfl) (Nat.le_of_ble_eq_true rfl) dX12_takeRow_117
      ·
        replace hw := hw.2 c9
        refine lv_aload_n hx hb dX12_takeRow_35 rfl (lv_at hl 0 rfl) ?_
        refine gfX12_tape hx hb hts hK hP hown (hts _ tw_884) dX12_takeRow_36 ?_
        refine lv_iload_n hx hb dX12_takeRow_39 rfl (lv_at hl 3 rfl) ?_
        refine lv_iload_n hx hb dX12_takeRow_40 rfl (lv_at hl 1 rfl) ?_
        obtain ⟨Q10, hc, hw⟩ := hw
        refine wc_i (X := CX g q lb) (va_runS (As := [.ref (q 13), .int (I u3), .int (I u1)]) (rest := []) ⟨hx, hb, hml, hown, hts⟩ (L_X12_tokenEnd_q13 l g q lb hlb r_u3 r_u1 hN hc H.size) (cwS 3 hts (TB_S tw_1439 tw_980 tw_1 co_X12_tokenEnd) rfl rfl rfl (by decide +kernel) ⟨Nat.le_of_ble_eq_true rfl, Nat.le_of_ble_eq_true rfl⟩) (preS xT_bl hP hK hNb hD xT_at) rfl rfl hl.1 rfl (lv_room (Nat.le_of_ble_eq_true rfl)) dX12_takeRow_41 ⟨Nat.le_of_ble_eq_true rfl, Nat.le_of_ble_eq_true rfl⟩) hP hD hS hA (fun x11 H locs r_x11 hq hP hD hS => ?_)
        replace hw := hw x11 r_x11 hq
        refine lv_istore (lv' := [(5, .int (I x11)), (0, .ref (q 0)), (1, .int (I u1)), (2, .int (I u2)), (3, .int (I u3)), (4, .int (I u4))]) hx hb dX12_takeRow_44 hl (by decide) rfl (fun ls hl => ?_)
        refine lv_iload hx hb dX12_takeRow_46 (lv_at hl 0 rfl) ?_
        refine lv_iload_n hx hb dX12_takeRow_48 rfl (lv_at hl 4 rfl) ?_
        refine bi_icmp_ne (tgt := 56) hx hb r_x11 r_u3 dX12_takeRow_49 (by decide) (fun c13 => ?_) (fun c13 => ?_)
        ·
          replace hw := hw.1 c13
          refine lv_aload_n hx hb dX12_takeRow_56 rfl (lv_at hl 1 rfl) ?_
          refine gfX12_library hx hb hts hK hP hown (hts _ tw_889) dX12_takeRow_57 ?_
          refine lv_aload_n hx hb dX12_takeRow_60 rfl (lv_at hl 1 rfl) ?_
          refine gfX12_tape hx hb hts hK hP hown (hts _ tw_884) dX12_takeRow_61 ?_
          refine lv_iload_n hx hb dX12_takeRow_64 rfl (lv_at hl 4 rfl) ?_
          refine lv_iload hx hb dX12_takeRow_65 (lv_at hl 0 rfl) ?_
          refine lv_iload_n hx hb dX12_takeRow_67 rfl (lv_at hl 4 rfl) ?_
          refine bi_isub hx hb dX12_takeRow_68 ?_
          obtain ⟨c14, hw⟩ := hw
          obtain ⟨Q15, hc, hw⟩ := hw
          refine wc_i (X := CX g q lb) (va_runV (As := [.ref (q 13), .int (I u3), .int (I (x11 - u3))]) (rest := []) ⟨hx, hb, hml, hown, hts⟩ (L_X3_symbolNamed_q13 l g q lb hlb r_u3 c14 hN hc H.size) (cwV 3 hts (TB_V tw_1446 tw_1447 tw_1448 tw_2 co_X3_symbolNamed) rfl rfl rfl (by decide +kernel) ⟨Nat.le_of_ble_eq_true rfl, Nat.le_of_ble_eq_true rfl⟩) (preV (q0 := 1) (ci := 3) rfl xT_bl hP hK hNb hD rfl rfl xT_at) rfl rfl hl.1 rfl (lv_room (Nat.le_of_ble_eq_true rfl)) dX12_takeRow_69 ⟨Nat.le_of_ble_eq_true rfl, Nat.le_of_ble_eq_true rfl⟩) hP hD hS hA (fun x16 H locs r_x16 hq hP hD hS => ?_)
          replace hw := hw x16 r_x16 hq
          exact (hP72 _ _ _ _ _ _).mp hw r_u1 r_u2 r_u4 r_x11 r_x16 hN hF H locs ls hP hD hS (lv_sub hl [1, 2, 3, 5, 0] rfl)
        ·
          replace hw := hw.2 c13
          refine lv_iconst (v := I (-1)) hx hb dX12_takeRow_52 rfl ?_
          refine lv_goto (tgt := 72) hx hb dX12_takeRow_53 (by decide) ?_
          exact (hP72 _ _ _ _ _ _).mp hw r_u1 r_u2 r_u4 r_x11 (by decide) hN hF H locs ls hP hD hS (lv_sub hl [1, 2, 3, 5, 0] rfl)
  ·
    intro u1 u2 u4 u5 k0 τ hw
    refine (hP72 _ _ _ _ _ _).mpr ?_
    intro r_u1 r_u2 r_u4 r_u5 r_k0 hN hF H locs ls hP hD hS hl
    have hB := hN
    refine lv_istore (lv' := [(6, .int (I k0)), (0, .ref (q 0)), (1, .int (I u1)), (2, .int (I u2)), (4, .int (I u4)), (5, .int (I u5))]) hx hb dX12_takeRow_72 hl (by decide) rfl (fun ls hl => ?_)
    refine lv_iload hx hb dX12_takeRow_74 (lv_at hl 0 rfl) ?_
    refine lv_iconst (v := I (-1)) hx hb dX12_takeRow_76 rfl ?_
    refine bi_icmp_ne (tgt := 82) hx hb r_k0 (by decide) dX12_takeRow_77 (by decide) (fun c18 => ?_) (fun c18 => ?_)
    ·
      replace hw := hw.1 c18
      refine lv_iload_n hx hb dX12_takeRow_82 rfl (lv_at hl 3 rfl) ?_
      refine lv_bipush (v := I 60) hx hb dX12_takeRow_83 (by decide) ?_
      refine bi_icmp_ge (tgt := 96) hx hb r_u2 (by decide) dX12_takeRow_85 (by decide) (fun c19 => ?_) (fun c19 => ?_)
      ·
        replace hw := hw.1 c19
        exact (hP96 _ _ _ _ _).mp hw r_u1 r_u2 r_u4 r_u5 hN hF H locs ls hP hD hS (lv_sub hl [1, 2, 3, 4, 5] rfl)
      ·
        replace hw := hw.2 c19
        refine lv_aload_n hx hb dX12_takeRow_88 rfl (lv_at hl 1 rfl) ?_
        refine gfX12_asked hx hb hts hK hP hown (hts _ tw_888) dX12_takeRow_89 ?_
        refine lv_iload_n hx hb dX12_takeRow_92 rfl (lv_at hl 3 rfl) ?_
        refine lv_iload hx hb dX12_takeRow_93 (lv_at hl 0 rfl) ?_
        obtain ⟨c20, hw⟩ := hw
        refine sdCX12_asked hx hb hK hP hD hS c20 dX12_takeRow_95 (fun H locs hP hD hS => ?_)
        have hN : n_m (s_a τ 1 u2 k0) := n_a (k := 1) (j := u2) hN (r_k0 : rg k0)
        have hF : f_r [0, 1] [1] [] σ (s_a τ 1 u2 k0) := f_a hF (by decide)
        exact (hP96 _ _ _ _ _).mp hw r_u1 r_u2 r_u4 r_u5 hN hF H locs ls hP hD hS (lv_sub hl [1, 2, 3, 4, 5] rfl)
    ·
      replace hw := hw.2 c18
      refine lv_iconst (v := I (-1)) hx hb dX12_takeRow_80 rfl ?_
      exact xri hx hb hr hlk hP hK hD hS ⟨_, _, (by decide), rfl, hN, hF, rfl, hw⟩ (Nat.le_of_ble_eq_true rfl) (Nat.le_of_ble_eq_true rfl) dX12_takeRow_81
  ·
    intro u1 u2 u4 u5 τ hw
    refine (hP96 _ _ _ _ _).mpr ?_
    intro r_u1 r_u2 r_u4 r_u5 hN hF H locs ls hP hD hS hl
    have hB := hN
    refine lv_iinc (v := I (u2 + 1)) (lv' := [(2, .int (I (u2 + 1))), (0, .ref (q 0)), (1, .int (I u1)), (4, .int (I u4)), (5, .int (I u5))]) hx hb dX12_takeRow_96 hl (k := 2) rfl (I_add _ _) (by decide) rfl (fun ls hl => ?_)
    refine lv_aload_n hx hb dX12_takeRow_99 rfl (lv_at hl 1 rfl) ?_
    refine gfX12_tape hx hb hts hK hP hown (hts _ tw_884) dX12_takeRow_100 ?_
    refine lv_iload hx hb dX12_takeRow_103 (lv_at hl 4 rfl) ?_
    refine lv_iload_n hx hb dX12_takeRow_105 rfl (lv_at hl 2 rfl) ?_
    obtain ⟨Q21, hc, hw⟩ := hw
    refine wc_i (X := CX g q lb) (va_runS (As := [.ref (q 13), .int (I u5), .int (I u1)]) (rest := []) ⟨hx, hb, hml, hown, hts⟩ (L_X12_skipBlanks_q13 l g q lb hlb r_u5 r_u1 hN hc H.size) (cwS 3 hts (TB_S tw_1438 tw_974 tw_1 co_X12_skipBlanks) rfl rfl rfl (by decide +kernel) ⟨Nat.le_of_ble_eq_true rfl, Nat.le_of_ble_eq_true rfl⟩) (preS xT_bl hP hK hNb hD xT_at) rfl rfl hl.1 rfl (lv_room (Nat.le_of_ble_eq_true rfl)) dX12_takeRow_106 ⟨Nat.le_of_ble_eq_true rfl, Nat.le_of_ble_eq_true rfl⟩) hP hD hS hA (fun x22 H locs r_x22 hq hP hD hS => ?_)
    replace hw := hw x22 r_x22 hq
    refine lv_istore_n (lv' := [(3, .int (I x22)), (2, .int (I (u2 + 1))), (0, .ref (q 0)), (1, .int (I u1)), (4, .int (I u4)), (5, .int (I u5))]) hx hb dX12_takeRow_109 rfl hl (by decide) rfl (fun ls hl => ?_)
    refine lv_iinc (v := I (u4 + 1)) (lv' := [(4, .int (I (u4 + 1))), (3, .int (I x22)), (2, .int (I (u2 + 1))), (0, .ref (q 0)), (1, .int (I u1)), (5, .int (I u5))]) hx hb dX12_takeRow_110 hl (k := 4) rfl (I_add _ _) (by decide) rfl (fun ls hl => ?_)
    refine lv_goto (tgt := 24) hx hb dX12_takeRow_113 (by decide) ?_
    obtain ⟨c24, hw⟩ := hw
    obtain ⟨c25, hw⟩ := hw
    exact (hP24 _ _ _ _ _).mp hw r_u1 c24 r_x22 c25 hN hF H locs ls hP hD hS (lv_sub hl [3, 4, 2, 1, 0] rfl)
def W_X5_putSymbols_q93 (n2 : Int) (n3 : Int) (σ : S0) (Q : S0 → Prop) : Prop :=
  ∀ (P3 : Int → Int → S0 → Prop),
  (∀ (u3 : Int) (u4 : Int) (τ : S0), ((u3 ≤ u4 → Q τ) ∧ (u4 < u3 → (¬ τ.1 64 = 0 → Q τ) ∧ (τ.1 64 = 0 → (0 ≤ u4 ∧ u4 < 60) ∧ (∀ (x4 : Int), rg x4 → x4 = τ.2.1 77 u4 → (∃ (Q5 : S0 → Prop), W_X5_putSymbol x4 τ Q5 ∧ ∀ (τ7 : S0), n_m τ7 → f_r [63, 64] [101, 102] [] τ τ7 → Q5 τ7 → (rg (u4 + 1) ∧ P3 u3 (u4 + 1) τ7)))))) → P3 u3 u4 τ) →
  P3 n3 n2 σ
set_option maxRecDepth 100000 in
set_option maxHeartbeats 4000000 in
theorem L_X5_putSymbols_q93 (l : Launch) (g : gG) (q : Nat → Nat) (lb : Nat) (hlb : lb < 2 ^ 31) {n2 : Int} {n3 : Int} {σ : S0} {Q : S0 → Prop} (r_n2 : rg n2) (r_n3 : rg n3) (hN : n_m σ) (hw : W_X5_putSymbols_q93 n2 n3 σ Q) (sz : Nat) : MetV l yX5_putSymbols cX5_putSymbols 5 { frames := 4, cells := 0, slots := 0, locals := 84 } g [.ref (q 12), .ref (q 93), .int (I n2), .int (I n3)] (CX g q lb σ) sz xT (p_V (CX g q lb) [63, 64] [101, 102] [] σ Q) 0 0 := by
  refine mkMet (Qc := fun A => QV g A (p_V (CX g q lb) [63, 64] [101, 102] [] σ Q)) (by decide) (Nat.le_of_ble_eq_true rfl) ?_
  intro p e s m below meth c A H ls hx hb hr hml hown hts hlk hnm hsz hP hK hNb hD hA hAe hS hX hl
  have hl : lv_has ls 5 [(0, .ref (q 12)), (1, .ref (q 93)), (2, .int (I n2)), (3, .int (I n3))] := hl
  have hB := hN
  have hF : f_r [63, 64] [101, 102] [] σ σ := f_0
  obtain ⟨locs, hlocs⟩ : ∃ z : List Loc, z = [] := ⟨_, rfl⟩
  rw [← hlocs] at hS ⊢
  obtain ⟨P3, hP3⟩ : ∃ P : Int → Int → S0 → Prop, ∀ (u3 : Int) (u4 : Int) (τ : S0), (P u3 u4 τ ↔ (rg u3 → rg u4 → n_m τ → f_r [63, 64] [101, 102] [] σ τ → ∀ (H : Heap) (locs : List Loc) (ls : Array Slot), KP g (CX g q lb τ) H → va_D A (CX g q lb τ) → va_S A s.heap H locs → lv_has ls 5 [(0, .ref (q 12)), (1, .ref (q 93)), (3, .int (I u3)), (4, .int (I u4))] → W p l e ({ frames := 4, cells := 0, slots := 0, locals := 84 }) s m [.ref (q 12), .ref (q 93), .int (I n2), .int (I n3)].toArray below meth c H locs 0 0 (MQ below (QV g A (p_V (CX g q lb) [63, 64] [101, 102] [] σ Q)) [.ref (q 12), .ref (q 93), .int (I n2), .int (I n3)].toArray s 0 0 A) (F0 m 3 ls []))) := ⟨_, fun _ _ _ => Iff.rfl⟩
  refine (fun hw => ?_) (hw P3 ?_)
  ·
    refine lv_iload_n hx hb dX5_putSymbols_0 rfl (lv_at hl 2 rfl) ?_
    refine lv_istore (lv' := [(4, .int (I n2)), (0, .ref (q 12)), (1, .ref (q 93)), (2, .int (I n2)), (3, .int (I n3))]) hx hb dX5_putSymbols_1 hl (by decide) rfl (fun ls hl => ?_)
    exact (hP3 _ _ _).mp hw r_n3 r_n2 hN hF H locs ls hP hD hS (lv_sub hl [1, 2, 4, 0] rfl)
  ·
    intro u3 u4 τ hw
    refine (hP3 _ _ _).mpr ?_
    intro r_u3 r_u4 hN hF H locs ls hP hD hS hl
    have hB := hN
    refine lv_iload hx hb dX5_putSymbols_3 (lv_at hl 3 rfl) ?_
    refine lv_iload_n hx hb dX5_putSymbols_5 rfl (lv_at hl 2 rfl) ?_
    refine bi_icmp_ge (tgt := 30) hx hb r_u4 r_u3 dX5_putSymbols_6 (by decide) (fun c1 => ?_) (fun c1 => ?_)
    ·
      replace hw := hw.1 c1
      exact xrv hx hb hr hlk hP hK hD hS ⟨_, hN, hF, rfl, hw⟩ (Nat.le_of_ble_eq_true rfl) (Nat.le_of_ble_eq_true rfl) dX5_putSymbols_30
    ·
      replace hw := hw.2 c1
      refine lv_aload_n hx hb dX5_putSymbols_9 rfl (lv_at hl 0 rfl) ?_
      refine gfX5_overflow hx hb hts hK hP hown (hts _ tw_868) (x := τ.1 64) rfl dX5_putSymbols_10 ?_
      refine bi_if_ne (tgt := 30) hx hb (hB.1 64) dX5_putSymbols_13 (by decide) (fun c2 => ?_) (fun c2 => ?_)
      ·
        replace hw := hw.1 c2
        exact xrv hx hb hr hlk hP hK hD hS ⟨_, hN, hF, rfl, hw⟩ (Nat.le_of_ble_eq_true rfl) (Nat.le_of_ble_eq_true rfl) dX5_putSymbols_30
      ·
        replace hw := hw.2 c2
        refine lv_aload_n hx hb dX5_putSymbols_16 rfl (lv_at hl 0 rfl) ?_
        refine lv_aload_n hx hb dX5_putSymbols_17 rfl (lv_at hl 1 rfl) ?_
        refine lv_iload hx hb dX5_putSymbols_18 (lv_at hl 3 rfl) ?_
        obtain ⟨c3, hw⟩ := hw
        refine ldCX1_row hx hb hK hP hN c3 dX5_putSymbols_20 (fun x4 r_x4 e_x4 => ?_)
        replace hw := hw x4 r_x4 e_x4
        obtain ⟨Q5, hc, hw⟩ := hw
        refine wc_V (X := CX g q lb) (va_runV (As := [.int (I x4)]) (rest := []) ⟨hx, hb, hml, hown, hts⟩ (L_X5_putSymbol l g q lb hlb r_x4 hN hc H.size) (cwV 1 hts (TB_V tw_1586 tw_1537 tw_1538 tw_14 co_X5_putSymbol) rfl rfl rfl (by decide +kernel) ⟨Nat.le_of_ble_eq_true rfl, Nat.le_of_ble_eq_true rfl⟩) (preV (q0 := 12) (ci := 5) rfl xT_bl hP hK hNb hD rfl rfl xT_at) rfl rfl hl.1 rfl (lv_room (Nat.le_of_ble_eq_true rfl)) dX5_putSymbols_21 ⟨Nat.le_of_ble_eq_true rfl, Nat.le_of_ble_eq_true rfl⟩) hP hD hS hA (fun τ7 H locs hN hf hq hP hD hS => ?_)
        replace hw := hw τ7 hN hf hq
        have hF : f_r [63, 64] [101, 102] [] σ τ7 := f_t hF hf (by decide) (by decide) (by decide)
        have hB := hN
        refine lv_iinc (v := I (u4 + 1)) (lv' := [(4, .int (I (u4 + 1))), (0, .ref (q 12)), (1, .ref (q 93)), (3, .int (I u3))]) hx hb dX5_putSymbols_24 hl (k := 3) rfl (I_add _ _) (by decide) rfl (fun ls hl => ?_)
        refine lv_goto (tgt := 3) hx hb dX5_putSymbols_27 (by decide) ?_
        obtain ⟨c8, hw⟩ := hw
        exact (hP3 _ _ _).mp hw r_u3 c8 hN hF H locs ls hP hD hS (lv_sub hl [1, 2, 3, 0] rfl)
def W_X12_printBound (n1 : Int) (σ : S0) (Q : S0 → Prop) : Prop :=
  ∀ (P10 : Int → Int → S0 → Prop),
  (∀ (u1 : Int) (u2 : Int) (τ : S0), ((0 ≤ (u1 + 1) ∧ (u1 + 1) < 1501) ∧ (∀ (x4 : Int), rg x4 → x4 = τ.2.1 14 (u1 + 1) → ((x4 ≤ u2 → Q τ) ∧ (u2 < x4 → (0 ≤ u2 ∧ u2 < 30000) ∧ (∀ (x7 : Int), rg x7 → x7 = τ.2.1 15 u2 → (∀ (x8 : Int), rg x8 → x8 = τ.2.1 16 u2 → ((¬ x8 = (-1) → (0 ≤ x7 ∧ x7 < 1000) ∧ (∀ (x11 : Int), rg x11 → x11 = τ.2.1 89 x7 → (∀ (x12 : Int), rg x12 → x12 = τ.2.1 90 x7 → (∃ (Q13 : S0 → Prop), W_X5_putSymbols_q93 x11 x12 τ Q13 ∧ ∀ (τ15 : S0), n_m τ15 → f_r [63, 64] [101, 102] [] τ τ15 → Q13 τ15 → (rg (u2 + 1) ∧ P10 u1 (u2 + 1) τ15))))) ∧ (x8 = (-1) → ∃ (Q17 : S0 → Prop), W_X5_putSymbol x7 τ Q17 ∧ ∀ (τ19 : S0), n_m τ19 → f_r [63, 64] [101, 102] [] τ τ19 → Q17 τ19 → (rg (u2 + 1) ∧ P10 u1 (u2 + 1) τ19))))))))) → P10 u1 u2 τ) →
  (0 ≤ n1 ∧ n1 < 1501) ∧ (∀ (x2 : Int), rg x2 → x2 = σ.2.1 14 n1 → (P10 n1 x2 σ))
set_option maxRecDepth 100000 in
set_option maxHeartbeats 4000000 in
theorem L_X12_printBound (l : Launch) (g : gG) (q : Nat → Nat) (lb : Nat) (hlb : lb < 2 ^ 31) {n1 : Int} {σ : S0} {Q : S0 → Prop} (r_n1 : rg n1) (hN : n_m σ) (hw : W_X12_printBound n1 σ Q) (sz : Nat) : MetV l yX12_printBound cX12_printBound 4 { frames := 5, cells := 0, slots := 0, locals := 108 } g [.ref (q 0), .int (I n1)] (CX g q lb σ) sz xT (p_V (CX g q lb) [63, 64] [101, 102] [] σ Q) 0 0 := by
  refine mkMet (Qc := fun A => QV g A (p_V (CX g q lb) [63, 64] [101, 102] [] σ Q)) (by decide) (Nat.le_of_ble_eq_true rfl) ?_
  intro p e s m below meth c A H ls hx hb hr hml hown hts hlk hnm hsz hP hK hNb hD hA hAe hS hX hl
  have hl : lv_has ls 4 [(0, .ref (q 0)), (1, .int (I n1))] := hl
  have hB := hN
  have hF : f_r [63, 64] [101, 102] [] σ σ := f_0
  obtain ⟨locs, hlocs⟩ : ∃ z : List Loc, z = [] := ⟨_, rfl⟩
  rw [← hlocs] at hS ⊢
  obtain ⟨P10, hP10⟩ : ∃ P : Int → Int → S0 → Prop, ∀ (u1 : Int) (u2 : Int) (τ : S0), (P u1 u2 τ ↔ (rg u1 → rg u2 → n_m τ → f_r [63, 64] [101, 102] [] σ τ → ∀ (H : Heap) (locs : List Loc) (ls : Array Slot), KP g (CX g q lb τ) H → va_D A (CX g q lb τ) → va_S A s.heap H locs → lv_has ls 4 [(0, .ref (q 0)), (1, .int (I u1)), (2, .int (I u2))] → W p l e ({ frames := 5, cells := 0, slots := 0, locals := 108 }) s m [.ref (q 0), .int (I n1)].toArray below meth c H locs 0 0 (MQ below (QV g A (p_V (CX g q lb) [63, 64] [101, 102] [] σ Q)) [.ref (q 0), .int (I n1)].toArray s 0 0 A) (F0 m 10 ls []))) := ⟨_, fun _ _ _ => Iff.rfl⟩
  refine (fun hw => ?_) (hw P10 ?_)
  ·
    refine lv_aload_n hx hb dX12_printBound_0 rfl (lv_at hl 0 rfl) ?_
    refine gfX12_library hx hb hts hK hP hown (hts _ tw_889) dX12_printBound_1 ?_
    refine gfNX3_at hx hb hts hK hP hown (nb_use hNb tn_83) dX12_printBound_4 ?_
    refine lv_iload_n hx hb dX12_printBound_7 rfl (lv_at hl 1 rfl) ?_
    obtain ⟨c1, hw⟩ := hw
    refine ldCX3_at hx hb hK hP hN c1 dX12_printBound_8 (fun x2 r_x2 e_x2 => ?_)
    replace hw := hw x2 r_x2 e_x2
    refine lv_istore_n (lv' := [(2, .int (I x2)), (0, .ref (q 0)), (1, .int (I n1))]) hx hb dX12_printBound_9 rfl hl (by decide) rfl (fun ls hl => ?_)
    exact (hP10 _ _ _).mp hw r_n1 r_x2 hN hF H locs ls hP hD hS (lv_sub hl [1, 2, 0] rfl)
  ·
    intro u1 u2 τ hw
    refine (hP10 _ _ _).mpr ?_
    intro r_u1 r_u2 hN hF H locs ls hP hD hS hl
    have hB := hN
    refine lv_iload_n hx hb dX12_printBound_10 rfl (lv_at hl 2 rfl) ?_
    refine lv_aload_n hx hb dX12_printBound_11 rfl (lv_at hl 0 rfl) ?_
    refine gfX12_library hx hb hts hK hP hown (hts _ tw_889) dX12_printBound_12 ?_
    refine gfNX3_at hx hb hts hK hP hown (nb_use hNb tn_83) dX12_printBound_15 ?_
    refine lv_iload_n hx hb dX12_printBound_18 rfl (lv_at hl 1 rfl) ?_
    refine lv_iconst (v := I 1) hx hb dX12_printBound_19 rfl ?_
    refine bi_iadd hx hb dX12_printBound_20 ?_
    obtain ⟨c3, hw⟩ := hw
    refine ldCX3_at hx hb hK hP hN c3 dX12_printBound_21 (fun x4 r_x4 e_x4 => ?_)
    replace hw := hw x4 r_x4 e_x4
    refine bi_icmp_ge (tgt := 97) hx hb r_u2 r_x4 dX12_printBound_22 (by decide) (fun c5 => ?_) (fun c5 => ?_)
    ·
      replace hw := hw.1 c5
      exact xrv hx hb hr hlk hP hK hD hS ⟨_, hN, hF, rfl, hw⟩ (Nat.le_of_ble_eq_true rfl) (Nat.le_of_ble_eq_true rfl) dX12_printBound_97
    ·
      replace hw := hw.2 c5
      refine lv_aload_n hx hb dX12_printBound_25 rfl (lv_at hl 0 rfl) ?_
      refine gfX12_library hx hb hts hK hP hown (hts _ tw_889) dX12_printBound_26 ?_
      refine gfNX3_text hx hb hts hK hP hown (nb_use hNb tn_90) dX12_printBound_29 ?_
      refine lv_iload_n hx hb dX12_printBound_32 rfl (lv_at hl 2 rfl) ?_
      obtain ⟨c6, hw⟩ := hw
      refine ldCX3_text hx hb hK hP hN c6 dX12_printBound_33 (fun x7 r_x7 e_x7 => ?_)
      replace hw := hw x7 r_x7 e_x7
      refine lv_istore_n (lv' := [(3, .int (I x7)), (0, .ref (q 0)), (1, .int (I u1)), (2, .int (I u2))]) hx hb dX12_printBound_34 rfl hl (by decide) rfl (fun ls hl => ?_)
      refine lv_aload_n hx hb dX12_printBound_35 rfl (lv_at hl 1 rfl) ?_
      refine gfX12_library hx hb hts hK hP hown (hts _ tw_889) dX12_printBound_36 ?_
      refine gfNX3_floats hx hb hts hK hP hown (nb_use hNb tn_100) dX12_printBound_39 ?_
      refine lv_iload_n hx hb dX12_printBound_42 rfl (lv_at hl 3 rfl) ?_
      refine ldCX3_floats hx hb hK hP hN c6 dX12_printBound_43 (fun x8 r_x8 e_x8 => ?_)
      replace hw := hw x8 r_x8 e_x8
      refine lv_iconst (v := I (-1)) hx hb dX12_printBound_44 rfl ?_
      refine bi_icmp_ne (tgt := 59) hx hb r_x8 (by decide) dX12_printBound_45 (by decide) (fun c9 => ?_) (fun c9 => ?_)
      ·
        replace hw := hw.1 c9
        refine lv_aload_n hx hb dX12_printBound_59 rfl (lv_at hl 1 rfl) ?_
        refine gfX12_paper hx hb hts hK hP hown (hts _ tw_899) dX12_printBound_60 ?_
        refine lv_aload_n hx hb dX12_printBound_63 rfl (lv_at hl 1 rfl) ?_
        refine gfX12_chart hx hb hts hK hP hown (hts _ tw_896) dX12_printBound_64 ?_
        refine gfNX1_row hx hb hts hK hP hown (nb_use hNb tn_674) dX12_printBound_67 ?_
        refine lv_aload_n hx hb dX12_printBound_70 rfl (lv_at hl 1 rfl) ?_
        refine gfX12_tree hx hb hts hK hP hown (hts _ tw_897) dX12_printBound_71 ?_
        refine gfNX11_spanFrom hx hb hts hK hP hown (nb_use hNb tn_753) dX12_printBound_74 ?_
        refine lv_iload_n hx hb dX12_printBound_77 rfl (lv_at hl 0 rfl) ?_
        obtain ⟨c10, hw⟩ := hw
        refine ldCX11_spanFrom hx hb hK hP hN c10 dX12_printBound_78 (fun x11 r_x11 e_x11 => ?_)
        replace hw := hw x11 r_x11 e_x11
        refine lv_aload_n hx hb dX12_printBound_79 rfl (lv_at hl 1 rfl) ?_
        refine gfX12_tree hx hb hts hK hP hown (hts _ tw_897) dX12_printBound_80 ?_
        refine gfNX11_spanTo hx hb hts hK hP hown (nb_use hNb tn_755) dX12_printBound_83 ?_
        refine lv_iload_n hx hb dX12_printBound_86 rfl (lv_at hl 0 rfl) ?_
        refine ldCX11_spanTo hx hb hK hP hN c10 dX12_printBound_87 (fun x12 r_x12 e_x12 => ?_)
        replace hw := hw x12 r_x12 e_x12
        obtain ⟨Q13, hc, hw⟩ := hw
        refine wc_V (X := CX g q lb) (va_runV (As := [.ref (q 93), .int (I x11), .int (I x12)]) (rest := []) ⟨hx, hb, hml, hown, hts⟩ (L_X5_putSymbols_q93 l g q lb hlb r_x11 r_x12 hN hc H.size) (cwV 3 hts (TB_V tw_1582 tw_1583 tw_1584 tw_14 co_X5_putSymbols) rfl rfl rfl (by decide +kernel) ⟨Nat.le_of_ble_eq_true rfl, Nat.le_of_ble_eq_true rfl⟩) (preV (q0 := 12) (ci := 5) rfl xT_bl hP hK hNb hD rfl rfl xT_at) rfl rfl hl.1 rfl (lv_room (Nat.le_of_ble_eq_true rfl)) dX12_printBound_88 ⟨Nat.le_of_ble_eq_true rfl, Nat.le_of_ble_eq_true rfl⟩) hP hD hS hA (fun τ15 H locs hN hf hq hP hD hS => ?_)
        replace hw := hw τ15 hN hf hq
        have hF : f_r [63, 64] [101, 102] [] σ τ15 := f_t hF hf (by decide) (by decide) (by decide)
        have hB := hN
        refine lv_iinc (v := I (u2 + 1)) (lv' := [(2, .int (I (u2 + 1))), (3, .int (I x7)), (0, .ref (q 0)), (1, .int (I u1))]) hx hb dX12_printBound_91 hl (k := 3) rfl (I_add _ _) (by decide) rfl (fun ls hl => ?_)
        refine lv_goto (tgt := 10) hx hb dX12_printBound_94 (by decide) ?_
        obtain ⟨c16, hw⟩ := hw
        exact (hP10 _ _ _).mp hw r_u1 c16 hN hF H locs ls hP hD hS (lv_sub hl [2, 3, 0] rfl)
      ·
        replace hw := hw.2 c9
        refine lv_aload_n hx hb dX12_printBound_48 rfl (lv_at hl 1 rfl) ?_
        refine gfX12_paper hx hb hts hK hP hown (hts _ tw_899) dX12_printBound_49 ?_
        refine lv_iload_n hx hb dX12_printBound_52 rfl (lv_at hl 0 rfl) ?_
        obtain ⟨Q17, hc, hw⟩ := hw
        refine wc_V (X := CX g q lb) (va_runV (As := [.int (I x7)]) (rest := []) ⟨hx, hb, hml, hown, hts⟩ (L_X5_putSymbol l g q lb hlb r_x7 hN hc H.size) (cwV 1 hts (TB_V tw_1536 tw_1537 tw_1538 tw_14 co_X5_putSymbol) rfl rfl rfl (by decide +kernel) ⟨Nat.le_of_ble_eq_true rfl, Nat.le_of_ble_eq_true rfl⟩) (preV (q0 := 12) (ci := 5) rfl xT_bl hP hK hNb hD rfl rfl xT_at) rfl rfl hl.1 rfl (lv_room (Nat.le_of_ble_eq_true rfl)) dX12_printBound_53 ⟨Nat.le_of_ble_eq_true rfl, Nat.le_of_ble_eq_true rfl⟩) hP hD hS hA (fun τ19 H locs hN hf hq hP hD hS => ?_)
        replace hw := hw τ19 hN hf hq
        have hF : f_r [63, 64] [101, 102] [] σ τ19 := f_t hF hf (by decide) (by decide) (by decide)
        have hB := hN
        refine lv_goto (tgt := 91) hx hb dX12_printBound_56 (by decide) ?_
        refine lv_iinc (v := I (u2 + 1)) (lv' := [(2, .int (I (u2 + 1))), (3, .int (I x7)), (0, .ref (q 0)), (1, .int (I u1))]) hx hb dX12_printBound_91 hl (k := 3) rfl (I_add _ _) (by decide) rfl (fun ls hl => ?_)
        refine lv_goto (tgt := 10) hx hb dX12_printBound_94 (by decide) ?_
        obtain ⟨c20, hw⟩ := hw
        exact (hP10 _ _ _).mp hw r_u1 c20 hN hF H locs ls hP hD hS (lv_sub hl [2, 3, 0] rfl)
def W_X12_isSound (n1 : Int) (σ : S0) (Q : Int → S0 → Prop) : Prop :=
  ∀ (P66 : Int → S0 → Prop),
  (∀ (u1 : Int) (τ : S0), (∃ (Q20 : Int → Prop), W_X0_restsOnEarlier u1 τ Q20 ∧ ∀ (x21 : Int), rg x21 → Q20 x21 → ((0 ≤ x21 ∧ x21 ≤ 1) ∧ Q x21 τ)) → P66 u1 τ) →
  (0 ≤ n1 ∧ n1 < 1500) ∧ (∀ (x2 : Int), rg x2 → x2 = σ.2.1 34 n1 → (rg (x2 - 1) ∧ ∃ (Q4 : Int → S0 → Prop), W_X6_goAgain n1 (x2 - 1) σ Q4 ∧ ∀ (x5 : Int) (τ6 : S0), rg x5 → n_m τ6 → f_r [17, 18, 19] [39, 40, 41, 42, 43, 44, 45] [] σ τ6 → Q4 x5 τ6 → ((x5 = 0 → Q 0 τ6) ∧ (¬ x5 = 0 → ∃ (Q8 : Int → Prop), W_X6_isStatement (x2 - 1) n1 τ6 Q8 ∧ ∀ (x9 : Int), rg x9 → Q8 x9 → ((¬ x9 = 0 → ∃ (Q12 : Int64 → Prop), W_X0_labelsOf n1 τ6 Q12 ∧ ∀ (x13 : Int64), Q12 x13 → ((4000 < x13 → P66 n1 τ6) ∧ (x13 ≤ 4000 → ∃ (Q16 : Int → S0 → Prop), W_X4_comesBack n1 τ6 Q16 ∧ ∀ (x17 : Int) (τ18 : S0), rg x17 → n_m τ18 → f_r [40, 41, 42, 43, 44] [55, 56, 57, 58, 59, 60, 61, 62, 63, 64, 65, 66] [] τ6 τ18 → Q16 x17 τ18 → ((¬ x17 = 0 → P66 n1 τ18) ∧ (x17 = 0 → Q 0 τ18))))) ∧ (x9 = 0 → Q 0 τ6))))))
set_option maxRecDepth 100000 in
set_option maxHeartbeats 4000000 in
theorem L_X12_isSound (l : Launch) (g : gG) (q : Nat → Nat) (lb : Nat) (hlb : lb < 2 ^ 31) {n1 : Int} {σ : S0} {Q : Int → S0 → Prop} (r_n1 : rg n1) (hN : n_m σ) (hw : W_X12_isSound n1 σ Q) (sz : Nat) : MetI l yX12_isSound cX12_isSound 3 (some .boolean) { frames := 5, cells := 0, slots := 0, locals := 126 } g [.ref (q 0), .int (I n1)] (CX g q lb σ) sz xT (p_I (CX g q lb) [17, 18, 19, 40, 41, 42, 43, 44] [39, 40, 41, 42, 43, 44, 45, 55, 56, 57, 58, 59, 60, 61, 62, 63, 64, 65, 66] [] σ Q) 0 0 := by
  refine mkMet (Qc := fun A => QI g A (p_I (CX g q lb) [17, 18, 19, 40, 41, 42, 43, 44] [39, 40, 41, 42, 43, 44, 45, 55, 56, 57, 58, 59, 60, 61, 62, 63, 64, 65, 66] [] σ Q)) (by decide) (Nat.le_of_ble_eq_true rfl) ?_
  intro p e s m below meth c A H ls hx hb hr hml hown hts hlk hnm hsz hP hK hNb hD hA hAe hS hX hl
  have hl : lv_has ls 3 [(0, .ref (q 0)), (1, .int (I n1))] := hl
  have hB := hN
  have hF : f_r [17, 18, 19, 40, 41, 42, 43, 44] [39, 40, 41, 42, 43, 44, 45, 55, 56, 57, 58, 59, 60, 61, 62, 63, 64, 65, 66] [] σ σ := f_0
  obtain ⟨locs, hlocs⟩ : ∃ z : List Loc, z = [] := ⟨_, rfl⟩
  rw [← hlocs] at hS ⊢
  obtain ⟨P66, hP66⟩ : ∃ P : Int → S0 → Prop, ∀ (u1 : Int) (τ : S0), (P u1 τ ↔ (rg u1 → n_m τ → f_r [17, 18, 19, 40, 41, 42, 43, 44] [39, 40, 41, 42, 43, 44, 45, 55, 56, 57, 58, 59, 60, 61, 62, 63, 64, 65, 66] [] σ τ → ∀ (H : Heap) (locs : List Loc) (ls : Array Slot), KP g (CX g q lb τ) H → va_D A (CX g q lb τ) → va_S A s.heap H locs → lv_has ls 3 [(0, .ref (q 0)), (1, .int (I u1))] → W p l e ({ frames := 5, cells := 0, slots := 0, locals := 126 }) s m [.ref (q 0), .int (I n1)].toArray below meth c H locs 0 0 (MQ below (QI g A (p_I (CX g q lb) [17, 18, 19, 40, 41, 42, 43, 44] [39, 40, 41, 42, 43, 44, 45, 55, 56, 57, 58, 59, 60, 61, 62, 63, 64, 65, 66] [] σ Q)) [.ref (q 0), .int (I n1)].toArray s 0 0 A) (F0 m 66 ls []))) := ⟨_, fun _ _ => Iff.rfl⟩
  refine (fun hw => ?_) (hw P66 ?_)
  ·
    refine lv_aload_n hx hb dX12_isSound_0 rfl (lv_at hl 0 rfl) ?_
    refine gfX12_assertions hx hb hts hK hP hown (hts _ tw_891) dX12_isSound_1 ?_
    refine gfNX0_rowCount hx hb hts hK hP hown (nb_use hNb tn_272) dX12_isSound_4 ?_
    refine lv_iload_n hx hb dX12_isSound_7 rfl (lv_at hl 1 rfl) ?_
    obtain ⟨c1, hw⟩ := hw
    refine ldCX0_rowCount hx hb hK hP hN c1 dX12_isSound_8 (fun x2 r_x2 e_x2 => ?_)
    replace hw := hw x2 r_x2 e_x2
    refine lv_iconst (v := I 1) hx hb dX12_isSound_9 rfl ?_
    refine bi_isub hx hb dX12_isSound_10 ?_
    refine lv_istore_n (lv' := [(2, .int (I (x2 - 1))), (0, .ref (q 0)), (1, .int (I n1))]) hx hb dX12_isSound_11 rfl hl (by decide) rfl (fun ls hl => ?_)
    refine lv_aload_n hx hb dX12_isSound_12 rfl (lv_at hl 1 rfl) ?_
    refine gfX12_pile hx hb hts hK hP hown (hts _ tw_892) dX12_isSound_13 ?_
    refine lv_iload_n hx hb dX12_isSound_16 rfl (lv_at hl 2 rfl) ?_
    refine lv_iload_n hx hb dX12_isSound_17 rfl (lv_at hl 0 rfl) ?_
    obtain ⟨c3, hw⟩ := hw
    obtain ⟨Q4, hc, hw⟩ := hw
    refine wc_I (X := CX g q lb) (va_runV (As := [.int (I n1), .int (I (x2 - 1))]) (rest := []) ⟨hx, hb, hml, hown, hts⟩ (L_X6_goAgain l g q lb hlb r_n1 c3 hN hc H.size) (cwV 2 hts (TB_V tw_1565 tw_1566 tw_1567 tw_6 co_X6_goAgain) rfl rfl rfl (by decide +kernel) ⟨Nat.le_of_ble_eq_true rfl, Nat.le_of_ble_eq_true rfl⟩) (preV (q0 := 4) (ci := 6) rfl xT_bl hP hK hNb hD rfl rfl xT_at) rfl rfl hl.1 rfl (lv_room (Nat.le_of_ble_eq_true rfl)) dX12_isSound_18 ⟨Nat.le_of_ble_eq_true rfl, Nat.le_of_ble_eq_true rfl⟩) hP hD hS hA (fun x5 τ6 H locs r_x5 hN hf hq hP hD hS => ?_)
    replace hw := hw x5 τ6 r_x5 hN hf hq
    have hF : f_r [17, 18, 19, 40, 41, 42, 43, 44] [39, 40, 41, 42, 43, 44, 45, 55, 56, 57, 58, 59, 60, 61, 62, 63, 64, 65, 66] [] σ τ6 := f_t hF hf (by decide) (by decide) (by decide)
    have hB := hN
    refine bi_if_eq (tgt := 36) hx hb r_x5 dX12_isSound_21 (by decide) (fun c7 => ?_) (fun c7 => ?_)
    ·
      replace hw := hw.1 c7
      refine lv_iconst (v := I 0) hx hb dX12_isSound_36 rfl ?_
      exact xrz hx hb hr (by decide) hlk hP hK hD hS ⟨_, _, (by decide), rfl, hN, hF, rfl, hw⟩ (Nat.le_of_ble_eq_true rfl) (Nat.le_of_ble_eq_true rfl) dX12_isSound_37
    ·
      replace hw := hw.2 c7
      refine lv_aload_n hx hb dX12_isSound_24 rfl (lv_at hl 1 rfl) ?_
      refine gfX12_pile hx hb hts hK hP hown (hts _ tw_892) dX12_isSound_25 ?_
      refine lv_iload_n hx hb dX12_isSound_28 rfl (lv_at hl 0 rfl) ?_
      refine lv_iload_n hx hb dX12_isSound_29 rfl (lv_at hl 2 rfl) ?_
      obtain ⟨Q8, hc, hw⟩ := hw
      refine wc_i (X := CX g q lb) (va_runV (As := [.int (I (x2 - 1)), .int (I n1)]) (rest := []) ⟨hx, hb, hml, hown, hts⟩ (L_X6_isStatement l g q lb hlb c3 r_n1 hN hc H.size) (cwV 2 hts (TB_V tw_1962 tw_1350 tw_1351 tw_6 co_X6_isStatement) rfl rfl rfl (by decide +kernel) ⟨Nat.le_of_ble_eq_true rfl, Nat.le_of_ble_eq_true rfl⟩) (preV (q0 := 4) (ci := 6) rfl xT_bl hP hK hNb hD rfl rfl xT_at) rfl rfl hl.1 rfl (lv_room (Nat.le_of_ble_eq_true rfl)) dX12_isSound_30 ⟨Nat.le_of_ble_eq_true rfl, Nat.le_of_ble_eq_true rfl⟩) hP hD hS hA (fun x9 H locs r_x9 hq hP hD hS => ?_)
      replace hw := hw x9 r_x9 hq
      refine bi_if_ne (tgt := 38) hx hb r_x9 dX12_isSound_33 (by decide) (fun c11 => ?_) (fun c11 => ?_)
      ·
        replace hw := hw.1 c11
        refine lv_aload_n hx hb dX12_isSound_38 rfl (lv_at hl 1 rfl) ?_
        refine gfX12_assertions hx hb hts hK hP hown (hts _ tw_891) dX12_isSound_39 ?_
        refine lv_iload_n hx hb dX12_isSound_42 rfl (lv_at hl 2 rfl) ?_
        obtain ⟨Q12, hc, hw⟩ := hw
        refine wc_l (X := CX g q lb) (va_runV (As := [.int (I n1)]) (rest := []) ⟨hx, hb, hml, hown, hts⟩ (L_X0_labelsOf l g q lb hlb r_n1 hN hc H.size) (cwV 1 hts (TB_V tw_1518 tw_1519 tw_1520 tw_5 co_X0_labelsOf) rfl rfl rfl (by decide +kernel) ⟨Nat.le_of_ble_eq_true rfl, Nat.le_of_ble_eq_true rfl⟩) (preV (q0 := 3) (ci := 0) rfl xT_bl hP hK hNb hD rfl rfl xT_at) rfl rfl hl.1 rfl (lv_room (Nat.le_of_ble_eq_true rfl)) dX12_isSound_43 ⟨Nat.le_of_ble_eq_true rfl, Nat.le_of_ble_eq_true rfl⟩) hP hD hS hA (fun x13 H locs hq hP hD hS => ?_)
        replace hw := hw x13 hq
        refine lv_ldc2 (own := RX12) (v := 4000) hx hb hown (hts _ tw_1657) dX12_isSound_46 ?_
        refine bi_lcmp_gt (tgt := 66) hx hb dX12_isSound_49 dX12_isSound_50 (by decide) (fun c15 => ?_) (fun c15 => ?_)
        ·
          replace hw := hw.1 c15
          exact (hP66 _ _).mp hw r_n1 hN hF H locs ls hP hD hS (lv_sub hl [1, 2] rfl)
        ·
          replace hw := hw.2 c15
          refine lv_aload_n hx hb dX12_isSound_53 rfl (lv_at hl 1 rfl) ?_
          refine gfX12_packer hx hb hts hK hP hown (hts _ tw_894) dX12_isSound_54 ?_
          refine lv_iload_n hx hb dX12_isSound_57 rfl (lv_at hl 2 rfl) ?_
          obtain ⟨Q16, hc, hw⟩ := hw
          refine wc_I (X := CX g q lb) (va_runV (As := [.int (I n1)]) (rest := []) ⟨hx, hb, hml, hown, hts⟩ (L_X4_comesBack l g q lb hlb r_n1 hN hc H.size) (cwV 1 hts (TB_V tw_1963 tw_1964 tw_1965 tw_9 co_X4_comesBack) rfl rfl rfl (by decide +kernel) ⟨Nat.le_of_ble_eq_true rfl, Nat.le_of_ble_eq_true rfl⟩) (preV (q0 := 7) (ci := 4) rfl xT_bl hP hK hNb hD rfl rfl xT_at) rfl rfl hl.1 rfl (lv_room (Nat.le_of_ble_eq_true rfl)) dX12_isSound_58 ⟨Nat.le_of_ble_eq_true rfl, Nat.le_of_ble_eq_true rfl⟩) hP hD hS hA (fun x17 τ18 H locs r_x17 hN hf hq hP hD hS => ?_)
          replace hw := hw x17 τ18 r_x17 hN hf hq
          have hF : f_r [17, 18, 19, 40, 41, 42, 43, 44] [39, 40, 41, 42, 43, 44, 45, 55, 56, 57, 58, 59, 60, 61, 62, 63, 64, 65, 66] [] σ τ18 := f_t hF hf (by decide) (by decide) (by decide)
          have hB := hN
          refine bi_if_ne (tgt := 66) hx hb r_x17 dX12_isSound_61 (by decide) (fun c19 => ?_) (fun c19 => ?_)
          ·
            replace hw := hw.1 c19
            exact (hP66 _ _).mp hw r_n1 hN hF H locs ls hP hD hS (lv_sub hl [1, 2] rfl)
          ·
            replace hw := hw.2 c19
            refine lv_iconst (v := I 0) hx hb dX12_isSound_64 rfl ?_
            exact xrz hx hb hr (by decide) hlk hP hK hD hS ⟨_, _, (by decide), rfl, hN, hF, rfl, hw⟩ (Nat.le_of_ble_eq_true rfl) (Nat.le_of_ble_eq_true rfl) dX12_isSound_65
      ·
        replace hw := hw.2 c11
        refine lv_iconst (v := I 0) hx hb dX12_isSound_36 rfl ?_
        exact xrz hx hb hr (by decide) hlk hP hK hD hS ⟨_, _, (by decide), rfl, hN, hF, rfl, hw⟩ (Nat.le_of_ble_eq_true rfl) (Nat.le_of_ble_eq_true rfl) dX12_isSound_37
  ·
    intro u1 τ hw
    refine (hP66 _ _).mpr ?_
    intro r_u1 hN hF H locs ls hP hD hS hl
    have hB := hN
    refine lv_aload_n hx hb dX12_isSound_66 rfl (lv_at hl 0 rfl) ?_
    refine gfX12_assertions hx hb hts hK hP hown (hts _ tw_891) dX12_isSound_67 ?_
    refine lv_iload_n hx hb dX12_isSound_70 rfl (lv_at hl 1 rfl) ?_
    obtain ⟨Q20, hc, hw⟩ := hw
    refine wc_i (X := CX g q lb) (va_runV (As := [.int (I u1)]) (rest := []) ⟨hx, hb, hml, hown, hts⟩ (L_X0_restsOnEarlier l g q lb hlb r_u1 hN hc H.size) (cwV 1 hts (TB_V tw_1977 tw_1978 tw_1979 tw_5 co_X0_restsOnEarlier) rfl rfl rfl (by decide +kernel) ⟨Nat.le_of_ble_eq_true rfl, Nat.le_of_ble_eq_true rfl⟩) (preV (q0 := 3) (ci := 0) rfl xT_bl hP hK hNb hD rfl rfl xT_at) rfl rfl hl.1 rfl (lv_room (Nat.le_of_ble_eq_true rfl)) dX12_isSound_71 ⟨Nat.le_of_ble_eq_true rfl, Nat.le_of_ble_eq_true rfl⟩) hP hD hS hA (fun x21 H locs r_x21 hq hP hD hS => ?_)
    replace hw := hw x21 r_x21 hq
    obtain ⟨c23, hw⟩ := hw
    exact xrz hx hb hr (nzI c23.1 c23.2) hlk hP hK hD hS ⟨_, _, r_x21, rfl, hN, hF, rfl, hw⟩ (Nat.le_of_ble_eq_true rfl) (Nat.le_of_ble_eq_true rfl) dX12_isSound_74
def W_X12_makesItsSymbols (lb : Nat) (n1 : Int) (σ : S0) (Q : Int → S0 → Prop) : Prop :=
  ∀ (P52 : Int → Int → S0 → Prop),
  (∀ (u1 : Int) (u2 : Int) (τ : S0), (∀ (x14 : Int), rg x14 → x14 = τ.2.1 41 0 → ((x14 ≤ u2 → Q 1 τ) ∧ (u2 < x14 → ∀ (x16 : Int), rg x16 → x16 = τ.2.1 40 0 → ((0 ≤ (x16 + u2) ∧ (x16 + u2) < 42000) ∧ (∀ (x18 : Int), rg x18 → x18 = τ.2.1 39 (x16 + u2) → ((0 ≤ u1 ∧ u1 < 1501) ∧ (∀ (x20 : Int), rg x20 → x20 = τ.2.1 14 u1 → ((0 ≤ ((x20 + 1) + u2) ∧ ((x20 + 1) + u2) < 30000) ∧ (∀ (x22 : Int), rg x22 → x22 = τ.2.1 15 ((x20 + 1) + u2) → ((x18 = x22 → rg (u2 + 1) ∧ P52 u1 (u2 + 1) τ) ∧ (¬ x18 = x22 → Q 0 τ))))))))))) → P52 u1 u2 τ) →
  ∃ (Q1 : S0 → Prop), W_X11_grow σ Q1 ∧ ∀ (τ3 : S0), n_m τ3 → f_r [54] [84, 85, 86, 88, 89, 90] [8] σ τ3 → Q1 τ3 → (∃ (Q4 : Int → S0 → Prop), W_X2_evaluate lb 0 (τ3.1 54) 0 τ3 Q4 ∧ ∀ (x5 : Int) (τ6 : S0), rg x5 → n_m τ6 → f_r [17, 18, 19] [39, 40, 41, 42, 43] [] τ3 τ6 → Q4 x5 τ6 → ((x5 = 0 → Q 0 τ6) ∧ (¬ x5 = 0 → ∀ (x8 : Int), rg x8 → x8 = τ6.2.1 41 0 → (∃ (Q9 : Int → Prop), W_X3_lengthOf n1 τ6 Q9 ∧ ∀ (x10 : Int), rg x10 → Q9 x10 → (rg (x10 - 1) ∧ (x8 = (x10 - 1) → P52 n1 0 τ6) ∧ (¬ x8 = (x10 - 1) → Q 0 τ6))))))
set_option maxRecDepth 100000 in
set_option maxHeartbeats 4000000 in
theorem L_X12_makesItsSymbols (l : Launch) (g : gG) (q : Nat → Nat) (lb : Nat) (hlb : lb < 2 ^ 31) {n1 : Int} {σ : S0} {Q : Int → S0 → Prop} (r_n1 : rg n1) (hN : n_m σ) (hw : W_X12_makesItsSymbols lb n1 σ Q) (sz : Nat) : MetI l yX12_makesItsSymbols cX12_makesItsSymbols 3 (some .boolean) { frames := 4, cells := 0, slots := 0, locals := 151 } g [.ref (q 0), .int (I n1)] (CX g q lb σ) sz xT (p_I (CX g q lb) [17, 18, 19, 54] [39, 40, 41, 42, 43, 84, 85, 86, 88, 89, 90] [8] σ Q) 0 0 := by
  refine mkMet (Qc := fun A => QI g A (p_I (CX g q lb) [17, 18, 19, 54] [39, 40, 41, 42, 43, 84, 85, 86, 88, 89, 90] [8] σ Q)) (by decide) (Nat.le_of_ble_eq_true rfl) ?_
  intro p e s m below meth c A H ls hx hb hr hml hown hts hlk hnm hsz hP hK hNb hD hA hAe hS hX hl
  have hl : lv_has ls 3 [(0, .ref (q 0)), (1, .int (I n1))] := hl
  have hB := hN
  have hF : f_r [17, 18, 19, 54] [39, 40, 41, 42, 43, 84, 85, 86, 88, 89, 90] [8] σ σ := f_0
  obtain ⟨locs, hlocs⟩ : ∃ z : List Loc, z = [] := ⟨_, rfl⟩
  rw [← hlocs] at hS ⊢
  obtain ⟨P52, hP52⟩ : ∃ P : Int → Int → S0 → Prop, ∀ (u1 : Int) (u2 : Int) (τ : S0), (P u1 u2 τ ↔ (rg u1 → rg u2 → n_m τ → f_r [17, 18, 19, 54] [39, 40, 41, 42, 43, 84, 85, 86, 88, 89, 90] [8] σ τ → ∀ (H : Heap) (locs : List Loc) (ls : Array Slot), KP g (CX g q lb τ) H → va_D A (CX g q lb τ) → va_S A s.heap H locs → lv_has ls 3 [(0, .ref (q 0)), (1, .int (I u1)), (2, .int (I u2))] → W p l e ({ frames := 4, cells := 0, slots := 0, locals := 151 }) s m [.ref (q 0), .int (I n1)].toArray below meth c H locs 0 0 (MQ below (QI g A (p_I (CX g q lb) [17, 18, 19, 54] [39, 40, 41, 42, 43, 84, 85, 86, 88, 89, 90] [8] σ Q)) [.ref (q 0), .int (I n1)].toArray s 0 0 A) (F0 m 52 ls []))) := ⟨_, fun _ _ _ => Iff.rfl⟩
  refine (fun hw => ?_) (hw P52 ?_)
  ·
    refine lv_aload_n hx hb dX12_makesItsSymbols_0 rfl (lv_at hl 0 rfl) ?_
    refine gfX12_tree hx hb hts hK hP hown (hts _ tw_897) dX12_makesItsSymbols_1 ?_
    obtain ⟨Q1, hc, hw⟩ := hw
    refine wc_V (X := CX g q lb) (va_runV (As := []) (rest := []) ⟨hx, hb, hml, hown, hts⟩ (L_X11_grow l g q lb hlb  hN hc H.size) (cwV 0 hts (TB_V tw_1765 tw_1766 tw_1767 tw_12 co_X11_grow) rfl rfl rfl (by decide +kernel) ⟨Nat.le_of_ble_eq_true rfl, Nat.le_of_ble_eq_true rfl⟩) (preV (q0 := 10) (ci := 11) rfl xT_bl hP hK hNb hD rfl rfl xT_at) rfl rfl hl.1 rfl (lv_room (Nat.le_of_ble_eq_true rfl)) dX12_makesItsSymbols_4 ⟨Nat.le_of_ble_eq_true rfl, Nat.le_of_ble_eq_true rfl⟩) hP hD hS hA (fun τ3 H locs hN hf hq hP hD hS => ?_)
    replace hw := hw τ3 hN hf hq
    have hF : f_r [17, 18, 19, 54] [39, 40, 41, 42, 43, 84, 85, 86, 88, 89, 90] [8] σ τ3 := f_t hF hf (by decide) (by decide) (by decide)
    have hB := hN
    refine lv_aload_n hx hb dX12_makesItsSymbols_7 rfl (lv_at hl 0 rfl) ?_
    refine gfX12_definitions hx hb hts hK hP hown (hts _ tw_898) dX12_makesItsSymbols_8 ?_
    refine lv_iconst (v := I 0) hx hb dX12_makesItsSymbols_11 rfl ?_
    refine lv_aload_n hx hb dX12_makesItsSymbols_12 rfl (lv_at hl 0 rfl) ?_
    refine gfX12_tree hx hb hts hK hP hown (hts _ tw_897) dX12_makesItsSymbols_13 ?_
    refine gfNX11_size hx hb hts hK hP hown (nb_use hNb tn_747) (x := τ3.1 54) rfl dX12_makesItsSymbols_16 ?_
    refine lv_iconst (v := I 0) hx hb dX12_makesItsSymbols_19 rfl ?_
    obtain ⟨Q4, hc, hw⟩ := hw
    refine wc_I (X := CX g q lb) (va_runV (As := [.int (I 0), .int (I (τ3.1 54)), .int (I 0)]) (rest := []) ⟨hx, hb, hml, hown, hts⟩ (L_X2_evaluate l g q lb hlb (by decide) (hB.1 54) (by decide) hN hc H.size) (cwV 3 hts (TB_V tw_1887 tw_1856 tw_1857 tw_13 co_X2_evaluate) rfl rfl rfl (by decide +kernel) ⟨Nat.le_of_ble_eq_true rfl, Nat.le_of_ble_eq_true rfl⟩) (preV (q0 := 11) (ci := 2) rfl xT_bl hP hK hNb hD rfl rfl xT_at) rfl rfl hl.1 rfl (lv_room (Nat.le_of_ble_eq_true rfl)) dX12_makesItsSymbols_20 ⟨Nat.le_of_ble_eq_true rfl, Nat.le_of_ble_eq_true rfl⟩) hP hD hS hA (fun x5 τ6 H locs r_x5 hN hf hq hP hD hS => ?_)
    replace hw := hw x5 τ6 r_x5 hN hf hq
    have hF : f_r [17, 18, 19, 54] [39, 40, 41, 42, 43, 84, 85, 86, 88, 89, 90] [8] σ τ6 := f_t hF hf (by decide) (by decide) (by decide)
    have hB := hN
    refine bi_if_eq (tgt := 48) hx hb r_x5 dX12_makesItsSymbols_23 (by decide) (fun c7 => ?_) (fun c7 => ?_)
    ·
      replace hw := hw.1 c7
      refine lv_iconst (v := I 0) hx hb dX12_makesItsSymbols_48 rfl ?_
      exact xrz hx hb hr (by decide) hlk hP hK hD hS ⟨_, _, (by decide), rfl, hN, hF, rfl, hw⟩ (Nat.le_of_ble_eq_true rfl) (Nat.le_of_ble_eq_true rfl) dX12_makesItsSymbols_49
    ·
      replace hw := hw.2 c7
      refine lv_aload_n hx hb dX12_makesItsSymbols_26 rfl (lv_at hl 0 rfl) ?_
      refine gfX12_pile hx hb hts hK hP hown (hts _ tw_892) dX12_makesItsSymbols_27 ?_
      refine gfNX6_size hx hb hts hK hP hown (nb_use hNb tn_359) dX12_makesItsSymbols_30 ?_
      refine lv_iconst (v := I 0) hx hb dX12_makesItsSymbols_33 rfl ?_
      refine ldCX6_size hx hb hK hP hN (by decide) dX12_makesItsSymbols_34 (fun x8 r_x8 e_x8 => ?_)
      replace hw := hw x8 r_x8 e_x8
      refine lv_aload_n hx hb dX12_makesItsSymbols_35 rfl (lv_at hl 0 rfl) ?_
      refine gfX12_library hx hb hts hK hP hown (hts _ tw_889) dX12_makesItsSymbols_36 ?_
      refine lv_iload_n hx hb dX12_makesItsSymbols_39 rfl (lv_at hl 1 rfl) ?_
      obtain ⟨Q9, hc, hw⟩ := hw
      refine wc_i (X := CX g q lb) (va_runV (As := [.int (I n1)]) (rest := [.int (I x8)]) ⟨hx, hb, hml, hown, hts⟩ (L_X3_lengthOf l g q lb hlb r_n1 hN hc H.size) (cwV 1 hts (TB_V tw_1421 tw_1292 tw_1293 tw_2 co_X3_lengthOf) rfl rfl rfl (by decide +kernel) ⟨Nat.le_of_ble_eq_true rfl, Nat.le_of_ble_eq_true rfl⟩) (preV (q0 := 1) (ci := 3) rfl xT_bl hP hK hNb hD rfl rfl xT_at) rfl rfl hl.1 rfl (lv_room (Nat.le_of_ble_eq_true rfl)) dX12_makesItsSymbols_40 ⟨Nat.le_of_ble_eq_true rfl, Nat.le_of_ble_eq_true rfl⟩) hP hD hS hA (fun x10 H locs r_x10 hq hP hD hS => ?_)
      replace hw := hw x10 r_x10 hq
      refine lv_iconst (v := I 1) hx hb dX12_makesItsSymbols_43 rfl ?_
      refine bi_isub hx hb dX12_makesItsSymbols_44 ?_
      obtain ⟨c12, hw⟩ := hw
      refine bi_icmp_eq (tgt := 50) hx hb r_x8 c12 dX12_makesItsSymbols_45 (by decide) (fun c13 => ?_) (fun c13 => ?_)
      ·
        replace hw := hw.1 c13
        refine lv_iconst (v := I 0) hx hb dX12_makesItsSymbols_50 rfl ?_
        refine lv_istore_n (lv' := [(2, .int (I 0)), (0, .ref (q 0)), (1, .int (I n1))]) hx hb dX12_makesItsSymbols_51 rfl hl (by decide) rfl (fun ls hl => ?_)
        exact (hP52 _ _ _).mp hw r_n1 (by decide) hN hF H locs ls hP hD hS (lv_sub hl [1, 2, 0] rfl)
      ·
        replace hw := hw.2 c13
        refine lv_iconst (v := I 0) hx hb dX12_makesItsSymbols_48 rfl ?_
        exact xrz hx hb hr (by decide) hlk hP hK hD hS ⟨_, _, (by decide), rfl, hN, hF, rfl, hw⟩ (Nat.le_of_ble_eq_true rfl) (Nat.le_of_ble_eq_true rfl) dX12_makesItsSymbols_49
  ·
    intro u1 u2 τ hw
    refine (hP52 _ _ _).mpr ?_
    intro r_u1 r_u2 hN hF H locs ls hP hD hS hl
    have hB := hN
    refine lv_iload_n hx hb dX12_makesItsSymbols_52 rfl (lv_at hl 2 rfl) ?_
    refine lv_aload_n hx hb dX12_makesItsSymbols_53 rfl (lv_at hl 0 rfl) ?_
    refine gfX12_pile hx hb hts hK hP hown (hts _ tw_892) dX12_makesItsSymbols_54 ?_
    refine gfNX6_size hx hb hts hK hP hown (nb_use hNb tn_359) dX12_makesItsSymbols_57 ?_
    refine lv_iconst (v := I 0) hx hb dX12_makesItsSymbols_60 rfl ?_
    refine ldCX6_size hx hb hK hP hN (by decide) dX12_makesItsSymbols_61 (fun x14 r_x14 e_x14 => ?_)
    replace hw := hw x14 r_x14 e_x14
    refine bi_icmp_ge (tgt := 116) hx hb r_u2 r_x14 dX12_makesItsSymbols_62 (by decide) (fun c15 => ?_) (fun c15 => ?_)
    ·
      replace hw := hw.1 c15
      refine lv_iconst (v := I 1) hx hb dX12_makesItsSymbols_116 rfl ?_
      exact xrz hx hb hr (by decide) hlk hP hK hD hS ⟨_, _, (by decide), rfl, hN, hF, rfl, hw⟩ (Nat.le_of_ble_eq_true rfl) (Nat.le_of_ble_eq_true rfl) dX12_makesItsSymbols_117
    ·
      replace hw := hw.2 c15
      refine lv_aload_n hx hb dX12_makesItsSymbols_65 rfl (lv_at hl 0 rfl) ?_
      refine gfX12_pile hx hb hts hK hP hown (hts _ tw_892) dX12_makesItsSymbols_66 ?_
      refine gfNX6_data hx hb hts hK hP hown (nb_use hNb tn_349) dX12_makesItsSymbols_69 ?_
      refine lv_aload_n hx hb dX12_makesItsSymbols_72 rfl (lv_at hl 0 rfl) ?_
      refine gfX12_pile hx hb hts hK hP hown (hts _ tw_892) dX12_makesItsSymbols_73 ?_
      refine gfNX6_at hx hb hts hK hP hown (nb_use hNb tn_355) dX12_makesItsSymbols_76 ?_
      refine lv_iconst (v := I 0) hx hb dX12_makesItsSymbols_79 rfl ?_
      refine ldCX6_at hx hb hK hP hN (by decide) dX12_makesItsSymbols_80 (fun x16 r_x16 e_x16 => ?_)
      replace hw := hw x16 r_x16 e_x16
      refine lv_iload_n hx hb dX12_makesItsSymbols_81 rfl (lv_at hl 2 rfl) ?_
      refine bi_iadd hx hb dX12_makesItsSymbols_82 ?_
      obtain ⟨c17, hw⟩ := hw
      refine ldCX6_data hx hb hK hP hN c17 dX12_makesItsSymbols_83 (fun x18 r_x18 e_x18 => ?_)
      replace hw := hw x18 r_x18 e_x18
      refine lv_aload_n hx hb dX12_makesItsSymbols_84 rfl (lv_at hl 0 rfl) ?_
      refine gfX12_library hx hb hts hK hP hown (hts _ tw_889) dX12_makesItsSymbols_85 ?_
      refine gfNX3_text hx hb hts hK hP hown (nb_use hNb tn_90) dX12_makesItsSymbols_88 ?_
      refine lv_aload_n hx hb dX12_makesItsSymbols_91 rfl (lv_at hl 0 rfl) ?_
      refine gfX12_library hx hb hts hK hP hown (hts _ tw_889) dX12_makesItsSymbols_92 ?_
      refine gfNX3_at hx hb hts hK hP hown (nb_use hNb tn_83) dX12_makesItsSymbols_95 ?_
      refine lv_iload_n hx hb dX12_makesItsSymbols_98 rfl (lv_at hl 1 rfl) ?_
      obtain ⟨c19, hw⟩ := hw
      refine ldCX3_at hx hb hK hP hN c19 dX12_makesItsSymbols_99 (fun x20 r_x20 e_x20 => ?_)
      replace hw := hw x20 r_x20 e_x20
      refine lv_iconst (v := I 1) hx hb dX12_makesItsSymbols_100 rfl ?_
      refine bi_iadd hx hb dX12_makesItsSymbols_101 ?_
      refine lv_iload_n hx hb dX12_makesItsSymbols_102 rfl (lv_at hl 2 rfl) ?_
      refine bi_iadd hx hb dX12_makesItsSymbols_103 ?_
      obtain ⟨c21, hw⟩ := hw
      refine ldCX3_text hx hb hK hP hN c21 dX12_makesItsSymbols_104 (fun x22 r_x22 e_x22 => ?_)
      replace hw := hw x22 r_x22 e_x22
      refine bi_icmp_eq (tgt := 110) hx hb r_x18 r_x22 dX12_makesItsSymbols_105 (by decide) (fun c23 => ?_) (fun c23 => ?_)
      ·
        replace hw := hw.1 c23
        refine lv_iinc (v := I (u2 + 1)) (lv' := [(2, .int (I (u2 + 1))), (0, .ref (q 0)), (1, .int (I u1))]) hx hb dX12_makesItsSymbols_110 hl (k := 2) rfl (I_add _ _) (by decide) rfl (fun ls hl => ?_)
        refine lv_goto (tgt := 52) hx hb dX12_makesItsSymbols_113 (by decide) ?_
        obtain ⟨c24, hw⟩ := hw
        exact (hP52 _ _ _).mp hw r_u1 c24 hN hF H locs ls hP hD hS (lv_sub hl [1, 2, 0] rfl)
      ·
        replace hw := hw.2 c23
        refine lv_iconst (v := I 0) hx hb dX12_makesItsSymbols_108 rfl ?_
        exact xrz hx hb hr (by decide) hlk hP hK hD hS ⟨_, _, (by decide), rfl, hN, hF, rfl, hw⟩ (Nat.le_of_ble_eq_true rfl) (Nat.le_of_ble_eq_true rfl) dX12_makesItsSymbols_109
