-- methods told as propositions, and tied to the machine
def W_X12_end (n1 : Int) (σ : S0) (Q : Int → S0 → Prop) : Prop :=
  (σ.1 1 = 0 → Q (-1) σ) ∧ (¬ σ.1 1 = 0 → (n1 < 0 → Q (-1) σ) ∧ (0 ≤ n1 → (n1 < 20 → rg (σ.1 0 - (20 - n1)) ∧ Q (σ.1 0 - (20 - n1)) (s_v (s_v σ 1 0) 0 (σ.1 0 - (20 - n1)))) ∧ (20 ≤ n1 → Q (-1) σ)))
set_option maxRecDepth 100000 in
set_option maxHeartbeats 4000000 in
theorem L_X12_end (l : Launch) (g : gG) (q : Nat → Nat) (lb : Nat) (hlb : lb < 2 ^ 31) {n1 : Int} {σ : S0} {Q : Int → S0 → Prop} (r_n1 : rg n1) (hN : n_m σ) (hw : W_X12_end n1 σ Q) (sz : Nat) : MetI l yX12_end cX12_end 2 (some .int) { frames := 0, cells := 0, slots := 0, locals := 0 } g [.ref (q 0), .int (I n1)] (CX g q lb σ) sz xT (p_I (CX g q lb) [0, 1] [] [] σ Q) 0 0 := by
  refine mkMet (Qc := fun A => QI g A (p_I (CX g q lb) [0, 1] [] [] σ Q)) (by decide) (Nat.le_of_ble_eq_true rfl) ?_
  intro p e s m below meth c A H ls hx hb hr hml hown hts hlk hnm hsz hP hK hNb hD hA hAe hS hX hl
  have hl : lv_has ls 2 [(0, .ref (q 0)), (1, .int (I n1))] := hl
  have hB := hN
  have hF : f_r [0, 1] [] [] σ σ := f_0
  obtain ⟨locs, hlocs⟩ : ∃ z : List Loc, z = [] := ⟨_, rfl⟩
  rw [← hlocs] at hS ⊢
  refine lv_aload_n hx hb dX12_end_0 rfl (lv_at hl 0 rfl) ?_
  refine gfX12_canEnd hx hb hts hK hP hown (hts _ tw_886) (x := σ.1 1) rfl dX12_end_1 ?_
  refine bi_if_eq (tgt := 17) hx hb (hB.1 1) dX12_end_4 (by decide) (fun c1 => ?_) (fun c1 => ?_)
  ·
    replace hw := hw.1 c1
    refine lv_iconst (v := I (-1)) hx hb dX12_end_17 rfl ?_
    exact xri hx hb hr hlk hP hK hD hS ⟨_, _, (by decide), rfl, hN, hF, rfl, hw⟩ (Nat.le_of_ble_eq_true rfl) (Nat.le_of_ble_eq_true rfl) dX12_end_18
  ·
    replace hw := hw.2 c1
    refine lv_iload_n hx hb dX12_end_7 rfl (lv_at hl 1 rfl) ?_
    refine bi_if_lt (tgt := 17) hx hb r_n1 dX12_end_8 (by decide) (fun c2 => ?_) (fun c2 => ?_)
    ·
      replace hw := hw.1 c2
      refine lv_iconst (v := I (-1)) hx hb dX12_end_17 rfl ?_
      exact xri hx hb hr hlk hP hK hD hS ⟨_, _, (by decide), rfl, hN, hF, rfl, hw⟩ (Nat.le_of_ble_eq_true rfl) (Nat.le_of_ble_eq_true rfl) dX12_end_18
    ·
      replace hw := hw.2 c2
      refine lv_iload_n hx hb dX12_end_11 rfl (lv_at hl 1 rfl) ?_
      refine lv_bipush (v := I 20) hx hb dX12_end_12 (by decide) ?_
      refine bi_icmp_lt (tgt := 19) hx hb r_n1 (by decide) dX12_end_14 (by decide) (fun c3 => ?_) (fun c3 => ?_)
      ·
        replace hw := hw.1 c3
        refine lv_aload_n hx hb dX12_end_19 rfl (lv_at hl 0 rfl) ?_
        refine lv_iconst (v := I 0) hx hb dX12_end_20 rfl ?_
        refine pfX12_canEnd hx hb hts hK hP hD hS hown (hts _ tw_886) (by decide)  dX12_end_21 (fun H locs hP hD hS => ?_)
        have hN : n_m (s_v σ 1 0) := n_v (i := 1) hN ((by decide) : rg 0)
        have hF : f_r [0, 1] [] [] σ (s_v σ 1 0) := f_v hF (by decide)
        refine lv_aload_n hx hb dX12_end_24 rfl (lv_at hl 0 rfl) ?_
        refine lv_dup hx hb dX12_end_25 rfl ?_
        refine gfX12_tapeLength hx hb hts hK hP hown (hts _ tw_885) (x := σ.1 0) rfl dX12_end_26 ?_
        refine lv_bipush (v := I 20) hx hb dX12_end_29 (by decide) ?_
        refine lv_iload_n hx hb dX12_end_31 rfl (lv_at hl 1 rfl) ?_
        refine bi_isub hx hb dX12_end_32 ?_
        refine bi_isub hx hb dX12_end_33 ?_
        obtain ⟨c4, hw⟩ := hw
        refine pfX12_tapeLength hx hb hts hK hP hD hS hown (hts _ tw_885) dX12_end_34 (fun H locs hP hD hS => ?_)
        have hN : n_m (s_v (s_v σ 1 0) 0 (σ.1 0 - (20 - n1))) := n_v (i := 0) hN (c4 : rg (σ.1 0 - (20 - n1)))
        have hF : f_r [0, 1] [] [] σ (s_v (s_v σ 1 0) 0 (σ.1 0 - (20 - n1))) := f_v hF (by decide)
        refine lv_aload_n hx hb dX12_end_37 rfl (lv_at hl 0 rfl) ?_
        refine gfX12_tapeLength hx hb hts hK hP hown (hts _ tw_885) (x := (σ.1 0 - (20 - n1))) rfl dX12_end_38 ?_
        exact xri hx hb hr hlk hP hK hD hS ⟨_, _, c4, rfl, hN, hF, rfl, hw⟩ (Nat.le_of_ble_eq_true rfl) (Nat.le_of_ble_eq_true rfl) dX12_end_41
      ·
        replace hw := hw.2 c3
        refine lv_iconst (v := I (-1)) hx hb dX12_end_17 rfl ?_
        exact xri hx hb hr hlk hP hK hD hS ⟨_, _, (by decide), rfl, hN, hF, rfl, hw⟩ (Nat.le_of_ble_eq_true rfl) (Nat.le_of_ble_eq_true rfl) dX12_end_18
def W_X7_begin_q13 (σ : S0) (Q : S0 → Prop) : Prop :=
  ∃ (Q1 : S0 → Prop), W_X3_keep (s_v (s_v (s_v σ 66 1) 34 0) 35 0) Q1 ∧ ∀ (τ3 : S0), n_m τ3 → f_r [] [17] [] (s_v (s_v (s_v σ 66 1) 34 0) 35 0) τ3 → Q1 τ3 → (∃ (Q4 : S0 → Prop), W_X0_keep τ3 Q4 ∧ ∀ (τ6 : S0), n_m τ6 → f_r [] [38] [] τ3 τ6 → Q4 τ6 → (∃ (Q7 : S0 → Prop), W_X9_keep τ6 Q7 ∧ ∀ (τ9 : S0), n_m τ9 → f_r [11] [25] [] τ6 τ9 → Q7 τ9 → (Q τ9)))
set_option maxRecDepth 100000 in
set_option maxHeartbeats 4000000 in
theorem L_X7_begin_q13 (l : Launch) (g : gG) (q : Nat → Nat) (lb : Nat) (hlb : lb < 2 ^ 31) {σ : S0} {Q : S0 → Prop} (hN : n_m σ) (hw : W_X7_begin_q13 σ Q) (sz : Nat) : MetV l yX7_begin cX7_begin 2 { frames := 2, cells := 0, slots := 0, locals := 40 } g [.ref (q 6), .ref (q 13)] (CX g q lb σ) sz xT (p_V (CX g q lb) [11, 34, 35, 66] [17, 25, 38] [] σ Q) 0 0 := by
  refine mkMet (Qc := fun A => QV g A (p_V (CX g q lb) [11, 34, 35, 66] [17, 25, 38] [] σ Q)) (by decide) (Nat.le_of_ble_eq_true rfl) ?_
  intro p e s m below meth c A H ls hx hb hr hml hown hts hlk hnm hsz hP hK hNb hD hA hAe hS hX hl
  have hl : lv_has ls 2 [(0, .ref (q 6)), (1, .ref (q 13))] := hl
  have hB := hN
  have hF : f_r [11, 34, 35, 66] [17, 25, 38] [] σ σ := f_0
  obtain ⟨locs, hlocs⟩ : ∃ z : List Loc, z = [] := ⟨_, rfl⟩
  rw [← hlocs] at hS ⊢
  refine lv_aload_n hx hb dX7_begin_0 rfl (lv_at hl 0 rfl) ?_
  refine lv_aload_n hx hb dX7_begin_1 rfl (lv_at hl 1 rfl) ?_
  refine pfX7_source hx hb hts hK hP hD hS hown (hts _ tw_489) dX7_begin_2 (fun H locs hP hD hS => ?_)
  have hN : n_m (s_v σ 66 1) := n_v (i := 66) hN (by decide : rg 1)
  have hF : f_r [11, 34, 35, 66] [17, 25, 38] [] σ (s_v σ 66 1) := f_v hF (by decide)
  refine lv_aload_n hx hb dX7_begin_5 rfl (lv_at hl 0 rfl) ?_
  refine lv_iconst (v := I 0) hx hb dX7_begin_6 rfl ?_
  refine pfX7_comment hx hb hts hK hP hD hS hown (hts _ tw_492) (by decide)  dX7_begin_7 (fun H locs hP hD hS => ?_)
  have hN : n_m (s_v (s_v σ 66 1) 34 0) := n_v (i := 34) hN ((by decide) : rg 0)
  have hF : f_r [11, 34, 35, 66] [17, 25, 38] [] σ (s_v (s_v σ 66 1) 34 0) := f_v hF (by decide)
  refine lv_aload_n hx hb dX7_begin_10 rfl (lv_at hl 0 rfl) ?_
  refine lv_iconst (v := I 0) hx hb dX7_begin_11 rfl ?_
  refine pfX7_state hx hb hts hK hP hD hS hown (hts _ tw_493) dX7_begin_12 (fun H locs hP hD hS => ?_)
  have hN : n_m (s_v (s_v (s_v σ 66 1) 34 0) 35 0) := n_v (i := 35) hN ((by decide) : rg 0)
  have hF : f_r [11, 34, 35, 66] [17, 25, 38] [] σ (s_v (s_v (s_v σ 66 1) 34 0) 35 0) := f_v hF (by decide)
  refine lv_aload_n hx hb dX7_begin_15 rfl (lv_at hl 0 rfl) ?_
  refine gfX7_library hx hb hts hK hP hown (hts _ tw_484) dX7_begin_16 ?_
  obtain ⟨Q1, hc, hw⟩ := hw
  refine wc_V (X := CX g q lb) (va_runV (As := []) (rest := []) ⟨hx, hb, hml, hown, hts⟩ (L_X3_keep l g q lb hlb  hN hc H.size) (cwV 0 hts (TB_V tw_957 tw_958 tw_959 tw_2 co_X3_keep) rfl rfl rfl (by decide +kernel) ⟨Nat.le_of_ble_eq_true rfl, Nat.le_of_ble_eq_true rfl⟩) (preV (q0 := 1) (ci := 3) rfl xT_bl hP hK hNb hD rfl rfl xT_at) rfl rfl hl.1 rfl (lv_room (Nat.le_of_ble_eq_true rfl)) dX7_begin_19 ⟨Nat.le_of_ble_eq_true rfl, Nat.le_of_ble_eq_true rfl⟩) hP hD hS hA (fun τ3 H locs hN hf hq hP hD hS => ?_)
  replace hw := hw τ3 hN hf hq
  have hF : f_r [11, 34, 35, 66] [17, 25, 38] [] σ τ3 := f_t hF hf (by decide) (by decide) (by decide)
  have hB := hN
  refine lv_aload_n hx hb dX7_begin_22 rfl (lv_at hl 0 rfl) ?_
  refine gfX7_assertions hx hb hts hK hP hown (hts _ tw_485) dX7_begin_23 ?_
  obtain ⟨Q4, hc, hw⟩ := hw
  refine wc_V (X := CX g q lb) (va_runV (As := []) (rest := []) ⟨hx, hb, hml, hown, hts⟩ (L_X0_keep l g q lb hlb  hN hc H.size) (cwV 0 hts (TB_V tw_961 tw_962 tw_963 tw_5 co_X0_keep) rfl rfl rfl (by decide +kernel) ⟨Nat.le_of_ble_eq_true rfl, Nat.le_of_ble_eq_true rfl⟩) (preV (q0 := 3) (ci := 0) rfl xT_bl hP hK hNb hD rfl rfl xT_at) rfl rfl hl.1 rfl (lv_room (Nat.le_of_ble_eq_true rfl)) dX7_begin_26 ⟨Nat.le_of_ble_eq_true rfl, Nat.le_of_ble_eq_true rfl⟩) hP hD hS hA (fun τ6 H locs hN hf hq hP hD hS => ?_)
  replace hw := hw τ6 hN hf hq
  have hF : f_r [11, 34, 35, 66] [17, 25, 38] [] σ τ6 := f_t hF hf (by decide) (by decide) (by decide)
  have hB := hN
  refine lv_aload_n hx hb dX7_begin_29 rfl (lv_at hl 0 rfl) ?_
  refine gfX7_scopes hx hb hts hK hP hown (hts _ tw_486) dX7_begin_30 ?_
  obtain ⟨Q7, hc, hw⟩ := hw
  refine wc_V (X := CX g q lb) (va_runV (As := []) (rest := []) ⟨hx, hb, hml, hown, hts⟩ (L_X9_keep l g q lb hlb  hN hc H.size) (cwV 0 hts (TB_V tw_965 tw_966 tw_967 tw_3 co_X9_keep) rfl rfl rfl (by decide +kernel) ⟨Nat.le_of_ble_eq_true rfl, Nat.le_of_ble_eq_true rfl⟩) (preV (q0 := 2) (ci := 9) rfl xT_bl hP hK hNb hD rfl rfl xT_at) rfl rfl hl.1 rfl (lv_room (Nat.le_of_ble_eq_true rfl)) dX7_begin_33 ⟨Nat.le_of_ble_eq_true rfl, Nat.le_of_ble_eq_true rfl⟩) hP hD hS hA (fun τ9 H locs hN hf hq hP hD hS => ?_)
  replace hw := hw τ9 hN hf hq
  have hF : f_r [11, 34, 35, 66] [17, 25, 38] [] σ τ9 := f_t hF hf (by decide) (by decide) (by decide)
  have hB := hN
  exact xrv hx hb hr hlk hP hK hD hS ⟨_, hN, hF, rfl, hw⟩ (Nat.le_of_ble_eq_true rfl) (Nat.le_of_ble_eq_true rfl) dX7_begin_36
def W_X12_isBlank (n0 : Int) (σ : S0) (Q : Int → Prop) : Prop :=
  (n0 = 32 → Q 1) ∧ (¬ n0 = 32 → (n0 = 9 → Q 1) ∧ (¬ n0 = 9 → (n0 = 10 → Q 1) ∧ (¬ n0 = 10 → (n0 = 12 → Q 1) ∧ (¬ n0 = 12 → (¬ n0 = 13 → Q 0) ∧ (n0 = 13 → Q 1)))))
set_option maxRecDepth 100000 in
set_option maxHeartbeats 4000000 in
theorem L_X12_isBlank (l : Launch) (g : gG) (q : Nat → Nat) (lb : Nat) (hlb : lb < 2 ^ 31) {n0 : Int} {σ : S0} {Q : Int → Prop} (r_n0 : rg n0) (hN : n_m σ) (hw : W_X12_isBlank n0 σ Q) (sz : Nat) : MetI l yX12_isBlank cX12_isBlank 1 (some .boolean) { frames := 0, cells := 0, slots := 0, locals := 0 } g [.int (I n0)] (CX g q lb σ) sz xT (p_i (CX g q lb) σ Q) 0 0 := by
  refine mkMet (Qc := fun A => QI g A (p_i (CX g q lb) σ Q)) (by decide) (Nat.le_of_ble_eq_true rfl) ?_
  intro p e s m below meth c A H ls hx hb hr hml hown hts hlk hnm hsz hP hK hNb hD hA hAe hS hX hl
  have hl : lv_has ls 1 [(0, .int (I n0))] := hl
  have hB := hN
  obtain ⟨locs, hlocs⟩ : ∃ z : List Loc, z = [] := ⟨_, rfl⟩
  rw [← hlocs] at hS ⊢
  refine lv_iload_n hx hb dX12_isBlank_0 rfl (lv_at hl 0 rfl) ?_
  refine lv_bipush (v := I 32) hx hb dX12_isBlank_1 (by decide) ?_
  refine bi_icmp_eq (tgt := 30) hx hb r_n0 (by decide) dX12_isBlank_3 (by decide) (fun c1 => ?_) (fun c1 => ?_)
  ·
    replace hw := hw.1 c1
    refine lv_iconst (v := I 1) hx hb dX12_isBlank_30 rfl ?_
    refine lv_goto (tgt := 35) hx hb dX12_isBlank_31 (by decide) ?_
    exact xrz hx hb hr (by decide) hlk hP hK hD hS ⟨_, (by decide), rfl, rfl, hw⟩ (Nat.le_of_ble_eq_true rfl) (Nat.le_of_ble_eq_true rfl) dX12_isBlank_35
  ·
    replace hw := hw.2 c1
    refine lv_iload_n hx hb dX12_isBlank_6 rfl (lv_at hl 0 rfl) ?_
    refine lv_bipush (v := I 9) hx hb dX12_isBlank_7 (by decide) ?_
    refine bi_icmp_eq (tgt := 30) hx hb r_n0 (by decide) dX12_isBlank_9 (by decide) (fun c2 => ?_) (fun c2 => ?_)
    ·
      replace hw := hw.1 c2
      refine lv_iconst (v := I 1) hx hb dX12_isBlank_30 rfl ?_
      refine lv_goto (tgt := 35) hx hb dX12_isBlank_31 (by decide) ?_
      exact xrz hx hb hr (by decide) hlk hP hK hD hS ⟨_, (by decide), rfl, rfl, hw⟩ (Nat.le_of_ble_eq_true rfl) (Nat.le_of_ble_eq_true rfl) dX12_isBlank_35
    ·
      replace hw := hw.2 c2
      refine lv_iload_n hx hb dX12_isBlank_12 rfl (lv_at hl 0 rfl) ?_
      refine lv_bipush (v := I 10) hx hb dX12_isBlank_13 (by decide) ?_
      refine bi_icmp_eq (tgt := 30) hx hb r_n0 (by decide) dX12_isBlank_15 (by decide) (fun c3 => ?_) (fun c3 => ?_)
      ·
        replace hw := hw.1 c3
        refine lv_iconst (v := I 1) hx hb dX12_isBlank_30 rfl ?_
        refine lv_goto (tgt := 35) hx hb dX12_isBlank_31 (by decide) ?_
        exact xrz hx hb hr (by decide) hlk hP hK hD hS ⟨_, (by decide), rfl, rfl, hw⟩ (Nat.le_of_ble_eq_true rfl) (Nat.le_of_ble_eq_true rfl) dX12_isBlank_35
      ·
        replace hw := hw.2 c3
        refine lv_iload_n hx hb dX12_isBlank_18 rfl (lv_at hl 0 rfl) ?_
        refine lv_bipush (v := I 12) hx hb dX12_isBlank_19 (by decide) ?_
        refine bi_icmp_eq (tgt := 30) hx hb r_n0 (by decide) dX12_isBlank_21 (by decide) (fun c4 => ?_) (fun c4 => ?_)
        ·
          replace hw := hw.1 c4
          refine lv_iconst (v := I 1) hx hb dX12_isBlank_30 rfl ?_
          refine lv_goto (tgt := 35) hx hb dX12_isBlank_31 (by decide) ?_
          exact xrz hx hb hr (by decide) hlk hP hK hD hS ⟨_, (by decide), rfl, rfl, hw⟩ (Nat.le_of_ble_eq_true rfl) (Nat.le_of_ble_eq_true rfl) dX12_isBlank_35
        ·
          replace hw := hw.2 c4
          refine lv_iload_n hx hb dX12_isBlank_24 rfl (lv_at hl 0 rfl) ?_
          refine lv_bipush (v := I 13) hx hb dX12_isBlank_25 (by decide) ?_
          refine bi_icmp_ne (tgt := 34) hx hb r_n0 (by decide) dX12_isBlank_27 (by decide) (fun c5 => ?_) (fun c5 => ?_)
          ·
            replace hw := hw.1 c5
            refine lv_iconst (v := I 0) hx hb dX12_isBlank_34 rfl ?_
            exact xrz hx hb hr (by decide) hlk hP hK hD hS ⟨_, (by decide), rfl, rfl, hw⟩ (Nat.le_of_ble_eq_true rfl) (Nat.le_of_ble_eq_true rfl) dX12_isBlank_35
          ·
            replace hw := hw.2 c5
            refine lv_iconst (v := I 1) hx hb dX12_isBlank_30 rfl ?_
            refine lv_goto (tgt := 35) hx hb dX12_isBlank_31 (by decide) ?_
            exact xrz hx hb hr (by decide) hlk hP hK hD hS ⟨_, (by decide), rfl, rfl, hw⟩ (Nat.le_of_ble_eq_true rfl) (Nat.le_of_ble_eq_true rfl) dX12_isBlank_35
def W_X12_skipBlanks_q13 (n1 : Int) (n2 : Int) (σ : S0) (Q : Int → Prop) : Prop :=
  ∀ (P2 : Int → Int → Prop),
  (∀ (u2 : Int) (u3 : Int), ((u2 ≤ u3 → Q u3) ∧ (u3 < u2 → (0 ≤ u3 ∧ u3 < 60000) ∧ (∀ (x3 : Int), rg x3 → x3 = σ.2.1 0 u3 → (∃ (Q4 : Int → Prop), W_X12_isBlank x3 σ Q4 ∧ ∀ (x5 : Int), rg x5 → Q4 x5 → ((x5 = 0 → Q u3) ∧ (¬ x5 = 0 → rg (u3 + 1) ∧ P2 u2 (u3 + 1))))))) → P2 u2 u3) →
  P2 n2 n1
set_option maxRecDepth 100000 in
set_option maxHeartbeats 4000000 in
theorem L_X12_skipBlanks_q13 (l : Launch) (g : gG) (q : Nat → Nat) (lb : Nat) (hlb : lb < 2 ^ 31) {n1 : Int} {n2 : Int} {σ : S0} {Q : Int → Prop} (r_n1 : rg n1) (r_n2 : rg n2) (hN : n_m σ) (hw : W_X12_skipBlanks_q13 n1 n2 σ Q) (sz : Nat) : MetI l yX12_skipBlanks cX12_skipBlanks 4 (some .int) { frames := 1, cells := 0, slots := 0, locals := 20 } g [.ref (q 13), .int (I n1), .int (I n2)] (CX g q lb σ) sz xT (p_i (CX g q lb) σ Q) 0 0 := by
  refine mkMet (Qc := fun A => QI g A (p_i (CX g q lb) σ Q)) (by decide) (Nat.le_of_ble_eq_true rfl) ?_
  intro p e s m below meth c A H ls hx hb hr hml hown hts hlk hnm hsz hP hK hNb hD hA hAe hS hX hl
  have hl : lv_has ls 4 [(0, .ref (q 13)), (1, .int (I n1)), (2, .int (I n2))] := hl
  have hB := hN
  obtain ⟨locs, hlocs⟩ : ∃ z : List Loc, z = [] := ⟨_, rfl⟩
  rw [← hlocs] at hS ⊢
  obtain ⟨P2, hP2⟩ : ∃ P : Int → Int → Prop, ∀ (u2 : Int) (u3 : Int), (P u2 u3 ↔ (rg u2 → rg u3 → ∀ (H : Heap) (locs : List Loc) (ls : Array Slot), KP g (CX g q lb σ) H → va_D A (CX g q lb σ) → va_S A s.heap H locs → lv_has ls 4 [(0, .ref (q 13)), (2, .int (I u2)), (3, .int (I u3))] → W p l e ({ frames := 1, cells := 0, slots := 0, locals := 20 }) s m [.ref (q 13), .int (I n1), .int (I n2)].toArray below meth c H locs 0 0 (MQ below (QI g A (p_i (CX g q lb) σ Q)) [.ref (q 13), .int (I n1), .int (I n2)].toArray s 0 0 A) (F0 m 2 ls []))) := ⟨_, fun _ _ => Iff.rfl⟩
  refine (fun hw => ?_) (hw P2 ?_)
  ·
    refine lv_iload_n hx hb dX12_skipBlanks_0 rfl (lv_at hl 1 rfl) ?_
    refine lv_istore_n (lv' := [(3, .int (I n1)), (0, .ref (q 13)), (1, .int (I n1)), (2, .int (I n2))]) hx hb dX12_skipBlanks_1 rfl hl (by decide) rfl (fun ls hl => ?_)
    exact (hP2 _ _).mp hw r_n2 r_n1  H locs ls hP hD hS (lv_sub hl [1, 3, 0] rfl)
  ·
    intro u2 u3 hw
    refine (hP2 _ _).mpr ?_
    intro r_u2 r_u3 H locs ls hP hD hS hl
    refine lv_iload_n hx hb dX12_skipBlanks_2 rfl (lv_at hl 2 rfl) ?_
    refine lv_iload_n hx hb dX12_skipBlanks_3 rfl (lv_at hl 1 rfl) ?_
    refine bi_icmp_ge (tgt := 22) hx hb r_u3 r_u2 dX12_skipBlanks_4 (by decide) (fun c1 => ?_) (fun c1 => ?_)
    ·
      replace hw := hw.1 c1
      refine lv_iload_n hx hb dX12_skipBlanks_22 rfl (lv_at hl 2 rfl) ?_
      exact xri hx hb hr hlk hP hK hD hS ⟨_, r_u3, rfl, rfl, hw⟩ (Nat.le_of_ble_eq_true rfl) (Nat.le_of_ble_eq_true rfl) dX12_skipBlanks_23
    ·
      replace hw := hw.2 c1
      refine lv_aload_n hx hb dX12_skipBlanks_7 rfl (lv_at hl 0 rfl) ?_
      refine lv_iload_n hx hb dX12_skipBlanks_8 rfl (lv_at hl 2 rfl) ?_
      obtain ⟨c2, hw⟩ := hw
      refine ldCX12_tape hx hb hK hP hN c2 dX12_skipBlanks_9 (fun x3 r_x3 e_x3 => ?_)
      replace hw := hw x3 r_x3 e_x3
      obtain ⟨Q4, hc, hw⟩ := hw
      refine wc_i (X := CX g q lb) (va_runS (As := [.int (I x3)]) (rest := []) ⟨hx, hb, hml, hown, hts⟩ (L_X12_isBlank l g q lb hlb r_x3 hN hc H.size) (cwS 1 hts (TB_S tw_976 tw_977 tw_1 co_X12_isBlank) rfl rfl rfl (by decide +kernel) ⟨Nat.le_of_ble_eq_true rfl, Nat.le_of_ble_eq_true rfl⟩) (preS xT_bl hP hK hNb hD xT_at) rfl rfl hl.1 rfl (lv_room (Nat.le_of_ble_eq_true rfl)) dX12_skipBlanks_10 ⟨Nat.le_of_ble_eq_true rfl, Nat.le_of_ble_eq_true rfl⟩) hP hD hS hA (fun x5 H locs r_x5 hq hP hD hS => ?_)
      replace hw := hw x5 r_x5 hq
      refine bi_if_eq (tgt := 22) hx hb r_x5 dX12_skipBlanks_13 (by decide) (fun c7 => ?_) (fun c7 => ?_)
      ·
        replace hw := hw.1 c7
        refine lv_iload_n hx hb dX12_skipBlanks_22 rfl (lv_at hl 2 rfl) ?_
        exact xri hx hb hr hlk hP hK hD hS ⟨_, r_u3, rfl, rfl, hw⟩ (Nat.le_of_ble_eq_true rfl) (Nat.le_of_ble_eq_true rfl) dX12_skipBlanks_23
      ·
        replace hw := hw.2 c7
        refine lv_iinc (v := I (u3 + 1)) (lv' := [(3, .int (I (u3 + 1))), (0, .ref (q 13)), (2, .int (I u2))]) hx hb dX12_skipBlanks_16 hl (k := 2) rfl (I_add _ _) (by decide) rfl (fun ls hl => ?_)
        refine lv_goto (tgt := 2) hx hb dX12_skipBlanks_19 (by decide) ?_
        obtain ⟨c8, hw⟩ := hw
        exact (hP2 _ _).mp hw r_u2 c8  H locs ls hP hD hS (lv_sub hl [1, 2, 0] rfl)
def W_X12_isVisible (n0 : Int) (σ : S0) (Q : Int → Prop) : Prop :=
  (n0 < 33 → Q 0) ∧ (33 ≤ n0 → (126 < n0 → Q 0) ∧ (n0 ≤ 126 → Q 1))
set_option maxRecDepth 100000 in
set_option maxHeartbeats 4000000 in
theorem L_X12_isVisible (l : Launch) (g : gG) (q : Nat → Nat) (lb : Nat) (hlb : lb < 2 ^ 31) {n0 : Int} {σ : S0} {Q : Int → Prop} (r_n0 : rg n0) (hN : n_m σ) (hw : W_X12_isVisible n0 σ Q) (sz : Nat) : MetI l yX12_isVisible cX12_isVisible 1 (some .boolean) { frames := 0, cells := 0, slots := 0, locals := 0 } g [.int (I n0)] (CX g q lb σ) sz xT (p_i (CX g q lb) σ Q) 0 0 := by
  refine mkMet (Qc := fun A => QI g A (p_i (CX g q lb) σ Q)) (by decide) (Nat.le_of_ble_eq_true rfl) ?_
  intro p e s m below meth c A H ls hx hb hr hml hown hts hlk hnm hsz hP hK hNb hD hA hAe hS hX hl
  have hl : lv_has ls 1 [(0, .int (I n0))] := hl
  have hB := hN
  obtain ⟨locs, hlocs⟩ : ∃ z : List Loc, z = [] := ⟨_, rfl⟩
  rw [← hlocs] at hS ⊢
  refine lv_iload_n hx hb dX12_isVisible_0 rfl (lv_at hl 0 rfl) ?_
  refine lv_bipush (v := I 33) hx hb dX12_isVisible_1 (by decide) ?_
  refine bi_icmp_lt (tgt := 16) hx hb r_n0 (by decide) dX12_isVisible_3 (by decide) (fun c1 => ?_) (fun c1 => ?_)
  ·
    replace hw := hw.1 c1
    refine lv_iconst (v := I 0) hx hb dX12_isVisible_16 rfl ?_
    exact xrz hx hb hr (by decide) hlk hP hK hD hS ⟨_, (by decide), rfl, rfl, hw⟩ (Nat.le_of_ble_eq_true rfl) (Nat.le_of_ble_eq_true rfl) dX12_isVisible_17
  ·
    replace hw := hw.2 c1
    refine lv_iload_n hx hb dX12_isVisible_6 rfl (lv_at hl 0 rfl) ?_
    refine lv_bipush (v := I 126) hx hb dX12_isVisible_7 (by decide) ?_
    refine bi_icmp_gt (tgt := 16) hx hb r_n0 (by decide) dX12_isVisible_9 (by decide) (fun c2 => ?_) (fun c2 => ?_)
    ·
      replace hw := hw.1 c2
      refine lv_iconst (v := I 0) hx hb dX12_isVisible_16 rfl ?_
      exact xrz hx hb hr (by decide) hlk hP hK hD hS ⟨_, (by decide), rfl, rfl, hw⟩ (Nat.le_of_ble_eq_true rfl) (Nat.le_of_ble_eq_true rfl) dX12_isVisible_17
    ·
      replace hw := hw.2 c2
      refine lv_iconst (v := I 1) hx hb dX12_isVisible_12 rfl ?_
      refine lv_goto (tgt := 17) hx hb dX12_isVisible_13 (by decide) ?_
      exact xrz hx hb hr (by decide) hlk hP hK hD hS ⟨_, (by decide), rfl, rfl, hw⟩ (Nat.le_of_ble_eq_true rfl) (Nat.le_of_ble_eq_true rfl) dX12_isVisible_17
def W_X12_tokenEnd_q13 (n1 : Int) (n2 : Int) (σ : S0) (Q : Int → Prop) : Prop :=
  ∀ (P2 : Int → Int → Prop),
  (∀ (u2 : Int) (u3 : Int), ((u2 ≤ u3 → Q u3) ∧ (u3 < u2 → (0 ≤ u3 ∧ u3 < 60000) ∧ (∀ (x3 : Int), rg x3 → x3 = σ.2.1 0 u3 → (∃ (Q4 : Int → Prop), W_X12_isVisible x3 σ Q4 ∧ ∀ (x5 : Int), rg x5 → Q4 x5 → ((x5 = 0 → Q u3) ∧ (¬ x5 = 0 → rg (u3 + 1) ∧ P2 u2 (u3 + 1))))))) → P2 u2 u3) →
  P2 n2 n1
set_option maxRecDepth 100000 in
set_option maxHeartbeats 4000000 in
theorem L_X12_tokenEnd_q13 (l : Launch) (g : gG) (q : Nat → Nat) (lb : Nat) (hlb : lb < 2 ^ 31) {n1 : Int} {n2 : Int} {σ : S0} {Q : Int → Prop} (r_n1 : rg n1) (r_n2 : rg n2) (hN : n_m σ) (hw : W_X12_tokenEnd_q13 n1 n2 σ Q) (sz : Nat) : MetI l yX12_tokenEnd cX12_tokenEnd 4 (some .int) { frames := 1, cells := 0, slots := 0, locals := 20 } g [.ref (q 13), .int (I n1), .int (I n2)] (CX g q lb σ) sz xT (p_i (CX g q lb) σ Q) 0 0 := by
  refine mkMet (Qc := fun A => QI g A (p_i (CX g q lb) σ Q)) (by decide) (Nat.le_of_ble_eq_true rfl) ?_
  intro p e s m below meth c A H ls hx hb hr hml hown hts hlk hnm hsz hP hK hNb hD hA hAe hS hX hl
  have hl : lv_has ls 4 [(0, .ref (q 13)), (1, .int (I n1)), (2, .int (I n2))] := hl
  have hB := hN
  obtain ⟨locs, hlocs⟩ : ∃ z : List Loc, z = [] := ⟨_, rfl⟩
  rw [← hlocs] at hS ⊢
  obtain ⟨P2, hP2⟩ : ∃ P : Int → Int → Prop, ∀ (u2 : Int) (u3 : Int), (P u2 u3 ↔ (rg u2 → rg u3 → ∀ (H : Heap) (locs : List Loc) (ls : Array Slot), KP g (CX g q lb σ) H → va_D A (CX g q lb σ) → va_S A s.heap H locs → lv_has ls 4 [(0, .ref (q 13)), (2, .int (I u2)), (3, .int (I u3))] → W p l e ({ frames := 1, cells := 0, slots := 0, locals := 20 }) s m [.ref (q 13), .int (I n1), .int (I n2)].toArray below meth c H locs 0 0 (MQ below (QI g A (p_i (CX g q lb) σ Q)) [.ref (q 13), .int (I n1), .int (I n2)].toArray s 0 0 A) (F0 m 2 ls []))) := ⟨_, fun _ _ => Iff.rfl⟩
  refine (fun hw => ?_) (hw P2 ?_)
  ·
    refine lv_iload_n hx hb dX12_tokenEnd_0 rfl (lv_at hl 1 rfl) ?_
    refine lv_istore_n (lv' := [(3, .int (I n1)), (0, .ref (q 13)), (1, .int (I n1)), (2, .int (I n2))]) hx hb dX12_tokenEnd_1 rfl hl (by decide) rfl (fun ls hl => ?_)
    exact (hP2 _ _).mp hw r_n2 r_n1  H locs ls hP hD hS (lv_sub hl [1, 3, 0] rfl)
  ·
    intro u2 u3 hw
    refine (hP2 _ _).mpr ?_
    intro r_u2 r_u3 H locs ls hP hD hS hl
    refine lv_iload_n hx hb dX12_tokenEnd_2 rfl (lv_at hl 2 rfl) ?_
    refine lv_iload_n hx hb dX12_tokenEnd_3 rfl (lv_at hl 1 rfl) ?_
    refine bi_icmp_ge (tgt := 22) hx hb r_u3 r_u2 dX12_tokenEnd_4 (by decide) (fun c1 => ?_) (fun c1 => ?_)
    ·
      replace hw := hw.1 c1
      refine lv_iload_n hx hb dX12_tokenEnd_22 rfl (lv_at hl 2 rfl) ?_
      exact xri hx hb hr hlk hP hK hD hS ⟨_, r_u3, rfl, rfl, hw⟩ (Nat.le_of_ble_eq_true rfl) (Nat.le_of_ble_eq_true rfl) dX12_tokenEnd_23
    ·
      replace hw := hw.2 c1
      refine lv_aload_n hx hb dX12_tokenEnd_7 rfl (lv_at hl 0 rfl) ?_
      refine lv_iload_n hx hb dX12_tokenEnd_8 rfl (lv_at hl 2 rfl) ?_
      obtain ⟨c2, hw⟩ := hw
      refine ldCX12_tape hx hb hK hP hN c2 dX12_tokenEnd_9 (fun x3 r_x3 e_x3 => ?_)
      replace hw := hw x3 r_x3 e_x3
      obtain ⟨Q4, hc, hw⟩ := hw
      refine wc_i (X := CX g q lb) (va_runS (As := [.int (I x3)]) (rest := []) ⟨hx, hb, hml, hown, hts⟩ (L_X12_isVisible l g q lb hlb r_x3 hN hc H.size) (cwS 1 hts (TB_S tw_982 tw_983 tw_1 co_X12_isVisible) rfl rfl rfl (by decide +kernel) ⟨Nat.le_of_ble_eq_true rfl, Nat.le_of_ble_eq_true rfl⟩) (preS xT_bl hP hK hNb hD xT_at) rfl rfl hl.1 rfl (lv_room (Nat.le_of_ble_eq_true rfl)) dX12_tokenEnd_10 ⟨Nat.le_of_ble_eq_true rfl, Nat.le_of_ble_eq_true rfl⟩) hP hD hS hA (fun x5 H locs r_x5 hq hP hD hS => ?_)
      replace hw := hw x5 r_x5 hq
      refine bi_if_eq (tgt := 22) hx hb r_x5 dX12_tokenEnd_13 (by decide) (fun c7 => ?_) (fun c7 => ?_)
      ·
        replace hw := hw.1 c7
        refine lv_iload_n hx hb dX12_tokenEnd_22 rfl (lv_at hl 2 rfl) ?_
        exact xri hx hb hr hlk hP hK hD hS ⟨_, r_u3, rfl, rfl, hw⟩ (Nat.le_of_ble_eq_true rfl) (Nat.le_of_ble_eq_true rfl) dX12_tokenEnd_23
      ·
        replace hw := hw.2 c7
        refine lv_iinc (v := I (u3 + 1)) (lv' := [(3, .int (I (u3 + 1))), (0, .ref (q 13)), (2, .int (I u2))]) hx hb dX12_tokenEnd_16 hl (k := 2) rfl (I_add _ _) (by decide) rfl (fun ls hl => ?_)
        refine lv_goto (tgt := 2) hx hb dX12_tokenEnd_19 (by decide) ?_
        obtain ⟨c8, hw⟩ := hw
        exact (hP2 _ _).mp hw r_u2 c8  H locs ls hP hD hS (lv_sub hl [1, 2, 0] rfl)
def W_X7_readText_q13 (n2 : Int) (σ : S0) (Q : Int → S0 → Prop) : Prop :=
  ∀ (P18 : Int → Int → Int → Int → S0 → Prop) (P71 : Int → Int → Int → Int → S0 → Prop) (P90 : Int → Int → Int → Int → S0 → Prop) (P105 : Int → Int → S0 → Prop) (P119 : Int → S0 → Prop),
  (∀ (u2 : Int) (u3 : Int) (u4 : Int) (u5 : Int) (τ : S0), ((u2 ≤ u5 → P105 u2 u3 τ) ∧ (u5 < u2 → (u2 ≤ u4 → P105 u2 u3 τ) ∧ (u4 < u2 → (¬ u3 = 0 → P105 u2 u3 τ) ∧ (u3 = 0 → ∃ (Q10 : Int → Prop), W_X12_tokenEnd_q13 u4 u2 τ Q10 ∧ ∀ (x11 : Int), rg x11 → Q10 x11 → ((¬ x11 = u4 → rg (x11 - u4) ∧ ∃ (Q15 : Int → S0 → Prop), W_X7_token u4 (x11 - u4) (s_v τ 33 u4) Q15 ∧ ∀ (x16 : Int) (τ17 : S0), rg x16 → n_m τ17 → f_r [3, 4, 5, 6, 7, 8, 9, 10, 11, 12, 13, 14, 21, 22, 23, 24, 25, 26, 27, 28, 29, 33, 34, 35, 36, 37, 38, 39] [2, 3, 4, 5, 6, 7, 8, 9, 10, 11, 12, 13, 14, 15, 16, 18, 19, 20, 21, 22, 23, 24, 25, 26, 27, 28, 29, 30, 31, 32, 49, 50, 51, 54] [0, 2] (s_v τ 33 u4) τ17 → Q15 x16 τ17 → (P71 u2 u5 x11 x16 τ17)) ∧ (x11 = u4 → P71 u2 u5 x11 1 (s_v τ 33 u4))))))) → P18 u2 u3 u4 u5 τ) →
  (∀ (u2 : Int) (u5 : Int) (u6 : Int) (k0 : Int) (τ : S0), ((¬ k0 = 0 → P90 u2 k0 u5 u6 τ) ∧ (k0 = 0 → (¬ τ.1 35 = 7 → P90 u2 k0 u5 u6 τ) ∧ (τ.1 35 = 7 → ∃ (Q24 : Int → S0 → Prop), W_X7_endTheorem τ Q24 ∧ ∀ (x25 : Int) (τ26 : S0), rg x25 → n_m τ26 → f_r [7, 15, 16, 17, 18, 19, 20, 23, 29, 30, 31, 32, 33, 35] [9, 13, 33, 34, 35, 36, 37, 39, 40, 41, 42, 43, 44, 45, 46, 47, 48, 52, 53] [1, 2] τ τ26 → Q24 x25 τ26 → (P90 u2 x25 u5 u6 τ26)))) → P71 u2 u5 u6 k0 τ) →
  (∀ (u2 : Int) (u3 : Int) (u5 : Int) (u6 : Int) (τ : S0), (∃ (Q37 : Int → Prop), W_X12_skipBlanks_q13 u6 u2 τ Q37 ∧ ∀ (x38 : Int), rg x38 → Q37 x38 → (rg (u5 + 1) ∧ P18 u2 u3 x38 (u5 + 1) τ)) → P90 u2 u3 u5 u6 τ) →
  (∀ (u2 : Int) (u3 : Int) (τ : S0), ((¬ u3 = 0 → P119 u3 τ) ∧ (u3 = 0 → ∃ (Q19 : Int → Prop), W_X7_faultAtEnd (s_v τ 33 u2) Q19 ∧ ∀ (x20 : Int), rg x20 → Q19 x20 → (P119 x20 (s_v τ 33 u2)))) → P105 u2 u3 τ) →
  (∀ (u3 : Int) (τ : S0), ((u3 = 0 → Q u3 τ) ∧ (¬ u3 = 0 → ∃ (Q28 : S0 → Prop), W_X3_goBack τ Q28 ∧ ∀ (τ30 : S0), n_m τ30 → f_r [3, 4, 5, 6, 7] [6, 9, 10] [] τ τ30 → Q28 τ30 → (∃ (Q31 : S0 → Prop), W_X0_goBack τ30 Q31 ∧ ∀ (τ33 : S0), n_m τ33 → f_r [13, 14, 15, 16] [] [] τ30 τ33 → Q31 τ33 → (∃ (Q34 : S0 → Prop), W_X9_goBack τ33 Q34 ∧ ∀ (τ36 : S0), n_m τ36 → f_r [8, 9, 10, 11] [18, 19, 21] [0] τ33 τ36 → Q34 τ36 → (Q u3 τ36))))) → P119 u3 τ) →
  ∃ (Q1 : S0 → Prop), W_X7_begin_q13 σ Q1 ∧ ∀ (τ3 : S0), n_m τ3 → f_r [11, 34, 35, 66] [17, 25, 38] [] σ τ3 → Q1 τ3 → (∃ (Q4 : Int → Prop), W_X12_skipBlanks_q13 0 n2 τ3 Q4 ∧ ∀ (x5 : Int), rg x5 → Q4 x5 → (P18 n2 0 x5 0 τ3))
set_option maxRecDepth 100000 in
set_option maxHeartbeats 4000000 in
theorem L_X7_readText_q13 (l : Launch) (g : gG) (q : Nat → Nat) (lb : Nat) (hlb : lb < 2 ^ 31) {n2 : Int} {σ : S0} {Q : Int → S0 → Prop} (r_n2 : rg n2) (hN : n_m σ) (hw : W_X7_readText_q13 n2 σ Q) (sz : Nat) : MetI l yX7_readText cX7_readText 7 (some .int) { frames := 6, cells := 0, slots := 0, locals := 190 } g [.ref (q 6), .ref (q 13), .int (I n2)] (CX g q lb σ) sz xT (p_I (CX g q lb) [3, 4, 5, 6, 7, 8, 9, 10, 11, 12, 13, 14, 15, 16, 17, 18, 19, 20, 21, 22, 23, 24, 25, 26, 27, 28, 29, 30, 31, 32, 33, 34, 35, 36, 37, 38, 39, 66] [2, 3, 4, 5, 6, 7, 8, 9, 10, 11, 12, 13, 14, 15, 16, 17, 18, 19, 20, 21, 22, 23, 24, 25, 26, 27, 28, 29, 30, 31, 32, 33, 34, 35, 36, 37, 38, 39, 40, 41, 42, 43, 44, 45, 46, 47, 48, 49, 50, 51, 52, 53, 54] [0, 1, 2] σ Q) 0 0 := by
  refine mkMet (Qc := fun A => QI g A (p_I (CX g q lb) [3, 4, 5, 6, 7, 8, 9, 10, 11, 12, 13, 14, 15, 16, 17, 18, 19, 20, 21, 22, 23, 24, 25, 26, 27, 28, 29, 30, 31, 32, 33, 34, 35, 36, 37, 38, 39, 66] [2, 3, 4, 5, 6, 7, 8, 9, 10, 11, 12, 13, 14, 15, 16, 17, 18, 19, 20, 21, 22, 23, 24, 25, 26, 27, 28, 29, 30, 31, 32, 33, 34, 35, 36, 37, 38, 39, 40, 41, 42, 43, 44, 45, 46, 47, 48, 49, 50, 51, 52, 53, 54] [0, 1, 2] σ Q)) (by decide) (Nat.le_of_ble_eq_true rfl) ?_
  intro p e s m below meth c A H ls hx hb hr hml hown hts hlk hnm hsz hP hK hNb hD hA hAe hS hX hl
  have hl : lv_has ls 7 [(0, .ref (q 6)), (1, .ref (q 13)), (2, .int (I n2))] := hl
  have hB := hN
  have hF : f_r [3, 4, 5, 6, 7, 8, 9, 10, 11, 12, 13, 14, 15, 16, 17, 18, 19, 20, 21, 22, 23, 24, 25, 26, 27, 28, 29, 30, 31, 32, 33, 34, 35, 36, 37, 38, 39, 66] [2, 3, 4, 5, 6, 7, 8, 9, 10, 11, 12, 13, 14, 15, 16, 17, 18, 19, 20, 21, 22, 23, 24, 25, 26, 27, 28, 29, 30, 31, 32, 33, 34, 35, 36, 37, 38, 39, 40, 41, 42, 43, 44, 45, 46, 47, 48, 49, 50, 51, 52, 53, 54] [0, 1, 2] σ σ := f_0
  obtain ⟨locs, hlocs⟩ : ∃ z : List Loc, z = [] := ⟨_, rfl⟩
  rw [← hlocs] at hS ⊢
  obtain ⟨P18, hP18⟩ : ∃ P : Int → Int → Int → Int → S0 → Prop, ∀ (u2 : Int) (u3 : Int) (u4 : Int) (u5 : Int) (τ : S0), (P u2 u3 u4 u5 τ ↔ (rg u2 → rg u3 → rg u4 → rg u5 → n_m τ → f_r [3, 4, 5, 6, 7, 8, 9, 10, 11, 12, 13, 14, 15, 16, 17, 18, 19, 20, 21, 22, 23, 24, 25, 26, 27, 28, 29, 30, 31, 32, 33, 34, 35, 36, 37, 38, 39, 66] [2, 3, 4, 5, 6, 7, 8, 9, 10, 11, 12, 13, 14, 15, 16, 17, 18, 19, 20, 21, 22, 23, 24, 25, 26, 27, 28, 29, 30, 31, 32, 33, 34, 35, 36, 37, 38, 39, 40, 41, 42, 43, 44, 45, 46, 47, 48, 49, 50, 51, 52, 53, 54] [0, 1, 2] σ τ → ∀ (H : Heap) (locs : List Loc) (ls : Array Slot), KP g (CX g q lb τ) H → va_D A (CX g q lb τ) → va_S A s.heap H locs → lv_has ls 7 [(0, .ref (q 6)), (1, .ref (q 13)), (2, .int (I u2)), (3, .int (I u3)), (4, .int (I u4)), (5, .int (I u5))] → W p l e ({ frames := 6, cells := 0, slots := 0, locals := 190 }) s m [.ref (q 6), .ref (q 13), .int (I n2)].toArray below meth c H locs 0 0 (MQ below (QI g A (p_I (CX g q lb) [3, 4, 5, 6, 7, 8, 9, 10, 11, 12, 13, 14, 15, 16, 17, 18, 19, 20, 21, 22, 23, 24, 25, 26, 27, 28, 29, 30, 31, 32, 33, 34, 35, 36, 37, 38, 39, 66] [2, 3, 4, 5, 6, 7, 8, 9, 10, 11, 12, 13, 14, 15, 16, 17, 18, 19, 20, 21, 22, 23, 24, 25, 26, 27, 28, 29, 30, 31, 32, 33, 34, 35, 36, 37, 38, 39, 40, 41, 42, 43, 44, 45, 46, 47, 48, 49, 50, 51, 52, 53, 54] [0, 1, 2] σ Q)) [.ref (q 6), .ref (q 13), .int (I n2)].toArray s 0 0 A) (F0 m 18 ls []))) := ⟨_, fun _ _ _ _ _ => Iff.rfl⟩
  obtain ⟨P71, hP71⟩ : ∃ P : Int → Int → Int → Int → S0 → Prop, ∀ (u2 : Int) (u5 : Int) (u6 : Int) (k0 : Int) (τ : S0), (P u2 u5 u6 k0 τ ↔ (rg u2 → rg u5 → rg u6 → rg k0 → n_m τ → f_r [3, 4, 5, 6, 7, 8, 9, 10, 11, 12, 13, 14, 15, 16, 17, 18, 19, 20, 21, 22, 23, 24, 25, 26, 27, 28, 29, 30, 31, 32, 33, 34, 35, 36, 37, 38, 39, 66] [2, 3, 4, 5, 6, 7, 8, 9, 10, 11, 12, 13, 14, 15, 16, 17, 18, 19, 20, 21, 22, 23, 24, 25, 26, 27, 28, 29, 30, 31, 32, 33, 34, 35, 36, 37, 38, 39, 40, 41, 42, 43, 44, 45, 46, 47, 48, 49, 50, 51, 52, 53, 54] [0, 1, 2] σ τ → ∀ (H : Heap) (locs : List Loc) (ls : Array Slot), KP g (CX g q lb τ) H → va_D A (CX g q lb τ) → va_S A s.heap H locs → lv_has ls 7 [(0, .ref (q 6)), (1, .ref (q 13)), (2, .int (I u2)), (5, .int (I u5)), (6, .int (I u6))] → W p l e ({ frames := 6, cells := 0, slots := 0, locals := 190 }) s m [.ref (q 6), .ref (q 13), .int (I n2)].toArray below meth c H locs 0 0 (MQ below (QI g A (p_I (CX g q lb) [3, 4, 5, 6, 7, 8, 9, 10, 11, 12, 13, 14, 15, 16, 17, 18, 19, 20, 21, 22, 23, 24, 25, 26, 27, 28, 29, 30, 31, 32, 33, 34, 35, 36, 37, 38, 39, 66] [2, 3, 4, 5, 6, 7, 8, 9, 10, 11, 12, 13, 14, 15, 16, 17, 18, 19, 20, 21, 22, 23, 24, 25, 26, 27, 28, 29, 30, 31, 32, 33, 34, 35, 36, 37, 38, 39, 40, 41, 42, 43, 44, 45, 46, 47, 48, 49, 50, 51, 52, 53, 54] [0, 1, 2] σ Q)) [.ref (q 6), .ref (q 13), .int (I n2)].toArray s 0 0 A) (F0 m 71 ls [.int (I k0)]))) := ⟨_, fun _ _ _ _ _ => Iff.rfl⟩
  obtain ⟨P90, hP90⟩ : ∃ P : Int → Int → Int → Int → S0 → Prop, ∀ (u2 : Int) (u3 : Int) (u5 : Int) (u6 : Int) (τ : S0), (P u2 u3 u5 u6 τ ↔ (rg u2 → rg u3 → rg u5 → rg u6 → n_m τ → f_r [3, 4, 5, 6, 7, 8, 9, 10, 11, 12, 13, 14, 15, 16, 17, 18, 19, 20, 21, 22, 23, 24, 25, 26, 27, 28, 29, 30, 31, 32, 33, 34, 35, 36, 37, 38, 39, 66] [2, 3, 4, 5, 6, 7, 8, 9, 10, 11, 12, 13, 14, 15, 16, 17, 18, 19, 20, 21, 22, 23, 24, 25, 26, 27, 28, 29, 30, 31, 32, 33, 34, 35, 36, 37, 38, 39, 40, 41, 42, 43, 44, 45, 46, 47, 48, 49, 50, 51, 52, 53, 54] [0, 1, 2] σ τ → ∀ (H : Heap) (locs : List Loc) (ls : Array Slot), KP g (CX g q lb τ) H → va_D A (CX g q lb τ) → va_S A s.heap H locs → lv_has ls 7 [(0, .ref (q 6)), (1, .ref (q 13)), (2, .int (I u2)), (3, .int (I u3)), (5, .int (I u5)), (6, .int (I u6))] → W p l e ({ frames := 6, cells := 0, slots := 0, locals := 190 }) s m [.ref (q 6), .ref (q 13), .int (I n2)].toArray below meth c H locs 0 0 (MQ below (QI g A (p_I (CX g q lb) [3, 4, 5, 6, 7, 8, 9, 10, 11, 12, 13, 14, 15, 16, 17, 18, 19, 20, 21, 22, 23, 24, 25, 26, 27, 28, 29, 30, 31, 32, 33, 34, 35, 36, 37, 38, 39, 66] [2, 3, 4, 5, 6, 7, 8, 9, 10, 11, 12, 13, 14, 15, 16, 17, 18, 19, 20, 21, 22, 23, 24, 25, 26, 27, 28, 29, 30, 31, 32, 33, 34, 35, 36, 37, 38, 39, 40, 41, 42, 43, 44, 45, 46, 47, 48, 49, 50, 51, 52, 53, 54] [0, 1, 2] σ Q)) [.ref (q 6), .ref (q 13), .int (I n2)].toArray s 0 0 A) (F0 m 90 ls []))) := ⟨_, fun _ _ _ _ _ => Iff.rfl⟩
  obtain ⟨P105, hP105⟩ : ∃ P : Int → Int → S0 → Prop, ∀ (u2 : Int) (u3 : Int) (τ : S0), (P u2 u3 τ ↔ (rg u2 → rg u3 → n_m τ → f_r [3, 4, 5, 6, 7, 8, 9, 10, 11, 12, 13, 14, 15, 16, 17, 18, 19, 20, 21, 22, 23, 24, 25, 26, 27, 28, 29, 30, 31, 32, 33, 34, 35, 36, 37, 38, 39, 66] [2, 3, 4, 5, 6, 7, 8, 9, 10, 11, 12, 13, 14, 15, 16, 17, 18, 19, 20, 21, 22, 23, 24, 25, 26, 27, 28, 29, 30, 31, 32, 33, 34, 35, 36, 37, 38, 39, 40, 41, 42, 43, 44, 45, 46, 47, 48, 49, 50, 51, 52, 53, 54] [0, 1, 2] σ τ → ∀ (H : Heap) (locs : List Loc) (ls : Array Slot), KP g (CX g q lb τ) H → va_D A (CX g q lb τ) → va_S A s.heap H locs → lv_has ls 7 [(0, .ref (q 6)), (2, .int (I u2)), (3, .int (I u3))] → W p l e ({ frames := 6, cells := 0, slots := 0, locals := 190 }) s m [.ref (q 6), .ref (q 13), .int (I n2)].toArray below meth c H locs 0 0 (MQ below (QI g A (p_I (CX g q lb) [3, 4, 5, 6, 7, 8, 9, 10, 11, 12, 13, 14, 15, 16, 17, 18, 19, 20, 21, 22, 23, 24, 25, 26, 27, 28, 29, 30, 31, 32, 33, 34, 35, 36, 37, 38, 39, 66] [2, 3, 4, 5, 6, 7, 8, 9, 10, 11, 12, 13, 14, 15, 16, 17, 18, 19, 20, 21, 22, 23, 24, 25, 26, 27, 28, 29, 30, 31, 32, 33, 34, 35, 36, 37, 38, 39, 40, 41, 42, 43, 44, 45, 46, 47, 48, 49, 50, 51, 52, 53, 54] [0, 1, 2] σ Q)) [.ref (q 6), .ref (q 13), .int (I n2)].toArray s 0 0 A) (F0 m 105 ls []))) := ⟨_, fun _ _ _ => Iff.rfl⟩
  obtain ⟨P119, hP119⟩ : ∃ P : Int → S0 → Prop, ∀ (u3 : Int) (τ : S0), (P u3 τ ↔ (rg u3 → n_m τ → f_r [3, 4, 5, 6, 7, 8, 9, 10, 11, 12, 13, 14, 15, 16, 17, 18, 19, 20, 21, 22, 23, 24, 25, 26, 27, 28, 29, 30, 31, 32, 33, 34, 35, 36, 37, 38, 39, 66] [2, 3, 4, 5, 6, 7, 8, 9, 10, 11, 12, 13, 14, 15, 16, 17, 18, 19, 20, 21, 22, 23, 24, 25, 26, 27, 28, 29, 30, 31, 32, 33, 34, 35, 36, 37, 38, 39, 40, 41, 42, 43, 44, 45, 46, 47, 48, 49, 50, 51, 52, 53, 54] [0, 1, 2] σ τ → ∀ (H : Heap) (locs : List Loc) (ls : Array Slot), KP g (CX g q lb τ) H → va_D A (CX g q lb τ) → va_S A s.heap H locs → lv_has ls 7 [(0, .ref (q 6)), (3, .int (I u3))] → W p l e ({ frames := 6, cells := 0, slots := 0, locals := 190 }) s m [.ref (q 6), .ref (q 13), .int (I n2)].toArray below meth c H locs 0 0 (MQ below (QI g A (p_I (CX g q lb) [3, 4, 5, 6, 7, 8, 9, 10, 11, 12, 13, 14, 15, 16, 17, 18, 19, 20, 21, 22, 23, 24, 25, 26, 27, 28, 29, 30, 31, 32, 33, 34, 35, 36, 37, 38, 39, 66] [2, 3, 4, 5, 6, 7, 8, 9, 10, 11, 12, 13, 14, 15, 16, 17, 18, 19, 20, 21, 22, 23, 24, 25, 26, 27, 28, 29, 30, 31, 32, 33, 34, 35, 36, 37, 38, 39, 40, 41, 42, 43, 44, 45, 46, 47, 48, 49, 50, 51, 52, 53, 54] [0, 1, 2] σ Q)) [.ref (q 6), .ref (q 13), .int (I n2)].toArray s 0 0 A) (F0 m 119 ls []))) := ⟨_, fun _ _ => Iff.rfl⟩
  refine (fun hw => ?_) (hw P18 P71 P90 P105 P119 ?_ ?_ ?_ ?_ ?_)
  ·
    refine lv_aload_n hx hb dX7_readText_0 rfl (lv_at hl 0 rfl) ?_
    refine lv_aload_n hx hb dX7_readText_1 rfl (lv_at hl 1 rfl) ?_
    obtain ⟨Q1, hc, hw⟩ := hw
    refine wc_V (X := CX g q lb) (va_runV (As := [.ref (q 13)]) (rest := []) ⟨hx, hb, hml, hown, hts⟩ (L_X7_begin_q13 l g q lb hlb  hN hc H.size) (cwV 1 hts (TB_V tw_953 tw_955 ts_1 tw_7 co_X7_begin) rfl rfl rfl (by decide +kernel) ⟨Nat.le_of_ble_eq_true rfl, Nat.le_of_ble_eq_true rfl⟩) (preV (q0 := 6) (ci := 7) rfl xT_bl hP hK hNb hD rfl rfl xT_at) rfl rfl hl.1 rfl (lv_room (Nat.le_of_ble_eq_true rfl)) dX7_readText_2 ⟨Nat.le_of_ble_eq_true rfl, Nat.le_of_ble_eq_true rfl⟩) hP hD hS hA (fun τ3 H locs hN hf hq hP hD hS => ?_)
    replace hw := hw τ3 hN hf hq
    have hF : f_r [3, 4, 5, 6, 7, 8, 9, 10, 11, 12, 13, 14, 15, 16, 17, 18, 19, 20, 21, 22, 23, 24, 25, 26, 27, 28, 29, 30, 31, 32, 33, 34, 35, 36, 37, 38, 39, 66] [2, 3, 4, 5, 6, 7, 8, 9, 10, 11, 12, 13, 14, 15, 16, 17, 18, 19, 20, 21, 22, 23, 24, 25, 26, 27, 28, 29, 30, 31, 32, 33, 34, 35, 36, 37, 38, 39, 40, 41, 42, 43, 44, 45, 46, 47, 48, 49, 50, 51, 52, 53, 54] [0, 1, 2] σ τ3 := f_t hF hf (by decide) (by decide) (by decide)
    have hB := hN
    refine lv_iconst (v := I 0) hx hb dX7_readText_5 rfl ?_
    refine lv_istore_n (lv' := [(3, .int (I 0)), (0, .ref (q 6)), (1, .ref (q 13)), (2, .int (I n2))]) hx hb dX7_readText_6 rfl hl (by decide) rfl (fun ls hl => ?_)
    refine lv_aload_n hx hb dX7_readText_7 rfl (lv_at hl 2 rfl) ?_
    refine lv_iconst (v := I 0) hx hb dX7_readText_8 rfl ?_
    refine lv_iload_n hx hb dX7_readText_9 rfl (lv_at hl 3 rfl) ?_
    obtain ⟨Q4, hc, hw⟩ := hw
    refine wc_i (X := CX g q lb) (va_runSN (As := [.ref (q 13), .int (I 0), .int (I n2)]) (rest := []) ⟨hx, hb, hml, hown, hts⟩ (L_X12_skipBlanks_q13 l g q lb hlb (by decide) r_n2 hN hc H.size) ⟨va_cnB 3 hts (TB_code co_X12_skipBlanks) rfl rfl rfl (hNb _ tn_973) (hts _ tw_1) (by decide +kernel) ⟨Nat.le_of_ble_eq_true rfl, Nat.le_of_ble_eq_true rfl⟩, hts _ tw_974, trivial⟩ (preS xT_bl hP hK hNb hD xT_at) rfl rfl hl.1 rfl (lv_room (Nat.le_of_ble_eq_true rfl)) dX7_readText_10 ⟨Nat.le_of_ble_eq_true rfl, Nat.le_of_ble_eq_true rfl⟩) hP hD hS hA (fun x5 H locs r_x5 hq hP hD hS => ?_)
    replace hw := hw x5 r_x5 hq
    refine lv_istore (lv' := [(4, .int (I x5)), (3, .int (I 0)), (0, .ref (q 6)), (1, .ref (q 13)), (2, .int (I n2))]) hx hb dX7_readText_13 hl (by decide) rfl (fun ls hl => ?_)
    refine lv_iconst (v := I 0) hx hb dX7_readText_15 rfl ?_
    refine lv_istore (lv' := [(5, .int (I 0)), (4, .int (I x5)), (3, .int (I 0)), (0, .ref (q 6)), (1, .ref (q 13)), (2, .int (I n2))]) hx hb dX7_readText_16 hl (by decide) rfl (fun ls hl => ?_)
    exact (hP18 _ _ _ _ _).mp hw r_n2 (by decide) r_x5 (by decide) hN hF H locs ls hP hD hS (lv_sub hl [3, 4, 5, 2, 1, 0] rfl)
  ·
    intro u2 u3 u4 u5 τ hw
    refine (hP18 _ _ _ _ _).mpr ?_
    intro r_u2 r_u3 r_u4 r_u5 hN hF H locs ls hP hD hS hl
    have hB := hN
    refine lv_iload hx hb dX7_readText_18 (lv_at hl 5 rfl) ?_
    refine lv_iload_n hx hb dX7_readText_20 rfl (lv_at hl 2 rfl) ?_
    refine bi_icmp_ge (tgt := 105) hx hb r_u5 r_u2 dX7_readText_21 (by decide) (fun c7 => ?_) (fun c7 => ?_)
    ·
      replace hw := hw.1 c7
      exact (hP105 _ _ _).mp hw r_u2 r_u3 hN hF H locs ls hP hD hS (lv_sub hl [0, 2, 3] rfl)
    ·
      replace hw := hw.2 c7
      refine lv_iload hx hb dX7_readText_24 (lv_at hl 4 rfl) ?_
      refine lv_iload_n hx hb dX7_readText_26 rfl (lv_at hl 2 rfl) ?_
      refine bi_icmp_ge (tgt := 105) hx hb r_u4 r_u2 dX7_readText_27 (by decide) (fun c8 => ?_) (fun c8 => ?_)
      ·
        replace hw := hw.1 c8
        exact (hP105 _ _ _).mp hw r_u2 r_u3 hN hF H locs ls hP hD hS (lv_sub hl [0, 2, 3] rfl)
      ·
        replace hw := hw.2 c8
        refine lv_iload_n hx hb dX7_readText_30 rfl (lv_at hl 3 rfl) ?_
        refine bi_if_ne (tgt := 105) hx hb r_u3 dX7_readText_31 (by decide) (fun c9 => ?_) (fun c9 => ?_)
        ·
          replace hw := hw.1 c9
          exact (hP105 _ _ _).mp hw r_u2 r_u3 hN hF H locs ls hP hD hS (lv_sub hl [0, 2, 3] rfl)
        ·
          replace hw := hw.2 c9
          refine lv_aload_n hx hb dX7_readText_34 rfl (lv_at hl 1 rfl) ?_
          refine lv_iload hx hb dX7_readText_35 (lv_at hl 4 rfl) ?_
          refine lv_iload_n hx hb dX7_readText_37 rfl (lv_at hl 2 rfl) ?_
          obtain ⟨Q10, hc, hw⟩ := hw
          refine wc_i (X := CX g q lb) (va_runSN (As := [.ref (q 13), .int (I u4), .int (I u2)]) (rest := []) ⟨hx, hb, hml, hown, hts⟩ (L_X12_tokenEnd_q13 l g q lb hlb r_u4 r_u2 hN hc H.size) ⟨va_cnB 3 hts (TB_code co_X12_tokenEnd) rfl rfl rfl (hNb _ tn_979) (hts _ tw_1) (by decide +kernel) ⟨Nat.le_of_ble_eq_true rfl, Nat.le_of_ble_eq_true rfl⟩, hts _ tw_980, trivial⟩ (preS xT_bl hP hK hNb hD xT_at) rfl rfl hl.1 rfl (lv_room (Nat.le_of_ble_eq_true rfl)) dX7_readText_38 ⟨Nat.le_of_ble_eq_true rfl, Nat.le_of_ble_eq_true rfl⟩) hP hD hS hA (fun x11 H locs r_x11 hq hP hD hS => ?_)
          replace hw := hw x11 r_x11 hq
          refine lv_istore (lv' := [(6, .int (I x11)), (0, .ref (q 6)), (1, .ref (q 13)), (2, .int (I u2)), (3, .int (I u3)), (4, .int (I u4)), (5, .int (I u5))]) hx hb dX7_readText_41 hl (by decide) rfl (fun ls hl => ?_)
          refine lv_aload_n hx hb dX7_readText_43 rfl (lv_at hl 1 rfl) ?_
          refine lv_iload hx hb dX7_readText_44 (lv_at hl 5 rfl) ?_
          refine pfX7_place hx hb hts hK hP hD hS hown (hts _ tw_490) dX7_readText_46 (fun H locs hP hD hS => ?_)
          have hN : n_m (s_v τ 33 u4) := n_v (i := 33) hN (r_u4 : rg u4)
          have hF : f_r [3, 4, 5, 6, 7, 8, 9, 10, 11, 12, 13, 14, 15, 16, 17, 18, 19, 20, 21, 22, 23, 24, 25, 26, 27, 28, 29, 30, 31, 32, 33, 34, 35, 36, 37, 38, 39, 66] [2, 3, 4, 5, 6, 7, 8, 9, 10, 11, 12, 13, 14, 15, 16, 17, 18, 19, 20, 21, 22, 23, 24, 25, 26, 27, 28, 29, 30, 31, 32, 33, 34, 35, 36, 37, 38, 39, 40, 41, 42, 43, 44, 45, 46, 47, 48, 49, 50, 51, 52, 53, 54] [0, 1, 2] σ (s_v τ 33 u4) := f_v hF (by decide)
          refine lv_iload hx hb dX7_readText_49 (lv_at hl 0 rfl) ?_
          refine lv_iload hx hb dX7_readText_51 (lv_at hl 5 rfl) ?_
          refine bi_icmp_ne (tgt := 60) hx hb r_x11 r_u4 dX7_readText_53 (by decide) (fun c13 => ?_) (fun c13 => ?_)
          ·
            replace hw := hw.1 c13
            refine lv_aload_n hx hb dX7_readText_60 rfl (lv_at hl 1 rfl) ?_
            refine lv_iload hx hb dX7_readText_61 (lv_at hl 5 rfl) ?_
            refine lv_iload hx hb dX7_readText_63 (lv_at hl 0 rfl) ?_
            refine lv_iload hx hb dX7_readText_65 (lv_at hl 5 rfl) ?_
            refine bi_isub hx hb dX7_readText_67 ?_
            obtain ⟨c14, hw⟩ := hw
            obtain ⟨Q15, hc, hw⟩ := hw
            refine wc_I (X := CX g q lb) (va_runV (As := [.int (I u4), .int (I (x11 - u4))]) (rest := []) ⟨hx, hb, hml, hown, hts⟩ (L_X7_token l g q lb hlb r_u4 c14 hN hc H.size) (cwV 2 hts (TB_V tw_985 tw_987 ts_3 tw_7 co_X7_token) rfl rfl rfl (by decide +kernel) ⟨Nat.le_of_ble_eq_true rfl, Nat.le_of_ble_eq_true rfl⟩) (preV (q0 := 6) (ci := 7) rfl xT_bl hP hK hNb hD rfl rfl xT_at) rfl rfl hl.1 rfl (lv_room (Nat.le_of_ble_eq_true rfl)) dX7_readText_68 ⟨Nat.le_of_ble_eq_true rfl, Nat.le_of_ble_eq_true rfl⟩) hP hD hS hA (fun x16 τ17 H locs r_x16 hN hf hq hP hD hS => ?_)
            replace hw := hw x16 τ17 r_x16 hN hf hq
            have hF : f_r [3, 4, 5, 6, 7, 8, 9, 10, 11, 12, 13, 14, 15, 16, 17, 18, 19, 20, 21, 22, 23, 24, 25, 26, 27, 28, 29, 30, 31, 32, 33, 34, 35, 36, 37, 38, 39, 66] [2, 3, 4, 5, 6, 7, 8, 9, 10, 11, 12, 13, 14, 15, 16, 17, 18, 19, 20, 21, 22, 23, 24, 25, 26, 27, 28, 29, 30, 31, 32, 33, 34, 35, 36, 37, 38, 39, 40, 41, 42, 43, 44, 45, 46, 47, 48, 49, 50, 51, 52, 53, 54] [0, 1, 2] σ τ17 := f_t hF hf (by decide) (by decide) (by decide)
            have hB := hN
            exact (hP71 _ _ _ _ _).mp hw r_u2 r_u5 r_x11 r_x16 hN hF H locs ls hP hD hS (lv_sub hl [1, 2, 3, 6, 0] rfl)
          ·
            replace hw := hw.2 c13
            refine lv_iconst (v := I 1) hx hb dX7_readText_56 rfl ?_
            refine lv_goto (tgt := 71) hx hb dX7_readText_57 (by decide) ?_
            exact (hP71 _ _ _ _ _).mp hw r_u2 r_u5 r_x11 (by decide) hN hF H locs ls hP hD hS (lv_sub hl [1, 2, 3, 6, 0] rfl)
  ·
    intro u2 u5 u6 k0 τ hw
    refine (hP71 _ _ _ _ _).mpr ?_
    intro r_u2 r_u5 r_u6 r_k0 hN hF H locs ls hP hD hS hl
    have hB := hN
    refine lv_istore_n (lv' := [(3, .int (I k0)), (0, .ref (q 6)), (1, .ref (q 13)), (2, .int (I u2)), (5, .int (I u5)), (6, .int (I u6))]) hx hb dX7_readText_71 rfl hl (by decide) rfl (fun ls hl => ?_)
    refine lv_iload_n hx hb dX7_readText_72 rfl (lv_at hl 0 rfl) ?_
    refine bi_if_ne (tgt := 90) hx hb r_k0 dX7_readText_73 (by decide) (fun c22 => ?_) (fun c22 => ?_)
    ·
      replace hw := hw.1 c22
      exact (hP90 _ _ _ _ _).mp hw r_u2 r_k0 r_u5 r_u6 hN hF H locs ls hP hD hS (lv_sub hl [1, 2, 3, 0, 4, 5] rfl)
    ·
      replace hw := hw.2 c22
      refine lv_aload_n hx hb dX7_readText_76 rfl (lv_at hl 1 rfl) ?_
      refine gfX7_state hx hb hts hK hP hown (hts _ tw_493) (x := τ.1 35) rfl dX7_readText_77 ?_
      refine lv_bipush (v := I 7) hx hb dX7_readText_80 (by decide) ?_
      refine bi_icmp_ne (tgt := 90) hx hb (hB.1 35) (by decide) dX7_readText_82 (by decide) (fun c23 => ?_) (fun c23 => ?_)
      ·
        replace hw := hw.1 c23
        exact (hP90 _ _ _ _ _).mp hw r_u2 r_k0 r_u5 r_u6 hN hF H locs ls hP hD hS (lv_sub hl [1, 2, 3, 0, 4, 5] rfl)
      ·
        replace hw := hw.2 c23
        refine lv_aload_n hx hb dX7_readText_85 rfl (lv_at hl 1 rfl) ?_
        obtain ⟨Q24, hc, hw⟩ := hw
        refine wc_I (X := CX g q lb) (va_runV (As := []) (rest := []) ⟨hx, hb, hml, hown, hts⟩ (L_X7_endTheorem l g q lb hlb  hN hc H.size) (cwV 0 hts (TB_V tw_1265 tw_1267 ts_42 tw_7 co_X7_endTheorem) rfl rfl rfl (by decide +kernel) ⟨Nat.le_of_ble_eq_true rfl, Nat.le_of_ble_eq_true rfl⟩) (preV (q0 := 6) (ci := 7) rfl xT_bl hP hK hNb hD rfl rfl xT_at) rfl rfl hl.1 rfl (lv_room (Nat.le_of_ble_eq_true rfl)) dX7_readText_86 ⟨Nat.le_of_ble_eq_true rfl, Nat.le_of_ble_eq_true rfl⟩) hP hD hS hA (fun x25 τ26 H locs r_x25 hN hf hq hP hD hS => ?_)
        replace hw := hw x25 τ26 r_x25 hN hf hq
        have hF : f_r [3, 4, 5, 6, 7, 8, 9, 10, 11, 12, 13, 14, 15, 16, 17, 18, 19, 20, 21, 22, 23, 24, 25, 26, 27, 28, 29, 30, 31, 32, 33, 34, 35, 36, 37, 38, 39, 66] [2, 3, 4, 5, 6, 7, 8, 9, 10, 11, 12, 13, 14, 15, 16, 17, 18, 19, 20, 21, 22, 23, 24, 25, 26, 27, 28, 29, 30, 31, 32, 33, 34, 35, 36, 37, 38, 39, 40, 41, 42, 43, 44, 45, 46, 47, 48, 49, 50, 51, 52, 53, 54] [0, 1, 2] σ τ26 := f_t hF hf (by decide) (by decide) (by decide)
        have hB := hN
        refine lv_istore_n (lv' := [(3, .int (I x25)), (0, .ref (q 6)), (1, .ref (q 13)), (2, .int (I u2)), (5, .int (I u5)), (6, .int (I u6))]) hx hb dX7_readText_89 rfl hl (by decide) rfl (fun ls hl => ?_)
        exact (hP90 _ _ _ _ _).mp hw r_u2 r_x25 r_u5 r_u6 hN hF H locs ls hP hD hS (lv_sub hl [1, 2, 3, 0, 4, 5] rfl)
  ·
    intro u2 u3 u5 u6 τ hw
    refine (hP90 _ _ _ _ _).mpr ?_
    intro r_u2 r_u3 r_u5 r_u6 hN hF H locs ls hP hD hS hl
    have hB := hN
    refine lv_aload_n hx hb dX7_readText_90 rfl (lv_at hl 1 rfl) ?_
    refine lv_iload hx hb dX7_readText_91 (lv_at hl 5 rfl) ?_
    refine lv_iload_n hx hb dX7_readText_93 rfl (lv_at hl 2 rfl) ?_
    obtain ⟨Q37, hc, hw⟩ := hw
    refine wc_i (X := CX g q lb) (va_runSN (As := [.ref (q 13), .int (I u6), .int (I u2)]) (rest := []) ⟨hx, hb, hml, hown, hts⟩ (L_X12_skipBlanks_q13 l g q lb hlb r_u6 r_u2 hN hc H.size) ⟨va_cnB 3 hts (TB_code co_X12_skipBlanks) rfl rfl rfl (hNb _ tn_973) (hts _ tw_1) (by decide +kernel) ⟨Nat.le_of_ble_eq_true rfl, Nat.le_of_ble_eq_true rfl⟩, hts _ tw_974, trivial⟩ (preS xT_bl hP hK hNb hD xT_at) rfl rfl hl.1 rfl (lv_room (Nat.le_of_ble_eq_true rfl)) dX7_readText_94 ⟨Nat.le_of_ble_eq_true rfl, Nat.le_of_ble_eq_true rfl⟩) hP hD hS hA (fun x38 H locs r_x38 hq hP hD hS => ?_)
    replace hw := hw x38 r_x38 hq
    refine lv_istore (lv' := [(4, .int (I x38)), (0, .ref (q 6)), (1, .ref (q 13)), (2, .int (I u2)), (3, .int (I u3)), (5, .int (I u5)), (6, .int (I u6))]) hx hb dX7_readText_97 hl (by decide) rfl (fun ls hl => ?_)
    refine lv_iinc (v := I (u5 + 1)) (lv' := [(5, .int (I (u5 + 1))), (4, .int (I x38)), (0, .ref (q 6)), (1, .ref (q 13)), (2, .int (I u2)), (3, .int (I u3)), (6, .int (I u6))]) hx hb dX7_readText_99 hl (k := 5) rfl (I_add _ _) (by decide) rfl (fun ls hl => ?_)
    refine lv_goto (tgt := 18) hx hb dX7_readText_102 (by decide) ?_
    obtain ⟨c40, hw⟩ := hw
    exact (hP18 _ _ _ _ _).mp hw r_u2 r_u3 r_x38 c40 hN hF H locs ls hP hD hS (lv_sub hl [2, 3, 4, 5, 1, 0] rfl)
  ·
    intro u2 u3 τ hw
    refine (hP105 _ _ _).mpr ?_
    intro r_u2 r_u3 hN hF H locs ls hP hD hS hl
    have hB := hN
    refine lv_iload_n hx hb dX7_readText_105 rfl (lv_at hl 2 rfl) ?_
    refine bi_if_ne (tgt := 119) hx hb r_u3 dX7_readText_106 (by decide) (fun c18 => ?_) (fun c18 => ?_)
    ·
      replace hw := hw.1 c18
      exact (hP119 _ _).mp hw r_u3 hN hF H locs ls hP hD hS (lv_sub hl [0, 2] rfl)
    ·
      replace hw := hw.2 c18
      refine lv_aload_n hx hb dX7_readText_109 rfl (lv_at hl 0 rfl) ?_
      refine lv_iload_n hx hb dX7_readText_110 rfl (lv_at hl 1 rfl) ?_
      refine pfX7_place hx hb hts hK hP hD hS hown (hts _ tw_490) dX7_readText_111 (fun H locs hP hD hS => ?_)
      have hN : n_m (s_v τ 33 u2) := n_v (i := 33) hN (r_u2 : rg u2)
      have hF : f_r [3, 4, 5, 6, 7, 8, 9, 10, 11, 12, 13, 14, 15, 16, 17, 18, 19, 20, 21, 22, 23, 24, 25, 26, 27, 28, 29, 30, 31, 32, 33, 34, 35, 36, 37, 38, 39, 66] [2, 3, 4, 5, 6, 7, 8, 9, 10, 11, 12, 13, 14, 15, 16, 17, 18, 19, 20, 21, 22, 23, 24, 25, 26, 27, 28, 29, 30, 31, 32, 33, 34, 35, 36, 37, 38, 39, 40, 41, 42, 43, 44, 45, 46, 47, 48, 49, 50, 51, 52, 53, 54] [0, 1, 2] σ (s_v τ 33 u2) := f_v hF (by decide)
      refine lv_aload_n hx hb dX7_readText_114 rfl (lv_at hl 0 rfl) ?_
      obtain ⟨Q19, hc, hw⟩ := hw
      refine wc_i (X := CX g q lb) (va_runV (As := []) (rest := []) ⟨hx, hb, hml, hown, hts⟩ (L_X7_faultAtEnd l g q lb hlb  hN hc H.size) (cwV 0 hts (TB_V tw_1373 tw_1375 ts_50 tw_7 co_X7_faultAtEnd) rfl rfl rfl (by decide +kernel) ⟨Nat.le_of_ble_eq_true rfl, Nat.le_of_ble_eq_true rfl⟩) (preV (q0 := 6) (ci := 7) rfl xT_bl hP hK hNb hD rfl rfl xT_at) rfl rfl hl.1 rfl (lv_room (Nat.le_of_ble_eq_true rfl)) dX7_readText_115 ⟨Nat.le_of_ble_eq_true rfl, Nat.le_of_ble_eq_true rfl⟩) hP hD hS hA (fun x20 H locs r_x20 hq hP hD hS => ?_)
      replace hw := hw x20 r_x20 hq
      refine lv_istore_n (lv' := [(3, .int (I x20)), (0, .ref (q 6)), (2, .int (I u2))]) hx hb dX7_readText_118 rfl hl (by decide) rfl (fun ls hl => ?_)
      exact (hP119 _ _).mp hw r_x20 hN hF H locs ls hP hD hS (lv_sub hl [1, 0] rfl)
  ·
    intro u3 τ hw
    refine (hP119 _ _).mpr ?_
    intro r_u3 hN hF H locs ls hP hD hS hl
    have hB := hN
    refine lv_iload_n hx hb dX7_readText_119 rfl (lv_at hl 1 rfl) ?_
    refine bi_if_eq (tgt := 144) hx hb r_u3 dX7_readText_120 (by decide) (fun c27 => ?_) (fun c27 => ?_)
    ·
      replace hw := hw.1 c27
      refine lv_iload_n hx hb dX7_readText_144 rfl (lv_at hl 1 rfl) ?_
      exact xri hx hb hr hlk hP hK hD hS ⟨_, _, r_u3, rfl, hN, hF, rfl, hw⟩ (Nat.le_of_ble_eq_true rfl) (Nat.le_of_ble_eq_true rfl) dX7_readText_145
    ·
      replace hw := hw.2 c27
      refine lv_aload_n hx hb dX7_readText_123 rfl (lv_at hl 0 rfl) ?_
      refine gfX7_library hx hb hts hK hP hown (hts _ tw_484) dX7_readText_124 ?_
      obtain ⟨Q28, hc, hw⟩ := hw
      refine wc_V (X := CX g q lb) (va_runV (As := []) (rest := []) ⟨hx, hb, hml, hown, hts⟩ (L_X3_goBack l g q lb hlb  hN hc H.size) (cwV 0 hts (TB_V tw_1377 tw_1378 tw_1379 tw_2 co_X3_goBack) rfl rfl rfl (by decide +kernel) ⟨Nat.le_of_ble_eq_true rfl, Nat.le_of_ble_eq_true rfl⟩) (preV (q0 := 1) (ci := 3) rfl xT_bl hP hK hNb hD rfl rfl xT_at) rfl rfl hl.1 rfl (lv_room (Nat.le_of_ble_eq_true rfl)) dX7_readText_127 ⟨Nat.le_of_ble_eq_true rfl, Nat.le_of_ble_eq_true rfl⟩) hP hD hS hA (fun τ30 H locs hN hf hq hP hD hS => ?_)
      replace hw := hw τ30 hN hf hq
      have hF : f_r [3, 4, 5, 6, 7, 8, 9, 10, 11, 12, 13, 14, 15, 16, 17, 18, 19, 20, 21, 22, 23, 24, 25, 26, 27, 28, 29, 30, 31, 32, 33, 34, 35, 36, 37, 38, 39, 66] [2, 3, 4, 5, 6, 7, 8, 9, 10, 11, 12, 13, 14, 15, 16, 17, 18, 19, 20, 21, 22, 23, 24, 25, 26, 27, 28, 29, 30, 31, 32, 33, 34, 35, 36, 37, 38, 39, 40, 41, 42, 43, 44, 45, 46, 47, 48, 49, 50, 51, 52, 53, 54] [0, 1, 2] σ τ30 := f_t hF hf (by decide) (by decide) (by decide)
      have hB := hN
      refine lv_aload_n hx hb dX7_readText_130 rfl (lv_at hl 0 rfl) ?_
      refine gfX7_assertions hx hb hts hK hP hown (hts _ tw_485) dX7_readText_131 ?_
      obtain ⟨Q31, hc, hw⟩ := hw
      refine wc_V (X := CX g q lb) (va_runV (As := []) (rest := []) ⟨hx, hb, hml, hown, hts⟩ (L_X0_goBack l g q lb hlb  hN hc H.size) (cwV 0 hts (TB_V tw_1381 tw_1382 tw_1383 tw_5 co_X0_goBack) rfl rfl rfl (by decide +kernel) ⟨Nat.le_of_ble_eq_true rfl, Nat.le_of_ble_eq_true rfl⟩) (preV (q0 := 3) (ci := 0) rfl xT_bl hP hK hNb hD rfl rfl xT_at) rfl rfl hl.1 rfl (lv_room (Nat.le_of_ble_eq_true rfl)) dX7_readText_134 ⟨Nat.le_of_ble_eq_true rfl, Nat.le_of_ble_eq_true rfl⟩) hP hD hS hA (fun τ33 H locs hN hf hq hP hD hS => ?_)
      replace hw := hw τ33 hN hf hq
      have hF : f_r [3, 4, 5, 6, 7, 8, 9, 10, 11, 12, 13, 14, 15, 16, 17, 18, 19, 20, 21, 22, 23, 24, 25, 26, 27, 28, 29, 30, 31, 32, 33, 34, 35, 36, 37, 38, 39, 66] [2, 3, 4, 5, 6, 7, 8, 9, 10, 11, 12, 13, 14, 15, 16, 17, 18, 19, 20, 21, 22, 23, 24, 25, 26, 27, 28, 29, 30, 31, 32, 33, 34, 35, 36, 37, 38, 39, 40, 41, 42, 43, 44, 45, 46, 47, 48, 49, 50, 51, 52, 53, 54] [0, 1, 2] σ τ33 := f_t hF hf (by decide) (by decide) (by decide)
      have hB := hN
      refine lv_aload_n hx hb dX7_readText_137 rfl (lv_at hl 0 rfl) ?_
      refine gfX7_scopes hx hb hts hK hP hown (hts _ tw_486) dX7_readText_138 ?_
      obtain ⟨Q34, hc, hw⟩ := hw
      refine wc_V (X := CX g q lb) (va_runV (As := []) (rest := []) ⟨hx, hb, hml, hown, hts⟩ (L_X9_goBack l g q lb hlb  hN hc H.size) (cwV 0 hts (TB_V tw_1385 tw_1386 tw_1387 tw_3 co_X9_goBack) rfl rfl rfl (by decide +kernel) ⟨Nat.le_of_ble_eq_true rfl, Nat.le_of_ble_eq_true rfl⟩) (preV (q0 := 2) (ci := 9) rfl xT_bl hP hK hNb hD rfl rfl xT_at) rfl rfl hl.1 rfl (lv_room (Nat.le_of_ble_eq_true rfl)) dX7_readText_141 ⟨Nat.le_of_ble_eq_true rfl, Nat.le_of_ble_eq_true rfl⟩) hP hD hS hA (fun τ36 H locs hN hf hq hP hD hS => ?_)
      replace hw := hw τ36 hN hf hq
      have hF : f_r [3, 4, 5, 6, 7, 8, 9, 10, 11, 12, 13, 14, 15, 16, 17, 18, 19, 20, 21, 22, 23, 24, 25, 26, 27, 28, 29, 30, 31, 32, 33, 34, 35, 36, 37, 38, 39, 66] [2, 3, 4, 5, 6, 7, 8, 9, 10, 11, 12, 13, 14, 15, 16, 17, 18, 19, 20, 21, 22, 23, 24, 25, 26, 27, 28, 29, 30, 31, 32, 33, 34, 35, 36, 37, 38, 39, 40, 41, 42, 43, 44, 45, 46, 47, 48, 49, 50, 51, 52, 53, 54] [0, 1, 2] σ τ36 := f_t hF hf (by decide) (by decide) (by decide)
      have hB := hN
      refine lv_iload_n hx hb dX7_readText_144 rfl (lv_at hl 1 rfl) ?_
      exact xri hx hb hr hlk hP hK hD hS ⟨_, _, r_u3, rfl, hN, hF, rfl, hw⟩ (Nat.le_of_ble_eq_true rfl) (Nat.le_of_ble_eq_true rfl) dX7_readText_145
def W_X12_useTape (σ : S0) (Q : S0 → Prop) : Prop :=
  Q (s_v (s_v σ 0 0) 1 0)
set_option maxRecDepth 100000 in
set_option maxHeartbeats 4000000 in
theorem L_X12_useTape (l : Launch) (g : gG) (q : Nat → Nat) (lb : Nat) (hlb : lb < 2 ^ 31) {σ : S0} {Q : S0 → Prop} (hN : n_m σ) (hw : W_X12_useTape σ Q) (sz : Nat) : MetV l yX12_useTape cX12_useTape 1 { frames := 0, cells := 0, slots := 0, locals := 0 } g [.ref (q 0)] (CX g q lb σ) sz xT (p_V (CX g q lb) [0, 1] [] [] σ Q) 0 0 := by
  refine mkMet (Qc := fun A => QV g A (p_V (CX g q lb) [0, 1] [] [] σ Q)) (by decide) (Nat.le_of_ble_eq_true rfl) ?_
  intro p e s m below meth c A H ls hx hb hr hml hown hts hlk hnm hsz hP hK hNb hD hA hAe hS hX hl
  have hl : lv_has ls 1 [(0, .ref (q 0))] := hl
  have hB := hN
  have hF : f_r [0, 1] [] [] σ σ := f_0
  obtain ⟨locs, hlocs⟩ : ∃ z : List Loc, z = [] := ⟨_, rfl⟩
  rw [← hlocs] at hS ⊢
  refine lv_aload_n hx hb dX12_useTape_0 rfl (lv_at hl 0 rfl) ?_
  refine lv_iconst (v := I 0) hx hb dX12_useTape_1 rfl ?_
  refine pfX12_tapeLength hx hb hts hK hP hD hS hown (hts _ tw_885) dX12_useTape_2 (fun H locs hP hD hS => ?_)
  have hN : n_m (s_v σ 0 0) := n_v (i := 0) hN ((by decide) : rg 0)
  have hF : f_r [0, 1] [] [] σ (s_v σ 0 0) := f_v hF (by decide)
  refine lv_aload_n hx hb dX12_useTape_5 rfl (lv_at hl 0 rfl) ?_
  refine lv_iconst (v := I 0) hx hb dX12_useTape_6 rfl ?_
  refine pfX12_canEnd hx hb hts hK hP hD hS hown (hts _ tw_886) (by decide)  dX12_useTape_7 (fun H locs hP hD hS => ?_)
  have hN : n_m (s_v (s_v σ 0 0) 1 0) := n_v (i := 1) hN ((by decide) : rg 0)
  have hF : f_r [0, 1] [] [] σ (s_v (s_v σ 0 0) 1 0) := f_v hF (by decide)
  exact xrv hx hb hr hlk hP hK hD hS ⟨_, hN, hF, rfl, hw⟩ (Nat.le_of_ble_eq_true rfl) (Nat.le_of_ble_eq_true rfl) dX12_useTape_10
def W_X12_read (σ : S0) (Q : Int → S0 → Prop) : Prop :=
  ∀ (P32 : Int → Int → S0 → Prop),
  (∀ (u1 : Int) (k1 : Int) (τ : S0), (∃ (Q5 : S0 → Prop), W_X12_useTape (s_v τ 2 k1) Q5 ∧ ∀ (τ7 : S0), n_m τ7 → f_r [0, 1] [] [] (s_v τ 2 k1) τ7 → Q5 τ7 → (Q u1 τ7)) → P32 u1 k1 τ) →
  ∃ (Q1 : Int → S0 → Prop), W_X7_readText_q13 (σ.1 0) σ Q1 ∧ ∀ (x2 : Int) (τ3 : S0), rg x2 → n_m τ3 → f_r [3, 4, 5, 6, 7, 8, 9, 10, 11, 12, 13, 14, 15, 16, 17, 18, 19, 20, 21, 22, 23, 24, 25, 26, 27, 28, 29, 30, 31, 32, 33, 34, 35, 36, 37, 38, 39, 66] [2, 3, 4, 5, 6, 7, 8, 9, 10, 11, 12, 13, 14, 15, 16, 17, 18, 19, 20, 21, 22, 23, 24, 25, 26, 27, 28, 29, 30, 31, 32, 33, 34, 35, 36, 37, 38, 39, 40, 41, 42, 43, 44, 45, 46, 47, 48, 49, 50, 51, 52, 53, 54] [0, 1, 2] σ τ3 → Q1 x2 τ3 → ((¬ x2 = 0 → P32 x2 (τ3.1 33) τ3) ∧ (x2 = 0 → P32 x2 (-1) τ3))
set_option maxRecDepth 100000 in
set_option maxHeartbeats 4000000 in
theorem L_X12_read (l : Launch) (g : gG) (q : Nat → Nat) (lb : Nat) (hlb : lb < 2 ^ 31) {σ : S0} {Q : Int → S0 → Prop} (hN : n_m σ) (hw : W_X12_read σ Q) (sz : Nat) : MetI l yX12_read cX12_read 2 (some .int) { frames := 7, cells := 0, slots := 0, locals := 216 } g [.ref (q 0)] (CX g q lb σ) sz xT (p_I (CX g q lb) [0, 1, 2, 3, 4, 5, 6, 7, 8, 9, 10, 11, 12, 13, 14, 15, 16, 17, 18, 19, 20, 21, 22, 23, 24, 25, 26, 27, 28, 29, 30, 31, 32, 33, 34, 35, 36, 37, 38, 39, 66] [2, 3, 4, 5, 6, 7, 8, 9, 10, 11, 12, 13, 14, 15, 16, 17, 18, 19, 20, 21, 22, 23, 24, 25, 26, 27, 28, 29, 30, 31, 32, 33, 34, 35, 36, 37, 38, 39, 40, 41, 42, 43, 44, 45, 46, 47, 48, 49, 50, 51, 52, 53, 54] [0, 1, 2] σ Q) 0 0 := by
  refine mkMet (Qc := fun A => QI g A (p_I (CX g q lb) [0, 1, 2, 3, 4, 5, 6, 7, 8, 9, 10, 11, 12, 13, 14, 15, 16, 17, 18, 19, 20, 21, 22, 23, 24, 25, 26, 27, 28, 29, 30, 31, 32, 33, 34, 35, 36, 37, 38, 39, 66] [2, 3, 4, 5, 6, 7, 8, 9, 10, 11, 12, 13, 14, 15, 16, 17, 18, 19, 20, 21, 22, 23, 24, 25, 26, 27, 28, 29, 30, 31, 32, 33, 34, 35, 36, 37, 38, 39, 40, 41, 42, 43, 44, 45, 46, 47, 48, 49, 50, 51, 52, 53, 54] [0, 1, 2] σ Q)) (by decide) (Nat.le_of_ble_eq_true rfl) ?_
  intro p e s m below meth c A H ls hx hb hr hml hown hts hlk hnm hsz hP hK hNb hD hA hAe hS hX hl
  have hl : lv_has ls 2 [(0, .ref (q 0))] := hl
  have hB := hN
  have hF : f_r [0, 1, 2, 3, 4, 5, 6, 7, 8, 9, 10, 11, 12, 13, 14, 15, 16, 17, 18, 19, 20, 21, 22, 23, 24, 25, 26, 27, 28, 29, 30, 31, 32, 33, 34, 35, 36, 37, 38, 39, 66] [2, 3, 4, 5, 6, 7, 8, 9, 10, 11, 12, 13, 14, 15, 16, 17, 18, 19, 20, 21, 22, 23, 24, 25, 26, 27, 28, 29, 30, 31, 32, 33, 34, 35, 36, 37, 38, 39, 40, 41, 42, 43, 44, 45, 46, 47, 48, 49, 50, 51, 52, 53, 54] [0, 1, 2] σ σ := f_0
  obtain ⟨locs, hlocs⟩ : ∃ z : List Loc, z = [] := ⟨_, rfl⟩
  rw [← hlocs] at hS ⊢
  obtain ⟨P32, hP32⟩ : ∃ P : Int → Int → S0 → Prop, ∀ (u1 : Int) (k1 : Int) (τ : S0), (P u1 k1 τ ↔ (rg u1 → rg k1 → n_m τ → f_r [0, 1, 2, 3, 4, 5, 6, 7, 8, 9, 10, 11, 12, 13, 14, 15, 16, 17, 18, 19, 20, 21, 22, 23, 24, 25, 26, 27, 28, 29, 30, 31, 32, 33, 34, 35, 36, 37, 38, 39, 66] [2, 3, 4, 5, 6, 7, 8, 9, 10, 11, 12, 13, 14, 15, 16, 17, 18, 19, 20, 21, 22, 23, 24, 25, 26, 27, 28, 29, 30, 31, 32, 33, 34, 35, 36, 37, 38, 39, 40, 41, 42, 43, 44, 45, 46, 47, 48, 49, 50, 51, 52, 53, 54] [0, 1, 2] σ τ → ∀ (H : Heap) (locs : List Loc) (ls : Array Slot), KP g (CX g q lb τ) H → va_D A (CX g q lb τ) → va_S A s.heap H locs → lv_has ls 2 [(0, .ref (q 0)), (1, .int (I u1))] → W p l e ({ frames := 7, cells := 0, slots := 0, locals := 216 }) s m [.ref (q 0)].toArray below meth c H locs 0 0 (MQ below (QI g A (p_I (CX g q lb) [0, 1, 2, 3, 4, 5, 6, 7, 8, 9, 10, 11, 12, 13, 14, 15, 16, 17, 18, 19, 20, 21, 22, 23, 24, 25, 26, 27, 28, 29, 30, 31, 32, 33, 34, 35, 36, 37, 38, 39, 66] [2, 3, 4, 5, 6, 7, 8, 9, 10, 11, 12, 13, 14, 15, 16, 17, 18, 19, 20, 21, 22, 23, 24, 25, 26, 27, 28, 29, 30, 31, 32, 33, 34, 35, 36, 37, 38, 39, 40, 41, 42, 43, 44, 45, 46, 47, 48, 49, 50, 51, 52, 53, 54] [0, 1, 2] σ Q)) [.ref (q 0)].toArray s 0 0 A) (F0 m 32 ls [.int (I k1), .ref (q 0)]))) := ⟨_, fun _ _ _ => Iff.rfl⟩
  refine (fun hw => ?_) (hw P32 ?_)
  ·
    refine lv_aload_n hx hb dX12_read_0 rfl (lv_at hl 0 rfl) ?_
    refine gfX12_reader hx hb hts hK hP hown (hts _ tw_893) dX12_read_1 ?_
    refine lv_aload_n hx hb dX12_read_4 rfl (lv_at hl 0 rfl) ?_
    refine gfX12_tape hx hb hts hK hP hown (hts _ tw_884) dX12_read_5 ?_
    refine lv_aload_n hx hb dX12_read_8 rfl (lv_at hl 0 rfl) ?_
    refine gfX12_tapeLength hx hb hts hK hP hown (hts _ tw_885) (x := σ.1 0) rfl dX12_read_9 ?_
    obtain ⟨Q1, hc, hw⟩ := hw
    refine wc_I (X := CX g q lb) (va_runV (As := [.ref (q 13), .int (I (σ.1 0))]) (rest := []) ⟨hx, hb, hml, hown, hts⟩ (L_X7_readText_q13 l g q lb hlb (hB.1 0) hN hc H.size) (cwV 2 hts (TB_V tw_949 tw_950 tw_951 tw_7 co_X7_readText) rfl rfl rfl (by decide +kernel) ⟨Nat.le_of_ble_eq_true rfl, Nat.le_of_ble_eq_true rfl⟩) (preV (q0 := 6) (ci := 7) rfl xT_bl hP hK hNb hD rfl rfl xT_at) rfl rfl hl.1 rfl (lv_room (Nat.le_of_ble_eq_true rfl)) dX12_read_12 ⟨Nat.le_of_ble_eq_true rfl, Nat.le_of_ble_eq_true rfl⟩) hP hD hS hA (fun x2 τ3 H locs r_x2 hN hf hq hP hD hS => ?_)
    replace hw := hw x2 τ3 r_x2 hN hf hq
    have hF : f_r [0, 1, 2, 3, 4, 5, 6, 7, 8, 9, 10, 11, 12, 13, 14, 15, 16, 17, 18, 19, 20, 21, 22, 23, 24, 25, 26, 27, 28, 29, 30, 31, 32, 33, 34, 35, 36, 37, 38, 39, 66] [2, 3, 4, 5, 6, 7, 8, 9, 10, 11, 12, 13, 14, 15, 16, 17, 18, 19, 20, 21, 22, 23, 24, 25, 26, 27, 28, 29, 30, 31, 32, 33, 34, 35, 36, 37, 38, 39, 40, 41, 42, 43, 44, 45, 46, 47, 48, 49, 50, 51, 52, 53, 54] [0, 1, 2] σ τ3 := f_t hF hf (by decide) (by decide) (by decide)
    have hB := hN
    refine lv_istore_n (lv' := [(1, .int (I x2)), (0, .ref (q 0))]) hx hb dX12_read_15 rfl hl (by decide) rfl (fun ls hl => ?_)
    refine lv_aload_n hx hb dX12_read_16 rfl (lv_at hl 1 rfl) ?_
    refine lv_iload_n hx hb dX12_read_17 rfl (lv_at hl 0 rfl) ?_
    refine bi_if_ne (tgt := 25) hx hb r_x2 dX12_read_18 (by decide) (fun c4 => ?_) (fun c4 => ?_)
    ·
      replace hw := hw.1 c4
      refine lv_aload_n hx hb dX12_read_25 rfl (lv_at hl 1 rfl) ?_
      refine gfX12_reader hx hb hts hK hP hown (hts _ tw_893) dX12_read_26 ?_
      refine gfNX7_place hx hb hts hK hP hown (nb_use hNb tn_491) (x := τ3.1 33) rfl dX12_read_29 ?_
      exact (hP32 _ _ _).mp hw r_x2 (hB.1 33) hN hF H locs ls hP hD hS (lv_sub hl [1, 0] rfl)
    ·
      replace hw := hw.2 c4
      refine lv_iconst (v := I (-1)) hx hb dX12_read_21 rfl ?_
      refine lv_goto (tgt := 32) hx hb dX12_read_22 (by decide) ?_
      exact (hP32 _ _ _).mp hw r_x2 (by decide) hN hF H locs ls hP hD hS (lv_sub hl [1, 0] rfl)
  ·
    intro u1 k1 τ hw
    refine (hP32 _ _ _).mpr ?_
    intro r_u1 r_k1 hN hF H locs ls hP hD hS hl
    have hB := hN
    refine pfX12_faultPlace hx hb hts hK hP hD hS hown (hts _ tw_887) dX12_read_32 (fun H locs hP hD hS => ?_)
    have hN : n_m (s_v τ 2 k1) := n_v (i := 2) hN (r_k1 : rg k1)
    have hF : f_r [0, 1, 2, 3, 4, 5, 6, 7, 8, 9, 10, 11, 12, 13, 14, 15, 16, 17, 18, 19, 20, 21, 22, 23, 24, 25, 26, 27, 28, 29, 30, 31, 32, 33, 34, 35, 36, 37, 38, 39, 66] [2, 3, 4, 5, 6, 7, 8, 9, 10, 11, 12, 13, 14, 15, 16, 17, 18, 19, 20, 21, 22, 23, 24, 25, 26, 27, 28, 29, 30, 31, 32, 33, 34, 35, 36, 37, 38, 39, 40, 41, 42, 43, 44, 45, 46, 47, 48, 49, 50, 51, 52, 53, 54] [0, 1, 2] σ (s_v τ 2 k1) := f_v hF (by decide)
    refine lv_aload_n hx hb dX12_read_35 rfl (lv_at hl 0 rfl) ?_
    obtain ⟨Q5, hc, hw⟩ := hw
    refine wc_V (X := CX g q lb) (va_runV (As := []) (rest := []) ⟨hx, hb, hml, hown, hts⟩ (L_X12_useTape l g q lb hlb  hN hc H.size) (cwV 0 hts (TB_V tw_1389 tw_1391 ts_51 tw_1 co_X12_useTape) rfl rfl rfl (by decide +kernel) ⟨Nat.le_of_ble_eq_true rfl, Nat.le_of_ble_eq_true rfl⟩) (preV (q0 := 0) (ci := 12) rfl xT_bl hP hK hNb hD rfl rfl xT_at) rfl rfl hl.1 rfl (lv_room (Nat.le_of_ble_eq_true rfl)) dX12_read_36 ⟨Nat.le_of_ble_eq_true rfl, Nat.le_of_ble_eq_true rfl⟩) hP hD hS hA (fun τ7 H locs hN hf hq hP hD hS => ?_)
    replace hw := hw τ7 hN hf hq
    have hF : f_r [0, 1, 2, 3, 4, 5, 6, 7, 8, 9, 10, 11, 12, 13, 14, 15, 16, 17, 18, 19, 20, 21, 22, 23, 24, 25, 26, 27, 28, 29, 30, 31, 32, 33, 34, 35, 36, 37, 38, 39, 66] [2, 3, 4, 5, 6, 7, 8, 9, 10, 11, 12, 13, 14, 15, 16, 17, 18, 19, 20, 21, 22, 23, 24, 25, 26, 27, 28, 29, 30, 31, 32, 33, 34, 35, 36, 37, 38, 39, 40, 41, 42, 43, 44, 45, 46, 47, 48, 49, 50, 51, 52, 53, 54] [0, 1, 2] σ τ7 := f_t hF hf (by decide) (by decide) (by decide)
    have hB := hN
    refine lv_iload_n hx hb dX12_read_39 rfl (lv_at hl 1 rfl) ?_
    exact xri hx hb hr hlk hP hK hD hS ⟨_, _, r_u1, rfl, hN, hF, rfl, hw⟩ (Nat.le_of_ble_eq_true rfl) (Nat.le_of_ble_eq_true rfl) dX12_read_40
def W_X12_place (σ : S0) (Q : Int → Prop) : Prop :=
  Q (σ.1 2)
set_option maxRecDepth 100000 in
set_option maxHeartbeats 4000000 in
theorem L_X12_place (l : Launch) (g : gG) (q : Nat → Nat) (lb : Nat) (hlb : lb < 2 ^ 31) {σ : S0} {Q : Int → Prop} (hN : n_m σ) (hw : W_X12_place σ Q) (sz : Nat) : MetI l yX12_place cX12_place 1 (some .int) { frames := 0, cells := 0, slots := 0, locals := 0 } g [.ref (q 0)] (CX g q lb σ) sz xT (p_i (CX g q lb) σ Q) 0 0 := by
  refine mkMet (Qc := fun A => QI g A (p_i (CX g q lb) σ Q)) (by decide) (Nat.le_of_ble_eq_true rfl) ?_
  intro p e s m below meth c A H ls hx hb hr hml hown hts hlk hnm hsz hP hK hNb hD hA hAe hS hX hl
  have hl : lv_has ls 1 [(0, .ref (q 0))] := hl
  have hB := hN
  obtain ⟨locs, hlocs⟩ : ∃ z : List Loc, z = [] := ⟨_, rfl⟩
  rw [← hlocs] at hS ⊢
  refine lv_aload_n hx hb dX12_place_0 rfl (lv_at hl 0 rfl) ?_
  refine gfX12_faultPlace hx hb hts hK hP hown (hts _ tw_887) (x := σ.1 2) rfl dX12_place_1 ?_
  exact xri hx hb hr hlk hP hK hD hS ⟨_, (hB.1 2), rfl, rfl, hw⟩ (Nat.le_of_ble_eq_true rfl) (Nat.le_of_ble_eq_true rfl) dX12_place_4
def W_X12_count (n1 : Int) (σ : S0) (Q : Int → Prop) : Prop :=
  (n1 < 0 ∨ 9 < n1 → Q (-1)) ∧ (n1 = 0 → Q (σ.1 7)) ∧ (n1 = 1 → Q (σ.1 5)) ∧ (n1 = 2 → ∃ (Q2 : Int → Prop), W_X3_constants σ Q2 ∧ ∀ (x3 : Int), rg x3 → Q2 x3 → (Q x3)) ∧ (n1 = 3 → ∃ (Q5 : Int → Prop), W_X3_ofKind 0 σ Q5 ∧ ∀ (x6 : Int), rg x6 → Q5 x6 → (Q x6)) ∧ (n1 = 4 → ∃ (Q8 : Int → Prop), W_X3_ofKind 1 σ Q8 ∧ ∀ (x9 : Int), rg x9 → Q8 x9 → (Q x9)) ∧ (n1 = 5 → ∃ (Q11 : Int → Prop), W_X3_ofKind 2 σ Q11 ∧ ∀ (x12 : Int), rg x12 → Q11 x12 → (Q x12)) ∧ (n1 = 6 → ∃ (Q14 : Int → Prop), W_X3_ofKind 3 σ Q14 ∧ ∀ (x15 : Int), rg x15 → Q14 x15 → (∃ (Q17 : Int → Prop), W_X3_ofKind 4 σ Q17 ∧ ∀ (x18 : Int), rg x18 → Q17 x18 → (rg (x15 + x18) ∧ Q (x15 + x18)))) ∧ (n1 = 7 → ∃ (Q21 : Int → Prop), W_X3_ofKind 4 σ Q21 ∧ ∀ (x22 : Int), rg x22 → Q21 x22 → (Q x22)) ∧ (n1 = 8 → Q (σ.1 16)) ∧ (n1 = 9 → Q (σ.1 14))
set_option maxRecDepth 100000 in
set_option maxHeartbeats 4000000 in
theorem L_X12_count (l : Launch) (g : gG) (q : Nat → Nat) (lb : Nat) (hlb : lb < 2 ^ 31) {n1 : Int} {σ : S0} {Q : Int → Prop} (r_n1 : rg n1) (hN : n_m σ) (hw : W_X12_count n1 σ Q) (sz : Nat) : MetI l yX12_count cX12_count 2 (some .int) { frames := 1, cells := 0, slots := 0, locals := 23 } g [.ref (q 0), .int (I n1)] (CX g q lb σ) sz xT (p_i (CX g q lb) σ Q) 0 0 := by
  refine mkMet (Qc := fun A => QI g A (p_i (CX g q lb) σ Q)) (by decide) (Nat.le_of_ble_eq_true rfl) ?_
  intro p e s m below meth c A H ls hx hb hr hml hown hts hlk hnm hsz hP hK hNb hD hA hAe hS hX hl
  have hl : lv_has ls 2 [(0, .ref (q 0)), (1, .int (I n1))] := hl
  have hB := hN
  obtain ⟨locs, hlocs⟩ : ∃ z : List Loc, z = [] := ⟨_, rfl⟩
  rw [← hlocs] at hS ⊢
  refine lv_iload_n hx hb dX12_count_0 rfl (lv_at hl 1 rfl) ?_
  have rr := (r_n1 : rg n1)
  rcases bi_sw (x := n1) 0 9 with c1 | c1
  ·
    replace hw := hw.1 c1
    refine lv_tableOut (tgt := 150) hx hb dX12_count_1 (by rw [I_toInt rr.1 rr.2]; exact c1) (by decide) ?_
    refine lv_iconst (v := I (-1)) hx hb dX12_count_150 rfl ?_
    exact xri hx hb hr hlk hP hK hD hS ⟨_, (by decide), rfl, rfl, hw⟩ (Nat.le_of_ble_eq_true rfl) (Nat.le_of_ble_eq_true rfl) dX12_count_151
  ·
    obtain ⟨k, hk, ec1⟩ := c1
    replace hw := hw.2
    rcases (show k = 0 ∨ k = 1 ∨ k = 2 ∨ k = 3 ∨ k = 4 ∨ k = 5 ∨ k = 6 ∨ k = 7 ∨ k = 8 ∨ k = 9 by omega) with rfl | rfl | rfl | rfl | rfl | rfl | rfl | rfl | rfl | rfl
    ·
      have e9 : n1 = 0 := ec1
      refine lv_tableIn (tgt := 56) hx hb dX12_count_1 (by rw [I_toInt rr.1 rr.2, e9]; decide) (by rw [I_toInt rr.1 rr.2, e9]; decide) (by rw [I_toInt rr.1 rr.2, e9]; rfl) (by decide) ?_
      replace hw := hw.1 e9
      refine lv_aload_n hx hb dX12_count_56 rfl (lv_at hl 0 rfl) ?_
      refine gfX12_library hx hb hts hK hP hown (hts _ tw_889) dX12_count_57 ?_
      refine gfNX3_statements hx hb hts hK hP hown (nb_use hNb tn_105) (x := σ.1 7) rfl dX12_count_60 ?_
      exact xri hx hb hr hlk hP hK hD hS ⟨_, (hB.1 7), rfl, rfl, hw⟩ (Nat.le_of_ble_eq_true rfl) (Nat.le_of_ble_eq_true rfl) dX12_count_63
    ·
      have e9 : n1 = 1 := ec1
      refine lv_tableIn (tgt := 64) hx hb dX12_count_1 (by rw [I_toInt rr.1 rr.2, e9]; decide) (by rw [I_toInt rr.1 rr.2, e9]; decide) (by rw [I_toInt rr.1 rr.2, e9]; rfl) (by decide) ?_
      replace hw := hw.2.1 e9
      refine lv_aload_n hx hb dX12_count_64 rfl (lv_at hl 0 rfl) ?_
      refine gfX12_library hx hb hts hK hP hown (hts _ tw_889) dX12_count_65 ?_
      refine gfNX3_symbols hx hb hts hK hP hown (nb_use hNb tn_63) (x := σ.1 5) rfl dX12_count_68 ?_
      exact xri hx hb hr hlk hP hK hD hS ⟨_, (hB.1 5), rfl, rfl, hw⟩ (Nat.le_of_ble_eq_true rfl) (Nat.le_of_ble_eq_true rfl) dX12_count_71
    ·
      have e9 : n1 = 2 := ec1
      refine lv_tableIn (tgt := 72) hx hb dX12_count_1 (by rw [I_toInt rr.1 rr.2, e9]; decide) (by rw [I_toInt rr.1 rr.2, e9]; decide) (by rw [I_toInt rr.1 rr.2, e9]; rfl) (by decide) ?_
      replace hw := hw.2.2.1 e9
      refine lv_aload_n hx hb dX12_count_72 rfl (lv_at hl 0 rfl) ?_
      refine gfX12_library hx hb hts hK hP hown (hts _ tw_889) dX12_count_73 ?_
      obtain ⟨Q2, hc, hw⟩ := hw
      refine wc_i (X := CX g q lb) (va_runV (As := []) (rest := []) ⟨hx, hb, hml, hown, hts⟩ (L_X3_constants l g q lb hlb  hN hc H.size) (cwV 0 hts (TB_V tw_1401 tw_1402 tw_1403 tw_2 co_X3_constants) rfl rfl rfl (by decide +kernel) ⟨Nat.le_of_ble_eq_true rfl, Nat.le_of_ble_eq_true rfl⟩) (preV (q0 := 1) (ci := 3) rfl xT_bl hP hK hNb hD rfl rfl xT_at) rfl rfl hl.1 rfl (lv_room (Nat.le_of_ble_eq_true rfl)) dX12_count_76 ⟨Nat.le_of_ble_eq_true rfl, Nat.le_of_ble_eq_true rfl⟩) hP hD hS hA (fun x3 H locs r_x3 hq hP hD hS => ?_)
      replace hw := hw x3 r_x3 hq
      exact xri hx hb hr hlk hP hK hD hS ⟨_, r_x3, rfl, rfl, hw⟩ (Nat.le_of_ble_eq_true rfl) (Nat.le_of_ble_eq_true rfl) dX12_count_79
    ·
      have e9 : n1 = 3 := ec1
      refine lv_tableIn (tgt := 80) hx hb dX12_count_1 (by rw [I_toInt rr.1 rr.2, e9]; decide) (by rw [I_toInt rr.1 rr.2, e9]; decide) (by rw [I_toInt rr.1 rr.2, e9]; rfl) (by decide) ?_
      replace hw := hw.2.2.2.1 e9
      refine lv_aload_n hx hb dX12_count_80 rfl (lv_at hl 0 rfl) ?_
      refine gfX12_library hx hb hts hK hP hown (hts _ tw_889) dX12_count_81 ?_
      refine lv_iconst (v := I 0) hx hb dX12_count_84 rfl ?_
      obtain ⟨Q5, hc, hw⟩ := hw
      refine wc_i (X := CX g q lb) (va_runV (As := [.int (I 0)]) (rest := []) ⟨hx, hb, hml, hown, hts⟩ (L_X3_ofKind l g q lb hlb (by decide) hN hc H.size) (cwV 1 hts (TB_V tw_1405 tw_1406 tw_1407 tw_2 co_X3_ofKind) rfl rfl rfl (by decide +kernel) ⟨Nat.le_of_ble_eq_true rfl, Nat.le_of_ble_eq_true rfl⟩) (preV (q0 := 1) (ci := 3) rfl xT_bl hP hK hNb hD rfl rfl xT_at) rfl rfl hl.1 rfl (lv_room (Nat.le_of_ble_eq_true rfl)) dX12_count_85 ⟨Nat.le_of_ble_eq_true rfl, Nat.le_of_ble_eq_true rfl⟩) hP hD hS hA (fun x6 H locs r_x6 hq hP hD hS => ?_)
      replace hw := hw x6 r_x6 hq
      exact xri hx hb hr hlk hP hK hD hS ⟨_, r_x6, rfl, rfl, hw⟩ (Nat.le_of_ble_eq_true rfl) (Nat.le_of_ble_eq_true rfl) dX12_count_88
    ·
      have e9 : n1 = 4 := ec1
      refine lv_tableIn (tgt := 89) hx hb dX12_count_1 (by rw [I_toInt rr.1 rr.2, e9]; decide) (by rw [I_toInt rr.1 rr.2, e9]; decide) (by rw [I_toInt rr.1 rr.2, e9]; rfl) (by decide) ?_
      replace hw := hw.2.2.2.2.1 e9
      refine lv_aload_n hx hb dX12_count_89 rfl (lv_at hl 0 rfl) ?_
      refine gfX12_library hx hb hts hK hP hown (hts _ tw_889) dX12_count_90 ?_
      refine lv_iconst (v := I 1) hx hb dX12_count_93 rfl ?_
      obtain ⟨Q8, hc, hw⟩ := hw
      refine wc_i (X := CX g q lb) (va_runV (As := [.int (I 1)]) (rest := []) ⟨hx, hb, hml, hown, hts⟩ (L_X3_ofKind l g q lb hlb (by decide) hN hc H.size) (cwV 1 hts (TB_V tw_1405 tw_1406 tw_1407 tw_2 co_X3_ofKind) rfl rfl rfl (by decide +kernel) ⟨Nat.le_of_ble_eq_true rfl, Nat.le_of_ble_eq_true rfl⟩) (preV (q0 := 1) (ci := 3) rfl xT_bl hP hK hNb hD rfl rfl xT_at) rfl rfl hl.1 rfl (lv_room (Nat.le_of_ble_eq_true rfl)) dX12_count_94 ⟨Nat.le_of_ble_eq_true rfl, Nat.le_of_ble_eq_true rfl⟩) hP hD hS hA (fun x9 H locs r_x9 hq hP hD hS => ?_)
      replace hw := hw x9 r_x9 hq
      exact xri hx hb hr hlk hP hK hD hS ⟨_, r_x9, rfl, rfl, hw⟩ (Nat.le_of_ble_eq_true rfl) (Nat.le_of_ble_eq_true rfl) dX12_count_97
    ·
      have e9 : n1 = 5 := ec1
      refine lv_tableIn (tgt := 98) hx hb dX12_count_1 (by rw [I_toInt rr.1 rr.2, e9]; decide) (by rw [I_toInt rr.1 rr.2, e9]; decide) (by rw [I_toInt rr.1 rr.2, e9]; rfl) (by decide) ?_
      replace hw := hw.2.2.2.2.2.1 e9
      refine lv_aload_n hx hb dX12_count_98 rfl (lv_at hl 0 rfl) ?_
      refine gfX12_library hx hb hts hK hP hown (hts _ tw_889) dX12_count_99 ?_
      refine lv_iconst (v := I 2) hx hb dX12_count_102 rfl ?_
      obtain ⟨Q11, hc, hw⟩ := hw
      refine wc_i (X := CX g q lb) (va_runV (As := [.int (I 2)]) (rest := []) ⟨hx, hb, hml, hown, hts⟩ (L_X3_ofKind l g q lb hlb (by decide) hN hc H.size) (cwV 1 hts (TB_V tw_1405 tw_1406 tw_1407 tw_2 co_X3_ofKind) rfl rfl rfl (by decide +kernel) ⟨Nat.le_of_ble_eq_true rfl, Nat.le_of_ble_eq_true rfl⟩) (preV (q0 := 1) (ci := 3) rfl xT_bl hP hK hNb hD rfl rfl xT_at) rfl rfl hl.1 rfl (lv_room (Nat.le_of_ble_eq_true rfl)) dX12_count_103 ⟨Nat.le_of_ble_eq_true rfl, Nat.le_of_ble_eq_true rfl⟩) hP hD hS hA (fun x12 H locs r_x12 hq hP hD hS => ?_)
      replace hw := hw x12 r_x12 hq
      exact xri hx hb hr hlk hP hK hD hS ⟨_, r_x12, rfl, rfl, hw⟩ (Nat.le_of_ble_eq_true rfl) (Nat.le_of_ble_eq_true rfl) dX12_count_106
    ·
      have e9 : n1 = 6 := ec1
      refine lv_tableIn (tgt := 107) hx hb dX12_count_1 (by rw [I_toInt rr.1 rr.2, e9]; decide) (by rw [I_toInt rr.1 rr.2, e9]; decide) (by rw [I_toInt rr.1 rr.2, e9]; rfl) (by decide) ?_
      replace hw := hw.2.2.2.2.2.2.1 e9
      refine lv_aload_n hx hb dX12_count_107 rfl (lv_at hl 0 rfl) ?_
      refine gfX12_library hx hb hts hK hP hown (hts _ tw_889) dX12_count_108 ?_
      refine lv_iconst (v := I 3) hx hb dX12_count_111 rfl ?_
      obtain ⟨Q14, hc, hw⟩ := hw
      refine wc_i (X := CX g q lb) (va_runV (As := [.int (I 3)]) (rest := []) ⟨hx, hb, hml, hown, hts⟩ (L_X3_ofKind l g q lb hlb (by decide) hN hc H.size) (cwV 1 hts (TB_V tw_1405 tw_1406 tw_1407 tw_2 co_X3_ofKind) rfl rfl rfl (by decide +kernel) ⟨Nat.le_of_ble_eq_true rfl, Nat.le_of_ble_eq_true rfl⟩) (preV (q0 := 1) (ci := 3) rfl xT_bl hP hK hNb hD rfl rfl xT_at) rfl rfl hl.1 rfl (lv_room (Nat.le_of_ble_eq_true rfl)) dX12_count_112 ⟨Nat.le_of_ble_eq_true rfl, Nat.le_of_ble_eq_true rfl⟩) hP hD hS hA (fun x15 H locs r_x15 hq hP hD hS => ?_)
      replace hw := hw x15 r_x15 hq
      refine lv_aload_n hx hb dX12_count_115 rfl (lv_at hl 0 rfl) ?_
      refine gfX12_library hx hb hts hK hP hown (hts _ tw_889) dX12_count_116 ?_
      refine lv_iconst (v := I 4) hx hb dX12_count_119 rfl ?_
      obtain ⟨Q17, hc, hw⟩ := hw
      refine wc_i (X := CX g q lb) (va_runV (As := [.int (I 4)]) (rest := [.int (I x15)]) ⟨hx, hb, hml, hown, hts⟩ (L_X3_ofKind l g q lb hlb (by decide) hN hc H.size) (cwV 1 hts (TB_V tw_1405 tw_1406 tw_1407 tw_2 co_X3_ofKind) rfl rfl rfl (by decide +kernel) ⟨Nat.le_of_ble_eq_true rfl, Nat.le_of_ble_eq_true rfl⟩) (preV (q0 := 1) (ci := 3) rfl xT_bl hP hK hNb hD rfl rfl xT_at) rfl rfl hl.1 rfl (lv_room (Nat.le_of_ble_eq_true rfl)) dX12_count_120 ⟨Nat.le_of_ble_eq_true rfl, Nat.le_of_ble_eq_true rfl⟩) hP hD hS hA (fun x18 H locs r_x18 hq hP hD hS => ?_)
      replace hw := hw x18 r_x18 hq
      refine bi_iadd hx hb dX12_count_123 ?_
      obtain ⟨c20, hw⟩ := hw
      exact xri hx hb hr hlk hP hK hD hS ⟨_, c20, rfl, rfl, hw⟩ (Nat.le_of_ble_eq_true rfl) (Nat.le_of_ble_eq_true rfl) dX12_count_124
    ·
      have e9 : n1 = 7 := ec1
      refine lv_tableIn (tgt := 125) hx hb dX12_count_1 (by rw [I_toInt rr.1 rr.2, e9]; decide) (by rw [I_toInt rr.1 rr.2, e9]; decide) (by rw [I_toInt rr.1 rr.2, e9]; rfl) (by decide) ?_
      replace hw := hw.2.2.2.2.2.2.2.1 e9
      refine lv_aload_n hx hb dX12_count_125 rfl (lv_at hl 0 rfl) ?_
      refine gfX12_library hx hb hts hK hP hown (hts _ tw_889) dX12_count_126 ?_
      refine lv_iconst (v := I 4) hx hb dX12_count_129 rfl ?_
      obtain ⟨Q21, hc, hw⟩ := hw
      refine wc_i (X := CX g q lb) (va_runV (As := [.int (I 4)]) (rest := []) ⟨hx, hb, hml, hown, hts⟩ (L_X3_ofKind l g q lb hlb (by decide) hN hc H.size) (cwV 1 hts (TB_V tw_1405 tw_1406 tw_1407 tw_2 co_X3_ofKind) rfl rfl rfl (by decide +kernel) ⟨Nat.le_of_ble_eq_true rfl, Nat.le_of_ble_eq_true rfl⟩) (preV (q0 := 1) (ci := 3) rfl xT_bl hP hK hNb hD rfl rfl xT_at) rfl rfl hl.1 rfl (lv_room (Nat.le_of_ble_eq_true rfl)) dX12_count_130 ⟨Nat.le_of_ble_eq_true rfl, Nat.le_of_ble_eq_true rfl⟩) hP hD hS hA (fun x22 H locs r_x22 hq hP hD hS => ?_)
      replace hw := hw x22 r_x22 hq
      exact xri hx hb hr hlk hP hK hD hS ⟨_, r_x22, rfl, rfl, hw⟩ (Nat.le_of_ble_eq_true rfl) (Nat.le_of_ble_eq_true rfl) dX12_count_133
    ·
      have e9 : n1 = 8 := ec1
      refine lv_tableIn (tgt := 134) hx hb dX12_count_1 (by rw [I_toInt rr.1 rr.2, e9]; decide) (by rw [I_toInt rr.1 rr.2, e9]; decide) (by rw [I_toInt rr.1 rr.2, e9]; rfl) (by decide) ?_
      replace hw := hw.2.2.2.2.2.2.2.2.1 e9
      refine lv_aload_n hx hb dX12_count_134 rfl (lv_at hl 0 rfl) ?_
      refine gfX12_assertions hx hb hts hK hP hown (hts _ tw_891) dX12_count_135 ?_
      refine gfNX0_steps hx hb hts hK hP hown (nb_use hNb tn_292) (x := σ.1 16) rfl dX12_count_138 ?_
      exact xri hx hb hr hlk hP hK hD hS ⟨_, (hB.1 16), rfl, rfl, hw⟩ (Nat.le_of_ble_eq_true rfl) (Nat.le_of_ble_eq_true rfl) dX12_count_141
    ·
      have e9 : n1 = 9 := ec1
      refine lv_tableIn (tgt := 142) hx hb dX12_count_1 (by rw [I_toInt rr.1 rr.2, e9]; decide) (by rw [I_toInt rr.1 rr.2, e9]; decide) (by rw [I_toInt rr.1 rr.2, e9]; rfl) (by decide) ?_
      replace hw := hw.2.2.2.2.2.2.2.2.2 e9
      refine lv_aload_n hx hb dX12_count_142 rfl (lv_at hl 0 rfl) ?_
      refine gfX12_assertions hx hb hts hK hP hown (hts _ tw_891) dX12_count_143 ?_
      refine gfNX0_pairs hx hb hts hK hP hown (nb_use hNb tn_264) (x := σ.1 14) rfl dX12_count_146 ?_
      exact xri hx hb hr hlk hP hK hD hS ⟨_, (hB.1 14), rfl, rfl, hw⟩ (Nat.le_of_ble_eq_true rfl) (Nat.le_of_ble_eq_true rfl) dX12_count_149
def W_X12_kind (n1 : Int) (σ : S0) (Q : Int → Prop) : Prop :=
  ∃ (Q1 : Int → Prop), W_X3_isStatement n1 σ Q1 ∧ ∀ (x2 : Int), rg x2 → Q1 x2 → ((x2 = 0 → Q (-1)) ∧ (¬ x2 = 0 → (0 ≤ n1 ∧ n1 < 1500) ∧ (∀ (x6 : Int), rg x6 → x6 = σ.2.1 13 n1 → (Q x6))))
set_option maxRecDepth 100000 in
set_option maxHeartbeats 4000000 in
theorem L_X12_kind (l : Launch) (g : gG) (q : Nat → Nat) (lb : Nat) (hlb : lb < 2 ^ 31) {n1 : Int} {σ : S0} {Q : Int → Prop} (r_n1 : rg n1) (hN : n_m σ) (hw : W_X12_kind n1 σ Q) (sz : Nat) : MetI l yX12_kind cX12_kind 2 (some .int) { frames := 1, cells := 0, slots := 0, locals := 21 } g [.ref (q 0), .int (I n1)] (CX g q lb σ) sz xT (p_i (CX g q lb) σ Q) 0 0 := by
  refine mkMet (Qc := fun A => QI g A (p_i (CX g q lb) σ Q)) (by decide) (Nat.le_of_ble_eq_true rfl) ?_
  intro p e s m below meth c A H ls hx hb hr hml hown hts hlk hnm hsz hP hK hNb hD hA hAe hS hX hl
  have hl : lv_has ls 2 [(0, .ref (q 0)), (1, .int (I n1))] := hl
  have hB := hN
  obtain ⟨locs, hlocs⟩ : ∃ z : List Loc, z = [] := ⟨_, rfl⟩
  rw [← hlocs] at hS ⊢
  refine lv_aload_n hx hb dX12_kind_0 rfl (lv_at hl 0 rfl) ?_
  refine gfX12_library hx hb hts hK hP hown (hts _ tw_889) dX12_kind_1 ?_
  refine lv_iload_n hx hb dX12_kind_4 rfl (lv_at hl 1 rfl) ?_
  obtain ⟨Q1, hc, hw⟩ := hw
  refine wc_i (X := CX g q lb) (va_runV (As := [.int (I n1)]) (rest := []) ⟨hx, hb, hml, hown, hts⟩ (L_X3_isStatement l g q lb hlb r_n1 hN hc H.size) (cwV 1 hts (TB_V tw_1413 tw_1414 tw_1415 tw_2 co_X3_isStatement) rfl rfl rfl (by decide +kernel) ⟨Nat.le_of_ble_eq_true rfl, Nat.le_of_ble_eq_true rfl⟩) (preV (q0 := 1) (ci := 3) rfl xT_bl hP hK hNb hD rfl rfl xT_at) rfl rfl hl.1 rfl (lv_room (Nat.le_of_ble_eq_true rfl)) dX12_kind_5 ⟨Nat.le_of_ble_eq_true rfl, Nat.le_of_ble_eq_true rfl⟩) hP hD hS hA (fun x2 H locs r_x2 hq hP hD hS => ?_)
  replace hw := hw x2 r_x2 hq
  refine bi_if_eq (tgt := 23) hx hb r_x2 dX12_kind_8 (by decide) (fun c4 => ?_) (fun c4 => ?_)
  ·
    replace hw := hw.1 c4
    refine lv_iconst (v := I (-1)) hx hb dX12_kind_23 rfl ?_
    exact xri hx hb hr hlk hP hK hD hS ⟨_, (by decide), rfl, rfl, hw⟩ (Nat.le_of_ble_eq_true rfl) (Nat.le_of_ble_eq_true rfl) dX12_kind_24
  ·
    replace hw := hw.2 c4
    refine lv_aload_n hx hb dX12_kind_11 rfl (lv_at hl 0 rfl) ?_
    refine gfX12_library hx hb hts hK hP hown (hts _ tw_889) dX12_kind_12 ?_
    refine gfNX3_kind hx hb hts hK hP hown (nb_use hNb tn_75) dX12_kind_15 ?_
    refine lv_iload_n hx hb dX12_kind_18 rfl (lv_at hl 1 rfl) ?_
    obtain ⟨c5, hw⟩ := hw
    refine ldCX3_kind hx hb hK hP hN c5 dX12_kind_19 (fun x6 r_x6 e_x6 => ?_)
    replace hw := hw x6 r_x6 e_x6
    refine lv_goto (tgt := 24) hx hb dX12_kind_20 (by decide) ?_
    exact xri hx hb hr hlk hP hK hD hS ⟨_, r_x6, rfl, rfl, hw⟩ (Nat.le_of_ble_eq_true rfl) (Nat.le_of_ble_eq_true rfl) dX12_kind_24
def W_X12_length (n1 : Int) (σ : S0) (Q : Int → Prop) : Prop :=
  ∃ (Q1 : Int → Prop), W_X3_isStatement n1 σ Q1 ∧ ∀ (x2 : Int), rg x2 → Q1 x2 → ((x2 = 0 → Q (-1)) ∧ (¬ x2 = 0 → ∃ (Q5 : Int → Prop), W_X3_lengthOf n1 σ Q5 ∧ ∀ (x6 : Int), rg x6 → Q5 x6 → (Q x6)))
set_option maxRecDepth 100000 in
set_option maxHeartbeats 4000000 in
theorem L_X12_length (l : Launch) (g : gG) (q : Nat → Nat) (lb : Nat) (hlb : lb < 2 ^ 31) {n1 : Int} {σ : S0} {Q : Int → Prop} (r_n1 : rg n1) (hN : n_m σ) (hw : W_X12_length n1 σ Q) (sz : Nat) : MetI l yX12_length cX12_length 2 (some .int) { frames := 1, cells := 0, slots := 0, locals := 21 } g [.ref (q 0), .int (I n1)] (CX g q lb σ) sz xT (p_i (CX g q lb) σ Q) 0 0 := by
  refine mkMet (Qc := fun A => QI g A (p_i (CX g q lb) σ Q)) (by decide) (Nat.le_of_ble_eq_true rfl) ?_
  intro p e s m below meth c A H ls hx hb hr hml hown hts hlk hnm hsz hP hK hNb hD hA hAe hS hX hl
  have hl : lv_has ls 2 [(0, .ref (q 0)), (1, .int (I n1))] := hl
  have hB := hN
  obtain ⟨locs, hlocs⟩ : ∃ z : List Loc, z = [] := ⟨_, rfl⟩
  rw [← hlocs] at hS ⊢
  refine lv_aload_n hx hb dX12_length_0 rfl (lv_at hl 0 rfl) ?_
  refine gfX12_library hx hb hts hK hP hown (hts _ tw_889) dX12_length_1 ?_
  refine lv_iload_n hx hb dX12_length_4 rfl (lv_at hl 1 rfl) ?_
  obtain ⟨Q1, hc, hw⟩ := hw
  refine wc_i (X := CX g q lb) (va_runV (As := [.int (I n1)]) (rest := []) ⟨hx, hb, hml, hown, hts⟩ (L_X3_isStatement l g q lb hlb r_n1 hN hc H.size) (cwV 1 hts (TB_V tw_1413 tw_1414 tw_1415 tw_2 co_X3_isStatement) rfl rfl rfl (by decide +kernel) ⟨Nat.le_of_ble_eq_true rfl, Nat.le_of_ble_eq_true rfl⟩) (preV (q0 := 1) (ci := 3) rfl xT_bl hP hK hNb hD rfl rfl xT_at) rfl rfl hl.1 rfl (lv_room (Nat.le_of_ble_eq_true rfl)) dX12_length_5 ⟨Nat.le_of_ble_eq_true rfl, Nat.le_of_ble_eq_true rfl⟩) hP hD hS hA (fun x2 H locs r_x2 hq hP hD hS => ?_)
  replace hw := hw x2 r_x2 hq
  refine bi_if_eq (tgt := 22) hx hb r_x2 dX12_length_8 (by decide) (fun c4 => ?_) (fun c4 => ?_)
  ·
    replace hw := hw.1 c4
    refine lv_iconst (v := I (-1)) hx hb dX12_length_22 rfl ?_
    exact xri hx hb hr hlk hP hK hD hS ⟨_, (by decide), rfl, rfl, hw⟩ (Nat.le_of_ble_eq_true rfl) (Nat.le_of_ble_eq_true rfl) dX12_length_23
  ·
    replace hw := hw.2 c4
    refine lv_aload_n hx hb dX12_length_11 rfl (lv_at hl 0 rfl) ?_
    refine gfX12_library hx hb hts hK hP hown (hts _ tw_889) dX12_length_12 ?_
    refine lv_iload_n hx hb dX12_length_15 rfl (lv_at hl 1 rfl) ?_
    obtain ⟨Q5, hc, hw⟩ := hw
    refine wc_i (X := CX g q lb) (va_runV (As := [.int (I n1)]) (rest := []) ⟨hx, hb, hml, hown, hts⟩ (L_X3_lengthOf l g q lb hlb r_n1 hN hc H.size) (cwV 1 hts (TB_V tw_1421 tw_1292 tw_1293 tw_2 co_X3_lengthOf) rfl rfl rfl (by decide +kernel) ⟨Nat.le_of_ble_eq_true rfl, Nat.le_of_ble_eq_true rfl⟩) (preV (q0 := 1) (ci := 3) rfl xT_bl hP hK hNb hD rfl rfl xT_at) rfl rfl hl.1 rfl (lv_room (Nat.le_of_ble_eq_true rfl)) dX12_length_16 ⟨Nat.le_of_ble_eq_true rfl, Nat.le_of_ble_eq_true rfl⟩) hP hD hS hA (fun x6 H locs r_x6 hq hP hD hS => ?_)
    replace hw := hw x6 r_x6 hq
    refine lv_goto (tgt := 23) hx hb dX12_length_19 (by decide) ?_
    exact xri hx hb hr hlk hP hK hD hS ⟨_, r_x6, rfl, rfl, hw⟩ (Nat.le_of_ble_eq_true rfl) (Nat.le_of_ble_eq_true rfl) dX12_length_23
def W_X12_symbol (n1 : Int) (n2 : Int) (σ : S0) (Q : Int → Prop) : Prop :=
  ∃ (Q1 : Int → Prop), W_X3_isStatement n1 σ Q1 ∧ ∀ (x2 : Int), rg x2 → Q1 x2 → ((x2 = 0 → Q (-1)) ∧ (¬ x2 = 0 → (n2 < 0 → Q (-1)) ∧ (0 ≤ n2 → ∃ (Q6 : Int → Prop), W_X3_lengthOf n1 σ Q6 ∧ ∀ (x7 : Int), rg x7 → Q6 x7 → ((n2 < x7 → (0 ≤ n1 ∧ n1 < 1501) ∧ (∀ (x11 : Int), rg x11 → x11 = σ.2.1 14 n1 → ((0 ≤ (x11 + n2) ∧ (x11 + n2) < 30000) ∧ (∀ (x13 : Int), rg x13 → x13 = σ.2.1 15 (x11 + n2) → (Q x13))))) ∧ (x7 ≤ n2 → Q (-1))))))
set_option maxRecDepth 100000 in
set_option maxHeartbeats 4000000 in
theorem L_X12_symbol (l : Launch) (g : gG) (q : Nat → Nat) (lb : Nat) (hlb : lb < 2 ^ 31) {n1 : Int} {n2 : Int} {σ : S0} {Q : Int → Prop} (r_n1 : rg n1) (r_n2 : rg n2) (hN : n_m σ) (hw : W_X12_symbol n1 n2 σ Q) (sz : Nat) : MetI l yX12_symbol cX12_symbol 3 (some .int) { frames := 1, cells := 0, slots := 0, locals := 21 } g [.ref (q 0), .int (I n1), .int (I n2)] (CX g q lb σ) sz xT (p_i (CX g q lb) σ Q) 0 0 := by
  refine mkMet (Qc := fun A => QI g A (p_i (CX g q lb) σ Q)) (by decide) (Nat.le_of_ble_eq_true rfl) ?_
  intro p e s m below meth c A H ls hx hb hr hml hown hts hlk hnm hsz hP hK hNb hD hA hAe hS hX hl
  have hl : lv_has ls 3 [(0, .ref (q 0)), (1, .int (I n1)), (2, .int (I n2))] := hl
  have hB := hN
  obtain ⟨locs, hlocs⟩ : ∃ z : List Loc, z = [] := ⟨_, rfl⟩
  rw [← hlocs] at hS ⊢
  refine lv_aload_n hx hb dX12_symbol_0 rfl (lv_at hl 0 rfl) ?_
  refine gfX12_library hx hb hts hK hP hown (hts _ tw_889) dX12_symbol_1 ?_
  refine lv_iload_n hx hb dX12_symbol_4 rfl (lv_at hl 1 rfl) ?_
  obtain ⟨Q1, hc, hw⟩ := hw
  refine wc_i (X := CX g q lb) (va_runV (As := [.int (I n1)]) (rest := []) ⟨hx, hb, hml, hown, hts⟩ (L_X3_isStatement l g q lb hlb r_n1 hN hc H.size) (cwV 1 hts (TB_V tw_1413 tw_1414 tw_1415 tw_2 co_X3_isStatement) rfl rfl rfl (by decide +kernel) ⟨Nat.le_of_ble_eq_true rfl, Nat.le_of_ble_eq_true rfl⟩) (preV (q0 := 1) (ci := 3) rfl xT_bl hP hK hNb hD rfl rfl xT_at) rfl rfl hl.1 rfl (lv_room (Nat.le_of_ble_eq_true rfl)) dX12_symbol_5 ⟨Nat.le_of_ble_eq_true rfl, Nat.le_of_ble_eq_true rfl⟩) hP hD hS hA (fun x2 H locs r_x2 hq hP hD hS => ?_)
  replace hw := hw x2 r_x2 hq
  refine bi_if_eq (tgt := 27) hx hb r_x2 dX12_symbol_8 (by decide) (fun c4 => ?_) (fun c4 => ?_)
  ·
    replace hw := hw.1 c4
    refine lv_iconst (v := I (-1)) hx hb dX12_symbol_27 rfl ?_
    exact xri hx hb hr hlk hP hK hD hS ⟨_, (by decide), rfl, rfl, hw⟩ (Nat.le_of_ble_eq_true rfl) (Nat.le_of_ble_eq_true rfl) dX12_symbol_28
  ·
    replace hw := hw.2 c4
    refine lv_iload_n hx hb dX12_symbol_11 rfl (lv_at hl 2 rfl) ?_
    refine bi_if_lt (tgt := 27) hx hb r_n2 dX12_symbol_12 (by decide) (fun c5 => ?_) (fun c5 => ?_)
    ·
      replace hw := hw.1 c5
      refine lv_iconst (v := I (-1)) hx hb dX12_symbol_27 rfl ?_
      exact xri hx hb hr hlk hP hK hD hS ⟨_, (by decide), rfl, rfl, hw⟩ (Nat.le_of_ble_eq_true rfl) (Nat.le_of_ble_eq_true rfl) dX12_symbol_28
    ·
      replace hw := hw.2 c5
      refine lv_iload_n hx hb dX12_symbol_15 rfl (lv_at hl 2 rfl) ?_
      refine lv_aload_n hx hb dX12_symbol_16 rfl (lv_at hl 0 rfl) ?_
      refine gfX12_library hx hb hts hK hP hown (hts _ tw_889) dX12_symbol_17 ?_
      refine lv_iload_n hx hb dX12_symbol_20 rfl (lv_at hl 1 rfl) ?_
      obtain ⟨Q6, hc, hw⟩ := hw
      refine wc_i (X := CX g q lb) (va_runV (As := [.int (I n1)]) (rest := [.int (I n2)]) ⟨hx, hb, hml, hown, hts⟩ (L_X3_lengthOf l g q lb hlb r_n1 hN hc H.size) (cwV 1 hts (TB_V tw_1421 tw_1292 tw_1293 tw_2 co_X3_lengthOf) rfl rfl rfl (by decide +kernel) ⟨Nat.le_of_ble_eq_true rfl, Nat.le_of_ble_eq_true rfl⟩) (preV (q0 := 1) (ci := 3) rfl xT_bl hP hK hNb hD rfl rfl xT_at) rfl rfl hl.1 rfl (lv_room (Nat.le_of_ble_eq_true rfl)) dX12_symbol_21 ⟨Nat.le_of_ble_eq_true rfl, Nat.le_of_ble_eq_true rfl⟩) hP hD hS hA (fun x7 H locs r_x7 hq hP hD hS => ?_)
      replace hw := hw x7 r_x7 hq
      refine bi_icmp_lt (tgt := 29) hx hb r_n2 r_x7 dX12_symbol_24 (by decide) (fun c9 => ?_) (fun c9 => ?_)
      ·
        replace hw := hw.1 c9
        refine lv_aload_n hx hb dX12_symbol_29 rfl (lv_at hl 0 rfl) ?_
        refine gfX12_library hx hb hts hK hP hown (hts _ tw_889) dX12_symbol_30 ?_
        refine gfNX3_text hx hb hts hK hP hown (nb_use hNb tn_90) dX12_symbol_33 ?_
        refine lv_aload_n hx hb dX12_symbol_36 rfl (lv_at hl 0 rfl) ?_
        refine gfX12_library hx hb hts hK hP hown (hts _ tw_889) dX12_symbol_37 ?_
        refine gfNX3_at hx hb hts hK hP hown (nb_use hNb tn_83) dX12_symbol_40 ?_
        refine lv_iload_n hx hb dX12_symbol_43 rfl (lv_at hl 1 rfl) ?_
        obtain ⟨c10, hw⟩ := hw
        refine ldCX3_at hx hb hK hP hN c10 dX12_symbol_44 (fun x11 r_x11 e_x11 => ?_)
        replace hw := hw x11 r_x11 e_x11
        refine lv_iload_n hx hb dX12_symbol_45 rfl (lv_at hl 2 rfl) ?_
        refine bi_iadd hx hb dX12_symbol_46 ?_
        obtain ⟨c12, hw⟩ := hw
        refine ldCX3_text hx hb hK hP hN c12 dX12_symbol_47 (fun x13 r_x13 e_x13 => ?_)
        replace hw := hw x13 r_x13 e_x13
        exact xri hx hb hr hlk hP hK hD hS ⟨_, r_x13, rfl, rfl, hw⟩ (Nat.le_of_ble_eq_true rfl) (Nat.le_of_ble_eq_true rfl) dX12_symbol_48
      ·
        replace hw := hw.2 c9
        refine lv_iconst (v := I (-1)) hx hb dX12_symbol_27 rfl ?_
        exact xri hx hb hr hlk hP hK hD hS ⟨_, (by decide), rfl, rfl, hw⟩ (Nat.le_of_ble_eq_true rfl) (Nat.le_of_ble_eq_true rfl) dX12_symbol_28
def W_X12_variable (n1 : Int) (σ : S0) (Q : Int → Prop) : Prop :=
  ∃ (Q1 : Int → Prop), W_X3_isSymbol n1 σ Q1 ∧ ∀ (x2 : Int), rg x2 → Q1 x2 → ((¬ x2 = 0 → (0 ≤ n1 ∧ n1 < 1000) ∧ (∀ (x6 : Int), rg x6 → x6 = σ.2.1 8 n1 → ((x6 = 0 → Q 0) ∧ (¬ x6 = 0 → Q 1)))) ∧ (x2 = 0 → Q (-1)))
set_option maxRecDepth 100000 in
set_option maxHeartbeats 4000000 in
theorem L_X12_variable (l : Launch) (g : gG) (q : Nat → Nat) (lb : Nat) (hlb : lb < 2 ^ 31) {n1 : Int} {σ : S0} {Q : Int → Prop} (r_n1 : rg n1) (hN : n_m σ) (hw : W_X12_variable n1 σ Q) (sz : Nat) : MetI l yX12_variable cX12_variable 2 (some .int) { frames := 1, cells := 0, slots := 0, locals := 21 } g [.ref (q 0), .int (I n1)] (CX g q lb σ) sz xT (p_i (CX g q lb) σ Q) 0 0 := by
  refine mkMet (Qc := fun A => QI g A (p_i (CX g q lb) σ Q)) (by decide) (Nat.le_of_ble_eq_true rfl) ?_
  intro p e s m below meth c A H ls hx hb hr hml hown hts hlk hnm hsz hP hK hNb hD hA hAe hS hX hl
  have hl : lv_has ls 2 [(0, .ref (q 0)), (1, .int (I n1))] := hl
  have hB := hN
  obtain ⟨locs, hlocs⟩ : ∃ z : List Loc, z = [] := ⟨_, rfl⟩
  rw [← hlocs] at hS ⊢
  refine lv_aload_n hx hb dX12_variable_0 rfl (lv_at hl 0 rfl) ?_
  refine gfX12_library hx hb hts hK hP hown (hts _ tw_889) dX12_variable_1 ?_
  refine lv_iload_n hx hb dX12_variable_4 rfl (lv_at hl 1 rfl) ?_
  obtain ⟨Q1, hc, hw⟩ := hw
  refine wc_i (X := CX g q lb) (va_runV (As := [.int (I n1)]) (rest := []) ⟨hx, hb, hml, hown, hts⟩ (L_X3_isSymbol l g q lb hlb r_n1 hN hc H.size) (cwV 1 hts (TB_V tw_1430 tw_1431 tw_1432 tw_2 co_X3_isSymbol) rfl rfl rfl (by decide +kernel) ⟨Nat.le_of_ble_eq_true rfl, Nat.le_of_ble_eq_true rfl⟩) (preV (q0 := 1) (ci := 3) rfl xT_bl hP hK hNb hD rfl rfl xT_at) rfl rfl hl.1 rfl (lv_room (Nat.le_of_ble_eq_true rfl)) dX12_variable_5 ⟨Nat.le_of_ble_eq_true rfl, Nat.le_of_ble_eq_true rfl⟩) hP hD hS hA (fun x2 H locs r_x2 hq hP hD hS => ?_)
  replace hw := hw x2 r_x2 hq
  refine bi_if_ne (tgt := 13) hx hb r_x2 dX12_variable_8 (by decide) (fun c4 => ?_) (fun c4 => ?_)
  ·
    replace hw := hw.1 c4
    refine lv_aload_n hx hb dX12_variable_13 rfl (lv_at hl 0 rfl) ?_
    refine gfX12_library hx hb hts hK hP hown (hts _ tw_889) dX12_variable_14 ?_
    refine gfNX3_variable hx hb hts hK hP hown (nb_use hNb tn_49) dX12_variable_17 ?_
    refine lv_iload_n hx hb dX12_variable_20 rfl (lv_at hl 1 rfl) ?_
    obtain ⟨c5, hw⟩ := hw
    refine ldCX3_variable hx hb hK hP hN c5 dX12_variable_21 (fun x6 r_x6 e_x6 => ?_)
    replace hw := hw x6 r_x6 e_x6
    refine bi_if_eq (tgt := 29) hx hb r_x6 dX12_variable_22 (by decide) (fun c7 => ?_) (fun c7 => ?_)
    ·
      replace hw := hw.1 c7
      refine lv_iconst (v := I 0) hx hb dX12_variable_29 rfl ?_
      exact xri hx hb hr hlk hP hK hD hS ⟨_, (by decide), rfl, rfl, hw⟩ (Nat.le_of_ble_eq_true rfl) (Nat.le_of_ble_eq_true rfl) dX12_variable_30
    ·
      replace hw := hw.2 c7
      refine lv_iconst (v := I 1) hx hb dX12_variable_25 rfl ?_
      refine lv_goto (tgt := 30) hx hb dX12_variable_26 (by decide) ?_
      exact xri hx hb hr hlk hP hK hD hS ⟨_, (by decide), rfl, rfl, hw⟩ (Nat.le_of_ble_eq_true rfl) (Nat.le_of_ble_eq_true rfl) dX12_variable_30
  ·
    replace hw := hw.2 c4
    refine lv_iconst (v := I (-1)) hx hb dX12_variable_11 rfl ?_
    exact xri hx hb hr hlk hP hK hD hS ⟨_, (by decide), rfl, rfl, hw⟩ (Nat.le_of_ble_eq_true rfl) (Nat.le_of_ble_eq_true rfl) dX12_variable_12
def W_X3_symbolNamed_q13 (n2 : Int) (n3 : Int) (σ : S0) (Q : Int → Prop) : Prop :=
  ∃ (Q1 : Int → Prop), W_X3_nameOf_q13 n2 n3 σ Q1 ∧ ∀ (x2 : Int), rg x2 → Q1 x2 → (∃ (Q4 : Int → Prop), W_X3_symbolOf x2 σ Q4 ∧ ∀ (x5 : Int), rg x5 → Q4 x5 → (Q x5))
set_option maxRecDepth 100000 in
set_option maxHeartbeats 4000000 in
theorem L_X3_symbolNamed_q13 (l : Launch) (g : gG) (q : Nat → Nat) (lb : Nat) (hlb : lb < 2 ^ 31) {n2 : Int} {n3 : Int} {σ : S0} {Q : Int → Prop} (r_n2 : rg n2) (r_n3 : rg n3) (hN : n_m σ) (hw : W_X3_symbolNamed_q13 n2 n3 σ Q) (sz : Nat) : MetI l yX3_symbolNamed cX3_symbolNamed 4 (some .int) { frames := 2, cells := 0, slots := 0, locals := 51 } g [.ref (q 1), .ref (q 13), .int (I n2), .int (I n3)] (CX g q lb σ) sz xT (p_i (CX g q lb) σ Q) 0 0 := by
  refine mkMet (Qc := fun A => QI g A (p_i (CX g q lb) σ Q)) (by decide) (Nat.le_of_ble_eq_true rfl) ?_
  intro p e s m below meth c A H ls hx hb hr hml hown hts hlk hnm hsz hP hK hNb hD hA hAe hS hX hl
  have hl : lv_has ls 4 [(0, .ref (q 1)), (1, .ref (q 13)), (2, .int (I n2)), (3, .int (I n3))] := hl
  have hB := hN
  obtain ⟨locs, hlocs⟩ : ∃ z : List Loc, z = [] := ⟨_, rfl⟩
  rw [← hlocs] at hS ⊢
  refine lv_aload_n hx hb dX3_symbolNamed_0 rfl (lv_at hl 0 rfl) ?_
  refine lv_aload_n hx hb dX3_symbolNamed_1 rfl (lv_at hl 0 rfl) ?_
  refine lv_aload_n hx hb dX3_symbolNamed_2 rfl (lv_at hl 1 rfl) ?_
  refine lv_iload_n hx hb dX3_symbolNamed_3 rfl (lv_at hl 2 rfl) ?_
  refine lv_iload_n hx hb dX3_symbolNamed_4 rfl (lv_at hl 3 rfl) ?_
  obtain ⟨Q1, hc, hw⟩ := hw
  refine wc_i (X := CX g q lb) (va_runV (As := [.ref (q 13), .int (I n2), .int (I n3)]) (rest := [.ref (q 1)]) ⟨hx, hb, hml, hown, hts⟩ (L_X3_nameOf_q13 l g q lb hlb r_n2 r_n3 hN hc H.size) (cwV 3 hts (TB_V tw_1444 tw_1104 tw_1105 tw_2 co_X3_nameOf) rfl rfl rfl (by decide +kernel) ⟨Nat.le_of_ble_eq_true rfl, Nat.le_of_ble_eq_true rfl⟩) (preV (q0 := 1) (ci := 3) rfl xT_bl hP hK hNb hD rfl rfl xT_at) rfl rfl hl.1 rfl (lv_room (Nat.le_of_ble_eq_true rfl)) dX3_symbolNamed_5 ⟨Nat.le_of_ble_eq_true rfl, Nat.le_of_ble_eq_true rfl⟩) hP hD hS hA (fun x2 H locs r_x2 hq hP hD hS => ?_)
  replace hw := hw x2 r_x2 hq
  obtain ⟨Q4, hc, hw⟩ := hw
  refine wc_i (X := CX g q lb) (va_runV (As := [.int (I x2)]) (rest := []) ⟨hx, hb, hml, hown, hts⟩ (L_X3_symbolOf l g q lb hlb r_x2 hN hc H.size) (cwV 1 hts (TB_V tw_1450 tw_1115 tw_1116 tw_2 co_X3_symbolOf) rfl rfl rfl (by decide +kernel) ⟨Nat.le_of_ble_eq_true rfl, Nat.le_of_ble_eq_true rfl⟩) (preV (q0 := 1) (ci := 3) rfl xT_bl hP hK hNb hD rfl rfl xT_at) rfl rfl hl.1 rfl (lv_room (Nat.le_of_ble_eq_true rfl)) dX3_symbolNamed_8 ⟨Nat.le_of_ble_eq_true rfl, Nat.le_of_ble_eq_true rfl⟩) hP hD hS hA (fun x5 H locs r_x5 hq hP hD hS => ?_)
  replace hw := hw x5 r_x5 hq
  exact xri hx hb hr hlk hP hK hD hS ⟨_, r_x5, rfl, rfl, hw⟩ (Nat.le_of_ble_eq_true rfl) (Nat.le_of_ble_eq_true rfl) dX3_symbolNamed_11
def W_X3_statementNamed_q13 (n2 : Int) (n3 : Int) (σ : S0) (Q : Int → Prop) : Prop :=
  ∃ (Q1 : Int → Prop), W_X3_nameOf_q13 n2 n3 σ Q1 ∧ ∀ (x2 : Int), rg x2 → Q1 x2 → (∃ (Q4 : Int → Prop), W_X3_statementOf x2 σ Q4 ∧ ∀ (x5 : Int), rg x5 → Q4 x5 → (Q x5))
set_option maxRecDepth 100000 in
set_option maxHeartbeats 4000000 in
theorem L_X3_statementNamed_q13 (l : Launch) (g : gG) (q : Nat → Nat) (lb : Nat) (hlb : lb < 2 ^ 31) {n2 : Int} {n3 : Int} {σ : S0} {Q : Int → Prop} (r_n2 : rg n2) (r_n3 : rg n3) (hN : n_m σ) (hw : W_X3_statementNamed_q13 n2 n3 σ Q) (sz : Nat) : MetI l yX3_statementNamed cX3_statementNamed 4 (some .int) { frames := 2, cells := 0, slots := 0, locals := 51 } g [.ref (q 1), .ref (q 13), .int (I n2), .int (I n3)] (CX g q lb σ) sz xT (p_i (CX g q lb) σ Q) 0 0 := by
  refine mkMet (Qc := fun A => QI g A (p_i (CX g q lb) σ Q)) (by decide) (Nat.le_of_ble_eq_true rfl) ?_
  intro p e s m below meth c A H ls hx hb hr hml hown hts hlk hnm hsz hP hK hNb hD hA hAe hS hX hl
  have hl : lv_has ls 4 [(0, .ref (q 1)), (1, .ref (q 13)), (2, .int (I n2)), (3, .int (I n3))] := hl
  have hB := hN
  obtain ⟨locs, hlocs⟩ : ∃ z : List Loc, z = [] := ⟨_, rfl⟩
  rw [← hlocs] at hS ⊢
  refine lv_aload_n hx hb dX3_statementNamed_0 rfl (lv_at hl 0 rfl) ?_
  refine lv_aload_n hx hb dX3_statementNamed_1 rfl (lv_at hl 0 rfl) ?_
  refine lv_aload_n hx hb dX3_statementNamed_2 rfl (lv_at hl 1 rfl) ?_
  refine lv_iload_n hx hb dX3_statementNamed_3 rfl (lv_at hl 2 rfl) ?_
  refine lv_iload_n hx hb dX3_statementNamed_4 rfl (lv_at hl 3 rfl) ?_
  obtain ⟨Q1, hc, hw⟩ := hw
  refine wc_i (X := CX g q lb) (va_runV (As := [.ref (q 13), .int (I n2), .int (I n3)]) (rest := [.ref (q 1)]) ⟨hx, hb, hml, hown, hts⟩ (L_X3_nameOf_q13 l g q lb hlb r_n2 r_n3 hN hc H.size) (cwV 3 hts (TB_V tw_1444 tw_1104 tw_1105 tw_2 co_X3_nameOf) rfl rfl rfl (by decide +kernel) ⟨Nat.le_of_ble_eq_true rfl, Nat.le_of_ble_eq_true rfl⟩) (preV (q0 := 1) (ci := 3) rfl xT_bl hP hK hNb hD rfl rfl xT_at) rfl rfl hl.1 rfl (lv_room (Nat.le_of_ble_eq_true rfl)) dX3_statementNamed_5 ⟨Nat.le_of_ble_eq_true rfl, Nat.le_of_ble_eq_true rfl⟩) hP hD hS hA (fun x2 H locs r_x2 hq hP hD hS => ?_)
  replace hw := hw x2 r_x2 hq
  obtain ⟨Q4, hc, hw⟩ := hw
  refine wc_i (X := CX g q lb) (va_runV (As := [.int (I x2)]) (rest := []) ⟨hx, hb, hml, hown, hts⟩ (L_X3_statementOf l g q lb hlb r_x2 hN hc H.size) (cwV 1 hts (TB_V tw_1445 tw_1122 tw_1123 tw_2 co_X3_statementOf) rfl rfl rfl (by decide +kernel) ⟨Nat.le_of_ble_eq_true rfl, Nat.le_of_ble_eq_true rfl⟩) (preV (q0 := 1) (ci := 3) rfl xT_bl hP hK hNb hD rfl rfl xT_at) rfl rfl hl.1 rfl (lv_room (Nat.le_of_ble_eq_true rfl)) dX3_statementNamed_8 ⟨Nat.le_of_ble_eq_true rfl, Nat.le_of_ble_eq_true rfl⟩) hP hD hS hA (fun x5 H locs r_x5 hq hP hD hS => ?_)
  replace hw := hw x5 r_x5 hq
  exact xri hx hb hr hlk hP hK hD hS ⟨_, r_x5, rfl, rfl, hw⟩ (Nat.le_of_ble_eq_true rfl) (Nat.le_of_ble_eq_true rfl) dX3_statementNamed_11
def W_X12_find (n1 : Int) (σ : S0) (Q : Int → S0 → Prop) : Prop :=
  ∃ (Q1 : S0 → Prop), W_X12_useTape σ Q1 ∧ ∀ (τ3 : S0), n_m τ3 → f_r [0, 1] [] [] σ τ3 → Q1 τ3 → (rg (σ.1 0) ∧ ∃ (Q5 : Int → Prop), W_X12_skipBlanks_q13 0 (σ.1 0) τ3 Q5 ∧ ∀ (x6 : Int), rg x6 → Q5 x6 → (∃ (Q8 : Int → Prop), W_X12_tokenEnd_q13 x6 (σ.1 0) τ3 Q8 ∧ ∀ (x9 : Int), rg x9 → Q8 x9 → ((x9 = x6 → Q (-1) τ3) ∧ (¬ x9 = x6 → ∃ (Q12 : Int → Prop), W_X12_skipBlanks_q13 x9 (σ.1 0) τ3 Q12 ∧ ∀ (x13 : Int), rg x13 → Q12 x13 → ((σ.1 0 ≤ x13 → (¬ n1 = 0 → (¬ n1 = 1 → Q (-1) τ3) ∧ (n1 = 1 → rg (x9 - x6) ∧ ∃ (Q19 : Int → Prop), W_X3_symbolNamed_q13 x6 (x9 - x6) τ3 Q19 ∧ ∀ (x20 : Int), rg x20 → Q19 x20 → (Q x20 τ3))) ∧ (n1 = 0 → rg (x9 - x6) ∧ ∃ (Q23 : Int → Prop), W_X3_statementNamed_q13 x6 (x9 - x6) τ3 Q23 ∧ ∀ (x24 : Int), rg x24 → Q23 x24 → (Q x24 τ3))) ∧ (x13 < σ.1 0 → Q (-1) τ3))))))
set_option maxRecDepth 100000 in
set_option maxHeartbeats 4000000 in
theorem L_X12_find (l : Launch) (g : gG) (q : Nat → Nat) (lb : Nat) (hlb : lb < 2 ^ 31) {n1 : Int} {σ : S0} {Q : Int → S0 → Prop} (r_n1 : rg n1) (hN : n_m σ) (hw : W_X12_find n1 σ Q) (sz : Nat) : MetI l yX12_find cX12_find 5 (some .int) { frames := 3, cells := 0, slots := 0, locals := 74 } g [.ref (q 0), .int (I n1)] (CX g q lb σ) sz xT (p_I (CX g q lb) [0, 1] [] [] σ Q) 0 0 := by
  refine mkMet (Qc := fun A => QI g A (p_I (CX g q lb) [0, 1] [] [] σ Q)) (by decide) (Nat.le_of_ble_eq_true rfl) ?_
  intro p e s m below meth c A H ls hx hb hr hml hown hts hlk hnm hsz hP hK hNb hD hA hAe hS hX hl
  have hl : lv_has ls 5 [(0, .ref (q 0)), (1, .int (I n1))] := hl
  have hB := hN
  have hF : f_r [0, 1] [] [] σ σ := f_0
  obtain ⟨locs, hlocs⟩ : ∃ z : List Loc, z = [] := ⟨_, rfl⟩
  rw [← hlocs] at hS ⊢
  refine lv_aload_n hx hb dX12_find_0 rfl (lv_at hl 0 rfl) ?_
  refine gfX12_tapeLength hx hb hts hK hP hown (hts _ tw_885) (x := σ.1 0) rfl dX12_find_1 ?_
  refine lv_istore_n (lv' := [(2, .int (I (σ.1 0))), (0, .ref (q 0)), (1, .int (I n1))]) hx hb dX12_find_4 rfl hl (by decide) rfl (fun ls hl => ?_)
  refine lv_aload_n hx hb dX12_find_5 rfl (lv_at hl 1 rfl) ?_
  obtain ⟨Q1, hc, hw⟩ := hw
  refine wc_V (X := CX g q lb) (va_runV (As := []) (rest := []) ⟨hx, hb, hml, hown, hts⟩ (L_X12_useTape l g q lb hlb  hN hc H.size) (cwV 0 hts (TB_V tw_1389 tw_1391 ts_51 tw_1 co_X12_useTape) rfl rfl rfl (by decide +kernel) ⟨Nat.le_of_ble_eq_true rfl, Nat.le_of_ble_eq_true rfl⟩) (preV (q0 := 0) (ci := 12) rfl xT_bl hP hK hNb hD rfl rfl xT_at) rfl rfl hl.1 rfl (lv_room (Nat.le_of_ble_eq_true rfl)) dX12_find_6 ⟨Nat.le_of_ble_eq_true rfl, Nat.le_of_ble_eq_true rfl⟩) hP hD hS hA (fun τ3 H locs hN hf hq hP hD hS => ?_)
  replace hw := hw τ3 hN hf hq
  have hF : f_r [0, 1] [] [] σ τ3 := f_t hF hf (by decide) (by decide) (by decide)
  have hB := hN
  refine lv_aload_n hx hb dX12_find_9 rfl (lv_at hl 1 rfl) ?_
  refine gfX12_tape hx hb hts hK hP hown (hts _ tw_884) dX12_find_10 ?_
  refine lv_iconst (v := I 0) hx hb dX12_find_13 rfl ?_
  refine lv_iload_n hx hb dX12_find_14 rfl (lv_at hl 0 rfl) ?_
  obtain ⟨c4, hw⟩ := hw
  obtain ⟨Q5, hc, hw⟩ := hw
  refine wc_i (X := CX g q lb) (va_runS (As := [.ref (q 13), .int (I 0), .int (I (σ.1 0))]) (rest := []) ⟨hx, hb, hml, hown, hts⟩ (L_X12_skipBlanks_q13 l g q lb hlb (by decide) c4 hN hc H.size) (cwS 3 hts (TB_S tw_1438 tw_974 tw_1 co_X12_skipBlanks) rfl rfl rfl (by decide +kernel) ⟨Nat.le_of_ble_eq_true rfl, Nat.le_of_ble_eq_true rfl⟩) (preS xT_bl hP hK hNb hD xT_at) rfl rfl hl.1 rfl (lv_room (Nat.le_of_ble_eq_true rfl)) dX12_find_15 ⟨Nat.le_of_ble_eq_true rfl, Nat.le_of_ble_eq_true rfl⟩) hP hD hS hA (fun x6 H locs r_x6 hq hP hD hS => ?_)
  replace hw := hw x6 r_x6 hq
  refine lv_istore_n (lv' := [(3, .int (I x6)), (2, .int (I (σ.1 0))), (0, .ref (q 0)), (1, .int (I n1))]) hx hb dX12_find_18 rfl hl (by decide) rfl (fun ls hl => ?_)
  refine lv_aload_n hx hb dX12_find_19 rfl (lv_at hl 2 rfl) ?_
  refine gfX12_tape hx hb hts hK hP hown (hts _ tw_884) dX12_find_20 ?_
  refine lv_iload_n hx hb dX12_find_23 rfl (lv_at hl 0 rfl) ?_
  refine lv_iload_n hx hb dX12_find_24 rfl (lv_at hl 1 rfl) ?_
  obtain ⟨Q8, hc, hw⟩ := hw
  refine wc_i (X := CX g q lb) (va_runS (As := [.ref (q 13), .int (I x6), .int (I (σ.1 0))]) (rest := []) ⟨hx, hb, hml, hown, hts⟩ (L_X12_tokenEnd_q13 l g q lb hlb r_x6 c4 hN hc H.size) (cwS 3 hts (TB_S tw_1439 tw_980 tw_1 co_X12_tokenEnd) rfl rfl rfl (by decide +kernel) ⟨Nat.le_of_ble_eq_true rfl, Nat.le_of_ble_eq_true rfl⟩) (preS xT_bl hP hK hNb hD xT_at) rfl rfl hl.1 rfl (lv_room (Nat.le_of_ble_eq_true rfl)) dX12_find_25 ⟨Nat.le_of_ble_eq_true rfl, Nat.le_of_ble_eq_true rfl⟩) hP hD hS hA (fun x9 H locs r_x9 hq hP hD hS => ?_)
  replace hw := hw x9 r_x9 hq
  refine lv_istore (lv' := [(4, .int (I x9)), (3, .int (I x6)), (2, .int (I (σ.1 0))), (0, .ref (q 0)), (1, .int (I n1))]) hx hb dX12_find_28 hl (by decide) rfl (fun ls hl => ?_)
  refine lv_iload hx hb dX12_find_30 (lv_at hl 0 rfl) ?_
  refine lv_iload_n hx hb dX12_find_32 rfl (lv_at hl 1 rfl) ?_
  refine bi_icmp_eq (tgt := 50) hx hb r_x9 r_x6 dX12_find_33 (by decide) (fun c11 => ?_) (fun c11 => ?_)
  ·
    replace hw := hw.1 c11
    refine lv_iconst (v := I (-1)) hx hb dX12_find_50 rfl ?_
    exact xri hx hb hr hlk hP hK hD hS ⟨_, _, (by decide), rfl, hN, hF, rfl, hw⟩ (Nat.le_of_ble_eq_true rfl) (Nat.le_of_ble_eq_true rfl) dX12_find_51
  ·
    replace hw := hw.2 c11
    refine lv_aload_n hx hb dX12_find_36 rfl (lv_at hl 3 rfl) ?_
    refine gfX12_tape hx hb hts hK hP hown (hts _ tw_884) dX12_find_37 ?_
    refine lv_iload hx hb dX12_find_40 (lv_at hl 0 rfl) ?_
    refine lv_iload_n hx hb dX12_find_42 rfl (lv_at hl 2 rfl) ?_
    obtain ⟨Q12, hc, hw⟩ := hw
    refine wc_i (X := CX g q lb) (va_runS (As := [.ref (q 13), .int (I x9), .int (I (σ.1 0))]) (rest := []) ⟨hx, hb, hml, hown, hts⟩ (L_X12_skipBlanks_q13 l g q lb hlb r_x9 c4 hN hc H.size) (cwS 3 hts (TB_S tw_1438 tw_974 tw_1 co_X12_skipBlanks) rfl rfl rfl (by decide +kernel) ⟨Nat.le_of_ble_eq_true rfl, Nat.le_of_ble_eq_true rfl⟩) (preS xT_bl hP hK hNb hD xT_at) rfl rfl hl.1 rfl (lv_room (Nat.le_of_ble_eq_true rfl)) dX12_find_43 ⟨Nat.le_of_ble_eq_true rfl, Nat.le_of_ble_eq_true rfl⟩) hP hD hS hA (fun x13 H locs r_x13 hq hP hD hS => ?_)
    replace hw := hw x13 r_x13 hq
    refine lv_iload_n hx hb dX12_find_46 rfl (lv_at hl 2 rfl) ?_
    refine bi_icmp_ge (tgt := 52) hx hb r_x13 c4 dX12_find_47 (by decide) (fun c15 => ?_) (fun c15 => ?_)
    ·
      replace hw := hw.1 c15
      refine lv_iload_n hx hb dX12_find_52 rfl (lv_at hl 4 rfl) ?_
      refine bi_if_ne (tgt := 73) hx hb r_n1 dX12_find_53 (by decide) (fun c16 => ?_) (fun c16 => ?_)
      ·
        replace hw := hw.1 c16
        refine lv_iload_n hx hb dX12_find_73 rfl (lv_at hl 4 rfl) ?_
        refine lv_iconst (v := I 1) hx hb dX12_find_74 rfl ?_
        refine bi_icmp_ne (tgt := 97) hx hb r_n1 (by decide) dX12_find_75 (by decide) (fun c17 => ?_) (fun c17 => ?_)
        ·
          replace hw := hw.1 c17
          refine lv_iconst (v := I (-1)) hx hb dX12_find_97 rfl ?_
          exact xri hx hb hr hlk hP hK hD hS ⟨_, _, (by decide), rfl, hN, hF, rfl, hw⟩ (Nat.le_of_ble_eq_true rfl) (Nat.le_of_ble_eq_true rfl) dX12_find_98
        ·
          replace hw := hw.2 c17
          refine lv_aload_n hx hb dX12_find_78 rfl (lv_at hl 3 rfl) ?_
          refine gfX12_library hx hb hts hK hP hown (hts _ tw_889) dX12_find_79 ?_
          refine lv_aload_n hx hb dX12_find_82 rfl (lv_at hl 3 rfl) ?_
          refine gfX12_tape hx hb hts hK hP hown (hts _ tw_884) dX12_find_83 ?_
          refine lv_iload_n hx hb dX12_find_86 rfl (lv_at hl 1 rfl) ?_
          refine lv_iload hx hb dX12_find_87 (lv_at hl 0 rfl) ?_
          refine lv_iload_n hx hb dX12_find_89 rfl (lv_at hl 1 rfl) ?_
          refine bi_isub hx hb dX12_find_90 ?_
          obtain ⟨c18, hw⟩ := hw
          obtain ⟨Q19, hc, hw⟩ := hw
          refine wc_i (X := CX g q lb) (va_runV (As := [.ref (q 13), .int (I x6), .int (I (x9 - x6))]) (rest := []) ⟨hx, hb, hml, hown, hts⟩ (L_X3_symbolNamed_q13 l g q lb hlb r_x6 c18 hN hc H.size) (cwV 3 hts (TB_V tw_1446 tw_1447 tw_1448 tw_2 co_X3_symbolNamed) rfl rfl rfl (by decide +kernel) ⟨Nat.le_of_ble_eq_true rfl, Nat.le_of_ble_eq_true rfl⟩) (preV (q0 := 1) (ci := 3) rfl xT_bl hP hK hNb hD rfl rfl xT_at) rfl rfl hl.1 rfl (lv_room (Nat.le_of_ble_eq_true rfl)) dX12_find_91 ⟨Nat.le_of_ble_eq_true rfl, Nat.le_of_ble_eq_true rfl⟩) hP hD hS hA (fun x20 H locs r_x20 hq hP hD hS => ?_)
          replace hw := hw x20 r_x20 hq
          refine lv_goto (tgt := 98) hx hb dX12_find_94 (by decide) ?_
          exact xri hx hb hr hlk hP hK hD hS ⟨_, _, r_x20, rfl, hN, hF, rfl, hw⟩ (Nat.le_of_ble_eq_true rfl) (Nat.le_of_ble_eq_true rfl) dX12_find_98
      ·
        replace hw := hw.2 c16
        refine lv_aload_n hx hb dX12_find_56 rfl (lv_at hl 3 rfl) ?_
        refine gfX12_library hx hb hts hK hP hown (hts _ tw_889) dX12_find_57 ?_
        refine lv_aload_n hx hb dX12_find_60 rfl (lv_at hl 3 rfl) ?_
        refine gfX12_tape hx hb hts hK hP hown (hts _ tw_884) dX12_find_61 ?_
        refine lv_iload_n hx hb dX12_find_64 rfl (lv_at hl 1 rfl) ?_
        refine lv_iload hx hb dX12_find_65 (lv_at hl 0 rfl) ?_
        refine lv_iload_n hx hb dX12_find_67 rfl (lv_at hl 1 rfl) ?_
        refine bi_isub hx hb dX12_find_68 ?_
        obtain ⟨c22, hw⟩ := hw
        obtain ⟨Q23, hc, hw⟩ := hw
        refine wc_i (X := CX g q lb) (va_runV (As := [.ref (q 13), .int (I x6), .int (I (x9 - x6))]) (rest := []) ⟨hx, hb, hml, hown, hts⟩ (L_X3_statementNamed_q13 l g q lb hlb r_x6 c22 hN hc H.size) (cwV 3 hts (TB_V tw_1440 tw_1441 tw_1442 tw_2 co_X3_statementNamed) rfl rfl rfl (by decide +kernel) ⟨Nat.le_of_ble_eq_true rfl, Nat.le_of_ble_eq_true rfl⟩) (preV (q0 := 1) (ci := 3) rfl xT_bl hP hK hNb hD rfl rfl xT_at) rfl rfl hl.1 rfl (lv_room (Nat.le_of_ble_eq_true rfl)) dX12_find_69 ⟨Nat.le_of_ble_eq_true rfl, Nat.le_of_ble_eq_true rfl⟩) hP hD hS hA (fun x24 H locs r_x24 hq hP hD hS => ?_)
        replace hw := hw x24 r_x24 hq
        exact xri hx hb hr hlk hP hK hD hS ⟨_, _, r_x24, rfl, hN, hF, rfl, hw⟩ (Nat.le_of_ble_eq_true rfl) (Nat.le_of_ble_eq_true rfl) dX12_find_72
    ·
      replace hw := hw.2 c15
      refine lv_iconst (v := I (-1)) hx hb dX12_find_50 rfl ?_
      exact xri hx hb hr hlk hP hK hD hS ⟨_, _, (by decide), rfl, hN, hF, rfl, hw⟩ (Nat.le_of_ble_eq_true rfl) (Nat.le_of_ble_eq_true rfl) dX12_find_51
def W_X12_frame (n1 : Int) (n2 : Int) (σ : S0) (Q : Int → Prop) : Prop :=
  ∃ (Q1 : Int → Prop), W_X3_isAssertion n1 σ Q1 ∧ ∀ (x2 : Int), rg x2 → Q1 x2 → ((¬ x2 = 0 → (n2 < 0 ∨ 2 < n2 → Q (-1)) ∧ (n2 = 0 → (0 ≤ n1 ∧ n1 < 1500) ∧ (∀ (x7 : Int), rg x7 → x7 = σ.2.1 28 n1 → (Q x7))) ∧ (n2 = 1 → (0 ≤ n1 ∧ n1 < 1500) ∧ (∀ (x9 : Int), rg x9 → x9 = σ.2.1 31 n1 → (Q x9))) ∧ (n2 = 2 → (0 ≤ n1 ∧ n1 < 1500) ∧ (∀ (x11 : Int), rg x11 → x11 = σ.2.1 13 n1 → ((¬ x11 = 4 → ∃ (Q13 : Int → Prop), W_X0_restCount n1 σ Q13 ∧ ∀ (x14 : Int), rg x14 → Q13 x14 → (Q x14)) ∧ (x11 = 4 → Q (-1)))))) ∧ (x2 = 0 → Q (-1)))
set_option maxRecDepth 100000 in
set_option maxHeartbeats 4000000 in
theorem L_X12_frame (l : Launch) (g : gG) (q : Nat → Nat) (lb : Nat) (hlb : lb < 2 ^ 31) {n1 : Int} {n2 : Int} {σ : S0} {Q : Int → Prop} (r_n1 : rg n1) (r_n2 : rg n2) (hN : n_m σ) (hw : W_X12_frame n1 n2 σ Q) (sz : Nat) : MetI l yX12_frame cX12_frame 3 (some .int) { frames := 2, cells := 0, slots := 0, locals := 44 } g [.ref (q 0), .int (I n1), .int (I n2)] (CX g q lb σ) sz xT (p_i (CX g q lb) σ Q) 0 0 := by
  refine mkMet (Qc := fun A => QI g A (p_i (CX g q lb) σ Q)) (by decide) (Nat.le_of_ble_eq_true rfl) ?_
  intro p e s m below meth c A H ls hx hb hr hml hown hts hlk hnm hsz hP hK hNb hD hA hAe hS hX hl
  have hl : lv_has ls 3 [(0, .ref (q 0)), (1, .int (I n1)), (2, .int (I n2))] := hl
  have hB := hN
  obtain ⟨locs, hlocs⟩ : ∃ z : List Loc, z = [] := ⟨_, rfl⟩
  rw [← hlocs] at hS ⊢
  refine lv_aload_n hx hb dX12_frame_0 rfl (lv_at hl 0 rfl) ?_
  refine gfX12_library hx hb hts hK hP hown (hts _ tw_889) dX12_frame_1 ?_
  refine lv_iload_n hx hb dX12_frame_4 rfl (lv_at hl 1 rfl) ?_
  obtain ⟨Q1, hc, hw⟩ := hw
  refine wc_i (X := CX g q lb) (va_runV (As := [.int (I n1)]) (rest := []) ⟨hx, hb, hml, hown, hts⟩ (L_X3_isAssertion l g q lb hlb r_n1 hN hc H.size) (cwV 1 hts (TB_V tw_1455 tw_1456 tw_1457 tw_2 co_X3_isAssertion) rfl rfl rfl (by decide +kernel) ⟨Nat.le_of_ble_eq_true rfl, Nat.le_of_ble_eq_true rfl⟩) (preV (q0 := 1) (ci := 3) rfl xT_bl hP hK hNb hD rfl rfl xT_at) rfl rfl hl.1 rfl (lv_room (Nat.le_of_ble_eq_true rfl)) dX12_frame_5 ⟨Nat.le_of_ble_eq_true rfl, Nat.le_of_ble_eq_true rfl⟩) hP hD hS hA (fun x2 H locs r_x2 hq hP hD hS => ?_)
  replace hw := hw x2 r_x2 hq
  refine bi_if_ne (tgt := 13) hx hb r_x2 dX12_frame_8 (by decide) (fun c4 => ?_) (fun c4 => ?_)
  ·
    replace hw := hw.1 c4
    refine lv_iload_n hx hb dX12_frame_13 rfl (lv_at hl 2 rfl) ?_
    have rr := (r_n2 : rg n2)
    rcases bi_sw (x := n2) 0 2 with c5 | c5
    ·
      replace hw := hw.1 c5
      refine lv_tableOut (tgt := 86) hx hb dX12_frame_14 (by rw [I_toInt rr.1 rr.2]; exact c5) (by decide) ?_
      refine lv_iconst (v := I (-1)) hx hb dX12_frame_86 rfl ?_
      exact xri hx hb hr hlk hP hK hD hS ⟨_, (by decide), rfl, rfl, hw⟩ (Nat.le_of_ble_eq_true rfl) (Nat.le_of_ble_eq_true rfl) dX12_frame_87
    ·
      obtain ⟨k, hk, ec5⟩ := c5
      replace hw := hw.2
      rcases (show k = 0 ∨ k = 1 ∨ k = 2 by omega) with rfl | rfl | rfl
      ·
        have e9 : n2 = 0 := ec5
        refine lv_tableIn (tgt := 40) hx hb dX12_frame_14 (by rw [I_toInt rr.1 rr.2, e9]; decide) (by rw [I_toInt rr.1 rr.2, e9]; decide) (by rw [I_toInt rr.1 rr.2, e9]; rfl) (by decide) ?_
        replace hw := hw.1 e9
        refine lv_aload_n hx hb dX12_frame_40 rfl (lv_at hl 0 rfl) ?_
        refine gfX12_assertions hx hb hts hK hP hown (hts _ tw_891) dX12_frame_41 ?_
        refine gfNX0_frameSize hx hb hts hK hP hown (nb_use hNb tn_247) dX12_frame_44 ?_
        refine lv_iload_n hx hb dX12_frame_47 rfl (lv_at hl 1 rfl) ?_
        obtain ⟨c6, hw⟩ := hw
        refine ldCX0_frameSize hx hb hK hP hN c6 dX12_frame_48 (fun x7 r_x7 e_x7 => ?_)
        replace hw := hw x7 r_x7 e_x7
        exact xri hx hb hr hlk hP hK hD hS ⟨_, r_x7, rfl, rfl, hw⟩ (Nat.le_of_ble_eq_true rfl) (Nat.le_of_ble_eq_true rfl) dX12_frame_49
      ·
        have e9 : n2 = 1 := ec5
        refine lv_tableIn (tgt := 50) hx hb dX12_frame_14 (by rw [I_toInt rr.1 rr.2, e9]; decide) (by rw [I_toInt rr.1 rr.2, e9]; decide) (by rw [I_toInt rr.1 rr.2, e9]; rfl) (by decide) ?_
        replace hw := hw.2.1 e9
        refine lv_aload_n hx hb dX12_frame_50 rfl (lv_at hl 0 rfl) ?_
        refine gfX12_assertions hx hb hts hK hP hown (hts _ tw_891) dX12_frame_51 ?_
        refine gfNX0_pairSize hx hb hts hK hP hown (nb_use hNb tn_261) dX12_frame_54 ?_
        refine lv_iload_n hx hb dX12_frame_57 rfl (lv_at hl 1 rfl) ?_
        obtain ⟨c8, hw⟩ := hw
        refine ldCX0_pairSize hx hb hK hP hN c8 dX12_frame_58 (fun x9 r_x9 e_x9 => ?_)
        replace hw := hw x9 r_x9 e_x9
        exact xri hx hb hr hlk hP hK hD hS ⟨_, r_x9, rfl, rfl, hw⟩ (Nat.le_of_ble_eq_true rfl) (Nat.le_of_ble_eq_true rfl) dX12_frame_59
      ·
        have e9 : n2 = 2 := ec5
        refine lv_tableIn (tgt := 60) hx hb dX12_frame_14 (by rw [I_toInt rr.1 rr.2, e9]; decide) (by rw [I_toInt rr.1 rr.2, e9]; decide) (by rw [I_toInt rr.1 rr.2, e9]; rfl) (by decide) ?_
        replace hw := hw.2.2 e9
        refine lv_aload_n hx hb dX12_frame_60 rfl (lv_at hl 0 rfl) ?_
        refine gfX12_library hx hb hts hK hP hown (hts _ tw_889) dX12_frame_61 ?_
        refine gfNX3_kind hx hb hts hK hP hown (nb_use hNb tn_75) dX12_frame_64 ?_
        refine lv_iload_n hx hb dX12_frame_67 rfl (lv_at hl 1 rfl) ?_
        obtain ⟨c10, hw⟩ := hw
        refine ldCX3_kind hx hb hK hP hN c10 dX12_frame_68 (fun x11 r_x11 e_x11 => ?_)
        replace hw := hw x11 r_x11 e_x11
        refine lv_iconst (v := I 4) hx hb dX12_frame_69 rfl ?_
        refine bi_icmp_ne (tgt := 77) hx hb r_x11 (by decide) dX12_frame_70 (by decide) (fun c12 => ?_) (fun c12 => ?_)
        ·
          replace hw := hw.1 c12
          refine lv_aload_n hx hb dX12_frame_77 rfl (lv_at hl 0 rfl) ?_
          refine gfX12_assertions hx hb hts hK hP hown (hts _ tw_891) dX12_frame_78 ?_
          refine lv_iload_n hx hb dX12_frame_81 rfl (lv_at hl 1 rfl) ?_
          obtain ⟨Q13, hc, hw⟩ := hw
          refine wc_i (X := CX g q lb) (va_runV (As := [.int (I n1)]) (rest := []) ⟨hx, hb, hml, hown, hts⟩ (L_X0_restCount l g q lb hlb r_n1 hN hc H.size) (cwV 1 hts (TB_V tw_1460 tw_1461 tw_1462 tw_5 co_X0_restCount) rfl rfl rfl (by decide +kernel) ⟨Nat.le_of_ble_eq_true rfl, Nat.le_of_ble_eq_true rfl⟩) (preV (q0 := 3) (ci := 0) rfl xT_bl hP hK hNb hD rfl rfl xT_at) rfl rfl hl.1 rfl (lv_room (Nat.le_of_ble_eq_true rfl)) dX12_frame_82 ⟨Nat.le_of_ble_eq_true rfl, Nat.le_of_ble_eq_true rfl⟩) hP hD hS hA (fun x14 H locs r_x14 hq hP hD hS => ?_)
          replace hw := hw x14 r_x14 hq
          exact xri hx hb hr hlk hP hK hD hS ⟨_, r_x14, rfl, rfl, hw⟩ (Nat.le_of_ble_eq_true rfl) (Nat.le_of_ble_eq_true rfl) dX12_frame_85
        ·
          replace hw := hw.2 c12
          refine lv_iconst (v := I (-1)) hx hb dX12_frame_73 rfl ?_
          refine lv_goto (tgt := 85) hx hb dX12_frame_74 (by decide) ?_
          exact xri hx hb hr hlk hP hK hD hS ⟨_, (by decide), rfl, rfl, hw⟩ (Nat.le_of_ble_eq_true rfl) (Nat.le_of_ble_eq_true rfl) dX12_frame_85
  ·
    replace hw := hw.2 c4
    refine lv_iconst (v := I (-1)) hx hb dX12_frame_11 rfl ?_
    exact xri hx hb hr hlk hP hK hD hS ⟨_, (by decide), rfl, rfl, hw⟩ (Nat.le_of_ble_eq_true rfl) (Nat.le_of_ble_eq_true rfl) dX12_frame_12
def W_X12_hypothesis (n1 : Int) (n2 : Int) (σ : S0) (Q : Int → Prop) : Prop :=
  ∃ (Q1 : Int → Prop), W_X3_isAssertion n1 σ Q1 ∧ ∀ (x2 : Int), rg x2 → Q1 x2 → ((x2 = 0 → Q (-1)) ∧ (¬ x2 = 0 → (n2 < 0 → Q (-1)) ∧ (0 ≤ n2 → (0 ≤ n1 ∧ n1 < 1500) ∧ (∀ (x7 : Int), rg x7 → x7 = σ.2.1 28 n1 → ((n2 < x7 → ∀ (x9 : Int), rg x9 → x9 = σ.2.1 27 n1 → ((0 ≤ (x9 + n2) ∧ (x9 + n2) < 90000) ∧ (∀ (x11 : Int), rg x11 → x11 = σ.2.1 29 (x9 + n2) → (Q x11)))) ∧ (x7 ≤ n2 → Q (-1)))))))
set_option maxRecDepth 100000 in
set_option maxHeartbeats 4000000 in
theorem L_X12_hypothesis (l : Launch) (g : gG) (q : Nat → Nat) (lb : Nat) (hlb : lb < 2 ^ 31) {n1 : Int} {n2 : Int} {σ : S0} {Q : Int → Prop} (r_n1 : rg n1) (r_n2 : rg n2) (hN : n_m σ) (hw : W_X12_hypothesis n1 n2 σ Q) (sz : Nat) : MetI l yX12_hypothesis cX12_hypothesis 3 (some .int) { frames := 2, cells := 0, slots := 0, locals := 42 } g [.ref (q 0), .int (I n1), .int (I n2)] (CX g q lb σ) sz xT (p_i (CX g q lb) σ Q) 0 0 := by
  refine mkMet (Qc := fun A => QI g A (p_i (CX g q lb) σ Q)) (by decide) (Nat.le_of_ble_eq_true rfl) ?_
  intro p e s m below meth c A H ls hx hb hr hml hown hts hlk hnm hsz hP hK hNb hD hA hAe hS hX hl
  have hl : lv_has ls 3 [(0, .ref (q 0)), (1, .int (I n1)), (2, .int (I n2))] := hl
  have hB := hN
  obtain ⟨locs, hlocs⟩ : ∃ z : List Loc, z = [] := ⟨_, rfl⟩
  rw [← hlocs] at hS ⊢
  refine lv_aload_n hx hb dX12_hypothesis_0 rfl (lv_at hl 0 rfl) ?_
  refine gfX12_library hx hb hts hK hP hown (hts _ tw_889) dX12_hypothesis_1 ?_
  refine lv_iload_n hx hb dX12_hypothesis_4 rfl (lv_at hl 1 rfl) ?_
  obtain ⟨Q1, hc, hw⟩ := hw
  refine wc_i (X := CX g q lb) (va_runV (As := [.int (I n1)]) (rest := []) ⟨hx, hb, hml, hown, hts⟩ (L_X3_isAssertion l g q lb hlb r_n1 hN hc H.size) (cwV 1 hts (TB_V tw_1455 tw_1456 tw_1457 tw_2 co_X3_isAssertion) rfl rfl rfl (by decide +kernel) ⟨Nat.le_of_ble_eq_true rfl, Nat.le_of_ble_eq_true rfl⟩) (preV (q0 := 1) (ci := 3) rfl xT_bl hP hK hNb hD rfl rfl xT_at) rfl rfl hl.1 rfl (lv_room (Nat.le_of_ble_eq_true rfl)) dX12_hypothesis_5 ⟨Nat.le_of_ble_eq_true rfl, Nat.le_of_ble_eq_true rfl⟩) hP hD hS hA (fun x2 H locs r_x2 hq hP hD hS => ?_)
  replace hw := hw x2 r_x2 hq
  refine bi_if_eq (tgt := 28) hx hb r_x2 dX12_hypothesis_8 (by decide) (fun c4 => ?_) (fun c4 => ?_)
  ·
    replace hw := hw.1 c4
    refine lv_iconst (v := I (-1)) hx hb dX12_hypothesis_28 rfl ?_
    exact xri hx hb hr hlk hP hK hD hS ⟨_, (by decide), rfl, rfl, hw⟩ (Nat.le_of_ble_eq_true rfl) (Nat.le_of_ble_eq_true rfl) dX12_hypothesis_29
  ·
    replace hw := hw.2 c4
    refine lv_iload_n hx hb dX12_hypothesis_11 rfl (lv_at hl 2 rfl) ?_
    refine bi_if_lt (tgt := 28) hx hb r_n2 dX12_hypothesis_12 (by decide) (fun c5 => ?_) (fun c5 => ?_)
    ·
      replace hw := hw.1 c5
      refine lv_iconst (v := I (-1)) hx hb dX12_hypothesis_28 rfl ?_
      exact xri hx hb hr hlk hP hK hD hS ⟨_, (by decide), rfl, rfl, hw⟩ (Nat.le_of_ble_eq_true rfl) (Nat.le_of_ble_eq_true rfl) dX12_hypothesis_29
    ·
      replace hw := hw.2 c5
      refine lv_iload_n hx hb dX12_hypothesis_15 rfl (lv_at hl 2 rfl) ?_
      refine lv_aload_n hx hb dX12_hypothesis_16 rfl (lv_at hl 0 rfl) ?_
      refine gfX12_assertions hx hb hts hK hP hown (hts _ tw_891) dX12_hypothesis_17 ?_
      refine gfNX0_frameSize hx hb hts hK hP hown (nb_use hNb tn_247) dX12_hypothesis_20 ?_
      refine lv_iload_n hx hb dX12_hypothesis_23 rfl (lv_at hl 1 rfl) ?_
      obtain ⟨c6, hw⟩ := hw
      refine ldCX0_frameSize hx hb hK hP hN c6 dX12_hypothesis_24 (fun x7 r_x7 e_x7 => ?_)
      replace hw := hw x7 r_x7 e_x7
      refine bi_icmp_lt (tgt := 30) hx hb r_n2 r_x7 dX12_hypothesis_25 (by decide) (fun c8 => ?_) (fun c8 => ?_)
      ·
        replace hw := hw.1 c8
        refine lv_aload_n hx hb dX12_hypothesis_30 rfl (lv_at hl 0 rfl) ?_
        refine gfX12_assertions hx hb hts hK hP hown (hts _ tw_891) dX12_hypothesis_31 ?_
        refine gfNX0_hypotheses hx hb hts hK hP hown (nb_use hNb tn_254) dX12_hypothesis_34 ?_
        refine lv_aload_n hx hb dX12_hypothesis_37 rfl (lv_at hl 0 rfl) ?_
        refine gfX12_assertions hx hb hts hK hP hown (hts _ tw_891) dX12_hypothesis_38 ?_
        refine gfNX0_frameAt hx hb hts hK hP hown (nb_use hNb tn_239) dX12_hypothesis_41 ?_
        refine lv_iload_n hx hb dX12_hypothesis_44 rfl (lv_at hl 1 rfl) ?_
        refine ldCX0_frameAt hx hb hK hP hN c6 dX12_hypothesis_45 (fun x9 r_x9 e_x9 => ?_)
        replace hw := hw x9 r_x9 e_x9
        refine lv_iload_n hx hb dX12_hypothesis_46 rfl (lv_at hl 2 rfl) ?_
        refine bi_iadd hx hb dX12_hypothesis_47 ?_
        obtain ⟨c10, hw⟩ := hw
        refine ldCX0_hypotheses hx hb hK hP hN c10 dX12_hypothesis_48 (fun x11 r_x11 e_x11 => ?_)
        replace hw := hw x11 r_x11 e_x11
        exact xri hx hb hr hlk hP hK hD hS ⟨_, r_x11, rfl, rfl, hw⟩ (Nat.le_of_ble_eq_true rfl) (Nat.le_of_ble_eq_true rfl) dX12_hypothesis_49
      ·
        replace hw := hw.2 c8
        refine lv_iconst (v := I (-1)) hx hb dX12_hypothesis_28 rfl ?_
        exact xri hx hb hr hlk hP hK hD hS ⟨_, (by decide), rfl, rfl, hw⟩ (Nat.le_of_ble_eq_true rfl) (Nat.le_of_ble_eq_true rfl) dX12_hypothesis_29
def W_X12_apart (n1 : Int) (n2 : Int) (n3 : Int) (σ : S0) (Q : Int → Prop) : Prop :=
  ∃ (Q1 : Int → Prop), W_X3_isAssertion n1 σ Q1 ∧ ∀ (x2 : Int), rg x2 → Q1 x2 → ((¬ x2 = 0 → ∃ (Q5 : Int → Prop), W_X0_isPair n1 n2 n3 σ Q5 ∧ ∀ (x6 : Int), rg x6 → Q5 x6 → ((x6 = 0 → Q 0) ∧ (¬ x6 = 0 → Q 1))) ∧ (x2 = 0 → Q (-1)))
set_option maxRecDepth 100000 in
set_option maxHeartbeats 4000000 in
theorem L_X12_apart (l : Launch) (g : gG) (q : Nat → Nat) (lb : Nat) (hlb : lb < 2 ^ 31) {n1 : Int} {n2 : Int} {n3 : Int} {σ : S0} {Q : Int → Prop} (r_n1 : rg n1) (r_n2 : rg n2) (r_n3 : rg n3) (hN : n_m σ) (hw : W_X12_apart n1 n2 n3 σ Q) (sz : Nat) : MetI l yX12_apart cX12_apart 4 (some .int) { frames := 2, cells := 0, slots := 0, locals := 47 } g [.ref (q 0), .int (I n1), .int (I n2), .int (I n3)] (CX g q lb σ) sz xT (p_i (CX g q lb) σ Q) 0 0 := by
  refine mkMet (Qc := fun A => QI g A (p_i (CX g q lb) σ Q)) (by decide) (Nat.le_of_ble_eq_true rfl) ?_
  intro p e s m below meth c A H ls hx hb hr hml hown hts hlk hnm hsz hP hK hNb hD hA hAe hS hX hl
  have hl : lv_has ls 4 [(0, .ref (q 0)), (1, .int (I n1)), (2, .int (I n2)), (3, .int (I n3))] := hl
  have hB := hN
  obtain ⟨locs, hlocs⟩ : ∃ z : List Loc, z = [] := ⟨_, rfl⟩
  rw [← hlocs] at hS ⊢
  refine lv_aload_n hx hb dX12_apart_0 rfl (lv_at hl 0 rfl) ?_
  refine gfX12_library hx hb hts hK hP hown (hts _ tw_889) dX12_apart_1 ?_
  refine lv_iload_n hx hb dX12_apart_4 rfl (lv_at hl 1 rfl) ?_
  obtain ⟨Q1, hc, hw⟩ := hw
  refine wc_i (X := CX g q lb) (va_runV (As := [.int (I n1)]) (rest := []) ⟨hx, hb, hml, hown, hts⟩ (L_X3_isAssertion l g q lb hlb r_n1 hN hc H.size) (cwV 1 hts (TB_V tw_1455 tw_1456 tw_1457 tw_2 co_X3_isAssertion) rfl rfl rfl (by decide +kernel) ⟨Nat.le_of_ble_eq_true rfl, Nat.le_of_ble_eq_true rfl⟩) (preV (q0 := 1) (ci := 3) rfl xT_bl hP hK hNb hD rfl rfl xT_at) rfl rfl hl.1 rfl (lv_room (Nat.le_of_ble_eq_true rfl)) dX12_apart_5 ⟨Nat.le_of_ble_eq_true rfl, Nat.le_of_ble_eq_true rfl⟩) hP hD hS hA (fun x2 H locs r_x2 hq hP hD hS => ?_)
  replace hw := hw x2 r_x2 hq
  refine bi_if_ne (tgt := 13) hx hb r_x2 dX12_apart_8 (by decide) (fun c4 => ?_) (fun c4 => ?_)
  ·
    replace hw := hw.1 c4
    refine lv_aload_n hx hb dX12_apart_13 rfl (lv_at hl 0 rfl) ?_
    refine gfX12_assertions hx hb hts hK hP hown (hts _ tw_891) dX12_apart_14 ?_
    refine lv_iload_n hx hb dX12_apart_17 rfl (lv_at hl 1 rfl) ?_
    refine lv_iload_n hx hb dX12_apart_18 rfl (lv_at hl 2 rfl) ?_
    refine lv_iload_n hx hb dX12_apart_19 rfl (lv_at hl 3 rfl) ?_
    obtain ⟨Q5, hc, hw⟩ := hw
    refine wc_i (X := CX g q lb) (va_runV (As := [.int (I n1), .int (I n2), .int (I n3)]) (rest := []) ⟨hx, hb, hml, hown, hts⟩ (L_X0_isPair l g q lb hlb r_n1 r_n2 r_n3 hN hc H.size) (cwV 3 hts (TB_V tw_1478 tw_1479 tw_1480 tw_5 co_X0_isPair) rfl rfl rfl (by decide +kernel) ⟨Nat.le_of_ble_eq_true rfl, Nat.le_of_ble_eq_true rfl⟩) (preV (q0 := 3) (ci := 0) rfl xT_bl hP hK hNb hD rfl rfl xT_at) rfl rfl hl.1 rfl (lv_room (Nat.le_of_ble_eq_true rfl)) dX12_apart_20 ⟨Nat.le_of_ble_eq_true rfl, Nat.le_of_ble_eq_true rfl⟩) hP hD hS hA (fun x6 H locs r_x6 hq hP hD hS => ?_)
    replace hw := hw x6 r_x6 hq
    refine bi_if_eq (tgt := 30) hx hb r_x6 dX12_apart_23 (by decide) (fun c8 => ?_) (fun c8 => ?_)
    ·
      replace hw := hw.1 c8
      refine lv_iconst (v := I 0) hx hb dX12_apart_30 rfl ?_
      exact xri hx hb hr hlk hP hK hD hS ⟨_, (by decide), rfl, rfl, hw⟩ (Nat.le_of_ble_eq_true rfl) (Nat.le_of_ble_eq_true rfl) dX12_apart_31
    ·
      replace hw := hw.2 c8
      refine lv_iconst (v := I 1) hx hb dX12_apart_26 rfl ?_
      refine lv_goto (tgt := 31) hx hb dX12_apart_27 (by decide) ?_
      exact xri hx hb hr hlk hP hK hD hS ⟨_, (by decide), rfl, rfl, hw⟩ (Nat.le_of_ble_eq_true rfl) (Nat.le_of_ble_eq_true rfl) dX12_apart_31
  ·
    replace hw := hw.2 c4
    refine lv_iconst (v := I (-1)) hx hb dX12_apart_11 rfl ?_
    exact xri hx hb hr hlk hP hK hD hS ⟨_, (by decide), rfl, rfl, hw⟩ (Nat.le_of_ble_eq_true rfl) (Nat.le_of_ble_eq_true rfl) dX12_apart_12
def W_X12_rows (n1 : Int) (σ : S0) (Q : Int → Prop) : Prop :=
  ∃ (Q1 : Int → Prop), W_X3_isProved n1 σ Q1 ∧ ∀ (x2 : Int), rg x2 → Q1 x2 → ((x2 = 0 → Q (-1)) ∧ (¬ x2 = 0 → (0 ≤ n1 ∧ n1 < 1500) ∧ (∀ (x6 : Int), rg x6 → x6 = σ.2.1 34 n1 → (Q x6))))
set_option maxRecDepth 100000 in
set_option maxHeartbeats 4000000 in
theorem L_X12_rows (l : Launch) (g : gG) (q : Nat → Nat) (lb : Nat) (hlb : lb < 2 ^ 31) {n1 : Int} {σ : S0} {Q : Int → Prop} (r_n1 : rg n1) (hN : n_m σ) (hw : W_X12_rows n1 σ Q) (sz : Nat) : MetI l yX12_rows cX12_rows 2 (some .int) { frames := 2, cells := 0, slots := 0, locals := 42 } g [.ref (q 0), .int (I n1)] (CX g q lb σ) sz xT (p_i (CX g q lb) σ Q) 0 0 := by
  refine mkMet (Qc := fun A => QI g A (p_i (CX g q lb) σ Q)) (by decide) (Nat.le_of_ble_eq_true rfl) ?_
  intro p e s m below meth c A H ls hx hb hr hml hown hts hlk hnm hsz hP hK hNb hD hA hAe hS hX hl
  have hl : lv_has ls 2 [(0, .ref (q 0)), (1, .int (I n1))] := hl
  have hB := hN
  obtain ⟨locs, hlocs⟩ : ∃ z : List Loc, z = [] := ⟨_, rfl⟩
  rw [← hlocs] at hS ⊢
  refine lv_aload_n hx hb dX12_rows_0 rfl (lv_at hl 0 rfl) ?_
  refine gfX12_library hx hb hts hK hP hown (hts _ tw_889) dX12_rows_1 ?_
  refine lv_iload_n hx hb dX12_rows_4 rfl (lv_at hl 1 rfl) ?_
  obtain ⟨Q1, hc, hw⟩ := hw
  refine wc_i (X := CX g q lb) (va_runV (As := [.int (I n1)]) (rest := []) ⟨hx, hb, hml, hown, hts⟩ (L_X3_isProved l g q lb hlb r_n1 hN hc H.size) (cwV 1 hts (TB_V tw_1488 tw_1489 tw_1490 tw_2 co_X3_isProved) rfl rfl rfl (by decide +kernel) ⟨Nat.le_of_ble_eq_true rfl, Nat.le_of_ble_eq_true rfl⟩) (preV (q0 := 1) (ci := 3) rfl xT_bl hP hK hNb hD rfl rfl xT_at) rfl rfl hl.1 rfl (lv_room (Nat.le_of_ble_eq_true rfl)) dX12_rows_5 ⟨Nat.le_of_ble_eq_true rfl, Nat.le_of_ble_eq_true rfl⟩) hP hD hS hA (fun x2 H locs r_x2 hq hP hD hS => ?_)
  replace hw := hw x2 r_x2 hq
  refine bi_if_eq (tgt := 23) hx hb r_x2 dX12_rows_8 (by decide) (fun c4 => ?_) (fun c4 => ?_)
  ·
    replace hw := hw.1 c4
    refine lv_iconst (v := I (-1)) hx hb dX12_rows_23 rfl ?_
    exact xri hx hb hr hlk hP hK hD hS ⟨_, (by decide), rfl, rfl, hw⟩ (Nat.le_of_ble_eq_true rfl) (Nat.le_of_ble_eq_true rfl) dX12_rows_24
  ·
    replace hw := hw.2 c4
    refine lv_aload_n hx hb dX12_rows_11 rfl (lv_at hl 0 rfl) ?_
    refine gfX12_assertions hx hb hts hK hP hown (hts _ tw_891) dX12_rows_12 ?_
    refine gfNX0_rowCount hx hb hts hK hP hown (nb_use hNb tn_272) dX12_rows_15 ?_
    refine lv_iload_n hx hb dX12_rows_18 rfl (lv_at hl 1 rfl) ?_
    obtain ⟨c5, hw⟩ := hw
    refine ldCX0_rowCount hx hb hK hP hN c5 dX12_rows_19 (fun x6 r_x6 e_x6 => ?_)
    replace hw := hw x6 r_x6 e_x6
    refine lv_goto (tgt := 24) hx hb dX12_rows_20 (by decide) ?_
    exact xri hx hb hr hlk hP hK hD hS ⟨_, r_x6, rfl, rfl, hw⟩ (Nat.le_of_ble_eq_true rfl) (Nat.le_of_ble_eq_true rfl) dX12_rows_24
def W_X12_isRow (n1 : Int) (n2 : Int) (σ : S0) (Q : Int → Prop) : Prop :=
  ∃ (Q1 : Int → Prop), W_X3_isProved n1 σ Q1 ∧ ∀ (x2 : Int), rg x2 → Q1 x2 → ((x2 = 0 → Q 0) ∧ (¬ x2 = 0 → (n2 < 0 → Q 0) ∧ (0 ≤ n2 → (0 ≤ n1 ∧ n1 < 1500) ∧ (∀ (x7 : Int), rg x7 → x7 = σ.2.1 34 n1 → ((x7 ≤ n2 → Q 0) ∧ (n2 < x7 → Q 1))))))
set_option maxRecDepth 100000 in
set_option maxHeartbeats 4000000 in
theorem L_X12_isRow (l : Launch) (g : gG) (q : Nat → Nat) (lb : Nat) (hlb : lb < 2 ^ 31) {n1 : Int} {n2 : Int} {σ : S0} {Q : Int → Prop} (r_n1 : rg n1) (r_n2 : rg n2) (hN : n_m σ) (hw : W_X12_isRow n1 n2 σ Q) (sz : Nat) : MetI l yX12_isRow cX12_isRow 3 (some .boolean) { frames := 2, cells := 0, slots := 0, locals := 42 } g [.ref (q 0), .int (I n1), .int (I n2)] (CX g q lb σ) sz xT (p_i (CX g q lb) σ Q) 0 0 := by
  refine mkMet (Qc := fun A => QI g A (p_i (CX g q lb) σ Q)) (by decide) (Nat.le_of_ble_eq_true rfl) ?_
  intro p e s m below meth c A H ls hx hb hr hml hown hts hlk hnm hsz hP hK hNb hD hA hAe hS hX hl
  have hl : lv_has ls 3 [(0, .ref (q 0)), (1, .int (I n1)), (2, .int (I n2))] := hl
  have hB := hN
  obtain ⟨locs, hlocs⟩ : ∃ z : List Loc, z = [] := ⟨_, rfl⟩
  rw [← hlocs] at hS ⊢
  refine lv_aload_n hx hb dX12_isRow_0 rfl (lv_at hl 0 rfl) ?_
  refine gfX12_library hx hb hts hK hP hown (hts _ tw_889) dX12_isRow_1 ?_
  refine lv_iload_n hx hb dX12_isRow_4 rfl (lv_at hl 1 rfl) ?_
  obtain ⟨Q1, hc, hw⟩ := hw
  refine wc_i (X := CX g q lb) (va_runV (As := [.int (I n1)]) (rest := []) ⟨hx, hb, hml, hown, hts⟩ (L_X3_isProved l g q lb hlb r_n1 hN hc H.size) (cwV 1 hts (TB_V tw_1488 tw_1489 tw_1490 tw_2 co_X3_isProved) rfl rfl rfl (by decide +kernel) ⟨Nat.le_of_ble_eq_true rfl, Nat.le_of_ble_eq_true rfl⟩) (preV (q0 := 1) (ci := 3) rfl xT_bl hP hK hNb hD rfl rfl xT_at) rfl rfl hl.1 rfl (lv_room (Nat.le_of_ble_eq_true rfl)) dX12_isRow_5 ⟨Nat.le_of_ble_eq_true rfl, Nat.le_of_ble_eq_true rfl⟩) hP hD hS hA (fun x2 H locs r_x2 hq hP hD hS => ?_)
  replace hw := hw x2 r_x2 hq
  refine bi_if_eq (tgt := 32) hx hb r_x2 dX12_isRow_8 (by decide) (fun c4 => ?_) (fun c4 => ?_)
  ·
    replace hw := hw.1 c4
    refine lv_iconst (v := I 0) hx hb dX12_isRow_32 rfl ?_
    exact xrz hx hb hr (by decide) hlk hP hK hD hS ⟨_, (by decide), rfl, rfl, hw⟩ (Nat.le_of_ble_eq_true rfl) (Nat.le_of_ble_eq_true rfl) dX12_isRow_33
  ·
    replace hw := hw.2 c4
    refine lv_iload_n hx hb dX12_isRow_11 rfl (lv_at hl 2 rfl) ?_
    refine bi_if_lt (tgt := 32) hx hb r_n2 dX12_isRow_12 (by decide) (fun c5 => ?_) (fun c5 => ?_)
    ·
      replace hw := hw.1 c5
      refine lv_iconst (v := I 0) hx hb dX12_isRow_32 rfl ?_
      exact xrz hx hb hr (by decide) hlk hP hK hD hS ⟨_, (by decide), rfl, rfl, hw⟩ (Nat.le_of_ble_eq_true rfl) (Nat.le_of_ble_eq_true rfl) dX12_isRow_33
    ·
      replace hw := hw.2 c5
      refine lv_iload_n hx hb dX12_isRow_15 rfl (lv_at hl 2 rfl) ?_
      refine lv_aload_n hx hb dX12_isRow_16 rfl (lv_at hl 0 rfl) ?_
      refine gfX12_assertions hx hb hts hK hP hown (hts _ tw_891) dX12_isRow_17 ?_
      refine gfNX0_rowCount hx hb hts hK hP hown (nb_use hNb tn_272) dX12_isRow_20 ?_
      refine lv_iload_n hx hb dX12_isRow_23 rfl (lv_at hl 1 rfl) ?_
      obtain ⟨c6, hw⟩ := hw
      refine ldCX0_rowCount hx hb hK hP hN c6 dX12_isRow_24 (fun x7 r_x7 e_x7 => ?_)
      replace hw := hw x7 r_x7 e_x7
      refine bi_icmp_ge (tgt := 32) hx hb r_n2 r_x7 dX12_isRow_25 (by decide) (fun c8 => ?_) (fun c8 => ?_)
      ·
        replace hw := hw.1 c8
        refine lv_iconst (v := I 0) hx hb dX12_isRow_32 rfl ?_
        exact xrz hx hb hr (by decide) hlk hP hK hD hS ⟨_, (by decide), rfl, rfl, hw⟩ (Nat.le_of_ble_eq_true rfl) (Nat.le_of_ble_eq_true rfl) dX12_isRow_33
      ·
        replace hw := hw.2 c8
        refine lv_iconst (v := I 1) hx hb dX12_isRow_28 rfl ?_
        refine lv_goto (tgt := 33) hx hb dX12_isRow_29 (by decide) ?_
        exact xrz hx hb hr (by decide) hlk hP hK hD hS ⟨_, (by decide), rfl, rfl, hw⟩ (Nat.le_of_ble_eq_true rfl) (Nat.le_of_ble_eq_true rfl) dX12_isRow_33
def W_X12_row (n1 : Int) (n2 : Int) (σ : S0) (Q : Int → Prop) : Prop :=
  ∃ (Q1 : Int → Prop), W_X12_isRow n1 n2 σ Q1 ∧ ∀ (x2 : Int), rg x2 → Q1 x2 → ((x2 = 0 → Q (-1)) ∧ (¬ x2 = 0 → (0 ≤ n1 ∧ n1 < 1500) ∧ (∀ (x6 : Int), rg x6 → x6 = σ.2.1 33 n1 → ((0 ≤ (x6 + n2) ∧ (x6 + n2) < 20000) ∧ (∀ (x8 : Int), rg x8 → x8 = σ.2.1 35 (x6 + n2) → (Q x8))))))
set_option maxRecDepth 100000 in
set_option maxHeartbeats 4000000 in
theorem L_X12_row (l : Launch) (g : gG) (q : Nat → Nat) (lb : Nat) (hlb : lb < 2 ^ 31) {n1 : Int} {n2 : Int} {σ : S0} {Q : Int → Prop} (r_n1 : rg n1) (r_n2 : rg n2) (hN : n_m σ) (hw : W_X12_row n1 n2 σ Q) (sz : Nat) : MetI l yX12_row cX12_row 3 (some .int) { frames := 3, cells := 0, slots := 0, locals := 64 } g [.ref (q 0), .int (I n1), .int (I n2)] (CX g q lb σ) sz xT (p_i (CX g q lb) σ Q) 0 0 := by
  refine mkMet (Qc := fun A => QI g A (p_i (CX g q lb) σ Q)) (by decide) (Nat.le_of_ble_eq_true rfl) ?_
  intro p e s m below meth c A H ls hx hb hr hml hown hts hlk hnm hsz hP hK hNb hD hA hAe hS hX hl
  have hl : lv_has ls 3 [(0, .ref (q 0)), (1, .int (I n1)), (2, .int (I n2))] := hl
  have hB := hN
  obtain ⟨locs, hlocs⟩ : ∃ z : List Loc, z = [] := ⟨_, rfl⟩
  rw [← hlocs] at hS ⊢
  refine lv_aload_n hx hb dX12_row_0 rfl (lv_at hl 0 rfl) ?_
  refine lv_iload_n hx hb dX12_row_1 rfl (lv_at hl 1 rfl) ?_
  refine lv_iload_n hx hb dX12_row_2 rfl (lv_at hl 2 rfl) ?_
  obtain ⟨Q1, hc, hw⟩ := hw
  refine wc_i (X := CX g q lb) (va_runV (As := [.int (I n1), .int (I n2)]) (rest := []) ⟨hx, hb, hml, hown, hts⟩ (L_X12_isRow l g q lb hlb r_n1 r_n2 hN hc H.size) (cwV 2 hts (TB_V tw_1496 tw_1498 ts_52 tw_1 co_X12_isRow) rfl rfl rfl (by decide +kernel) ⟨Nat.le_of_ble_eq_true rfl, Nat.le_of_ble_eq_true rfl⟩) (preV (q0 := 0) (ci := 12) rfl xT_bl hP hK hNb hD rfl rfl xT_at) rfl rfl hl.1 rfl (lv_room (Nat.le_of_ble_eq_true rfl)) dX12_row_3 ⟨Nat.le_of_ble_eq_true rfl, Nat.le_of_ble_eq_true rfl⟩) hP hD hS hA (fun x2 H locs r_x2 hq hP hD hS => ?_)
  replace hw := hw x2 r_x2 hq
  refine bi_if_eq (tgt := 31) hx hb r_x2 dX12_row_6 (by decide) (fun c4 => ?_) (fun c4 => ?_)
  ·
    replace hw := hw.1 c4
    refine lv_iconst (v := I (-1)) hx hb dX12_row_31 rfl ?_
    exact xri hx hb hr hlk hP hK hD hS ⟨_, (by decide), rfl, rfl, hw⟩ (Nat.le_of_ble_eq_true rfl) (Nat.le_of_ble_eq_true rfl) dX12_row_32
  ·
    replace hw := hw.2 c4
    refine lv_aload_n hx hb dX12_row_9 rfl (lv_at hl 0 rfl) ?_
    refine gfX12_assertions hx hb hts hK hP hown (hts _ tw_891) dX12_row_10 ?_
    refine gfNX0_rowStatement hx hb hts hK hP hown (nb_use hNb tn_276) dX12_row_13 ?_
    refine lv_aload_n hx hb dX12_row_16 rfl (lv_at hl 0 rfl) ?_
    refine gfX12_assertions hx hb hts hK hP hown (hts _ tw_891) dX12_row_17 ?_
    refine gfNX0_rowAt hx hb hts hK hP hown (nb_use hNb tn_268) dX12_row_20 ?_
    refine lv_iload_n hx hb dX12_row_23 rfl (lv_at hl 1 rfl) ?_
    obtain ⟨c5, hw⟩ := hw
    refine ldCX0_rowAt hx hb hK hP hN c5 dX12_row_24 (fun x6 r_x6 e_x6 => ?_)
    replace hw := hw x6 r_x6 e_x6
    refine lv_iload_n hx hb dX12_row_25 rfl (lv_at hl 2 rfl) ?_
    refine bi_iadd hx hb dX12_row_26 ?_
    obtain ⟨c7, hw⟩ := hw
    refine ldCX0_rowStatement hx hb hK hP hN c7 dX12_row_27 (fun x8 r_x8 e_x8 => ?_)
    replace hw := hw x8 r_x8 e_x8
    refine lv_goto (tgt := 32) hx hb dX12_row_28 (by decide) ?_
    exact xri hx hb hr hlk hP hK hD hS ⟨_, r_x8, rfl, rfl, hw⟩ (Nat.le_of_ble_eq_true rfl) (Nat.le_of_ble_eq_true rfl) dX12_row_32
def W_X12_from (n1 : Int) (n2 : Int) (n3 : Int) (σ : S0) (Q : Int → Prop) : Prop :=
  ∃ (Q1 : Int → Prop), W_X12_isRow n1 n2 σ Q1 ∧ ∀ (x2 : Int), rg x2 → Q1 x2 → ((¬ x2 = 0 → (0 ≤ n1 ∧ n1 < 1500) ∧ (∀ (x6 : Int), rg x6 → x6 = σ.2.1 33 n1 → ((n3 < 0 → Q (-1)) ∧ (0 ≤ n3 → rg (x6 + n2) ∧ ∃ (Q9 : Int → Prop), W_X0_childCount (x6 + n2) σ Q9 ∧ ∀ (x10 : Int), rg x10 → Q9 x10 → ((n3 < x10 → (0 ≤ (x6 + n2) ∧ (x6 + n2) < 20001) ∧ (∀ (x14 : Int), rg x14 → x14 = σ.2.1 36 (x6 + n2) → ((0 ≤ (x14 + n3) ∧ (x14 + n3) < 20000) ∧ (∀ (x16 : Int), rg x16 → x16 = σ.2.1 37 (x14 + n3) → (Q x16))))) ∧ (x10 ≤ n3 → Q (-1))))))) ∧ (x2 = 0 → Q (-1)))
set_option maxRecDepth 100000 in
set_option maxHeartbeats 4000000 in
theorem L_X12_from (l : Launch) (g : gG) (q : Nat → Nat) (lb : Nat) (hlb : lb < 2 ^ 31) {n1 : Int} {n2 : Int} {n3 : Int} {σ : S0} {Q : Int → Prop} (r_n1 : rg n1) (r_n2 : rg n2) (r_n3 : rg n3) (hN : n_m σ) (hw : W_X12_from n1 n2 n3 σ Q) (sz : Nat) : MetI l yX12_from cX12_from 5 (some .int) { frames := 3, cells := 0, slots := 0, locals := 64 } g [.ref (q 0), .int (I n1), .int (I n2), .int (I n3)] (CX g q lb σ) sz xT (p_i (CX g q lb) σ Q) 0 0 := by
  refine mkMet (Qc := fun A => QI g A (p_i (CX g q lb) σ Q)) (by decide) (Nat.le_of_ble_eq_true rfl) ?_
  intro p e s m below meth c A H ls hx hb hr hml hown hts hlk hnm hsz hP hK hNb hD hA hAe hS hX hl
  have hl : lv_has ls 5 [(0, .ref (q 0)), (1, .int (I n1)), (2, .int (I n2)), (3, .int (I n3))] := hl
  have hB := hN
  obtain ⟨locs, hlocs⟩ : ∃ z : List Loc, z = [] := ⟨_, rfl⟩
  rw [← hlocs] at hS ⊢
  refine lv_aload_n hx hb dX12_from_0 rfl (lv_at hl 0 rfl) ?_
  refine lv_iload_n hx hb dX12_from_1 rfl (lv_at hl 1 rfl) ?_
  refine lv_iload_n hx hb dX12_from_2 rfl (lv_at hl 2 rfl) ?_
  obtain ⟨Q1, hc, hw⟩ := hw
  refine wc_i (X := CX g q lb) (va_runV (As := [.int (I n1), .int (I n2)]) (rest := []) ⟨hx, hb, hml, hown, hts⟩ (L_X12_isRow l g q lb hlb r_n1 r_n2 hN hc H.size) (cwV 2 hts (TB_V tw_1496 tw_1498 ts_52 tw_1 co_X12_isRow) rfl rfl rfl (by decide +kernel) ⟨Nat.le_of_ble_eq_true rfl, Nat.le_of_ble_eq_true rfl⟩) (preV (q0 := 0) (ci := 12) rfl xT_bl hP hK hNb hD rfl rfl xT_at) rfl rfl hl.1 rfl (lv_room (Nat.le_of_ble_eq_true rfl)) dX12_from_3 ⟨Nat.le_of_ble_eq_true rfl, Nat.le_of_ble_eq_true rfl⟩) hP hD hS hA (fun x2 H locs r_x2 hq hP hD hS => ?_)
  replace hw := hw x2 r_x2 hq
  refine bi_if_ne (tgt := 11) hx hb r_x2 dX12_from_6 (by decide) (fun c4 => ?_) (fun c4 => ?_)
  ·
    replace hw := hw.1 c4
    refine lv_aload_n hx hb dX12_from_11 rfl (lv_at hl 0 rfl) ?_
    refine gfX12_assertions hx hb hts hK hP hown (hts _ tw_891) dX12_from_12 ?_
    refine gfNX0_rowAt hx hb hts hK hP hown (nb_use hNb tn_268) dX12_from_15 ?_
    refine lv_iload_n hx hb dX12_from_18 rfl (lv_at hl 1 rfl) ?_
    obtain ⟨c5, hw⟩ := hw
    refine ldCX0_rowAt hx hb hK hP hN c5 dX12_from_19 (fun x6 r_x6 e_x6 => ?_)
    replace hw := hw x6 r_x6 e_x6
    refine lv_iload_n hx hb dX12_from_20 rfl (lv_at hl 2 rfl) ?_
    refine bi_iadd hx hb dX12_from_21 ?_
    refine lv_istore (lv' := [(4, .int (I (x6 + n2))), (0, .ref (q 0)), (1, .int (I n1)), (2, .int (I n2)), (3, .int (I n3))]) hx hb dX12_from_22 hl (by decide) rfl (fun ls hl => ?_)
    refine lv_iload_n hx hb dX12_from_24 rfl (lv_at hl 4 rfl) ?_
    refine bi_if_lt (tgt := 41) hx hb r_n3 dX12_from_25 (by decide) (fun c7 => ?_) (fun c7 => ?_)
    ·
      replace hw := hw.1 c7
      refine lv_iconst (v := I (-1)) hx hb dX12_from_41 rfl ?_
      exact xri hx hb hr hlk hP hK hD hS ⟨_, (by decide), rfl, rfl, hw⟩ (Nat.le_of_ble_eq_true rfl) (Nat.le_of_ble_eq_true rfl) dX12_from_42
    ·
      replace hw := hw.2 c7
      refine lv_iload_n hx hb dX12_from_28 rfl (lv_at hl 4 rfl) ?_
      refine lv_aload_n hx hb dX12_from_29 rfl (lv_at hl 1 rfl) ?_
      refine gfX12_assertions hx hb hts hK hP hown (hts _ tw_891) dX12_from_30 ?_
      refine lv_iload hx hb dX12_from_33 (lv_at hl 0 rfl) ?_
      obtain ⟨c8, hw⟩ := hw
      obtain ⟨Q9, hc, hw⟩ := hw
      refine wc_i (X := CX g q lb) (va_runV (As := [.int (I (x6 + n2))]) (rest := [.int (I n3)]) ⟨hx, hb, hml, hown, hts⟩ (L_X0_childCount l g q lb hlb c8 hN hc H.size) (cwV 1 hts (TB_V tw_1504 tw_1505 tw_1506 tw_5 co_X0_childCount) rfl rfl rfl (by decide +kernel) ⟨Nat.le_of_ble_eq_true rfl, Nat.le_of_ble_eq_true rfl⟩) (preV (q0 := 3) (ci := 0) rfl xT_bl hP hK hNb hD rfl rfl xT_at) rfl rfl hl.1 rfl (lv_room (Nat.le_of_ble_eq_true rfl)) dX12_from_35 ⟨Nat.le_of_ble_eq_true rfl, Nat.le_of_ble_eq_true rfl⟩) hP hD hS hA (fun x10 H locs r_x10 hq hP hD hS => ?_)
      replace hw := hw x10 r_x10 hq
      refine bi_icmp_lt (tgt := 43) hx hb r_n3 r_x10 dX12_from_38 (by decide) (fun c12 => ?_) (fun c12 => ?_)
      ·
        replace hw := hw.1 c12
        refine lv_aload_n hx hb dX12_from_43 rfl (lv_at hl 1 rfl) ?_
        refine gfX12_assertions hx hb hts hK hP hown (hts _ tw_891) dX12_from_44 ?_
        refine gfNX0_children hx hb hts hK hP hown (nb_use hNb tn_287) dX12_from_47 ?_
        refine lv_aload_n hx hb dX12_from_50 rfl (lv_at hl 1 rfl) ?_
        refine gfX12_assertions hx hb hts hK hP hown (hts _ tw_891) dX12_from_51 ?_
        refine gfNX0_childAt hx hb hts hK hP hown (nb_use hNb tn_282) dX12_from_54 ?_
        refine lv_iload hx hb dX12_from_57 (lv_at hl 0 rfl) ?_
        obtain ⟨c13, hw⟩ := hw
        refine ldCX0_childAt hx hb hK hP hN c13 dX12_from_59 (fun x14 r_x14 e_x14 => ?_)
        replace hw := hw x14 r_x14 e_x14
        refine lv_iload_n hx hb dX12_from_60 rfl (lv_at hl 4 rfl) ?_
        refine bi_iadd hx hb dX12_from_61 ?_
        obtain ⟨c15, hw⟩ := hw
        refine ldCX0_children hx hb hK hP hN c15 dX12_from_62 (fun x16 r_x16 e_x16 => ?_)
        replace hw := hw x16 r_x16 e_x16
        exact xri hx hb hr hlk hP hK hD hS ⟨_, r_x16, rfl, rfl, hw⟩ (Nat.le_of_ble_eq_true rfl) (Nat.le_of_ble_eq_true rfl) dX12_from_63
      ·
        replace hw := hw.2 c12
        refine lv_iconst (v := I (-1)) hx hb dX12_from_41 rfl ?_
        exact xri hx hb hr hlk hP hK hD hS ⟨_, (by decide), rfl, rfl, hw⟩ (Nat.le_of_ble_eq_true rfl) (Nat.le_of_ble_eq_true rfl) dX12_from_42
  ·
    replace hw := hw.2 c4
    refine lv_iconst (v := I (-1)) hx hb dX12_from_9 rfl ?_
    exact xri hx hb hr hlk hP hK hD hS ⟨_, (by decide), rfl, rfl, hw⟩ (Nat.le_of_ble_eq_true rfl) (Nat.le_of_ble_eq_true rfl) dX12_from_10
def W_X12_rests (n1 : Int) (n2 : Int) (σ : S0) (Q : Int → Prop) : Prop :=
  ∃ (Q1 : Int → Prop), W_X3_isProved n1 σ Q1 ∧ ∀ (x2 : Int), rg x2 → Q1 x2 → ((x2 = 0 → Q (-1)) ∧ (¬ x2 = 0 → ∃ (Q5 : Int → Prop), W_X3_isAssertion n2 σ Q5 ∧ ∀ (x6 : Int), rg x6 → Q5 x6 → ((¬ x6 = 0 → ∃ (Q9 : Int → Prop), W_X0_restsOn n1 n2 σ Q9 ∧ ∀ (x10 : Int), rg x10 → Q9 x10 → ((x10 = 0 → Q 0) ∧ (¬ x10 = 0 → Q 1))) ∧ (x6 = 0 → Q (-1)))))
set_option maxRecDepth 100000 in
set_option maxHeartbeats 4000000 in
theorem L_X12_rests (l : Launch) (g : gG) (q : Nat → Nat) (lb : Nat) (hlb : lb < 2 ^ 31) {n1 : Int} {n2 : Int} {σ : S0} {Q : Int → Prop} (r_n1 : rg n1) (r_n2 : rg n2) (hN : n_m σ) (hw : W_X12_rests n1 n2 σ Q) (sz : Nat) : MetI l yX12_rests cX12_rests 3 (some .int) { frames := 2, cells := 0, slots := 0, locals := 42 } g [.ref (q 0), .int (I n1), .int (I n2)] (CX g q lb σ) sz xT (p_i (CX g q lb) σ Q) 0 0 := by
  refine mkMet (Qc := fun A => QI g A (p_i (CX g q lb) σ Q)) (by decide) (Nat.le_of_ble_eq_true rfl) ?_
  intro p e s m below meth c A H ls hx hb hr hml hown hts hlk hnm hsz hP hK hNb hD hA hAe hS hX hl
  have hl : lv_has ls 3 [(0, .ref (q 0)), (1, .int (I n1)), (2, .int (I n2))] := hl
  have hB := hN
  obtain ⟨locs, hlocs⟩ : ∃ z : List Loc, z = [] := ⟨_, rfl⟩
  rw [← hlocs] at hS ⊢
  refine lv_aload_n hx hb dX12_rests_0 rfl (lv_at hl 0 rfl) ?_
  refine gfX12_library hx hb hts hK hP hown (hts _ tw_889) dX12_rests_1 ?_
  refine lv_iload_n hx hb dX12_rests_4 rfl (lv_at hl 1 rfl) ?_
  obtain ⟨Q1, hc, hw⟩ := hw
  refine wc_i (X := CX g q lb) (va_runV (As := [.int (I n1)]) (rest := []) ⟨hx, hb, hml, hown, hts⟩ (L_X3_isProved l g q lb hlb r_n1 hN hc H.size) (cwV 1 hts (TB_V tw_1488 tw_1489 tw_1490 tw_2 co_X3_isProved) rfl rfl rfl (by decide +kernel) ⟨Nat.le_of_ble_eq_true rfl, Nat.le_of_ble_eq_true rfl⟩) (preV (q0 := 1) (ci := 3) rfl xT_bl hP hK hNb hD rfl rfl xT_at) rfl rfl hl.1 rfl (lv_room (Nat.le_of_ble_eq_true rfl)) dX12_rests_5 ⟨Nat.le_of_ble_eq_true rfl, Nat.le_of_ble_eq_true rfl⟩) hP hD hS hA (fun x2 H locs r_x2 hq hP hD hS => ?_)
  replace hw := hw x2 r_x2 hq
  refine bi_if_eq (tgt := 22) hx hb r_x2 dX12_rests_8 (by decide) (fun c4 => ?_) (fun c4 => ?_)
  ·
    replace hw := hw.1 c4
    refine lv_iconst (v := I (-1)) hx hb dX12_rests_22 rfl ?_
    exact xri hx hb hr hlk hP hK hD hS ⟨_, (by decide), rfl, rfl, hw⟩ (Nat.le_of_ble_eq_true rfl) (Nat.le_of_ble_eq_true rfl) dX12_rests_23
  ·
    replace hw := hw.2 c4
    refine lv_aload_n hx hb dX12_rests_11 rfl (lv_at hl 0 rfl) ?_
    refine gfX12_library hx hb hts hK hP hown (hts _ tw_889) dX12_rests_12 ?_
    refine lv_iload_n hx hb dX12_rests_15 rfl (lv_at hl 2 rfl) ?_
    obtain ⟨Q5, hc, hw⟩ := hw
    refine wc_i (X := CX g q lb) (va_runV (As := [.int (I n2)]) (rest := []) ⟨hx, hb, hml, hown, hts⟩ (L_X3_isAssertion l g q lb hlb r_n2 hN hc H.size) (cwV 1 hts (TB_V tw_1455 tw_1456 tw_1457 tw_2 co_X3_isAssertion) rfl rfl rfl (by decide +kernel) ⟨Nat.le_of_ble_eq_true rfl, Nat.le_of_ble_eq_true rfl⟩) (preV (q0 := 1) (ci := 3) rfl xT_bl hP hK hNb hD rfl rfl xT_at) rfl rfl hl.1 rfl (lv_room (Nat.le_of_ble_eq_true rfl)) dX12_rests_16 ⟨Nat.le_of_ble_eq_true rfl, Nat.le_of_ble_eq_true rfl⟩) hP hD hS hA (fun x6 H locs r_x6 hq hP hD hS => ?_)
    replace hw := hw x6 r_x6 hq
    refine bi_if_ne (tgt := 24) hx hb r_x6 dX12_rests_19 (by decide) (fun c8 => ?_) (fun c8 => ?_)
    ·
      replace hw := hw.1 c8
      refine lv_aload_n hx hb dX12_rests_24 rfl (lv_at hl 0 rfl) ?_
      refine gfX12_assertions hx hb hts hK hP hown (hts _ tw_891) dX12_rests_25 ?_
      refine lv_iload_n hx hb dX12_rests_28 rfl (lv_at hl 1 rfl) ?_
      refine lv_iload_n hx hb dX12_rests_29 rfl (lv_at hl 2 rfl) ?_
      obtain ⟨Q9, hc, hw⟩ := hw
      refine wc_i (X := CX g q lb) (va_runV (As := [.int (I n1), .int (I n2)]) (rest := []) ⟨hx, hb, hml, hown, hts⟩ (L_X0_restsOn l g q lb hlb r_n1 r_n2 hN hc H.size) (cwV 2 hts (TB_V tw_1512 tw_1366 tw_1367 tw_5 co_X0_restsOn) rfl rfl rfl (by decide +kernel) ⟨Nat.le_of_ble_eq_true rfl, Nat.le_of_ble_eq_true rfl⟩) (preV (q0 := 3) (ci := 0) rfl xT_bl hP hK hNb hD rfl rfl xT_at) rfl rfl hl.1 rfl (lv_room (Nat.le_of_ble_eq_true rfl)) dX12_rests_30 ⟨Nat.le_of_ble_eq_true rfl, Nat.le_of_ble_eq_true rfl⟩) hP hD hS hA (fun x10 H locs r_x10 hq hP hD hS => ?_)
      replace hw := hw x10 r_x10 hq
      refine bi_if_eq (tgt := 40) hx hb r_x10 dX12_rests_33 (by decide) (fun c12 => ?_) (fun c12 => ?_)
      ·
        replace hw := hw.1 c12
        refine lv_iconst (v := I 0) hx hb dX12_rests_40 rfl ?_
        exact xri hx hb hr hlk hP hK hD hS ⟨_, (by decide), rfl, rfl, hw⟩ (Nat.le_of_ble_eq_true rfl) (Nat.le_of_ble_eq_true rfl) dX12_rests_41
      ·
        replace hw := hw.2 c12
        refine lv_iconst (v := I 1) hx hb dX12_rests_36 rfl ?_
        refine lv_goto (tgt := 41) hx hb dX12_rests_37 (by decide) ?_
        exact xri hx hb hr hlk hP hK hD hS ⟨_, (by decide), rfl, rfl, hw⟩ (Nat.le_of_ble_eq_true rfl) (Nat.le_of_ble_eq_true rfl) dX12_rests_41
    ·
      replace hw := hw.2 c8
      refine lv_iconst (v := I (-1)) hx hb dX12_rests_22 rfl ?_
      exact xri hx hb hr hlk hP hK hD hS ⟨_, (by decide), rfl, rfl, hw⟩ (Nat.le_of_ble_eq_true rfl) (Nat.le_of_ble_eq_true rfl) dX12_rests_23
def W_X12_size (n1 : Int) (σ : S0) (Q : Int64 → Prop) : Prop :=
  ∃ (Q1 : Int → Prop), W_X3_isProved n1 σ Q1 ∧ ∀ (x2 : Int), rg x2 → Q1 x2 → ((¬ x2 = 0 → ∃ (Q5 : Int64 → Prop), W_X0_labelsOf n1 σ Q5 ∧ ∀ (x6 : Int64), Q5 x6 → ((x6 ≤ 1000000000000000000 → Q x6) ∧ (1000000000000000000 < x6 → Q (-2)))) ∧ (x2 = 0 → Q (-1)))
set_option maxRecDepth 100000 in
set_option maxHeartbeats 4000000 in
theorem L_X12_size (l : Launch) (g : gG) (q : Nat → Nat) (lb : Nat) (hlb : lb < 2 ^ 31) {n1 : Int} {σ : S0} {Q : Int64 → Prop} (r_n1 : rg n1) (hN : n_m σ) (hw : W_X12_size n1 σ Q) (sz : Nat) : MetL l yX12_size cX12_size 4 (some .long) { frames := 2, cells := 0, slots := 0, locals := 42 } g [.ref (q 0), .int (I n1)] (CX g q lb σ) sz xT (p_l (CX g q lb) σ Q) 0 0 := by
  refine mkMet (Qc := fun A => QL g A (p_l (CX g q lb) σ Q)) (by decide) (Nat.le_of_ble_eq_true rfl) ?_
  intro p e s m below meth c A H ls hx hb hr hml hown hts hlk hnm hsz hP hK hNb hD hA hAe hS hX hl
  have hl : lv_has ls 4 [(0, .ref (q 0)), (1, .int (I n1))] := hl
  have hB := hN
  obtain ⟨locs, hlocs⟩ : ∃ z : List Loc, z = [] := ⟨_, rfl⟩
  rw [← hlocs] at hS ⊢
  refine lv_aload_n hx hb dX12_size_0 rfl (lv_at hl 0 rfl) ?_
  refine gfX12_library hx hb hts hK hP hown (hts _ tw_889) dX12_size_1 ?_
  refine lv_iload_n hx hb dX12_size_4 rfl (lv_at hl 1 rfl) ?_
  obtain ⟨Q1, hc, hw⟩ := hw
  refine wc_i (X := CX g q lb) (va_runV (As := [.int (I n1)]) (rest := []) ⟨hx, hb, hml, hown, hts⟩ (L_X3_isProved l g q lb hlb r_n1 hN hc H.size) (cwV 1 hts (TB_V tw_1488 tw_1489 tw_1490 tw_2 co_X3_isProved) rfl rfl rfl (by decide +kernel) ⟨Nat.le_of_ble_eq_true rfl, Nat.le_of_ble_eq_true rfl⟩) (preV (q0 := 1) (ci := 3) rfl xT_bl hP hK hNb hD rfl rfl xT_at) rfl rfl hl.1 rfl (lv_room (Nat.le_of_ble_eq_true rfl)) dX12_size_5 ⟨Nat.le_of_ble_eq_true rfl, Nat.le_of_ble_eq_true rfl⟩) hP hD hS hA (fun x2 H locs r_x2 hq hP hD hS => ?_)
  replace hw := hw x2 r_x2 hq
  refine bi_if_ne (tgt := 15) hx hb r_x2 dX12_size_8 (by decide) (fun c4 => ?_) (fun c4 => ?_)
  ·
    replace hw := hw.1 c4
    refine lv_aload_n hx hb dX12_size_15 rfl (lv_at hl 0 rfl) ?_
    refine gfX12_assertions hx hb hts hK hP hown (hts _ tw_891) dX12_size_16 ?_
    refine lv_iload_n hx hb dX12_size_19 rfl (lv_at hl 1 rfl) ?_
    obtain ⟨Q5, hc, hw⟩ := hw
    refine wc_l (X := CX g q lb) (va_runV (As := [.int (I n1)]) (rest := []) ⟨hx, hb, hml, hown, hts⟩ (L_X0_labelsOf l g q lb hlb r_n1 hN hc H.size) (cwV 1 hts (TB_V tw_1518 tw_1519 tw_1520 tw_5 co_X0_labelsOf) rfl rfl rfl (by decide +kernel) ⟨Nat.le_of_ble_eq_true rfl, Nat.le_of_ble_eq_true rfl⟩) (preV (q0 := 3) (ci := 0) rfl xT_bl hP hK hNb hD rfl rfl xT_at) rfl rfl hl.1 rfl (lv_room (Nat.le_of_ble_eq_true rfl)) dX12_size_20 ⟨Nat.le_of_ble_eq_true rfl, Nat.le_of_ble_eq_true rfl⟩) hP hD hS hA (fun x6 H locs hq hP hD hS => ?_)
    replace hw := hw x6 hq
    refine lv_lstore_n (lv' := [(2, .long x6), (0, .ref (q 0)), (1, .int (I n1))]) hx hb dX12_size_23 rfl hl (by decide) rfl (fun ls hl => ?_)
    refine lv_lload_n hx hb dX12_size_24 rfl (lv_at hl 0 rfl) ?_
    refine lv_ldc2 (own := RX12) (v := 1000000000000000000) hx hb hown (hts _ tw_1522) dX12_size_25 ?_
    refine bi_lcmp_le (tgt := 38) hx hb dX12_size_28 dX12_size_29 (by decide) (fun c8 => ?_) (fun c8 => ?_)
    ·
      replace hw := hw.1 c8
      refine lv_lload_n hx hb dX12_size_38 rfl (lv_at hl 0 rfl) ?_
      exact xrl hx hb hr hlk hP hK hD hS ⟨rfl, hw⟩ (Nat.le_of_ble_eq_true rfl) (Nat.le_of_ble_eq_true rfl) dX12_size_39
    ·
      replace hw := hw.2 c8
      refine lv_ldc2 (own := RX12) (v := (-2)) hx hb hown (hts _ tw_1523) dX12_size_32 ?_
      refine lv_goto (tgt := 39) hx hb dX12_size_35 (by decide) ?_
      exact xrl hx hb hr hlk hP hK hD hS ⟨rfl, hw⟩ (Nat.le_of_ble_eq_true rfl) (Nat.le_of_ble_eq_true rfl) dX12_size_39
  ·
    replace hw := hw.2 c4
    refine lv_ldc2 (own := RX12) (v := (-1)) hx hb hown (hts _ tw_1517) dX12_size_11 ?_
    exact xrl hx hb hr hlk hP hK hD hS ⟨rfl, hw⟩ (Nat.le_of_ble_eq_true rfl) (Nat.le_of_ble_eq_true rfl) dX12_size_14
def W_X12_printStatement (n1 : Int) (σ : S0) (Q : Int → S0 → Prop) : Prop :=
  ∀ (P17 : Int → Int → S0 → Prop),
  (∀ (u1 : Int) (u2 : Int) (τ : S0), ((0 ≤ (u1 + 1) ∧ (u1 + 1) < 1501) ∧ (∀ (x7 : Int), rg x7 → x7 = τ.2.1 14 (u1 + 1) → ((x7 ≤ u2 → ∃ (Q9 : Int → S0 → Prop), W_X5_finish τ Q9 ∧ ∀ (x10 : Int) (τ11 : S0), rg x10 → n_m τ11 → f_r [65, 67] [] [] τ τ11 → Q9 x10 τ11 → (Q x10 τ11)) ∧ (u2 < x7 → (0 ≤ u2 ∧ u2 < 30000) ∧ (∀ (x13 : Int), rg x13 → x13 = τ.2.1 15 u2 → (∃ (Q14 : S0 → Prop), W_X5_putSymbol x13 τ Q14 ∧ ∀ (τ16 : S0), n_m τ16 → f_r [63, 64] [101, 102] [] τ τ16 → Q14 τ16 → (rg (u2 + 1) ∧ P17 u1 (u2 + 1) τ16))))))) → P17 u1 u2 τ) →
  ∃ (Q1 : S0 → Prop), W_X5_begin σ Q1 ∧ ∀ (τ3 : S0), n_m τ3 → f_r [63, 64] [] [] σ τ3 → Q1 τ3 → ((0 ≤ n1 ∧ n1 < 1501) ∧ (∀ (x5 : Int), rg x5 → x5 = τ3.2.1 14 n1 → (P17 n1 x5 τ3)))
set_option maxRecDepth 100000 in
set_option maxHeartbeats 4000000 in
theorem L_X12_printStatement (l : Launch) (g : gG) (q : Nat → Nat) (lb : Nat) (hlb : lb < 2 ^ 31) {n1 : Int} {σ : S0} {Q : Int → S0 → Prop} (r_n1 : rg n1) (hN : n_m σ) (hw : W_X12_printStatement n1 σ Q) (sz : Nat) : MetI l yX12_printStatement cX12_printStatement 3 (some .int) { frames := 4, cells := 0, slots := 0, locals := 84 } g [.ref (q 0), .int (I n1)] (CX g q lb σ) sz xT (p_I (CX g q lb) [63, 64, 65, 67] [101, 102] [] σ Q) 0 0 := by
  refine mkMet (Qc := fun A => QI g A (p_I (CX g q lb) [63, 64, 65, 67] [101, 102] [] σ Q)) (by decide) (Nat.le_of_ble_eq_true rfl) ?_
  intro p e s m below meth c A H ls hx hb hr hml hown hts hlk hnm hsz hP hK hNb hD hA hAe hS hX hl
  have hl : lv_has ls 3 [(0, .ref (q 0)), (1, .int (I n1))] := hl
  have hB := hN
  have hF : f_r [63, 64, 65, 67] [101, 102] [] σ σ := f_0
  obtain ⟨locs, hlocs⟩ : ∃ z : List Loc, z = [] := ⟨_, rfl⟩
  rw [← hlocs] at hS ⊢
  obtain ⟨P17, hP17⟩ : ∃ P : Int → Int → S0 → Prop, ∀ (u1 : Int) (u2 : Int) (τ : S0), (P u1 u2 τ ↔ (rg u1 → rg u2 → n_m τ → f_r [63, 64, 65, 67] [101, 102] [] σ τ → ∀ (H : Heap) (locs : List Loc) (ls : Array Slot), KP g (CX g q lb τ) H → va_D A (CX g q lb τ) → va_S A s.heap H locs → lv_has ls 3 [(0, .ref (q 0)), (1, .int (I u1)), (2, .int (I u2))] → W p l e ({ frames := 4, cells := 0, slots := 0, locals := 84 }) s m [.ref (q 0), .int (I n1)].toArray below meth c H locs 0 0 (MQ below (QI g A (p_I (CX g q lb) [63, 64, 65, 67] [101, 102] [] σ Q)) [.ref (q 0), .int (I n1)].toArray s 0 0 A) (F0 m 17 ls []))) := ⟨_, fun _ _ _ => Iff.rfl⟩
  refine (fun hw => ?_) (hw P17 ?_)
  ·
    refine lv_aload_n hx hb dX12_printStatement_0 rfl (lv_at hl 0 rfl) ?_
    refine gfX12_paper hx hb hts hK hP hown (hts _ tw_899) dX12_printStatement_1 ?_
    obtain ⟨Q1, hc, hw⟩ := hw
    refine wc_V (X := CX g q lb) (va_runV (As := []) (rest := []) ⟨hx, hb, hml, hown, hts⟩ (L_X5_begin l g q lb hlb  hN hc H.size) (cwV 0 hts (TB_V tw_1532 tw_1533 tw_1534 tw_14 co_X5_begin) rfl rfl rfl (by decide +kernel) ⟨Nat.le_of_ble_eq_true rfl, Nat.le_of_ble_eq_true rfl⟩) (preV (q0 := 12) (ci := 5) rfl xT_bl hP hK hNb hD rfl rfl xT_at) rfl rfl hl.1 rfl (lv_room (Nat.le_of_ble_eq_true rfl)) dX12_printStatement_4 ⟨Nat.le_of_ble_eq_true rfl, Nat.le_of_ble_eq_true rfl⟩) hP hD hS hA (fun τ3 H locs hN hf hq hP hD hS => ?_)
    replace hw := hw τ3 hN hf hq
    have hF : f_r [63, 64, 65, 67] [101, 102] [] σ τ3 := f_t hF hf (by decide) (by decide) (by decide)
    have hB := hN
    refine lv_aload_n hx hb dX12_printStatement_7 rfl (lv_at hl 0 rfl) ?_
    refine gfX12_library hx hb hts hK hP hown (hts _ tw_889) dX12_printStatement_8 ?_
    refine gfNX3_at hx hb hts hK hP hown (nb_use hNb tn_83) dX12_printStatement_11 ?_
    refine lv_iload_n hx hb dX12_printStatement_14 rfl (lv_at hl 1 rfl) ?_
    obtain ⟨c4, hw⟩ := hw
    refine ldCX3_at hx hb hK hP hN c4 dX12_printStatement_15 (fun x5 r_x5 e_x5 => ?_)
    replace hw := hw x5 r_x5 e_x5
    refine lv_istore_n (lv' := [(2, .int (I x5)), (0, .ref (q 0)), (1, .int (I n1))]) hx hb dX12_printStatement_16 rfl hl (by decide) rfl (fun ls hl => ?_)
    exact (hP17 _ _ _).mp hw r_n1 r_x5 hN hF H locs ls hP hD hS (lv_sub hl [1, 2, 0] rfl)
  ·
    intro u1 u2 τ hw
    refine (hP17 _ _ _).mpr ?_
    intro r_u1 r_u2 hN hF H locs ls hP hD hS hl
    have hB := hN
    refine lv_iload_n hx hb dX12_printStatement_17 rfl (lv_at hl 2 rfl) ?_
    refine lv_aload_n hx hb dX12_printStatement_18 rfl (lv_at hl 0 rfl) ?_
    refine gfX12_library hx hb hts hK hP hown (hts _ tw_889) dX12_printStatement_19 ?_
    refine gfNX3_at hx hb hts hK hP hown (nb_use hNb tn_83) dX12_printStatement_22 ?_
    refine lv_iload_n hx hb dX12_printStatement_25 rfl (lv_at hl 1 rfl) ?_
    refine lv_iconst (v := I 1) hx hb dX12_printStatement_26 rfl ?_
    refine bi_iadd hx hb dX12_printStatement_27 ?_
    obtain ⟨c6, hw⟩ := hw
    refine ldCX3_at hx hb hK hP hN c6 dX12_printStatement_28 (fun x7 r_x7 e_x7 => ?_)
    replace hw := hw x7 r_x7 e_x7
    refine bi_icmp_ge (tgt := 54) hx hb r_u2 r_x7 dX12_printStatement_29 (by decide) (fun c8 => ?_) (fun c8 => ?_)
    ·
      replace hw := hw.1 c8
      refine lv_aload_n hx hb dX12_printStatement_54 rfl (lv_at hl 0 rfl) ?_
      refine gfX12_paper hx hb hts hK hP hown (hts _ tw_899) dX12_printStatement_55 ?_
      obtain ⟨Q9, hc, hw⟩ := hw
      refine wc_I (X := CX g q lb) (va_runV (As := []) (rest := []) ⟨hx, hb, hml, hown, hts⟩ (L_X5_finish l g q lb hlb  hN hc H.size) (cwV 0 hts (TB_V tw_1552 tw_1553 tw_1554 tw_14 co_X5_finish) rfl rfl rfl (by decide +kernel) ⟨Nat.le_of_ble_eq_true rfl, Nat.le_of_ble_eq_true rfl⟩) (preV (q0 := 12) (ci := 5) rfl xT_bl hP hK hNb hD rfl rfl xT_at) rfl rfl hl.1 rfl (lv_room (Nat.le_of_ble_eq_true rfl)) dX12_printStatement_58 ⟨Nat.le_of_ble_eq_true rfl, Nat.le_of_ble_eq_true rfl⟩) hP hD hS hA (fun x10 τ11 H locs r_x10 hN hf hq hP hD hS => ?_)
      replace hw := hw x10 τ11 r_x10 hN hf hq
      have hF : f_r [63, 64, 65, 67] [101, 102] [] σ τ11 := f_t hF hf (by decide) (by decide) (by decide)
      have hB := hN
      exact xri hx hb hr hlk hP hK hD hS ⟨_, _, r_x10, rfl, hN, hF, rfl, hw⟩ (Nat.le_of_ble_eq_true rfl) (Nat.le_of_ble_eq_true rfl) dX12_printStatement_61
    ·
      replace hw := hw.2 c8
      refine lv_aload_n hx hb dX12_printStatement_32 rfl (lv_at hl 0 rfl) ?_
      refine gfX12_paper hx hb hts hK hP hown (hts _ tw_899) dX12_printStatement_33 ?_
      refine lv_aload_n hx hb dX12_printStatement_36 rfl (lv_at hl 0 rfl) ?_
      refine gfX12_library hx hb hts hK hP hown (hts _ tw_889) dX12_printStatement_37 ?_
      refine gfNX3_text hx hb hts hK hP hown (nb_use hNb tn_90) dX12_printStatement_40 ?_
      refine lv_iload_n hx hb dX12_printStatement_43 rfl (lv_at hl 2 rfl) ?_
      obtain ⟨c12, hw⟩ := hw
      refine ldCX3_text hx hb hK hP hN c12 dX12_printStatement_44 (fun x13 r_x13 e_x13 => ?_)
      replace hw := hw x13 r_x13 e_x13
      obtain ⟨Q14, hc, hw⟩ := hw
      refine wc_V (X := CX g q lb) (va_runV (As := [.int (I x13)]) (rest := []) ⟨hx, hb, hml, hown, hts⟩ (L_X5_putSymbol l g q lb hlb r_x13 hN hc H.size) (cwV 1 hts (TB_V tw_1536 tw_1537 tw_1538 tw_14 co_X5_putSymbol) rfl rfl rfl (by decide +kernel) ⟨Nat.le_of_ble_eq_true rfl, Nat.le_of_ble_eq_true rfl⟩) (preV (q0 := 12) (ci := 5) rfl xT_bl hP hK hNb hD rfl rfl xT_at) rfl rfl hl.1 rfl (lv_room (Nat.le_of_ble_eq_true rfl)) dX12_printStatement_45 ⟨Nat.le_of_ble_eq_true rfl, Nat.le_of_ble_eq_true rfl⟩) hP hD hS hA (fun τ16 H locs hN hf hq hP hD hS => ?_)
      replace hw := hw τ16 hN hf hq
      have hF : f_r [63, 64, 65, 67] [101, 102] [] σ τ16 := f_t hF hf (by decide) (by decide) (by decide)
      have hB := hN
      refine lv_iinc (v := I (u2 + 1)) (lv' := [(2, .int (I (u2 + 1))), (0, .ref (q 0)), (1, .int (I u1))]) hx hb dX12_printStatement_48 hl (k := 2) rfl (I_add _ _) (by decide) rfl (fun ls hl => ?_)
      refine lv_goto (tgt := 17) hx hb dX12_printStatement_51 (by decide) ?_
      obtain ⟨c17, hw⟩ := hw
      exact (hP17 _ _ _).mp hw r_u1 c17 hN hF H locs ls hP hD hS (lv_sub hl [1, 2, 0] rfl)
def W_X5_putSymbols_q55 (n2 : Int) (n3 : Int) (σ : S0) (Q : S0 → Prop) : Prop :=
  ∀ (P3 : Int → Int → S0 → Prop),
  (∀ (u3 : Int) (u4 : Int) (τ : S0), ((u3 ≤ u4 → Q τ) ∧ (u4 < u3 → (¬ τ.1 64 = 0 → Q τ) ∧ (τ.1 64 = 0 → (0 ≤ u4 ∧ u4 < 42000) ∧ (∀ (x4 : Int), rg x4 → x4 = τ.2.1 39 u4 → (∃ (Q5 : S0 → Prop), W_X5_putSymbol x4 τ Q5 ∧ ∀ (τ7 : S0), n_m τ7 → f_r [63, 64] [101, 102] [] τ τ7 → Q5 τ7 → (rg (u4 + 1) ∧ P3 u3 (u4 + 1) τ7)))))) → P3 u3 u4 τ) →
  P3 n3 n2 σ
set_option maxRecDepth 100000 in
set_option maxHeartbeats 4000000 in
theorem L_X5_putSymbols_q55 (l : Launch) (g : gG) (q : Nat → Nat) (lb : Nat) (hlb : lb < 2 ^ 31) {n2 : Int} {n3 : Int} {σ : S0} {Q : S0 → Prop} (r_n2 : rg n2) (r_n3 : rg n3) (hN : n_m σ) (hw : W_X5_putSymbols_q55 n2 n3 σ Q) (sz : Nat) : MetV l yX5_putSymbols cX5_putSymbols 5 { frames := 4, cells := 0, slots := 0, locals := 84 } g [.ref (q 12), .ref (q 55), .int (I n2), .int (I n3)] (CX g q lb σ) sz xT (p_V (CX g q lb) [63, 64] [101, 102] [] σ Q) 0 0 := by
  refine mkMet (Qc := fun A => QV g A (p_V (CX g q lb) [63, 64] [101, 102] [] σ Q)) (by decide) (Nat.le_of_ble_eq_true rfl) ?_
  intro p e s m below meth c A H ls hx hb hr hml hown hts hlk hnm hsz hP hK hNb hD hA hAe hS hX hl
  have hl : lv_has ls 5 [(0, .ref (q 12)), (1, .ref (q 55)), (2, .int (I n2)), (3, .int (I n3))] := hl
  have hB := hN
  have hF : f_r [63, 64] [101, 102] [] σ σ := f_0
  obtain ⟨locs, hlocs⟩ : ∃ z : List Loc, z = [] := ⟨_, rfl⟩
  rw [← hlocs] at hS ⊢
  obtain ⟨P3, hP3⟩ : ∃ P : Int → Int → S0 → Prop, ∀ (u3 : Int) (u4 : Int) (τ : S0), (P u3 u4 τ ↔ (rg u3 → rg u4 → n_m τ → f_r [63, 64] [101, 102] [] σ τ → ∀ (H : Heap) (locs : List Loc) (ls : Array Slot), KP g (CX g q lb τ) H → va_D A (CX g q lb τ) → va_S A s.heap H locs → lv_has ls 5 [(0, .ref (q 12)), (1, .ref (q 55)), (3, .int (I u3)), (4, .int (I u4))] → W p l e ({ frames := 4, cells := 0, slots := 0, locals := 84 }) s m [.ref (q 12), .ref (q 55), .int (I n2), .int (I n3)].toArray below meth c H locs 0 0 (MQ below (QV g A (p_V (CX g q lb) [63, 64] [101, 102] [] σ Q)) [.ref (q 12), .ref (q 55), .int (I n2), .int (I n3)].toArray s 0 0 A) (F0 m 3 ls []))) := ⟨_, fun _ _ _ => Iff.rfl⟩
  refine (fun hw => ?_) (hw P3 ?_)
  ·
    refine lv_iload_n hx hb dX5_putSymbols_0 rfl (lv_at hl 2 rfl) ?_
    refine lv_istore (lv' := [(4, .int (I n2)), (0, .ref (q 12)), (1, .ref (q 55)), (2, .int (I n2)), (3, .int (I n3))]) hx hb dX5_putSymbols_1 hl (by decide) rfl (fun ls hl => ?_)
    exact (hP3 _ _ _).mp hw r_n3 r_n2 hN hF H locs ls hP hD hS (lv_sub hl [1, 2, 4, 0] rfl)
  ·
    intro u3 u4 τ hw
    refine (hP3 _ _ _).mpr ?_
    intro r_u3 r_u4 hN hF H locs ls hP hD hS hl
    have hB := hN
    refine lv_iload hx hb dX5_putSymbols_3 (lv_at hl 3 rfl) ?_
    refine lv_iload_n hx hb dX5_putSymbols_5 rfl (lv_at hl 2 rfl) ?_
    refine bi_icmp_ge (tgt := 30) hx hb r_u4 r_u3 dX5_putSymbols_6 (by decide) (fun c1 => ?_) (fun c1 => ?_)
    ·
      replace hw := hw.1 c1
      exact xrv hx hb hr hlk hP hK hD hS ⟨_, hN, hF, rfl, hw⟩ (Nat.le_of_ble_eq_true rfl) (Nat.le_of_ble_eq_true rfl) dX5_putSymbols_30
    ·
      replace hw := hw.2 c1
      refine lv_aload_n hx hb dX5_putSymbols_9 rfl (lv_at hl 0 rfl) ?_
      refine gfX5_overflow hx hb hts hK hP hown (hts _ tw_868) (x := τ.1 64) rfl dX5_putSymbols_10 ?_
      refine bi_if_ne (tgt := 30) hx hb (hB.1 64) dX5_putSymbols_13 (by decide) (fun c2 => ?_) (fun c2 => ?_)
      ·
        replace hw := hw.1 c2
        exact xrv hx hb hr hlk hP hK hD hS ⟨_, hN, hF, rfl, hw⟩ (Nat.le_of_ble_eq_true rfl) (Nat.le_of_ble_eq_true rfl) dX5_putSymbols_30
      ·
        replace hw := hw.2 c2
        refine lv_aload_n hx hb dX5_putSymbols_16 rfl (lv_at hl 0 rfl) ?_
        refine lv_aload_n hx hb dX5_putSymbols_17 rfl (lv_at hl 1 rfl) ?_
        refine lv_iload hx hb dX5_putSymbols_18 (lv_at hl 3 rfl) ?_
        obtain ⟨c3, hw⟩ := hw
        refine ldCX6_data hx hb hK hP hN c3 dX5_putSymbols_20 (fun x4 r_x4 e_x4 => ?_)
        replace hw := hw x4 r_x4 e_x4
        obtain ⟨Q5, hc, hw⟩ := hw
        refine wc_V (X := CX g q lb) (va_runV (As := [.int (I x4)]) (rest := []) ⟨hx, hb, hml, hown, hts⟩ (L_X5_putSymbol l g q lb hlb r_x4 hN hc H.size) (cwV 1 hts (TB_V tw_1586 tw_1537 tw_1538 tw_14 co_X5_putSymbol) rfl rfl rfl (by decide +kernel) ⟨Nat.le_of_ble_eq_true rfl, Nat.le_of_ble_eq_true rfl⟩) (preV (q0 := 12) (ci := 5) rfl xT_bl hP hK hNb hD rfl rfl xT_at) rfl rfl hl.1 rfl (lv_room (Nat.le_of_ble_eq_true rfl)) dX5_putSymbols_21 ⟨Nat.le_of_ble_eq_true rfl, Nat.le_of_ble_eq_true rfl⟩) hP hD hS hA (fun τ7 H locs hN hf hq hP hD hS => ?_)
        replace hw := hw τ7 hN hf hq
        have hF : f_r [63, 64] [101, 102] [] σ τ7 := f_t hF hf (by decide) (by decide) (by decide)
        have hB := hN
        refine lv_iinc (v := I (u4 + 1)) (lv' := [(4, .int (I (u4 + 1))), (0, .ref (q 12)), (1, .ref (q 55)), (3, .int (I u3))]) hx hb dX5_putSymbols_24 hl (k := 3) rfl (I_add _ _) (by decide) rfl (fun ls hl => ?_)
        refine lv_goto (tgt := 3) hx hb dX5_putSymbols_27 (by decide) ?_
        obtain ⟨c8, hw⟩ := hw
        exact (hP3 _ _ _).mp hw r_u3 c8 hN hF H locs ls hP hD hS (lv_sub hl [1, 2, 3, 0] rfl)
def W_X12_printRow (n1 : Int) (n2 : Int) (σ : S0) (Q : Int → S0 → Prop) : Prop :=
  ∃ (Q1 : Int → Prop), W_X12_isRow n1 n2 σ Q1 ∧ ∀ (x2 : Int), rg x2 → Q1 x2 → ((x2 = 0 → Q (-1) σ) ∧ (¬ x2 = 0 → ∃ (Q5 : Int → S0 → Prop), W_X6_goAgain n1 n2 σ Q5 ∧ ∀ (x6 : Int) (τ7 : S0), rg x6 → n_m τ7 → f_r [17, 18, 19] [39, 40, 41, 42, 43, 44, 45] [] σ τ7 → Q5 x6 τ7 → ((¬ x6 = 0 → ∃ (Q9 : S0 → Prop), W_X5_begin τ7 Q9 ∧ ∀ (τ11 : S0), n_m τ11 → f_r [63, 64] [] [] τ7 τ11 → Q9 τ11 → ((0 ≤ n2 ∧ n2 < 20000) ∧ (∀ (x13 : Int), rg x13 → x13 = τ11.2.1 40 n2 → (∀ (x14 : Int), rg x14 → x14 = τ11.2.1 40 n2 → (∀ (x15 : Int), rg x15 → x15 = τ11.2.1 41 n2 → (rg (x14 + x15) ∧ ∃ (Q17 : S0 → Prop), W_X5_putSymbols_q55 x13 (x14 + x15) τ11 Q17 ∧ ∀ (τ19 : S0), n_m τ19 → f_r [63, 64] [101, 102] [] τ11 τ19 → Q17 τ19 → (∃ (Q20 : Int → S0 → Prop), W_X5_finish τ19 Q20 ∧ ∀ (x21 : Int) (τ22 : S0), rg x21 → n_m τ22 → f_r [65, 67] [] [] τ19 τ22 → Q20 x21 τ22 → (Q x21 τ22)))))))) ∧ (x6 = 0 → Q (-1) τ7))))
set_option maxRecDepth 100000 in
set_option maxHeartbeats 4000000 in
theorem L_X12_printRow (l : Launch) (g : gG) (q : Nat → Nat) (lb : Nat) (hlb : lb < 2 ^ 31) {n1 : Int} {n2 : Int} {σ : S0} {Q : Int → S0 → Prop} (r_n1 : rg n1) (r_n2 : rg n2) (hN : n_m σ) (hw : W_X12_printRow n1 n2 σ Q) (sz : Nat) : MetI l yX12_printRow cX12_printRow 3 (some .int) { frames := 5, cells := 0, slots := 0, locals := 126 } g [.ref (q 0), .int (I n1), .int (I n2)] (CX g q lb σ) sz xT (p_I (CX g q lb) [17, 18, 19, 63, 64, 65, 67] [39, 40, 41, 42, 43, 44, 45, 101, 102] [] σ Q) 0 0 := by
  refine mkMet (Qc := fun A => QI g A (p_I (CX g q lb) [17, 18, 19, 63, 64, 65, 67] [39, 40, 41, 42, 43, 44, 45, 101, 102] [] σ Q)) (by decide) (Nat.le_of_ble_eq_true rfl) ?_
  intro p e s m below meth c A H ls hx hb hr hml hown hts hlk hnm hsz hP hK hNb hD hA hAe hS hX hl
  have hl : lv_has ls 3 [(0, .ref (q 0)), (1, .int (I n1)), (2, .int (I n2))] := hl
  have hB := hN
  have hF : f_r [17, 18, 19, 63, 64, 65, 67] [39, 40, 41, 42, 43, 44, 45, 101, 102] [] σ σ := f_0
  obtain ⟨locs, hlocs⟩ : ∃ z : List Loc, z = [] := ⟨_, rfl⟩
  rw [← hlocs] at hS ⊢
  refine lv_aload_n hx hb dX12_printRow_0 rfl (lv_at hl 0 rfl) ?_
  refine lv_iload_n hx hb dX12_printRow_1 rfl (lv_at hl 1 rfl) ?_
  refine lv_iload_n hx hb dX12_printRow_2 rfl (lv_at hl 2 rfl) ?_
  obtain ⟨Q1, hc, hw⟩ := hw
  refine wc_i (X := CX g q lb) (va_runV (As := [.int (I n1), .int (I n2)]) (rest := []) ⟨hx, hb, hml, hown, hts⟩ (L_X12_isRow l g q lb hlb r_n1 r_n2 hN hc H.size) (cwV 2 hts (TB_V tw_1496 tw_1498 ts_52 tw_1 co_X12_isRow) rfl rfl rfl (by decide +kernel) ⟨Nat.le_of_ble_eq_true rfl, Nat.le_of_ble_eq_true rfl⟩) (preV (q0 := 0) (ci := 12) rfl xT_bl hP hK hNb hD rfl rfl xT_at) rfl rfl hl.1 rfl (lv_room (Nat.le_of_ble_eq_true rfl)) dX12_printRow_3 ⟨Nat.le_of_ble_eq_true rfl, Nat.le_of_ble_eq_true rfl⟩) hP hD hS hA (fun x2 H locs r_x2 hq hP hD hS => ?_)
  replace hw := hw x2 r_x2 hq
  refine bi_if_eq (tgt := 21) hx hb r_x2 dX12_printRow_6 (by decide) (fun c4 => ?_) (fun c4 => ?_)
  ·
    replace hw := hw.1 c4
    refine lv_iconst (v := I (-1)) hx hb dX12_printRow_21 rfl ?_
    exact xri hx hb hr hlk hP hK hD hS ⟨_, _, (by decide), rfl, hN, hF, rfl, hw⟩ (Nat.le_of_ble_eq_true rfl) (Nat.le_of_ble_eq_true rfl) dX12_printRow_22
  ·
    replace hw := hw.2 c4
    refine lv_aload_n hx hb dX12_printRow_9 rfl (lv_at hl 0 rfl) ?_
    refine gfX12_pile hx hb hts hK hP hown (hts _ tw_892) dX12_printRow_10 ?_
    refine lv_iload_n hx hb dX12_printRow_13 rfl (lv_at hl 1 rfl) ?_
    refine lv_iload_n hx hb dX12_printRow_14 rfl (lv_at hl 2 rfl) ?_
    obtain ⟨Q5, hc, hw⟩ := hw
    refine wc_I (X := CX g q lb) (va_runV (As := [.int (I n1), .int (I n2)]) (rest := []) ⟨hx, hb, hml, hown, hts⟩ (L_X6_goAgain l g q lb hlb r_n1 r_n2 hN hc H.size) (cwV 2 hts (TB_V tw_1565 tw_1566 tw_1567 tw_6 co_X6_goAgain) rfl rfl rfl (by decide +kernel) ⟨Nat.le_of_ble_eq_true rfl, Nat.le_of_ble_eq_true rfl⟩) (preV (q0 := 4) (ci := 6) rfl xT_bl hP hK hNb hD rfl rfl xT_at) rfl rfl hl.1 rfl (lv_room (Nat.le_of_ble_eq_true rfl)) dX12_printRow_15 ⟨Nat.le_of_ble_eq_true rfl, Nat.le_of_ble_eq_true rfl⟩) hP hD hS hA (fun x6 τ7 H locs r_x6 hN hf hq hP hD hS => ?_)
    replace hw := hw x6 τ7 r_x6 hN hf hq
    have hF : f_r [17, 18, 19, 63, 64, 65, 67] [39, 40, 41, 42, 43, 44, 45, 101, 102] [] σ τ7 := f_t hF hf (by decide) (by decide) (by decide)
    have hB := hN
    refine bi_if_ne (tgt := 23) hx hb r_x6 dX12_printRow_18 (by decide) (fun c8 => ?_) (fun c8 => ?_)
    ·
      replace hw := hw.1 c8
      refine lv_aload_n hx hb dX12_printRow_23 rfl (lv_at hl 0 rfl) ?_
      refine gfX12_paper hx hb hts hK hP hown (hts _ tw_899) dX12_printRow_24 ?_
      obtain ⟨Q9, hc, hw⟩ := hw
      refine wc_V (X := CX g q lb) (va_runV (As := []) (rest := []) ⟨hx, hb, hml, hown, hts⟩ (L_X5_begin l g q lb hlb  hN hc H.size) (cwV 0 hts (TB_V tw_1532 tw_1533 tw_1534 tw_14 co_X5_begin) rfl rfl rfl (by decide +kernel) ⟨Nat.le_of_ble_eq_true rfl, Nat.le_of_ble_eq_true rfl⟩) (preV (q0 := 12) (ci := 5) rfl xT_bl hP hK hNb hD rfl rfl xT_at) rfl rfl hl.1 rfl (lv_room (Nat.le_of_ble_eq_true rfl)) dX12_printRow_27 ⟨Nat.le_of_ble_eq_true rfl, Nat.le_of_ble_eq_true rfl⟩) hP hD hS hA (fun τ11 H locs hN hf hq hP hD hS => ?_)
      replace hw := hw τ11 hN hf hq
      have hF : f_r [17, 18, 19, 63, 64, 65, 67] [39, 40, 41, 42, 43, 44, 45, 101, 102] [] σ τ11 := f_t hF hf (by decide) (by decide) (by decide)
      have hB := hN
      refine lv_aload_n hx hb dX12_printRow_30 rfl (lv_at hl 0 rfl) ?_
      refine gfX12_paper hx hb hts hK hP hown (hts _ tw_899) dX12_printRow_31 ?_
      refine lv_aload_n hx hb dX12_printRow_34 rfl (lv_at hl 0 rfl) ?_
      refine gfX12_pile hx hb hts hK hP hown (hts _ tw_892) dX12_printRow_35 ?_
      refine gfNX6_data hx hb hts hK hP hown (nb_use hNb tn_349) dX12_printRow_38 ?_
      refine lv_aload_n hx hb dX12_printRow_41 rfl (lv_at hl 0 rfl) ?_
      refine gfX12_pile hx hb hts hK hP hown (hts _ tw_892) dX12_printRow_42 ?_
      refine gfNX6_at hx hb hts hK hP hown (nb_use hNb tn_355) dX12_printRow_45 ?_
      refine lv_iload_n hx hb dX12_printRow_48 rfl (lv_at hl 2 rfl) ?_
      obtain ⟨c12, hw⟩ := hw
      refine ldCX6_at hx hb hK hP hN c12 dX12_printRow_49 (fun x13 r_x13 e_x13 => ?_)
      replace hw := hw x13 r_x13 e_x13
      refine lv_aload_n hx hb dX12_printRow_50 rfl (lv_at hl 0 rfl) ?_
      refine gfX12_pile hx hb hts hK hP hown (hts _ tw_892) dX12_printRow_51 ?_
      refine gfNX6_at hx hb hts hK hP hown (nb_use hNb tn_355) dX12_printRow_54 ?_
      refine lv_iload_n hx hb dX12_printRow_57 rfl (lv_at hl 2 rfl) ?_
      refine ldCX6_at hx hb hK hP hN c12 dX12_printRow_58 (fun x14 r_x14 e_x14 => ?_)
      replace hw := hw x14 r_x14 e_x14
      refine lv_aload_n hx hb dX12_printRow_59 rfl (lv_at hl 0 rfl) ?_
      refine gfX12_pile hx hb hts hK hP hown (hts _ tw_892) dX12_printRow_60 ?_
      refine gfNX6_size hx hb hts hK hP hown (nb_use hNb tn_359) dX12_printRow_63 ?_
      refine lv_iload_n hx hb dX12_printRow_66 rfl (lv_at hl 2 rfl) ?_
      refine ldCX6_size hx hb hK hP hN c12 dX12_printRow_67 (fun x15 r_x15 e_x15 => ?_)
      replace hw := hw x15 r_x15 e_x15
      refine bi_iadd hx hb dX12_printRow_68 ?_
      obtain ⟨c16, hw⟩ := hw
      obtain ⟨Q17, hc, hw⟩ := hw
      refine wc_V (X := CX g q lb) (va_runV (As := [.ref (q 55), .int (I x13), .int (I (x14 + x15))]) (rest := []) ⟨hx, hb, hml, hown, hts⟩ (L_X5_putSymbols_q55 l g q lb hlb r_x13 c16 hN hc H.size) (cwV 3 hts (TB_V tw_1582 tw_1583 tw_1584 tw_14 co_X5_putSymbols) rfl rfl rfl (by decide +kernel) ⟨Nat.le_of_ble_eq_true rfl, Nat.le_of_ble_eq_true rfl⟩) (preV (q0 := 12) (ci := 5) rfl xT_bl hP hK hNb hD rfl rfl xT_at) rfl rfl hl.1 rfl (lv_room (Nat.le_of_ble_eq_true rfl)) dX12_printRow_69 ⟨Nat.le_of_ble_eq_true rfl, Nat.le_of_ble_eq_true rfl⟩) hP hD hS hA (fun τ19 H locs hN hf hq hP hD hS => ?_)
      replace hw := hw τ19 hN hf hq
      have hF : f_r [17, 18, 19, 63, 64, 65, 67] [39, 40, 41, 42, 43, 44, 45, 101, 102] [] σ τ19 := f_t hF hf (by decide) (by decide) (by decide)
      have hB := hN
      refine lv_aload_n hx hb dX12_printRow_72 rfl (lv_at hl 0 rfl) ?_
      refine gfX12_paper hx hb hts hK hP hown (hts _ tw_899) dX12_printRow_73 ?_
      obtain ⟨Q20, hc, hw⟩ := hw
      refine wc_I (X := CX g q lb) (va_runV (As := []) (rest := []) ⟨hx, hb, hml, hown, hts⟩ (L_X5_finish l g q lb hlb  hN hc H.size) (cwV 0 hts (TB_V tw_1552 tw_1553 tw_1554 tw_14 co_X5_finish) rfl rfl rfl (by decide +kernel) ⟨Nat.le_of_ble_eq_true rfl, Nat.le_of_ble_eq_true rfl⟩) (preV (q0 := 12) (ci := 5) rfl xT_bl hP hK hNb hD rfl rfl xT_at) rfl rfl hl.1 rfl (lv_room (Nat.le_of_ble_eq_true rfl)) dX12_printRow_76 ⟨Nat.le_of_ble_eq_true rfl, Nat.le_of_ble_eq_true rfl⟩) hP hD hS hA (fun x21 τ22 H locs r_x21 hN hf hq hP hD hS => ?_)
      replace hw := hw x21 τ22 r_x21 hN hf hq
      have hF : f_r [17, 18, 19, 63, 64, 65, 67] [39, 40, 41, 42, 43, 44, 45, 101, 102] [] σ τ22 := f_t hF hf (by decide) (by decide) (by decide)
      have hB := hN
      exact xri hx hb hr hlk hP hK hD hS ⟨_, _, r_x21, rfl, hN, hF, rfl, hw⟩ (Nat.le_of_ble_eq_true rfl) (Nat.le_of_ble_eq_true rfl) dX12_printRow_79
    ·
      replace hw := hw.2 c8
      refine lv_iconst (v := I (-1)) hx hb dX12_printRow_21 rfl ?_
      exact xri hx hb hr hlk hP hK hD hS ⟨_, _, (by decide), rfl, hN, hF, rfl, hw⟩ (Nat.le_of_ble_eq_true rfl) (Nat.le_of_ble_eq_true rfl) dX12_printRow_22
def W_X12_printPacked (n1 : Int) (σ : S0) (Q : Int → S0 → Prop) : Prop :=
  ∀ (P39 : Int → S0 → Prop) (P98 : Int → S0 → Prop),
  (∀ (u2 : Int) (τ : S0), ((τ.1 40 ≤ u2 → ∃ (Q15 : S0 → Prop), W_X5_putToken 41 τ Q15 ∧ ∀ (τ17 : S0), n_m τ17 → f_r [63, 64] [101, 102] [] τ τ17 → Q15 τ17 → (∃ (Q18 : S0 → Prop), W_X5_putBlank τ17 Q18 ∧ ∀ (τ20 : S0), n_m τ20 → f_r [63, 64] [101, 102] [] τ17 τ20 → Q18 τ20 → (P98 0 τ20))) ∧ (u2 < τ.1 40 → (0 ≤ u2 ∧ u2 < 1500) ∧ (∀ (x22 : Int), rg x22 → x22 = τ.2.1 61 u2 → ((0 ≤ x22 ∧ x22 < 1500) ∧ (∀ (x24 : Int), rg x24 → x24 = τ.2.1 12 x22 → (∃ (Q25 : S0 → Prop), W_X5_putName x24 τ Q25 ∧ ∀ (τ27 : S0), n_m τ27 → f_r [63, 64] [101, 102] [] τ τ27 → Q25 τ27 → (rg (u2 + 1) ∧ P39 (u2 + 1) τ27))))))) → P39 u2 τ) →
  (∀ (u2 : Int) (τ : S0), ((τ.1 41 ≤ u2 → ∃ (Q30 : Int → S0 → Prop), W_X5_finish τ Q30 ∧ ∀ (x31 : Int) (τ32 : S0), rg x31 → n_m τ32 → f_r [65, 67] [] [] τ τ32 → Q30 x31 τ32 → (Q x31 τ32)) ∧ (u2 < τ.1 41 → ∃ (Q33 : Int → Prop), W_X4_numberOf u2 τ Q33 ∧ ∀ (x34 : Int), rg x34 → Q33 x34 → (∃ (Q36 : S0 → Prop), W_X5_putNumber x34 τ Q36 ∧ ∀ (τ38 : S0), n_m τ38 → f_r [63, 64] [101, 102] [] τ τ38 → Q36 τ38 → (∃ (Q39 : Int → Prop), W_X4_saves u2 τ38 Q39 ∧ ∀ (x40 : Int), rg x40 → Q39 x40 → ((x40 = 0 → rg (u2 + 1) ∧ P98 (u2 + 1) τ38) ∧ (¬ x40 = 0 → ∃ (Q44 : S0 → Prop), W_X5_put 90 τ38 Q44 ∧ ∀ (τ46 : S0), n_m τ46 → f_r [63, 64] [101, 102] [] τ38 τ46 → Q44 τ46 → (rg (u2 + 1) ∧ P98 (u2 + 1) τ46))))))) → P98 u2 τ) →
  ∃ (Q1 : Int → Prop), W_X3_isProved n1 σ Q1 ∧ ∀ (x2 : Int), rg x2 → Q1 x2 → ((¬ x2 = 0 → ∃ (Q5 : S0 → Prop), W_X4_pack n1 σ Q5 ∧ ∀ (τ7 : S0), n_m τ7 → f_r [40, 41, 42, 44] [55, 56, 57, 58, 59, 60, 61, 62, 63, 64] [] σ τ7 → Q5 τ7 → (∃ (Q8 : S0 → Prop), W_X5_begin τ7 Q8 ∧ ∀ (τ10 : S0), n_m τ10 → f_r [63, 64] [] [] τ7 τ10 → Q8 τ10 → (∃ (Q11 : S0 → Prop), W_X5_putToken 40 τ10 Q11 ∧ ∀ (τ13 : S0), n_m τ13 → f_r [63, 64] [101, 102] [] τ10 τ13 → Q11 τ13 → (P39 0 τ13)))) ∧ (x2 = 0 → Q (-1) σ))
set_option maxRecDepth 100000 in
set_option maxHeartbeats 4000000 in
theorem L_X12_printPacked (l : Launch) (g : gG) (q : Nat → Nat) (lb : Nat) (hlb : lb < 2 ^ 31) {n1 : Int} {σ : S0} {Q : Int → S0 → Prop} (r_n1 : rg n1) (hN : n_m σ) (hw : W_X12_printPacked n1 σ Q) (sz : Nat) : MetI l yX12_printPacked cX12_printPacked 3 (some .int) { frames := 4, cells := 0, slots := 0, locals := 93 } g [.ref (q 0), .int (I n1)] (CX g q lb σ) sz xT (p_I (CX g q lb) [40, 41, 42, 44, 63, 64, 65, 67] [55, 56, 57, 58, 59, 60, 61, 62, 63, 64, 101, 102] [] σ Q) 0 0 := by
  refine mkMet (Qc := fun A => QI g A (p_I (CX g q lb) [40, 41, 42, 44, 63, 64, 65, 67] [55, 56, 57, 58, 59, 60, 61, 62, 63, 64, 101, 102] [] σ Q)) (by decide) (Nat.le_of_ble_eq_true rfl) ?_
  intro p e s m below meth c A H ls hx hb hr hml hown hts hlk hnm hsz hP hK hNb hD hA hAe hS hX hl
  have hl : lv_has ls 3 [(0, .ref (q 0)), (1, .int (I n1))] := hl
  have hB := hN
  have hF : f_r [40, 41, 42, 44, 63, 64, 65, 67] [55, 56, 57, 58, 59, 60, 61, 62, 63, 64, 101, 102] [] σ σ := f_0
  obtain ⟨locs, hlocs⟩ : ∃ z : List Loc, z = [] := ⟨_, rfl⟩
  rw [← hlocs] at hS ⊢
  obtain ⟨P39, hP39⟩ : ∃ P : Int → S0 → Prop, ∀ (u2 : Int) (τ : S0), (P u2 τ ↔ (rg u2 → n_m τ → f_r [40, 41, 42, 44, 63, 64, 65, 67] [55, 56, 57, 58, 59, 60, 61, 62, 63, 64, 101, 102] [] σ τ → ∀ (H : Heap) (locs : List Loc) (ls : Array Slot), KP g (CX g q lb τ) H → va_D A (CX g q lb τ) → va_S A s.heap H locs → lv_has ls 3 [(0, .ref (q 0)), (2, .int (I u2))] → W p l e ({ frames := 4, cells := 0, slots := 0, locals := 93 }) s m [.ref (q 0), .int (I n1)].toArray below meth c H locs 0 0 (MQ below (QI g A (p_I (CX g q lb) [40, 41, 42, 44, 63, 64, 65, 67] [55, 56, 57, 58, 59, 60, 61, 62, 63, 64, 101, 102] [] σ Q)) [.ref (q 0), .int (I n1)].toArray s 0 0 A) (F0 m 39 ls []))) := ⟨_, fun _ _ => Iff.rfl⟩
  obtain ⟨P98, hP98⟩ : ∃ P : Int → S0 → Prop, ∀ (u2 : Int) (τ : S0), (P u2 τ ↔ (rg u2 → n_m τ → f_r [40, 41, 42, 44, 63, 64, 65, 67] [55, 56, 57, 58, 59, 60, 61, 62, 63, 64, 101, 102] [] σ τ → ∀ (H : Heap) (locs : List Loc) (ls : Array Slot), KP g (CX g q lb τ) H → va_D A (CX g q lb τ) → va_S A s.heap H locs → lv_has ls 3 [(0, .ref (q 0)), (2, .int (I u2))] → W p l e ({ frames := 4, cells := 0, slots := 0, locals := 93 }) s m [.ref (q 0), .int (I n1)].toArray below meth c H locs 0 0 (MQ below (QI g A (p_I (CX g q lb) [40, 41, 42, 44, 63, 64, 65, 67] [55, 56, 57, 58, 59, 60, 61, 62, 63, 64, 101, 102] [] σ Q)) [.ref (q 0), .int (I n1)].toArray s 0 0 A) (F0 m 98 ls []))) := ⟨_, fun _ _ => Iff.rfl⟩
  refine (fun hw => ?_) (hw P39 P98 ?_ ?_)
  ·
    refine lv_aload_n hx hb dX12_printPacked_0 rfl (lv_at hl 0 rfl) ?_
    refine gfX12_library hx hb hts hK hP hown (hts _ tw_889) dX12_printPacked_1 ?_
    refine lv_iload_n hx hb dX12_printPacked_4 rfl (lv_at hl 1 rfl) ?_
    obtain ⟨Q1, hc, hw⟩ := hw
    refine wc_i (X := CX g q lb) (va_runV (As := [.int (I n1)]) (rest := []) ⟨hx, hb, hml, hown, hts⟩ (L_X3_isProved l g q lb hlb r_n1 hN hc H.size) (cwV 1 hts (TB_V tw_1488 tw_1489 tw_1490 tw_2 co_X3_isProved) rfl rfl rfl (by decide +kernel) ⟨Nat.le_of_ble_eq_true rfl, Nat.le_of_ble_eq_true rfl⟩) (preV (q0 := 1) (ci := 3) rfl xT_bl hP hK hNb hD rfl rfl xT_at) rfl rfl hl.1 rfl (lv_room (Nat.le_of_ble_eq_true rfl)) dX12_printPacked_5 ⟨Nat.le_of_ble_eq_true rfl, Nat.le_of_ble_eq_true rfl⟩) hP hD hS hA (fun x2 H locs r_x2 hq hP hD hS => ?_)
    replace hw := hw x2 r_x2 hq
    refine bi_if_ne (tgt := 13) hx hb r_x2 dX12_printPacked_8 (by decide) (fun c4 => ?_) (fun c4 => ?_)
    ·
      replace hw := hw.1 c4
      refine lv_aload_n hx hb dX12_printPacked_13 rfl (lv_at hl 0 rfl) ?_
      refine gfX12_packer hx hb hts hK hP hown (hts _ tw_894) dX12_printPacked_14 ?_
      refine lv_iload_n hx hb dX12_printPacked_17 rfl (lv_at hl 1 rfl) ?_
      obtain ⟨Q5, hc, hw⟩ := hw
      refine wc_V (X := CX g q lb) (va_runV (As := [.int (I n1)]) (rest := []) ⟨hx, hb, hml, hown, hts⟩ (L_X4_pack l g q lb hlb r_n1 hN hc H.size) (cwV 1 hts (TB_V tw_1591 tw_1592 tw_1593 tw_9 co_X4_pack) rfl rfl rfl (by decide +kernel) ⟨Nat.le_of_ble_eq_true rfl, Nat.le_of_ble_eq_true rfl⟩) (preV (q0 := 7) (ci := 4) rfl xT_bl hP hK hNb hD rfl rfl xT_at) rfl rfl hl.1 rfl (lv_room (Nat.le_of_ble_eq_true rfl)) dX12_printPacked_18 ⟨Nat.le_of_ble_eq_true rfl, Nat.le_of_ble_eq_true rfl⟩) hP hD hS hA (fun τ7 H locs hN hf hq hP hD hS => ?_)
      replace hw := hw τ7 hN hf hq
      have hF : f_r [40, 41, 42, 44, 63, 64, 65, 67] [55, 56, 57, 58, 59, 60, 61, 62, 63, 64, 101, 102] [] σ τ7 := f_t hF hf (by decide) (by decide) (by decide)
      have hB := hN
      refine lv_aload_n hx hb dX12_printPacked_21 rfl (lv_at hl 0 rfl) ?_
      refine gfX12_paper hx hb hts hK hP hown (hts _ tw_899) dX12_printPacked_22 ?_
      obtain ⟨Q8, hc, hw⟩ := hw
      refine wc_V (X := CX g q lb) (va_runV (As := []) (rest := []) ⟨hx, hb, hml, hown, hts⟩ (L_X5_begin l g q lb hlb  hN hc H.size) (cwV 0 hts (TB_V tw_1532 tw_1533 tw_1534 tw_14 co_X5_begin) rfl rfl rfl (by decide +kernel) ⟨Nat.le_of_ble_eq_true rfl, Nat.le_of_ble_eq_true rfl⟩) (preV (q0 := 12) (ci := 5) rfl xT_bl hP hK hNb hD rfl rfl xT_at) rfl rfl hl.1 rfl (lv_room (Nat.le_of_ble_eq_true rfl)) dX12_printPacked_25 ⟨Nat.le_of_ble_eq_true rfl, Nat.le_of_ble_eq_true rfl⟩) hP hD hS hA (fun τ10 H locs hN hf hq hP hD hS => ?_)
      replace hw := hw τ10 hN hf hq
      have hF : f_r [40, 41, 42, 44, 63, 64, 65, 67] [55, 56, 57, 58, 59, 60, 61, 62, 63, 64, 101, 102] [] σ τ10 := f_t hF hf (by decide) (by decide) (by decide)
      have hB := hN
      refine lv_aload_n hx hb dX12_printPacked_28 rfl (lv_at hl 0 rfl) ?_
      refine gfX12_paper hx hb hts hK hP hown (hts _ tw_899) dX12_printPacked_29 ?_
      refine lv_bipush (v := I 40) hx hb dX12_printPacked_32 (by decide) ?_
      obtain ⟨Q11, hc, hw⟩ := hw
      refine wc_V (X := CX g q lb) (va_runV (As := [.int (I 40)]) (rest := []) ⟨hx, hb, hml, hown, hts⟩ (L_X5_putToken l g q lb hlb (by decide) hN hc H.size) (cwV 1 hts (TB_V tw_1637 tw_1638 tw_1639 tw_14 co_X5_putToken) rfl rfl rfl (by decide +kernel) ⟨Nat.le_of_ble_eq_true rfl, Nat.le_of_ble_eq_true rfl⟩) (preV (q0 := 12) (ci := 5) rfl xT_bl hP hK hNb hD rfl rfl xT_at) rfl rfl hl.1 rfl (lv_room (Nat.le_of_ble_eq_true rfl)) dX12_printPacked_34 ⟨Nat.le_of_ble_eq_true rfl, Nat.le_of_ble_eq_true rfl⟩) hP hD hS hA (fun τ13 H locs hN hf hq hP hD hS => ?_)
      replace hw := hw τ13 hN hf hq
      have hF : f_r [40, 41, 42, 44, 63, 64, 65, 67] [55, 56, 57, 58, 59, 60, 61, 62, 63, 64, 101, 102] [] σ τ13 := f_t hF hf (by decide) (by decide) (by decide)
      have hB := hN
      refine lv_iconst (v := I 0) hx hb dX12_printPacked_37 rfl ?_
      refine lv_istore_n (lv' := [(2, .int (I 0)), (0, .ref (q 0)), (1, .int (I n1))]) hx hb dX12_printPacked_38 rfl hl (by decide) rfl (fun ls hl => ?_)
      exact (hP39 _ _).mp hw (by decide) hN hF H locs ls hP hD hS (lv_sub hl [1, 0] rfl)
    ·
      replace hw := hw.2 c4
      refine lv_iconst (v := I (-1)) hx hb dX12_printPacked_11 rfl ?_
      exact xri hx hb hr hlk hP hK hD hS ⟨_, _, (by decide), rfl, hN, hF, rfl, hw⟩ (Nat.le_of_ble_eq_true rfl) (Nat.le_of_ble_eq_true rfl) dX12_printPacked_12
  ·
    intro u2 τ hw
    refine (hP39 _ _).mpr ?_
    intro r_u2 hN hF H locs ls hP hD hS hl
    have hB := hN
    refine lv_iload_n hx hb dX12_printPacked_39 rfl (lv_at hl 1 rfl) ?_
    refine lv_aload_n hx hb dX12_printPacked_40 rfl (lv_at hl 0 rfl) ?_
    refine gfX12_packer hx hb hts hK hP hown (hts _ tw_894) dX12_printPacked_41 ?_
    refine gfNX4_listedCount hx hb hts hK hP hown (nb_use hNb tn_543) (x := τ.1 40) rfl dX12_printPacked_44 ?_
    refine bi_icmp_ge (tgt := 80) hx hb r_u2 (hB.1 40) dX12_printPacked_47 (by decide) (fun c14 => ?_) (fun c14 => ?_)
    ·
      replace hw := hw.1 c14
      refine lv_aload_n hx hb dX12_printPacked_80 rfl (lv_at hl 0 rfl) ?_
      refine gfX12_paper hx hb hts hK hP hown (hts _ tw_899) dX12_printPacked_81 ?_
      refine lv_bipush (v := I 41) hx hb dX12_printPacked_84 (by decide) ?_
      obtain ⟨Q15, hc, hw⟩ := hw
      refine wc_V (X := CX g q lb) (va_runV (As := [.int (I 41)]) (rest := []) ⟨hx, hb, hml, hown, hts⟩ (L_X5_putToken l g q lb hlb (by decide) hN hc H.size) (cwV 1 hts (TB_V tw_1637 tw_1638 tw_1639 tw_14 co_X5_putToken) rfl rfl rfl (by decide +kernel) ⟨Nat.le_of_ble_eq_true rfl, Nat.le_of_ble_eq_true rfl⟩) (preV (q0 := 12) (ci := 5) rfl xT_bl hP hK hNb hD rfl rfl xT_at) rfl rfl hl.1 rfl (lv_room (Nat.le_of_ble_eq_true rfl)) dX12_printPacked_86 ⟨Nat.le_of_ble_eq_true rfl, Nat.le_of_ble_eq_true rfl⟩) hP hD hS hA (fun τ17 H locs hN hf hq hP hD hS => ?_)
      replace hw := hw τ17 hN hf hq
      have hF : f_r [40, 41, 42, 44, 63, 64, 65, 67] [55, 56, 57, 58, 59, 60, 61, 62, 63, 64, 101, 102] [] σ τ17 := f_t hF hf (by decide) (by decide) (by decide)
      have hB := hN
      refine lv_aload_n hx hb dX12_printPacked_89 rfl (lv_at hl 0 rfl) ?_
      refine gfX12_paper hx hb hts hK hP hown (hts _ tw_899) dX12_printPacked_90 ?_
      obtain ⟨Q18, hc, hw⟩ := hw
      refine wc_V (X := CX g q lb) (va_runV (As := []) (rest := []) ⟨hx, hb, hml, hown, hts⟩ (L_X5_putBlank l g q lb hlb  hN hc H.size) (cwV 0 hts (TB_V tw_1641 tw_1545 tw_1546 tw_14 co_X5_putBlank) rfl rfl rfl (by decide +kernel) ⟨Nat.le_of_ble_eq_true rfl, Nat.le_of_ble_eq_true rfl⟩) (preV (q0 := 12) (ci := 5) rfl xT_bl hP hK hNb hD rfl rfl xT_at) rfl rfl hl.1 rfl (lv_room (Nat.le_of_ble_eq_true rfl)) dX12_printPacked_93 ⟨Nat.le_of_ble_eq_true rfl, Nat.le_of_ble_eq_true rfl⟩) hP hD hS hA (fun τ20 H locs hN hf hq hP hD hS => ?_)
      replace hw := hw τ20 hN hf hq
      have hF : f_r [40, 41, 42, 44, 63, 64, 65, 67] [55, 56, 57, 58, 59, 60, 61, 62, 63, 64, 101, 102] [] σ τ20 := f_t hF hf (by decide) (by decide) (by decide)
      have hB := hN
      refine lv_iconst (v := I 0) hx hb dX12_printPacked_96 rfl ?_
      refine lv_istore_n (lv' := [(2, .int (I 0)), (0, .ref (q 0))]) hx hb dX12_printPacked_97 rfl hl (by decide) rfl (fun ls hl => ?_)
      exact (hP98 _ _).mp hw (by decide) hN hF H locs ls hP hD hS (lv_sub hl [1, 0] rfl)
    ·
      replace hw := hw.2 c14
      refine lv_aload_n hx hb dX12_printPacked_50 rfl (lv_at hl 0 rfl) ?_
      refine gfX12_paper hx hb hts hK hP hown (hts _ tw_899) dX12_printPacked_51 ?_
      refine lv_aload_n hx hb dX12_printPacked_54 rfl (lv_at hl 0 rfl) ?_
      refine gfX12_library hx hb hts hK hP hown (hts _ tw_889) dX12_printPacked_55 ?_
      refine gfNX3_labelName hx hb hts hK hP hown (nb_use hNb tn_67) dX12_printPacked_58 ?_
      refine lv_aload_n hx hb dX12_printPacked_61 rfl (lv_at hl 0 rfl) ?_
      refine gfX12_packer hx hb hts hK hP hown (hts _ tw_894) dX12_printPacked_62 ?_
      refine gfNX4_listed hx hb hts hK hP hown (nb_use hNb tn_541) dX12_printPacked_65 ?_
      refine lv_iload_n hx hb dX12_printPacked_68 rfl (lv_at hl 1 rfl) ?_
      obtain ⟨c21, hw⟩ := hw
      refine ldCX4_listed hx hb hK hP hN c21 dX12_printPacked_69 (fun x22 r_x22 e_x22 => ?_)
      replace hw := hw x22 r_x22 e_x22
      obtain ⟨c23, hw⟩ := hw
      refine ldCX3_labelName hx hb hK hP hN c23 dX12_printPacked_70 (fun x24 r_x24 e_x24 => ?_)
      replace hw := hw x24 r_x24 e_x24
      obtain ⟨Q25, hc, hw⟩ := hw
      refine wc_V (X := CX g q lb) (va_runV (As := [.int (I x24)]) (rest := []) ⟨hx, hb, hml, hown, hts⟩ (L_X5_putName l g q lb hlb r_x24 hN hc H.size) (cwV 1 hts (TB_V tw_1556 tw_1541 tw_1542 tw_14 co_X5_putName) rfl rfl rfl (by decide +kernel) ⟨Nat.le_of_ble_eq_true rfl, Nat.le_of_ble_eq_true rfl⟩) (preV (q0 := 12) (ci := 5) rfl xT_bl hP hK hNb hD rfl rfl xT_at) rfl rfl hl.1 rfl (lv_room (Nat.le_of_ble_eq_true rfl)) dX12_printPacked_71 ⟨Nat.le_of_ble_eq_true rfl, Nat.le_of_ble_eq_true rfl⟩) hP hD hS hA (fun τ27 H locs hN hf hq hP hD hS => ?_)
      replace hw := hw τ27 hN hf hq
      have hF : f_r [40, 41, 42, 44, 63, 64, 65, 67] [55, 56, 57, 58, 59, 60, 61, 62, 63, 64, 101, 102] [] σ τ27 := f_t hF hf (by decide) (by decide) (by decide)
      have hB := hN
      refine lv_iinc (v := I (u2 + 1)) (lv' := [(2, .int (I (u2 + 1))), (0, .ref (q 0))]) hx hb dX12_printPacked_74 hl (k := 1) rfl (I_add _ _) (by decide) rfl (fun ls hl => ?_)
      refine lv_goto (tgt := 39) hx hb dX12_printPacked_77 (by decide) ?_
      obtain ⟨c28, hw⟩ := hw
      exact (hP39 _ _).mp hw c28 hN hF H locs ls hP hD hS (lv_sub hl [1, 0] rfl)
  ·
    intro u2 τ hw
    refine (hP98 _ _).mpr ?_
    intro r_u2 hN hF H locs ls hP hD hS hl
    have hB := hN
    refine lv_iload_n hx hb dX12_printPacked_98 rfl (lv_at hl 1 rfl) ?_
    refine lv_aload_n hx hb dX12_printPacked_99 rfl (lv_at hl 0 rfl) ?_
    refine gfX12_packer hx hb hts hK hP hown (hts _ tw_894) dX12_printPacked_100 ?_
    refine gfNX4_toldCount hx hb hts hK hP hown (nb_use hNb tn_546) (x := τ.1 41) rfl dX12_printPacked_103 ?_
    refine bi_icmp_ge (tgt := 150) hx hb r_u2 (hB.1 41) dX12_printPacked_106 (by decide) (fun c29 => ?_) (fun c29 => ?_)
    ·
      replace hw := hw.1 c29
      refine lv_aload_n hx hb dX12_printPacked_150 rfl (lv_at hl 0 rfl) ?_
      refine gfX12_paper hx hb hts hK hP hown (hts _ tw_899) dX12_printPacked_151 ?_
      obtain ⟨Q30, hc, hw⟩ := hw
      refine wc_I (X := CX g q lb) (va_runV (As := []) (rest := []) ⟨hx, hb, hml, hown, hts⟩ (L_X5_finish l g q lb hlb  hN hc H.size) (cwV 0 hts (TB_V tw_1552 tw_1553 tw_1554 tw_14 co_X5_finish) rfl rfl rfl (by decide +kernel) ⟨Nat.le_of_ble_eq_true rfl, Nat.le_of_ble_eq_true rfl⟩) (preV (q0 := 12) (ci := 5) rfl xT_bl hP hK hNb hD rfl rfl xT_at) rfl rfl hl.1 rfl (lv_room (Nat.le_of_ble_eq_true rfl)) dX12_printPacked_154 ⟨Nat.le_of_ble_eq_true rfl, Nat.le_of_ble_eq_true rfl⟩) hP hD hS hA (fun x31 τ32 H locs r_x31 hN hf hq hP hD hS => ?_)
      replace hw := hw x31 τ32 r_x31 hN hf hq
      have hF : f_r [40, 41, 42, 44, 63, 64, 65, 67] [55, 56, 57, 58, 59, 60, 61, 62, 63, 64, 101, 102] [] σ τ32 := f_t hF hf (by decide) (by decide) (by decide)
      have hB := hN
      exact xri hx hb hr hlk hP hK hD hS ⟨_, _, r_x31, rfl, hN, hF, rfl, hw⟩ (Nat.le_of_ble_eq_true rfl) (Nat.le_of_ble_eq_true rfl) dX12_printPacked_157
    ·
      replace hw := hw.2 c29
      refine lv_aload_n hx hb dX12_printPacked_109 rfl (lv_at hl 0 rfl) ?_
      refine gfX12_paper hx hb hts hK hP hown (hts _ tw_899) dX12_printPacked_110 ?_
      refine lv_aload_n hx hb dX12_printPacked_113 rfl (lv_at hl 0 rfl) ?_
      refine gfX12_packer hx hb hts hK hP hown (hts _ tw_894) dX12_printPacked_114 ?_
      refine lv_iload_n hx hb dX12_printPacked_117 rfl (lv_at hl 1 rfl) ?_
      obtain ⟨Q33, hc, hw⟩ := hw
      refine wc_i (X := CX g q lb) (va_runV (As := [.int (I u2)]) (rest := [.ref (q 12)]) ⟨hx, hb, hml, hown, hts⟩ (L_X4_numberOf l g q lb hlb r_u2 hN hc H.size) (cwV 1 hts (TB_V tw_1642 tw_1643 tw_1644 tw_9 co_X4_numberOf) rfl rfl rfl (by decide +kernel) ⟨Nat.le_of_ble_eq_true rfl, Nat.le_of_ble_eq_true rfl⟩) (preV (q0 := 7) (ci := 4) rfl xT_bl hP hK hNb hD rfl rfl xT_at) rfl rfl hl.1 rfl (lv_room (Nat.le_of_ble_eq_true rfl)) dX12_printPacked_118 ⟨Nat.le_of_ble_eq_true rfl, Nat.le_of_ble_eq_true rfl⟩) hP hD hS hA (fun x34 H locs r_x34 hq hP hD hS => ?_)
      replace hw := hw x34 r_x34 hq
      obtain ⟨Q36, hc, hw⟩ := hw
      refine wc_V (X := CX g q lb) (va_runV (As := [.int (I x34)]) (rest := []) ⟨hx, hb, hml, hown, hts⟩ (L_X5_putNumber l g q lb hlb r_x34 hN hc H.size) (cwV 1 hts (TB_V tw_1646 tw_1647 tw_1648 tw_14 co_X5_putNumber) rfl rfl rfl (by decide +kernel) ⟨Nat.le_of_ble_eq_true rfl, Nat.le_of_ble_eq_true rfl⟩) (preV (q0 := 12) (ci := 5) rfl xT_bl hP hK hNb hD rfl rfl xT_at) rfl rfl hl.1 rfl (lv_room (Nat.le_of_ble_eq_true rfl)) dX12_printPacked_121 ⟨Nat.le_of_ble_eq_true rfl, Nat.le_of_ble_eq_true rfl⟩) hP hD hS hA (fun τ38 H locs hN hf hq hP hD hS => ?_)
      replace hw := hw τ38 hN hf hq
      have hF : f_r [40, 41, 42, 44, 63, 64, 65, 67] [55, 56, 57, 58, 59, 60, 61, 62, 63, 64, 101, 102] [] σ τ38 := f_t hF hf (by decide) (by decide) (by decide)
      have hB := hN
      refine lv_aload_n hx hb dX12_printPacked_124 rfl (lv_at hl 0 rfl) ?_
      refine gfX12_packer hx hb hts hK hP hown (hts _ tw_894) dX12_printPacked_125 ?_
      refine lv_iload_n hx hb dX12_printPacked_128 rfl (lv_at hl 1 rfl) ?_
      obtain ⟨Q39, hc, hw⟩ := hw
      refine wc_i (X := CX g q lb) (va_runV (As := [.int (I u2)]) (rest := []) ⟨hx, hb, hml, hown, hts⟩ (L_X4_saves l g q lb hlb r_u2 hN hc H.size) (cwV 1 hts (TB_V tw_1651 tw_1634 tw_1635 tw_9 co_X4_saves) rfl rfl rfl (by decide +kernel) ⟨Nat.le_of_ble_eq_true rfl, Nat.le_of_ble_eq_true rfl⟩) (preV (q0 := 7) (ci := 4) rfl xT_bl hP hK hNb hD rfl rfl xT_at) rfl rfl hl.1 rfl (lv_room (Nat.le_of_ble_eq_true rfl)) dX12_printPacked_129 ⟨Nat.le_of_ble_eq_true rfl, Nat.le_of_ble_eq_true rfl⟩) hP hD hS hA (fun x40 H locs r_x40 hq hP hD hS => ?_)
      replace hw := hw x40 r_x40 hq
      refine bi_if_eq (tgt := 144) hx hb r_x40 dX12_printPacked_132 (by decide) (fun c42 => ?_) (fun c42 => ?_)
      ·
        replace hw := hw.1 c42
        refine lv_iinc (v := I (u2 + 1)) (lv' := [(2, .int (I (u2 + 1))), (0, .ref (q 0))]) hx hb dX12_printPacked_144 hl (k := 1) rfl (I_add _ _) (by decide) rfl (fun ls hl => ?_)
        refine lv_goto (tgt := 98) hx hb dX12_printPacked_147 (by decide) ?_
        obtain ⟨c43, hw⟩ := hw
        exact (hP98 _ _).mp hw c43 hN hF H locs ls hP hD hS (lv_sub hl [1, 0] rfl)
      ·
        replace hw := hw.2 c42
        refine lv_aload_n hx hb dX12_printPacked_135 rfl (lv_at hl 0 rfl) ?_
        refine gfX12_paper hx hb hts hK hP hown (hts _ tw_899) dX12_printPacked_136 ?_
        refine lv_bipush (v := I 90) hx hb dX12_printPacked_139 (by decide) ?_
        obtain ⟨Q44, hc, hw⟩ := hw
        refine wc_V (X := CX g q lb) (va_runV (As := [.int (I 90)]) (rest := []) ⟨hx, hb, hml, hown, hts⟩ (L_X5_put l g q lb hlb (by decide) hN hc H.size) (cwV 1 hts (TB_V tw_1652 tw_1549 tw_1550 tw_14 co_X5_put) rfl rfl rfl (by decide +kernel) ⟨Nat.le_of_ble_eq_true rfl, Nat.le_of_ble_eq_true rfl⟩) (preV (q0 := 12) (ci := 5) rfl xT_bl hP hK hNb hD rfl rfl xT_at) rfl rfl hl.1 rfl (lv_room (Nat.le_of_ble_eq_true rfl)) dX12_printPacked_141 ⟨Nat.le_of_ble_eq_true rfl, Nat.le_of_ble_eq_true rfl⟩) hP hD hS hA (fun τ46 H locs hN hf hq hP hD hS => ?_)
        replace hw := hw τ46 hN hf hq
        have hF : f_r [40, 41, 42, 44, 63, 64, 65, 67] [55, 56, 57, 58, 59, 60, 61, 62, 63, 64, 101, 102] [] σ τ46 := f_t hF hf (by decide) (by decide) (by decide)
        have hB := hN
        refine lv_iinc (v := I (u2 + 1)) (lv' := [(2, .int (I (u2 + 1))), (0, .ref (q 0))]) hx hb dX12_printPacked_144 hl (k := 1) rfl (I_add _ _) (by decide) rfl (fun ls hl => ?_)
        refine lv_goto (tgt := 98) hx hb dX12_printPacked_147 (by decide) ?_
        obtain ⟨c47, hw⟩ := hw
        exact (hP98 _ _).mp hw c47 hN hF H locs ls hP hD hS (lv_sub hl [1, 0] rfl)
def W_X12_printUnpacked (n1 : Int) (σ : S0) (Q : Int → S0 → Prop) : Prop :=
  ∀ (P48 : Int → S0 → Prop),
  (∀ (u2 : Int) (τ : S0), ((τ.1 41 ≤ u2 → ∃ (Q16 : Int → S0 → Prop), W_X5_finish τ Q16 ∧ ∀ (x17 : Int) (τ18 : S0), rg x17 → n_m τ18 → f_r [65, 67] [] [] τ τ18 → Q16 x17 τ18 → (Q x17 τ18)) ∧ (u2 < τ.1 41 → ∃ (Q19 : Int → Prop), W_X4_statementOf u2 τ Q19 ∧ ∀ (x20 : Int), rg x20 → Q19 x20 → ((0 ≤ x20 ∧ x20 < 1500) ∧ (∀ (x23 : Int), rg x23 → x23 = τ.2.1 12 x20 → (∃ (Q24 : S0 → Prop), W_X5_putName x23 τ Q24 ∧ ∀ (τ26 : S0), n_m τ26 → f_r [63, 64] [101, 102] [] τ τ26 → Q24 τ26 → (rg (u2 + 1) ∧ P48 (u2 + 1) τ26)))))) → P48 u2 τ) →
  ∃ (Q1 : Int → Prop), W_X3_isProved n1 σ Q1 ∧ ∀ (x2 : Int), rg x2 → Q1 x2 → ((¬ x2 = 0 → ∃ (Q5 : Int64 → Prop), W_X0_labelsOf n1 σ Q5 ∧ ∀ (x6 : Int64), Q5 x6 → ((x6 ≤ 4000 → ∃ (Q9 : S0 → Prop), W_X4_unpack n1 σ Q9 ∧ ∀ (τ11 : S0), n_m τ11 → f_r [41, 42, 44] [58, 62, 63, 64] [] σ τ11 → Q9 τ11 → (∃ (Q12 : S0 → Prop), W_X5_begin τ11 Q12 ∧ ∀ (τ14 : S0), n_m τ14 → f_r [63, 64] [] [] τ11 τ14 → Q12 τ14 → (P48 0 τ14))) ∧ (4000 < x6 → Q (-2) σ))) ∧ (x2 = 0 → Q (-1) σ))
set_option maxRecDepth 100000 in
set_option maxHeartbeats 4000000 in
theorem L_X12_printUnpacked (l : Launch) (g : gG) (q : Nat → Nat) (lb : Nat) (hlb : lb < 2 ^ 31) {n1 : Int} {σ : S0} {Q : Int → S0 → Prop} (r_n1 : rg n1) (hN : n_m σ) (hw : W_X12_printUnpacked n1 σ Q) (sz : Nat) : MetI l yX12_printUnpacked cX12_printUnpacked 3 (some .int) { frames := 4, cells := 0, slots := 0, locals := 89 } g [.ref (q 0), .int (I n1)] (CX g q lb σ) sz xT (p_I (CX g q lb) [41, 42, 44, 63, 64, 65, 67] [58, 62, 63, 64, 101, 102] [] σ Q) 0 0 := by
  refine mkMet (Qc := fun A => QI g A (p_I (CX g q lb) [41, 42, 44, 63, 64, 65, 67] [58, 62, 63, 64, 101, 102] [] σ Q)) (by decide) (Nat.le_of_ble_eq_true rfl) ?_
  intro p e s m below meth c A H ls hx hb hr hml hown hts hlk hnm hsz hP hK hNb hD hA hAe hS hX hl
  have hl : lv_has ls 3 [(0, .ref (q 0)), (1, .int (I n1))] := hl
  have hB := hN
  have hF : f_r [41, 42, 44, 63, 64, 65, 67] [58, 62, 63, 64, 101, 102] [] σ σ := f_0
  obtain ⟨locs, hlocs⟩ : ∃ z : List Loc, z = [] := ⟨_, rfl⟩
  rw [← hlocs] at hS ⊢
  obtain ⟨P48, hP48⟩ : ∃ P : Int → S0 → Prop, ∀ (u2 : Int) (τ : S0), (P u2 τ ↔ (rg u2 → n_m τ → f_r [41, 42, 44, 63, 64, 65, 67] [58, 62, 63, 64, 101, 102] [] σ τ → ∀ (H : Heap) (locs : List Loc) (ls : Array Slot), KP g (CX g q lb τ) H → va_D A (CX g q lb τ) → va_S A s.heap H locs → lv_has ls 3 [(0, .ref (q 0)), (2, .int (I u2))] → W p l e ({ frames := 4, cells := 0, slots := 0, locals := 89 }) s m [.ref (q 0), .int (I n1)].toArray below meth c H locs 0 0 (MQ below (QI g A (p_I (CX g q lb) [41, 42, 44, 63, 64, 65, 67] [58, 62, 63, 64, 101, 102] [] σ Q)) [.ref (q 0), .int (I n1)].toArray s 0 0 A) (F0 m 48 ls []))) := ⟨_, fun _ _ => Iff.rfl⟩
  refine (fun hw => ?_) (hw P48 ?_)
  ·
    refine lv_aload_n hx hb dX12_printUnpacked_0 rfl (lv_at hl 0 rfl) ?_
    refine gfX12_library hx hb hts hK hP hown (hts _ tw_889) dX12_printUnpacked_1 ?_
    refine lv_iload_n hx hb dX12_printUnpacked_4 rfl (lv_at hl 1 rfl) ?_
    obtain ⟨Q1, hc, hw⟩ := hw
    refine wc_i (X := CX g q lb) (va_runV (As := [.int (I n1)]) (rest := []) ⟨hx, hb, hml, hown, hts⟩ (L_X3_isProved l g q lb hlb r_n1 hN hc H.size) (cwV 1 hts (TB_V tw_1488 tw_1489 tw_1490 tw_2 co_X3_isProved) rfl rfl rfl (by decide +kernel) ⟨Nat.le_of_ble_eq_true rfl, Nat.le_of_ble_eq_true rfl⟩) (preV (q0 := 1) (ci := 3) rfl xT_bl hP hK hNb hD rfl rfl xT_at) rfl rfl hl.1 rfl (lv_room (Nat.le_of_ble_eq_true rfl)) dX12_printUnpacked_5 ⟨Nat.le_of_ble_eq_true rfl, Nat.le_of_ble_eq_true rfl⟩) hP hD hS hA (fun x2 H locs r_x2 hq hP hD hS => ?_)
    replace hw := hw x2 r_x2 hq
    refine bi_if_ne (tgt := 13) hx hb r_x2 dX12_printUnpacked_8 (by decide) (fun c4 => ?_) (fun c4 => ?_)
    ·
      replace hw := hw.1 c4
      refine lv_aload_n hx hb dX12_printUnpacked_13 rfl (lv_at hl 0 rfl) ?_
      refine gfX12_assertions hx hb hts hK hP hown (hts _ tw_891) dX12_printUnpacked_14 ?_
      refine lv_iload_n hx hb dX12_printUnpacked_17 rfl (lv_at hl 1 rfl) ?_
      obtain ⟨Q5, hc, hw⟩ := hw
      refine wc_l (X := CX g q lb) (va_runV (As := [.int (I n1)]) (rest := []) ⟨hx, hb, hml, hown, hts⟩ (L_X0_labelsOf l g q lb hlb r_n1 hN hc H.size) (cwV 1 hts (TB_V tw_1518 tw_1519 tw_1520 tw_5 co_X0_labelsOf) rfl rfl rfl (by decide +kernel) ⟨Nat.le_of_ble_eq_true rfl, Nat.le_of_ble_eq_true rfl⟩) (preV (q0 := 3) (ci := 0) rfl xT_bl hP hK hNb hD rfl rfl xT_at) rfl rfl hl.1 rfl (lv_room (Nat.le_of_ble_eq_true rfl)) dX12_printUnpacked_18 ⟨Nat.le_of_ble_eq_true rfl, Nat.le_of_ble_eq_true rfl⟩) hP hD hS hA (fun x6 H locs hq hP hD hS => ?_)
      replace hw := hw x6 hq
      refine lv_ldc2 (own := RX12) (v := 4000) hx hb hown (hts _ tw_1657) dX12_printUnpacked_21 ?_
      refine bi_lcmp_le (tgt := 31) hx hb dX12_printUnpacked_24 dX12_printUnpacked_25 (by decide) (fun c8 => ?_) (fun c8 => ?_)
      ·
        replace hw := hw.1 c8
        refine lv_aload_n hx hb dX12_printUnpacked_31 rfl (lv_at hl 0 rfl) ?_
        refine gfX12_packer hx hb hts hK hP hown (hts _ tw_894) dX12_printUnpacked_32 ?_
        refine lv_iload_n hx hb dX12_printUnpacked_35 rfl (lv_at hl 1 rfl) ?_
        obtain ⟨Q9, hc, hw⟩ := hw
        refine wc_V (X := CX g q lb) (va_runV (As := [.int (I n1)]) (rest := []) ⟨hx, hb, hml, hown, hts⟩ (L_X4_unpack l g q lb hlb r_n1 hN hc H.size) (cwV 1 hts (TB_V tw_1658 tw_1659 tw_1660 tw_9 co_X4_unpack) rfl rfl rfl (by decide +kernel) ⟨Nat.le_of_ble_eq_true rfl, Nat.le_of_ble_eq_true rfl⟩) (preV (q0 := 7) (ci := 4) rfl xT_bl hP hK hNb hD rfl rfl xT_at) rfl rfl hl.1 rfl (lv_room (Nat.le_of_ble_eq_true rfl)) dX12_printUnpacked_36 ⟨Nat.le_of_ble_eq_true rfl, Nat.le_of_ble_eq_true rfl⟩) hP hD hS hA (fun τ11 H locs hN hf hq hP hD hS => ?_)
        replace hw := hw τ11 hN hf hq
        have hF : f_r [41, 42, 44, 63, 64, 65, 67] [58, 62, 63, 64, 101, 102] [] σ τ11 := f_t hF hf (by decide) (by decide) (by decide)
        have hB := hN
        refine lv_aload_n hx hb dX12_printUnpacked_39 rfl (lv_at hl 0 rfl) ?_
        refine gfX12_paper hx hb hts hK hP hown (hts _ tw_899) dX12_printUnpacked_40 ?_
        obtain ⟨Q12, hc, hw⟩ := hw
        refine wc_V (X := CX g q lb) (va_runV (As := []) (rest := []) ⟨hx, hb, hml, hown, hts⟩ (L_X5_begin l g q lb hlb  hN hc H.size) (cwV 0 hts (TB_V tw_1532 tw_1533 tw_1534 tw_14 co_X5_begin) rfl rfl rfl (by decide +kernel) ⟨Nat.le_of_ble_eq_true rfl, Nat.le_of_ble_eq_true rfl⟩) (preV (q0 := 12) (ci := 5) rfl xT_bl hP hK hNb hD rfl rfl xT_at) rfl rfl hl.1 rfl (lv_room (Nat.le_of_ble_eq_true rfl)) dX12_printUnpacked_43 ⟨Nat.le_of_ble_eq_true rfl, Nat.le_of_ble_eq_true rfl⟩) hP hD hS hA (fun τ14 H locs hN hf hq hP hD hS => ?_)
        replace hw := hw τ14 hN hf hq
        have hF : f_r [41, 42, 44, 63, 64, 65, 67] [58, 62, 63, 64, 101, 102] [] σ τ14 := f_t hF hf (by decide) (by decide) (by decide)
        have hB := hN
        refine lv_iconst (v := I 0) hx hb dX12_printUnpacked_46 rfl ?_
        refine lv_istore_n (lv' := [(2, .int (I 0)), (0, .ref (q 0)), (1, .int (I n1))]) hx hb dX12_printUnpacked_47 rfl hl (by decide) rfl (fun ls hl => ?_)
        exact (hP48 _ _).mp hw (by decide) hN hF H locs ls hP hD hS (lv_sub hl [1, 0] rfl)
      ·
        replace hw := hw.2 c8
        refine lv_bipush (v := I (-2)) hx hb dX12_printUnpacked_28 (by decide) ?_
        exact xri hx hb hr hlk hP hK hD hS ⟨_, _, (by decide), rfl, hN, hF, rfl, hw⟩ (Nat.le_of_ble_eq_true rfl) (Nat.le_of_ble_eq_true rfl) dX12_printUnpacked_30
    ·
      replace hw := hw.2 c4
      refine lv_iconst (v := I (-1)) hx hb dX12_printUnpacked_11 rfl ?_
      exact xri hx hb hr hlk hP hK hD hS ⟨_, _, (by decide), rfl, hN, hF, rfl, hw⟩ (Nat.le_of_ble_eq_true rfl) (Nat.le_of_ble_eq_true rfl) dX12_printUnpacked_12
  ·
    intro u2 τ hw
    refine (hP48 _ _).mpr ?_
    intro r_u2 hN hF H locs ls hP hD hS hl
    have hB := hN
    refine lv_iload_n hx hb dX12_printUnpacked_48 rfl (lv_at hl 1 rfl) ?_
    refine lv_aload_n hx hb dX12_printUnpacked_49 rfl (lv_at hl 0 rfl) ?_
    refine gfX12_packer hx hb hts hK hP hown (hts _ tw_894) dX12_printUnpacked_50 ?_
    refine gfNX4_toldCount hx hb hts hK hP hown (nb_use hNb tn_546) (x := τ.1 41) rfl dX12_printUnpacked_53 ?_
    refine bi_icmp_ge (tgt := 88) hx hb r_u2 (hB.1 41) dX12_printUnpacked_56 (by decide) (fun c15 => ?_) (fun c15 => ?_)
    ·
      replace hw := hw.1 c15
      refine lv_aload_n hx hb dX12_printUnpacked_88 rfl (lv_at hl 0 rfl) ?_
      refine gfX12_paper hx hb hts hK hP hown (hts _ tw_899) dX12_printUnpacked_89 ?_
      obtain ⟨Q16, hc, hw⟩ := hw
      refine wc_I (X := CX g q lb) (va_runV (As := []) (rest := []) ⟨hx, hb, hml, hown, hts⟩ (L_X5_finish l g q lb hlb  hN hc H.size) (cwV 0 hts (TB_V tw_1552 tw_1553 tw_1554 tw_14 co_X5_finish) rfl rfl rfl (by decide +kernel) ⟨Nat.le_of_ble_eq_true rfl, Nat.le_of_ble_eq_true rfl⟩) (preV (q0 := 12) (ci := 5) rfl xT_bl hP hK hNb hD rfl rfl xT_at) rfl rfl hl.1 rfl (lv_room (Nat.le_of_ble_eq_true rfl)) dX12_printUnpacked_92 ⟨Nat.le_of_ble_eq_true rfl, Nat.le_of_ble_eq_true rfl⟩) hP hD hS hA (fun x17 τ18 H locs r_x17 hN hf hq hP hD hS => ?_)
      replace hw := hw x17 τ18 r_x17 hN hf hq
      have hF : f_r [41, 42, 44, 63, 64, 65, 67] [58, 62, 63, 64, 101, 102] [] σ τ18 := f_t hF hf (by decide) (by decide) (by decide)
      have hB := hN
      exact xri hx hb hr hlk hP hK hD hS ⟨_, _, r_x17, rfl, hN, hF, rfl, hw⟩ (Nat.le_of_ble_eq_true rfl) (Nat.le_of_ble_eq_true rfl) dX12_printUnpacked_95
    ·
      replace hw := hw.2 c15
      refine lv_aload_n hx hb dX12_printUnpacked_59 rfl (lv_at hl 0 rfl) ?_
      refine gfX12_paper hx hb hts hK hP hown (hts _ tw_899) dX12_printUnpacked_60 ?_
      refine lv_aload_n hx hb dX12_printUnpacked_63 rfl (lv_at hl 0 rfl) ?_
      refine gfX12_library hx hb hts hK hP hown (hts _ tw_889) dX12_printUnpacked_64 ?_
      refine gfNX3_labelName hx hb hts hK hP hown (nb_use hNb tn_67) dX12_printUnpacked_67 ?_
      refine lv_aload_n hx hb dX12_printUnpacked_70 rfl (lv_at hl 0 rfl) ?_
      refine gfX12_packer hx hb hts hK hP hown (hts _ tw_894) dX12_printUnpacked_71 ?_
      refine lv_iload_n hx hb dX12_printUnpacked_74 rfl (lv_at hl 1 rfl) ?_
      obtain ⟨Q19, hc, hw⟩ := hw
      refine wc_i (X := CX g q lb) (va_runV (As := [.int (I u2)]) (rest := [.ref (q 25), .ref (q 12)]) ⟨hx, hb, hml, hown, hts⟩ (L_X4_statementOf l g q lb hlb r_u2 hN hc H.size) (cwV 1 hts (TB_V tw_1662 tw_1630 tw_1631 tw_9 co_X4_statementOf) rfl rfl rfl (by decide +kernel) ⟨Nat.le_of_ble_eq_true rfl, Nat.le_of_ble_eq_true rfl⟩) (preV (q0 := 7) (ci := 4) rfl xT_bl hP hK hNb hD rfl rfl xT_at) rfl rfl hl.1 rfl (lv_room (Nat.le_of_ble_eq_true rfl)) dX12_printUnpacked_75 ⟨Nat.le_of_ble_eq_true rfl, Nat.le_of_ble_eq_true rfl⟩) hP hD hS hA (fun x20 H locs r_x20 hq hP hD hS => ?_)
      replace hw := hw x20 r_x20 hq
      obtain ⟨c22, hw⟩ := hw
      refine ldCX3_labelName hx hb hK hP hN c22 dX12_printUnpacked_78 (fun x23 r_x23 e_x23 => ?_)
      replace hw := hw x23 r_x23 e_x23
      obtain ⟨Q24, hc, hw⟩ := hw
      refine wc_V (X := CX g q lb) (va_runV (As := [.int (I x23)]) (rest := []) ⟨hx, hb, hml, hown, hts⟩ (L_X5_putName l g q lb hlb r_x23 hN hc H.size) (cwV 1 hts (TB_V tw_1556 tw_1541 tw_1542 tw_14 co_X5_putName) rfl rfl rfl (by decide +kernel) ⟨Nat.le_of_ble_eq_true rfl, Nat.le_of_ble_eq_true rfl⟩) (preV (q0 := 12) (ci := 5) rfl xT_bl hP hK hNb hD rfl rfl xT_at) rfl rfl hl.1 rfl (lv_room (Nat.le_of_ble_eq_true rfl)) dX12_printUnpacked_79 ⟨Nat.le_of_ble_eq_true rfl, Nat.le_of_ble_eq_true rfl⟩) hP hD hS hA (fun τ26 H locs hN hf hq hP hD hS => ?_)
      replace hw := hw τ26 hN hf hq
      have hF : f_r [41, 42, 44, 63, 64, 65, 67] [58, 62, 63, 64, 101, 102] [] σ τ26 := f_t hF hf (by decide) (by decide) (by decide)
      have hB := hN
      refine lv_iinc (v := I (u2 + 1)) (lv' := [(2, .int (I (u2 + 1))), (0, .ref (q 0))]) hx hb dX12_printUnpacked_82 hl (k := 1) rfl (I_add _ _) (by decide) rfl (fun ls hl => ?_)
      refine lv_goto (tgt := 48) hx hb dX12_printUnpacked_85 (by decide) ?_
      obtain ⟨c27, hw⟩ := hw
      exact (hP48 _ _).mp hw c27 hN hF H locs ls hP hD hS (lv_sub hl [1, 0] rfl)
def W_X12_treesOf (n1 : Int) (σ : S0) (Q : Int → S0 → Prop) : Prop :=
  ∃ (Q1 : Int → Prop), W_X3_lengthOf n1 σ Q1 ∧ ∀ (x2 : Int), rg x2 → Q1 x2 → ((x2 ≤ 60 → ∃ (Q5 : S0 → Prop), W_X8_learn σ Q5 ∧ ∀ (τ7 : S0), n_m τ7 → f_r [45, 46, 47, 48, 49] [67, 68, 69, 70, 71, 72, 73, 74, 75, 76] [] σ τ7 → Q5 τ7 → (∃ (Q8 : S0 → Prop), W_X1_takeStatement n1 τ7 Q8 ∧ ∀ (τ10 : S0), n_m τ10 → f_r [50, 51, 52] [77, 78] [3] τ7 τ10 → Q8 τ10 → (∃ (Q11 : Int → S0 → Prop), W_X1_countTrees τ10 Q11 ∧ ∀ (x12 : Int) (τ13 : S0), rg x12 → n_m τ13 → f_r [53] [79, 80, 81, 82, 83] [3, 4, 5, 6, 7] τ10 τ13 → Q11 x12 τ13 → (Q x12 τ13)))) ∧ (60 < x2 → Q (-2) σ))
set_option maxRecDepth 100000 in
set_option maxHeartbeats 4000000 in
theorem L_X12_treesOf (l : Launch) (g : gG) (t1 t2 : Nat) (q : Nat → Nat) (lb : Nat) (hlb : lb < 2 ^ 31) {n1 : Int} {σ : S0} {Q : Int → S0 → Prop} (r_n1 : rg n1) (hN : n_m σ) (hw : W_X12_treesOf n1 σ Q) (sz : Nat) : MetI l yX12_treesOf cX12_treesOf 2 (some .int) { frames := 5, cells := 0, slots := 0, locals := 131 } g [.ref (q 0), .int (I n1)] (CX g q lb σ) sz (sX t1 t2 (va_A (CX g q lb σ) sz)) (p_I (CX g q lb) [45, 46, 47, 48, 49, 50, 51, 52, 53] [67, 68, 69, 70, 71, 72, 73, 74, 75, 76, 77, 78, 79, 80, 81, 82, 83] [3, 4, 5, 6, 7] σ Q) 0 0 := by
  refine mkMet (Qc := fun A => QI g A (p_I (CX g q lb) [45, 46, 47, 48, 49, 50, 51, 52, 53] [67, 68, 69, 70, 71, 72, 73, 74, 75, 76, 77, 78, 79, 80, 81, 82, 83] [3, 4, 5, 6, 7] σ Q)) (by decide) (Nat.le_of_ble_eq_true rfl) ?_
  intro p e s m below meth c A H ls hx hb hr hml hown hts hlk hnm hsz hP hK hNb hD hA hAe hS hX hl
  rw [← hAe] at hX
  have hl : lv_has ls 2 [(0, .ref (q 0)), (1, .int (I n1))] := hl
  have hB := hN
  have hF : f_r [45, 46, 47, 48, 49, 50, 51, 52, 53] [67, 68, 69, 70, 71, 72, 73, 74, 75, 76, 77, 78, 79, 80, 81, 82, 83] [3, 4, 5, 6, 7] σ σ := f_0
  obtain ⟨locs, hlocs⟩ : ∃ z : List Loc, z = [] := ⟨_, rfl⟩
  rw [← hlocs] at hS ⊢
  refine lv_aload_n hx hb dX12_treesOf_0 rfl (lv_at hl 0 rfl) ?_
  refine gfX12_library hx hb hts hK hP hown (hts _ tw_889) dX12_treesOf_1 ?_
  refine lv_iload_n hx hb dX12_treesOf_4 rfl (lv_at hl 1 rfl) ?_
  obtain ⟨Q1, hc, hw⟩ := hw
  refine wc_i (X := CX g q lb) (va_runV (As := [.int (I n1)]) (rest := []) ⟨hx, hb, hml, hown, hts⟩ (L_X3_lengthOf l g q lb hlb r_n1 hN hc H.size) (cwV 1 hts (TB_V tw_1421 tw_1292 tw_1293 tw_2 co_X3_lengthOf) rfl rfl rfl (by decide +kernel) ⟨Nat.le_of_ble_eq_true rfl, Nat.le_of_ble_eq_true rfl⟩) (preV (q0 := 1) (ci := 3) rfl xT_bl hP hK hNb hD rfl rfl xT_at) rfl rfl hl.1 rfl (lv_room (Nat.le_of_ble_eq_true rfl)) dX12_treesOf_5 ⟨Nat.le_of_ble_eq_true rfl, Nat.le_of_ble_eq_true rfl⟩) hP hD hS hA (fun x2 H locs r_x2 hq hP hD hS => ?_)
  replace hw := hw x2 r_x2 hq
  refine lv_bipush (v := I 60) hx hb dX12_treesOf_8 (by decide) ?_
  refine bi_icmp_le (tgt := 16) hx hb r_x2 (by decide) dX12_treesOf_10 (by decide) (fun c4 => ?_) (fun c4 => ?_)
  ·
    replace hw := hw.1 c4
    refine lv_aload_n hx hb dX12_treesOf_16 rfl (lv_at hl 0 rfl) ?_
    refine gfX12_rules hx hb hts hK hP hown (hts _ tw_895) dX12_treesOf_17 ?_
    obtain ⟨Q5, hc, hw⟩ := hw
    refine wc_V (X := CX g q lb) (va_runV (As := []) (rest := []) ⟨hx, hb, hml, hown, hts⟩ (L_X8_learn l g t1 t2 q lb hlb  hN hc H.size) (cwV 0 hts (TB_V tw_1671 tw_1672 tw_1673 tw_10 co_X8_learn) rfl rfl rfl (by decide +kernel) ⟨Nat.le_of_ble_eq_true rfl, Nat.le_of_ble_eq_true rfl⟩) (preV (q0 := 8) (ci := 8) rfl sX_bl hP hK hNb hD rfl rfl (sX_call hX hS (d_full hD hS hA))) rfl rfl hl.1 rfl (lv_room (Nat.le_of_ble_eq_true rfl)) dX12_treesOf_20 ⟨Nat.le_of_ble_eq_true rfl, Nat.le_of_ble_eq_true rfl⟩) hP hD hS hA (fun τ7 H locs hN hf hq hP hD hS => ?_)
    replace hw := hw τ7 hN hf hq
    have hF : f_r [45, 46, 47, 48, 49, 50, 51, 52, 53] [67, 68, 69, 70, 71, 72, 73, 74, 75, 76, 77, 78, 79, 80, 81, 82, 83] [3, 4, 5, 6, 7] σ τ7 := f_t hF hf (by decide) (by decide) (by decide)
    have hB := hN
    refine lv_aload_n hx hb dX12_treesOf_23 rfl (lv_at hl 0 rfl) ?_
    refine gfX12_chart hx hb hts hK hP hown (hts _ tw_896) dX12_treesOf_24 ?_
    refine lv_iload_n hx hb dX12_treesOf_27 rfl (lv_at hl 1 rfl) ?_
    obtain ⟨Q8, hc, hw⟩ := hw
    refine wc_V (X := CX g q lb) (va_runV (As := [.int (I n1)]) (rest := []) ⟨hx, hb, hml, hown, hts⟩ (L_X1_takeStatement l g q lb hlb r_n1 hN hc H.size) (cwV 1 hts (TB_V tw_1702 tw_1703 tw_1704 tw_11 co_X1_takeStatement) rfl rfl rfl (by decide +kernel) ⟨Nat.le_of_ble_eq_true rfl, Nat.le_of_ble_eq_true rfl⟩) (preV (q0 := 9) (ci := 1) rfl xT_bl hP hK hNb hD rfl rfl xT_at) rfl rfl hl.1 rfl (lv_room (Nat.le_of_ble_eq_true rfl)) dX12_treesOf_28 ⟨Nat.le_of_ble_eq_true rfl, Nat.le_of_ble_eq_true rfl⟩) hP hD hS hA (fun τ10 H locs hN hf hq hP hD hS => ?_)
    replace hw := hw τ10 hN hf hq
    have hF : f_r [45, 46, 47, 48, 49, 50, 51, 52, 53] [67, 68, 69, 70, 71, 72, 73, 74, 75, 76, 77, 78, 79, 80, 81, 82, 83] [3, 4, 5, 6, 7] σ τ10 := f_t hF hf (by decide) (by decide) (by decide)
    have hB := hN
    refine lv_aload_n hx hb dX12_treesOf_31 rfl (lv_at hl 0 rfl) ?_
    refine gfX12_chart hx hb hts hK hP hown (hts _ tw_896) dX12_treesOf_32 ?_
    obtain ⟨Q11, hc, hw⟩ := hw
    refine wc_I (X := CX g q lb) (va_runV (As := []) (rest := []) ⟨hx, hb, hml, hown, hts⟩ (L_X1_countTrees l g q lb hlb  hN hc H.size) (cwV 0 hts (TB_V tw_1719 tw_1720 tw_1721 tw_11 co_X1_countTrees) rfl rfl rfl (by decide +kernel) ⟨Nat.le_of_ble_eq_true rfl, Nat.le_of_ble_eq_true rfl⟩) (preV (q0 := 9) (ci := 1) rfl xT_bl hP hK hNb hD rfl rfl xT_at) rfl rfl hl.1 rfl (lv_room (Nat.le_of_ble_eq_true rfl)) dX12_treesOf_35 ⟨Nat.le_of_ble_eq_true rfl, Nat.le_of_ble_eq_true rfl⟩) hP hD hS hA (fun x12 τ13 H locs r_x12 hN hf hq hP hD hS => ?_)
    replace hw := hw x12 τ13 r_x12 hN hf hq
    have hF : f_r [45, 46, 47, 48, 49, 50, 51, 52, 53] [67, 68, 69, 70, 71, 72, 73, 74, 75, 76, 77, 78, 79, 80, 81, 82, 83] [3, 4, 5, 6, 7] σ τ13 := f_t hF hf (by decide) (by decide) (by decide)
    have hB := hN
    exact xri hx hb hr hlk hP hK hD hS ⟨_, _, r_x12, rfl, hN, hF, rfl, hw⟩ (Nat.le_of_ble_eq_true rfl) (Nat.le_of_ble_eq_true rfl) dX12_treesOf_38
  ·
    replace hw := hw.2 c4
    refine lv_bipush (v := I (-2)) hx hb dX12_treesOf_13 (by decide) ?_
    exact xri hx hb hr hlk hP hK hD hS ⟨_, _, (by decide), rfl, hN, hF, rfl, hw⟩ (Nat.le_of_ble_eq_true rfl) (Nat.le_of_ble_eq_true rfl) dX12_treesOf_15
def W_X12_printTree (n1 : Int) (σ : S0) (Q : Int → S0 → Prop) : Prop :=
  ∀ (P48 : Int → S0 → Prop),
  (∀ (u3 : Int) (τ : S0), ((u3 < 0 → ∃ (Q14 : Int → S0 → Prop), W_X5_finish τ Q14 ∧ ∀ (x15 : Int) (τ16 : S0), rg x15 → n_m τ16 → f_r [65, 67] [] [] τ τ16 → Q14 x15 τ16 → (Q x15 τ16)) ∧ (0 ≤ u3 → (0 ≤ u3 ∧ u3 < 12000) ∧ (∀ (x18 : Int), rg x18 → x18 = τ.2.1 84 u3 → ((0 ≤ x18 ∧ x18 < 1500) ∧ (∀ (x20 : Int), rg x20 → x20 = τ.2.1 12 x18 → (∃ (Q21 : S0 → Prop), W_X5_putName x20 τ Q21 ∧ ∀ (τ23 : S0), n_m τ23 → f_r [63, 64] [101, 102] [] τ τ23 → Q21 τ23 → (rg (u3 + (-1)) ∧ P48 (u3 + (-1)) τ23))))))) → P48 u3 τ) →
  ∃ (Q1 : Int → S0 → Prop), W_X12_treesOf n1 σ Q1 ∧ ∀ (x2 : Int) (τ3 : S0), rg x2 → n_m τ3 → f_r [45, 46, 47, 48, 49, 50, 51, 52, 53] [67, 68, 69, 70, 71, 72, 73, 74, 75, 76, 77, 78, 79, 80, 81, 82, 83] [3, 4, 5, 6, 7] σ τ3 → Q1 x2 τ3 → ((x2 = 1 → ∃ (Q5 : S0 → Prop), W_X11_grow τ3 Q5 ∧ ∀ (τ7 : S0), n_m τ7 → f_r [54] [84, 85, 86, 88, 89, 90] [8] τ3 τ7 → Q5 τ7 → (∃ (Q8 : S0 → Prop), W_X5_begin τ7 Q8 ∧ ∀ (τ10 : S0), n_m τ10 → f_r [63, 64] [] [] τ7 τ10 → Q8 τ10 → (rg (τ10.1 54 - 1) ∧ P48 (τ10.1 54 - 1) τ10))) ∧ (¬ x2 = 1 → (¬ x2 = (-2) → Q (-1) τ3) ∧ (x2 = (-2) → Q (-2) τ3)))
set_option maxRecDepth 100000 in
set_option maxHeartbeats 4000000 in
theorem L_X12_printTree (l : Launch) (g : gG) (t1 t2 : Nat) (q : Nat → Nat) (lb : Nat) (hlb : lb < 2 ^ 31) {n1 : Int} {σ : S0} {Q : Int → S0 → Prop} (r_n1 : rg n1) (hN : n_m σ) (hw : W_X12_printTree n1 σ Q) (sz : Nat) : MetI l yX12_printTree cX12_printTree 4 (some .int) { frames := 6, cells := 0, slots := 0, locals := 152 } g [.ref (q 0), .int (I n1)] (CX g q lb σ) sz (sX t1 t2 (va_A (CX g q lb σ) sz)) (p_I (CX g q lb) [45, 46, 47, 48, 49, 50, 51, 52, 53, 54, 63, 64, 65, 67] [67, 68, 69, 70, 71, 72, 73, 74, 75, 76, 77, 78, 79, 80, 81, 82, 83, 84, 85, 86, 88, 89, 90, 101, 102] [3, 4, 5, 6, 7, 8] σ Q) 0 0 := by
  refine mkMet (Qc := fun A => QI g A (p_I (CX g q lb) [45, 46, 47, 48, 49, 50, 51, 52, 53, 54, 63, 64, 65, 67] [67, 68, 69, 70, 71, 72, 73, 74, 75, 76, 77, 78, 79, 80, 81, 82, 83, 84, 85, 86, 88, 89, 90, 101, 102] [3, 4, 5, 6, 7, 8] σ Q)) (by decide) (Nat.le_of_ble_eq_true rfl) ?_
  intro p e s m below meth c A H ls hx hb hr hml hown hts hlk hnm hsz hP hK hNb hD hA hAe hS hX hl
  rw [← hAe] at hX
  have hl : lv_has ls 4 [(0, .ref (q 0)), (1, .int (I n1))] := hl
  have hB := hN
  have hF : f_r [45, 46, 47, 48, 49, 50, 51, 52, 53, 54, 63, 64, 65, 67] [67, 68, 69, 70, 71, 72, 73, 74, 75, 76, 77, 78, 79, 80, 81, 82, 83, 84, 85, 86, 88, 89, 90, 101, 102] [3, 4, 5, 6, 7, 8] σ σ := f_0
  obtain ⟨locs, hlocs⟩ : ∃ z : List Loc, z = [] := ⟨_, rfl⟩
  rw [← hlocs] at hS ⊢
  obtain ⟨P48, hP48⟩ : ∃ P : Int → S0 → Prop, ∀ (u3 : Int) (τ : S0), (P u3 τ ↔ (rg u3 → n_m τ → f_r [45, 46, 47, 48, 49, 50, 51, 52, 53, 54, 63, 64, 65, 67] [67, 68, 69, 70, 71, 72, 73, 74, 75, 76, 77, 78, 79, 80, 81, 82, 83, 84, 85, 86, 88, 89, 90, 101, 102] [3, 4, 5, 6, 7, 8] σ τ → ∀ (H : Heap) (locs : List Loc) (ls : Array Slot), KP g (CX g q lb τ) H → va_D A (CX g q lb τ) → va_S A s.heap H locs → lv_has ls 4 [(0, .ref (q 0)), (3, .int (I u3))] → W p l e ({ frames := 6, cells := 0, slots := 0, locals := 152 }) s m [.ref (q 0), .int (I n1)].toArray below meth c H locs 0 0 (MQ below (QI g A (p_I (CX g q lb) [45, 46, 47, 48, 49, 50, 51, 52, 53, 54, 63, 64, 65, 67] [67, 68, 69, 70, 71, 72, 73, 74, 75, 76, 77, 78, 79, 80, 81, 82, 83, 84, 85, 86, 88, 89, 90, 101, 102] [3, 4, 5, 6, 7, 8] σ Q)) [.ref (q 0), .int (I n1)].toArray s 0 0 A) (F0 m 48 ls []))) := ⟨_, fun _ _ => Iff.rfl⟩
  refine (fun hw => ?_) (hw P48 ?_)
  ·
    refine lv_aload_n hx hb dX12_printTree_0 rfl (lv_at hl 0 rfl) ?_
    refine lv_iload_n hx hb dX12_printTree_1 rfl (lv_at hl 1 rfl) ?_
    obtain ⟨Q1, hc, hw⟩ := hw
    refine wc_I (X := CX g q lb) (va_runV (As := [.int (I n1)]) (rest := []) ⟨hx, hb, hml, hown, hts⟩ (L_X12_treesOf l g t1 t2 q lb hlb r_n1 hN hc H.size) (cwV 1 hts (TB_V tw_1667 tw_1669 ts_66 tw_1 co_X12_treesOf) rfl rfl rfl (by decide +kernel) ⟨Nat.le_of_ble_eq_true rfl, Nat.le_of_ble_eq_true rfl⟩) (preV (q0 := 0) (ci := 12) rfl sX_bl hP hK hNb hD rfl rfl (sX_call hX hS (d_full hD hS hA))) rfl rfl hl.1 rfl (lv_room (Nat.le_of_ble_eq_true rfl)) dX12_printTree_2 ⟨Nat.le_of_ble_eq_true rfl, Nat.le_of_ble_eq_true rfl⟩) hP hD hS hA (fun x2 τ3 H locs r_x2 hN hf hq hP hD hS => ?_)
    replace hw := hw x2 τ3 r_x2 hN hf hq
    have hF : f_r [45, 46, 47, 48, 49, 50, 51, 52, 53, 54, 63, 64, 65, 67] [67, 68, 69, 70, 71, 72, 73, 74, 75, 76, 77, 78, 79, 80, 81, 82, 83, 84, 85, 86, 88, 89, 90, 101, 102] [3, 4, 5, 6, 7, 8] σ τ3 := f_t hF hf (by decide) (by decide) (by decide)
    have hB := hN
    refine lv_istore_n (lv' := [(2, .int (I x2)), (0, .ref (q 0)), (1, .int (I n1))]) hx hb dX12_printTree_5 rfl hl (by decide) rfl (fun ls hl => ?_)
    refine lv_iload_n hx hb dX12_printTree_6 rfl (lv_at hl 0 rfl) ?_
    refine lv_iconst (v := I 1) hx hb dX12_printTree_7 rfl ?_
    refine bi_icmp_eq (tgt := 24) hx hb r_x2 (by decide) dX12_printTree_8 (by decide) (fun c4 => ?_) (fun c4 => ?_)
    ·
      replace hw := hw.1 c4
      refine lv_aload_n hx hb dX12_printTree_24 rfl (lv_at hl 1 rfl) ?_
      refine gfX12_tree hx hb hts hK hP hown (hts _ tw_897) dX12_printTree_25 ?_
      obtain ⟨Q5, hc, hw⟩ := hw
      refine wc_V (X := CX g q lb) (va_runV (As := []) (rest := []) ⟨hx, hb, hml, hown, hts⟩ (L_X11_grow l g q lb hlb  hN hc H.size) (cwV 0 hts (TB_V tw_1765 tw_1766 tw_1767 tw_12 co_X11_grow) rfl rfl rfl (by decide +kernel) ⟨Nat.le_of_ble_eq_true rfl, Nat.le_of_ble_eq_true rfl⟩) (preV (q0 := 10) (ci := 11) rfl xT_bl hP hK hNb hD rfl rfl xT_at) rfl rfl hl.1 rfl (lv_room (Nat.le_of_ble_eq_true rfl)) dX12_printTree_28 ⟨Nat.le_of_ble_eq_true rfl, Nat.le_of_ble_eq_true rfl⟩) hP hD hS hA (fun τ7 H locs hN hf hq hP hD hS => ?_)
      replace hw := hw τ7 hN hf hq
      have hF : f_r [45, 46, 47, 48, 49, 50, 51, 52, 53, 54, 63, 64, 65, 67] [67, 68, 69, 70, 71, 72, 73, 74, 75, 76, 77, 78, 79, 80, 81, 82, 83, 84, 85, 86, 88, 89, 90, 101, 102] [3, 4, 5, 6, 7, 8] σ τ7 := f_t hF hf (by decide) (by decide) (by decide)
      have hB := hN
      refine lv_aload_n hx hb dX12_printTree_31 rfl (lv_at hl 1 rfl) ?_
      refine gfX12_paper hx hb hts hK hP hown (hts _ tw_899) dX12_printTree_32 ?_
      obtain ⟨Q8, hc, hw⟩ := hw
      refine wc_V (X := CX g q lb) (va_runV (As := []) (rest := []) ⟨hx, hb, hml, hown, hts⟩ (L_X5_begin l g q lb hlb  hN hc H.size) (cwV 0 hts (TB_V tw_1532 tw_1533 tw_1534 tw_14 co_X5_begin) rfl rfl rfl (by decide +kernel) ⟨Nat.le_of_ble_eq_true rfl, Nat.le_of_ble_eq_true rfl⟩) (preV (q0 := 12) (ci := 5) rfl xT_bl hP hK hNb hD rfl rfl xT_at) rfl rfl hl.1 rfl (lv_room (Nat.le_of_ble_eq_true rfl)) dX12_printTree_35 ⟨Nat.le_of_ble_eq_true rfl, Nat.le_of_ble_eq_true rfl⟩) hP hD hS hA (fun τ10 H locs hN hf hq hP hD hS => ?_)
      replace hw := hw τ10 hN hf hq
      have hF : f_r [45, 46, 47, 48, 49, 50, 51, 52, 53, 54, 63, 64, 65, 67] [67, 68, 69, 70, 71, 72, 73, 74, 75, 76, 77, 78, 79, 80, 81, 82, 83, 84, 85, 86, 88, 89, 90, 101, 102] [3, 4, 5, 6, 7, 8] σ τ10 := f_t hF hf (by decide) (by decide) (by decide)
      have hB := hN
      refine lv_aload_n hx hb dX12_printTree_38 rfl (lv_at hl 1 rfl) ?_
      refine gfX12_tree hx hb hts hK hP hown (hts _ tw_897) dX12_printTree_39 ?_
      refine gfNX11_size hx hb hts hK hP hown (nb_use hNb tn_747) (x := τ10.1 54) rfl dX12_printTree_42 ?_
      refine lv_iconst (v := I 1) hx hb dX12_printTree_45 rfl ?_
      refine bi_isub hx hb dX12_printTree_46 ?_
      refine lv_istore_n (lv' := [(3, .int (I (τ10.1 54 - 1))), (2, .int (I x2)), (0, .ref (q 0)), (1, .int (I n1))]) hx hb dX12_printTree_47 rfl hl (by decide) rfl (fun ls hl => ?_)
      obtain ⟨c11, hw⟩ := hw
      exact (hP48 _ _).mp hw c11 hN hF H locs ls hP hD hS (lv_sub hl [2, 0] rfl)
    ·
      replace hw := hw.2 c4
      refine lv_iload_n hx hb dX12_printTree_11 rfl (lv_at hl 0 rfl) ?_
      refine lv_bipush (v := I (-2)) hx hb dX12_printTree_12 (by decide) ?_
      refine bi_icmp_ne (tgt := 22) hx hb r_x2 (by decide) dX12_printTree_14 (by decide) (fun c12 => ?_) (fun c12 => ?_)
      ·
        replace hw := hw.1 c12
        refine lv_iconst (v := I (-1)) hx hb dX12_printTree_22 rfl ?_
        exact xri hx hb hr hlk hP hK hD hS ⟨_, _, (by decide), rfl, hN, hF, rfl, hw⟩ (Nat.le_of_ble_eq_true rfl) (Nat.le_of_ble_eq_true rfl) dX12_printTree_23
      ·
        replace hw := hw.2 c12
        refine lv_bipush (v := I (-2)) hx hb dX12_printTree_17 (by decide) ?_
        refine lv_goto (tgt := 23) hx hb dX12_printTree_19 (by decide) ?_
        exact xri hx hb hr hlk hP hK hD hS ⟨_, _, (by decide), rfl, hN, hF, rfl, hw⟩ (Nat.le_of_ble_eq_true rfl) (Nat.le_of_ble_eq_true rfl) dX12_printTree_23
  ·
    intro u3 τ hw
    refine (hP48 _ _).mpr ?_
    intro r_u3 hN hF H locs ls hP hD hS hl
    have hB := hN
    refine lv_iload_n hx hb dX12_printTree_48 rfl (lv_at hl 1 rfl) ?_
    refine bi_if_lt (tgt := 82) hx hb r_u3 dX12_printTree_49 (by decide) (fun c13 => ?_) (fun c13 => ?_)
    ·
      replace hw := hw.1 c13
      refine lv_aload_n hx hb dX12_printTree_82 rfl (lv_at hl 0 rfl) ?_
      refine gfX12_paper hx hb hts hK hP hown (hts _ tw_899) dX12_printTree_83 ?_
      obtain ⟨Q14, hc, hw⟩ := hw
      refine wc_I (X := CX g q lb) (va_runV (As := []) (rest := []) ⟨hx, hb, hml, hown, hts⟩ (L_X5_finish l g q lb hlb  hN hc H.size) (cwV 0 hts (TB_V tw_1552 tw_1553 tw_1554 tw_14 co_X5_finish) rfl rfl rfl (by decide +kernel) ⟨Nat.le_of_ble_eq_true rfl, Nat.le_of_ble_eq_true rfl⟩) (preV (q0 := 12) (ci := 5) rfl xT_bl hP hK hNb hD rfl rfl xT_at) rfl rfl hl.1 rfl (lv_room (Nat.le_of_ble_eq_true rfl)) dX12_printTree_86 ⟨Nat.le_of_ble_eq_true rfl, Nat.le_of_ble_eq_true rfl⟩) hP hD hS hA (fun x15 τ16 H locs r_x15 hN hf hq hP hD hS => ?_)
      replace hw := hw x15 τ16 r_x15 hN hf hq
      have hF : f_r [45, 46, 47, 48, 49, 50, 51, 52, 53, 54, 63, 64, 65, 67] [67, 68, 69, 70, 71, 72, 73, 74, 75, 76, 77, 78, 79, 80, 81, 82, 83, 84, 85, 86, 88, 89, 90, 101, 102] [3, 4, 5, 6, 7, 8] σ τ16 := f_t hF hf (by decide) (by decide) (by decide)
      have hB := hN
      exact xri hx hb hr hlk hP hK hD hS ⟨_, _, r_x15, rfl, hN, hF, rfl, hw⟩ (Nat.le_of_ble_eq_true rfl) (Nat.le_of_ble_eq_true rfl) dX12_printTree_89
    ·
      replace hw := hw.2 c13
      refine lv_aload_n hx hb dX12_printTree_52 rfl (lv_at hl 0 rfl) ?_
      refine gfX12_paper hx hb hts hK hP hown (hts _ tw_899) dX12_printTree_53 ?_
      refine lv_aload_n hx hb dX12_printTree_56 rfl (lv_at hl 0 rfl) ?_
      refine gfX12_library hx hb hts hK hP hown (hts _ tw_889) dX12_printTree_57 ?_
      refine gfNX3_labelName hx hb hts hK hP hown (nb_use hNb tn_67) dX12_printTree_60 ?_
      refine lv_aload_n hx hb dX12_printTree_63 rfl (lv_at hl 0 rfl) ?_
      refine gfX12_tree hx hb hts hK hP hown (hts _ tw_897) dX12_printTree_64 ?_
      refine gfNX11_rule hx hb hts hK hP hown (nb_use hNb tn_742) dX12_printTree_67 ?_
      refine lv_iload_n hx hb dX12_printTree_70 rfl (lv_at hl 1 rfl) ?_
      obtain ⟨c17, hw⟩ := hw
      refine ldCX11_rule hx hb hK hP hN c17 dX12_printTree_71 (fun x18 r_x18 e_x18 => ?_)
      replace hw := hw x18 r_x18 e_x18
      obtain ⟨c19, hw⟩ := hw
      refine ldCX3_labelName hx hb hK hP hN c19 dX12_printTree_72 (fun x20 r_x20 e_x20 => ?_)
      replace hw := hw x20 r_x20 e_x20
      obtain ⟨Q21, hc, hw⟩ := hw
      refine wc_V (X := CX g q lb) (va_runV (As := [.int (I x20)]) (rest := []) ⟨hx, hb, hml, hown, hts⟩ (L_X5_putName l g q lb hlb r_x20 hN hc H.size) (cwV 1 hts (TB_V tw_1556 tw_1541 tw_1542 tw_14 co_X5_putName) rfl rfl rfl (by decide +kernel) ⟨Nat.le_of_ble_eq_true rfl, Nat.le_of_ble_eq_true rfl⟩) (preV (q0 := 12) (ci := 5) rfl xT_bl hP hK hNb hD rfl rfl xT_at) rfl rfl hl.1 rfl (lv_room (Nat.le_of_ble_eq_true rfl)) dX12_printTree_73 ⟨Nat.le_of_ble_eq_true rfl, Nat.le_of_ble_eq_true rfl⟩) hP hD hS hA (fun τ23 H locs hN hf hq hP hD hS => ?_)
      replace hw := hw τ23 hN hf hq
      have hF : f_r [45, 46, 47, 48, 49, 50, 51, 52, 53, 54, 63, 64, 65, 67] [67, 68, 69, 70, 71, 72, 73, 74, 75, 76, 77, 78, 79, 80, 81, 82, 83, 84, 85, 86, 88, 89, 90, 101, 102] [3, 4, 5, 6, 7, 8] σ τ23 := f_t hF hf (by decide) (by decide) (by decide)
      have hB := hN
      refine lv_iinc (v := I (u3 + (-1))) (lv' := [(3, .int (I (u3 + (-1)))), (0, .ref (q 0))]) hx hb dX12_printTree_76 hl (k := 1) rfl (I_add _ _) (by decide) rfl (fun ls hl => ?_)
      refine lv_goto (tgt := 48) hx hb dX12_printTree_79 (by decide) ?_
      obtain ⟨c24, hw⟩ := hw
      exact (hP48 _ _).mp hw c24 hN hF H locs ls hP hD hS (lv_sub hl [1, 0] rfl)
def W_X12_printSymbol (n1 : Int) (σ : S0) (Q : Int → S0 → Prop) : Prop :=
  ∃ (Q1 : Int → Prop), W_X3_isSymbol n1 σ Q1 ∧ ∀ (x2 : Int), rg x2 → Q1 x2 → ((¬ x2 = 0 → ∃ (Q5 : S0 → Prop), W_X5_begin σ Q5 ∧ ∀ (τ7 : S0), n_m τ7 → f_r [63, 64] [] [] σ τ7 → Q5 τ7 → (∃ (Q8 : S0 → Prop), W_X5_putSymbol n1 τ7 Q8 ∧ ∀ (τ10 : S0), n_m τ10 → f_r [63, 64] [101, 102] [] τ7 τ10 → Q8 τ10 → (∃ (Q11 : Int → S0 → Prop), W_X5_finish τ10 Q11 ∧ ∀ (x12 : Int) (τ13 : S0), rg x12 → n_m τ13 → f_r [65, 67] [] [] τ10 τ13 → Q11 x12 τ13 → (Q x12 τ13)))) ∧ (x2 = 0 → Q (-1) σ))
set_option maxRecDepth 100000 in
set_option maxHeartbeats 4000000 in
theorem L_X12_printSymbol (l : Launch) (g : gG) (q : Nat → Nat) (lb : Nat) (hlb : lb < 2 ^ 31) {n1 : Int} {σ : S0} {Q : Int → S0 → Prop} (r_n1 : rg n1) (hN : n_m σ) (hw : W_X12_printSymbol n1 σ Q) (sz : Nat) : MetI l yX12_printSymbol cX12_printSymbol 2 (some .int) { frames := 4, cells := 0, slots := 0, locals := 84 } g [.ref (q 0), .int (I n1)] (CX g q lb σ) sz xT (p_I (CX g q lb) [63, 64, 65, 67] [101, 102] [] σ Q) 0 0 := by
  refine mkMet (Qc := fun A => QI g A (p_I (CX g q lb) [63, 64, 65, 67] [101, 102] [] σ Q)) (by decide) (Nat.le_of_ble_eq_true rfl) ?_
  intro p e s m below meth c A H ls hx hb hr hml hown hts hlk hnm hsz hP hK hNb hD hA hAe hS hX hl
  have hl : lv_has ls 2 [(0, .ref (q 0)), (1, .int (I n1))] := hl
  have hB := hN
  have hF : f_r [63, 64, 65, 67] [101, 102] [] σ σ := f_0
  obtain ⟨locs, hlocs⟩ : ∃ z : List Loc, z = [] := ⟨_, rfl⟩
  rw [← hlocs] at hS ⊢
  refine lv_aload_n hx hb dX12_printSymbol_0 rfl (lv_at hl 0 rfl) ?_
  refine gfX12_library hx hb hts hK hP hown (hts _ tw_889) dX12_printSymbol_1 ?_
  refine lv_iload_n hx hb dX12_printSymbol_4 rfl (lv_at hl 1 rfl) ?_
  obtain ⟨Q1, hc, hw⟩ := hw
  refine wc_i (X := CX g q lb) (va_runV (As := [.int (I n1)]) (rest := []) ⟨hx, hb, hml, hown, hts⟩ (L_X3_isSymbol l g q lb hlb r_n1 hN hc H.size) (cwV 1 hts (TB_V tw_1430 tw_1431 tw_1432 tw_2 co_X3_isSymbol) rfl rfl rfl (by decide +kernel) ⟨Nat.le_of_ble_eq_true rfl, Nat.le_of_ble_eq_true rfl⟩) (preV (q0 := 1) (ci := 3) rfl xT_bl hP hK hNb hD rfl rfl xT_at) rfl rfl hl.1 rfl (lv_room (Nat.le_of_ble_eq_true rfl)) dX12_printSymbol_5 ⟨Nat.le_of_ble_eq_true rfl, Nat.le_of_ble_eq_true rfl⟩) hP hD hS hA (fun x2 H locs r_x2 hq hP hD hS => ?_)
  replace hw := hw x2 r_x2 hq
  refine bi_if_ne (tgt := 13) hx hb r_x2 dX12_printSymbol_8 (by decide) (fun c4 => ?_) (fun c4 => ?_)
  ·
    replace hw := hw.1 c4
    refine lv_aload_n hx hb dX12_printSymbol_13 rfl (lv_at hl 0 rfl) ?_
    refine gfX12_paper hx hb hts hK hP hown (hts _ tw_899) dX12_printSymbol_14 ?_
    obtain ⟨Q5, hc, hw⟩ := hw
    refine wc_V (X := CX g q lb) (va_runV (As := []) (rest := []) ⟨hx, hb, hml, hown, hts⟩ (L_X5_begin l g q lb hlb  hN hc H.size) (cwV 0 hts (TB_V tw_1532 tw_1533 tw_1534 tw_14 co_X5_begin) rfl rfl rfl (by decide +kernel) ⟨Nat.le_of_ble_eq_true rfl, Nat.le_of_ble_eq_true rfl⟩) (preV (q0 := 12) (ci := 5) rfl xT_bl hP hK hNb hD rfl rfl xT_at) rfl rfl hl.1 rfl (lv_room (Nat.le_of_ble_eq_true rfl)) dX12_printSymbol_17 ⟨Nat.le_of_ble_eq_true rfl, Nat.le_of_ble_eq_true rfl⟩) hP hD hS hA (fun τ7 H locs hN hf hq hP hD hS => ?_)
    replace hw := hw τ7 hN hf hq
    have hF : f_r [63, 64, 65, 67] [101, 102] [] σ τ7 := f_t hF hf (by decide) (by decide) (by decide)
    have hB := hN
    refine lv_aload_n hx hb dX12_printSymbol_20 rfl (lv_at hl 0 rfl) ?_
    refine gfX12_paper hx hb hts hK hP hown (hts _ tw_899) dX12_printSymbol_21 ?_
    refine lv_iload_n hx hb dX12_printSymbol_24 rfl (lv_at hl 1 rfl) ?_
    obtain ⟨Q8, hc, hw⟩ := hw
    refine wc_V (X := CX g q lb) (va_runV (As := [.int (I n1)]) (rest := []) ⟨hx, hb, hml, hown, hts⟩ (L_X5_putSymbol l g q lb hlb r_n1 hN hc H.size) (cwV 1 hts (TB_V tw_1536 tw_1537 tw_1538 tw_14 co_X5_putSymbol) rfl rfl rfl (by decide +kernel) ⟨Nat.le_of_ble_eq_true rfl, Nat.le_of_ble_eq_true rfl⟩) (preV (q0 := 12) (ci := 5) rfl xT_bl hP hK hNb hD rfl rfl xT_at) rfl rfl hl.1 rfl (lv_room (Nat.le_of_ble_eq_true rfl)) dX12_printSymbol_25 ⟨Nat.le_of_ble_eq_true rfl, Nat.le_of_ble_eq_true rfl⟩) hP hD hS hA (fun τ10 H locs hN hf hq hP hD hS => ?_)
    replace hw := hw τ10 hN hf hq
    have hF : f_r [63, 64, 65, 67] [101, 102] [] σ τ10 := f_t hF hf (by decide) (by decide) (by decide)
    have hB := hN
    refine lv_aload_n hx hb dX12_printSymbol_28 rfl (lv_at hl 0 rfl) ?_
    refine gfX12_paper hx hb hts hK hP hown (hts _ tw_899) dX12_printSymbol_29 ?_
    obtain ⟨Q11, hc, hw⟩ := hw
    refine wc_I (X := CX g q lb) (va_runV (As := []) (rest := []) ⟨hx, hb, hml, hown, hts⟩ (L_X5_finish l g q lb hlb  hN hc H.size) (cwV 0 hts (TB_V tw_1552 tw_1553 tw_1554 tw_14 co_X5_finish) rfl rfl rfl (by decide +kernel) ⟨Nat.le_of_ble_eq_true rfl, Nat.le_of_ble_eq_true rfl⟩) (preV (q0 := 12) (ci := 5) rfl xT_bl hP hK hNb hD rfl rfl xT_at) rfl rfl hl.1 rfl (lv_room (Nat.le_of_ble_eq_true rfl)) dX12_printSymbol_32 ⟨Nat.le_of_ble_eq_true rfl, Nat.le_of_ble_eq_true rfl⟩) hP hD hS hA (fun x12 τ13 H locs r_x12 hN hf hq hP hD hS => ?_)
    replace hw := hw x12 τ13 r_x12 hN hf hq
    have hF : f_r [63, 64, 65, 67] [101, 102] [] σ τ13 := f_t hF hf (by decide) (by decide) (by decide)
    have hB := hN
    exact xri hx hb hr hlk hP hK hD hS ⟨_, _, r_x12, rfl, hN, hF, rfl, hw⟩ (Nat.le_of_ble_eq_true rfl) (Nat.le_of_ble_eq_true rfl) dX12_printSymbol_35
  ·
    replace hw := hw.2 c4
    refine lv_iconst (v := I (-1)) hx hb dX12_printSymbol_11 rfl ?_
    exact xri hx hb hr hlk hP hK hD hS ⟨_, _, (by decide), rfl, hN, hF, rfl, hw⟩ (Nat.le_of_ble_eq_true rfl) (Nat.le_of_ble_eq_true rfl) dX12_printSymbol_12
def W_X12_character (n1 : Int) (σ : S0) (Q : Int → Prop) : Prop :=
  ∃ (Q1 : Int → Prop), W_X5_shown n1 σ Q1 ∧ ∀ (x2 : Int), rg x2 → Q1 x2 → (Q x2)
set_option maxRecDepth 100000 in
set_option maxHeartbeats 4000000 in
theorem L_X12_character (l : Launch) (g : gG) (q : Nat → Nat) (lb : Nat) (hlb : lb < 2 ^ 31) {n1 : Int} {σ : S0} {Q : Int → Prop} (r_n1 : rg n1) (hN : n_m σ) (hw : W_X12_character n1 σ Q) (sz : Nat) : MetI l yX12_character cX12_character 2 (some .int) { frames := 1, cells := 0, slots := 0, locals := 21 } g [.ref (q 0), .int (I n1)] (CX g q lb σ) sz xT (p_i (CX g q lb) σ Q) 0 0 := by
  refine mkMet (Qc := fun A => QI g A (p_i (CX g q lb) σ Q)) (by decide) (Nat.le_of_ble_eq_true rfl) ?_
  intro p e s m below meth c A H ls hx hb hr hml hown hts hlk hnm hsz hP hK hNb hD hA hAe hS hX hl
  have hl : lv_has ls 2 [(0, .ref (q 0)), (1, .int (I n1))] := hl
  have hB := hN
  obtain ⟨locs, hlocs⟩ : ∃ z : List Loc, z = [] := ⟨_, rfl⟩
  rw [← hlocs] at hS ⊢
  refine lv_aload_n hx hb dX12_character_0 rfl (lv_at hl 0 rfl) ?_
  refine gfX12_paper hx hb hts hK hP hown (hts _ tw_899) dX12_character_1 ?_
  refine lv_iload_n hx hb dX12_character_4 rfl (lv_at hl 1 rfl) ?_
  obtain ⟨Q1, hc, hw⟩ := hw
  refine wc_i (X := CX g q lb) (va_runV (As := [.int (I n1)]) (rest := []) ⟨hx, hb, hml, hown, hts⟩ (L_X5_shown l g q lb hlb r_n1 hN hc H.size) (cwV 1 hts (TB_V tw_1892 tw_1893 tw_1894 tw_14 co_X5_shown) rfl rfl rfl (by decide +kernel) ⟨Nat.le_of_ble_eq_true rfl, Nat.le_of_ble_eq_true rfl⟩) (preV (q0 := 12) (ci := 5) rfl xT_bl hP hK hNb hD rfl rfl xT_at) rfl rfl hl.1 rfl (lv_room (Nat.le_of_ble_eq_true rfl)) dX12_character_5 ⟨Nat.le_of_ble_eq_true rfl, Nat.le_of_ble_eq_true rfl⟩) hP hD hS hA (fun x2 H locs r_x2 hq hP hD hS => ?_)
  replace hw := hw x2 r_x2 hq
  exact xri hx hb hr hlk hP hK hD hS ⟨_, r_x2, rfl, rfl, hw⟩ (Nat.le_of_ble_eq_true rfl) (Nat.le_of_ble_eq_true rfl) dX12_character_8
def W_X12_trees (n1 : Int) (σ : S0) (Q : Int → S0 → Prop) : Prop :=
  ∃ (Q1 : Int → Prop), W_X3_isStatement n1 σ Q1 ∧ ∀ (x2 : Int), rg x2 → Q1 x2 → ((x2 = 0 → Q (-1) σ) ∧ (¬ x2 = 0 → ∃ (Q5 : Int → S0 → Prop), W_X12_treesOf n1 σ Q5 ∧ ∀ (x6 : Int) (τ7 : S0), rg x6 → n_m τ7 → f_r [45, 46, 47, 48, 49, 50, 51, 52, 53] [67, 68, 69, 70, 71, 72, 73, 74, 75, 76, 77, 78, 79, 80, 81, 82, 83] [3, 4, 5, 6, 7] σ τ7 → Q5 x6 τ7 → (Q x6 τ7)))
set_option maxRecDepth 100000 in
set_option maxHeartbeats 4000000 in
theorem L_X12_trees (l : Launch) (g : gG) (t1 t2 : Nat) (q : Nat → Nat) (lb : Nat) (hlb : lb < 2 ^ 31) {n1 : Int} {σ : S0} {Q : Int → S0 → Prop} (r_n1 : rg n1) (hN : n_m σ) (hw : W_X12_trees n1 σ Q) (sz : Nat) : MetI l yX12_trees cX12_trees 2 (some .int) { frames := 6, cells := 0, slots := 0, locals := 152 } g [.ref (q 0), .int (I n1)] (CX g q lb σ) sz (sX t1 t2 (va_A (CX g q lb σ) sz)) (p_I (CX g q lb) [45, 46, 47, 48, 49, 50, 51, 52, 53] [67, 68, 69, 70, 71, 72, 73, 74, 75, 76, 77, 78, 79, 80, 81, 82, 83] [3, 4, 5, 6, 7] σ Q) 0 0 := by
  refine mkMet (Qc := fun A => QI g A (p_I (CX g q lb) [45, 46, 47, 48, 49, 50, 51, 52, 53] [67, 68, 69, 70, 71, 72, 73, 74, 75, 76, 77, 78, 79, 80, 81, 82, 83] [3, 4, 5, 6, 7] σ Q)) (by decide) (Nat.le_of_ble_eq_true rfl) ?_
  intro p e s m below meth c A H ls hx hb hr hml hown hts hlk hnm hsz hP hK hNb hD hA hAe hS hX hl
  rw [← hAe] at hX
  have hl : lv_has ls 2 [(0, .ref (q 0)), (1, .int (I n1))] := hl
  have hB := hN
  have hF : f_r [45, 46, 47, 48, 49, 50, 51, 52, 53] [67, 68, 69, 70, 71, 72, 73, 74, 75, 76, 77, 78, 79, 80, 81, 82, 83] [3, 4, 5, 6, 7] σ σ := f_0
  obtain ⟨locs, hlocs⟩ : ∃ z : List Loc, z = [] := ⟨_, rfl⟩
  rw [← hlocs] at hS ⊢
  refine lv_aload_n hx hb dX12_trees_0 rfl (lv_at hl 0 rfl) ?_
  refine gfX12_library hx hb hts hK hP hown (hts _ tw_889) dX12_trees_1 ?_
  refine lv_iload_n hx hb dX12_trees_4 rfl (lv_at hl 1 rfl) ?_
  obtain ⟨Q1, hc, hw⟩ := hw
  refine wc_i (X := CX g q lb) (va_runV (As := [.int (I n1)]) (rest := []) ⟨hx, hb, hml, hown, hts⟩ (L_X3_isStatement l g q lb hlb r_n1 hN hc H.size) (cwV 1 hts (TB_V tw_1413 tw_1414 tw_1415 tw_2 co_X3_isStatement) rfl rfl rfl (by decide +kernel) ⟨Nat.le_of_ble_eq_true rfl, Nat.le_of_ble_eq_true rfl⟩) (preV (q0 := 1) (ci := 3) rfl xT_bl hP hK hNb hD rfl rfl xT_at) rfl rfl hl.1 rfl (lv_room (Nat.le_of_ble_eq_true rfl)) dX12_trees_5 ⟨Nat.le_of_ble_eq_true rfl, Nat.le_of_ble_eq_true rfl⟩) hP hD hS hA (fun x2 H locs r_x2 hq hP hD hS => ?_)
  replace hw := hw x2 r_x2 hq
  refine bi_if_eq (tgt := 19) hx hb r_x2 dX12_trees_8 (by decide) (fun c4 => ?_) (fun c4 => ?_)
  ·
    replace hw := hw.1 c4
    refine lv_iconst (v := I (-1)) hx hb dX12_trees_19 rfl ?_
    exact xri hx hb hr hlk hP hK hD hS ⟨_, _, (by decide), rfl, hN, hF, rfl, hw⟩ (Nat.le_of_ble_eq_true rfl) (Nat.le_of_ble_eq_true rfl) dX12_trees_20
  ·
    replace hw := hw.2 c4
    refine lv_aload_n hx hb dX12_trees_11 rfl (lv_at hl 0 rfl) ?_
    refine lv_iload_n hx hb dX12_trees_12 rfl (lv_at hl 1 rfl) ?_
    obtain ⟨Q5, hc, hw⟩ := hw
    refine wc_I (X := CX g q lb) (va_runV (As := [.int (I n1)]) (rest := []) ⟨hx, hb, hml, hown, hts⟩ (L_X12_treesOf l g t1 t2 q lb hlb r_n1 hN hc H.size) (cwV 1 hts (TB_V tw_1667 tw_1669 ts_66 tw_1 co_X12_treesOf) rfl rfl rfl (by decide +kernel) ⟨Nat.le_of_ble_eq_true rfl, Nat.le_of_ble_eq_true rfl⟩) (preV (q0 := 0) (ci := 12) rfl sX_bl hP hK hNb hD rfl rfl (sX_call hX hS (d_full hD hS hA))) rfl rfl hl.1 rfl (lv_room (Nat.le_of_ble_eq_true rfl)) dX12_trees_13 ⟨Nat.le_of_ble_eq_true rfl, Nat.le_of_ble_eq_true rfl⟩) hP hD hS hA (fun x6 τ7 H locs r_x6 hN hf hq hP hD hS => ?_)
    replace hw := hw x6 τ7 r_x6 hN hf hq
    have hF : f_r [45, 46, 47, 48, 49, 50, 51, 52, 53] [67, 68, 69, 70, 71, 72, 73, 74, 75, 76, 77, 78, 79, 80, 81, 82, 83] [3, 4, 5, 6, 7] σ τ7 := f_t hF hf (by decide) (by decide) (by decide)
    have hB := hN
    refine lv_goto (tgt := 20) hx hb dX12_trees_16 (by decide) ?_
    exact xri hx hb hr hlk hP hK hD hS ⟨_, _, r_x6, rfl, hN, hF, rfl, hw⟩ (Nat.le_of_ble_eq_true rfl) (Nat.le_of_ble_eq_true rfl) dX12_trees_20
def W_X12_equate (n1 : Int) (σ : S0) (Q : Int → S0 → Prop) : Prop :=
  ∃ (Q1 : S0 → Prop), W_X8_learn σ Q1 ∧ ∀ (τ3 : S0), n_m τ3 → f_r [45, 46, 47, 48, 49] [67, 68, 69, 70, 71, 72, 73, 74, 75, 76] [] σ τ3 → Q1 τ3 → (∃ (Q4 : Int → Prop), W_X3_isStatement n1 τ3 Q4 ∧ ∀ (x5 : Int), rg x5 → Q4 x5 → ((x5 = 0 → Q (-1) τ3) ∧ (¬ x5 = 0 → ∃ (Q8 : Int → Prop), W_X8_isRule n1 τ3 Q8 ∧ ∀ (x9 : Int), rg x9 → Q8 x9 → ((x9 = 0 → Q (-1) τ3) ∧ (¬ x9 = 0 → (0 ≤ n1 ∧ n1 < 1500) ∧ (∀ (x13 : Int), rg x13 → x13 = τ3.2.1 28 n1 → ((x13 = 2 → ∃ (Q15 : Int → S0 → Prop), W_X2_turn n1 τ3 Q15 ∧ ∀ (x16 : Int) (τ17 : S0), rg x16 → n_m τ17 → f_r [58, 59, 60] [95, 96] [] τ3 τ17 → Q15 x16 τ17 → (Q x16 τ17)) ∧ (¬ x13 = 2 → Q (-1) τ3))))))))
set_option maxRecDepth 100000 in
set_option maxHeartbeats 4000000 in
theorem L_X12_equate (l : Launch) (g : gG) (t1 t2 : Nat) (q : Nat → Nat) (lb : Nat) (hlb : lb < 2 ^ 31) {n1 : Int} {σ : S0} {Q : Int → S0 → Prop} (r_n1 : rg n1) (hN : n_m σ) (hw : W_X12_equate n1 σ Q) (sz : Nat) : MetI l yX12_equate cX12_equate 2 (some .int) { frames := 5, cells := 0, slots := 0, locals := 117 } g [.ref (q 0), .int (I n1)] (CX g q lb σ) sz (sX t1 t2 (va_A (CX g q lb σ) sz)) (p_I (CX g q lb) [45, 46, 47, 48, 49, 58, 59, 60] [67, 68, 69, 70, 71, 72, 73, 74, 75, 76, 95, 96] [] σ Q) 0 0 := by
  refine mkMet (Qc := fun A => QI g A (p_I (CX g q lb) [45, 46, 47, 48, 49, 58, 59, 60] [67, 68, 69, 70, 71, 72, 73, 74, 75, 76, 95, 96] [] σ Q)) (by decide) (Nat.le_of_ble_eq_true rfl) ?_
  intro p e s m below meth c A H ls hx hb hr hml hown hts hlk hnm hsz hP hK hNb hD hA hAe hS hX hl
  rw [← hAe] at hX
  have hl : lv_has ls 2 [(0, .ref (q 0)), (1, .int (I n1))] := hl
  have hB := hN
  have hF : f_r [45, 46, 47, 48, 49, 58, 59, 60] [67, 68, 69, 70, 71, 72, 73, 74, 75, 76, 95, 96] [] σ σ := f_0
  obtain ⟨locs, hlocs⟩ : ∃ z : List Loc, z = [] := ⟨_, rfl⟩
  rw [← hlocs] at hS ⊢
  refine lv_aload_n hx hb dX12_equate_0 rfl (lv_at hl 0 rfl) ?_
  refine gfX12_rules hx hb hts hK hP hown (hts _ tw_895) dX12_equate_1 ?_
  obtain ⟨Q1, hc, hw⟩ := hw
  refine wc_V (X := CX g q lb) (va_runV (As := []) (rest := []) ⟨hx, hb, hml, hown, hts⟩ (L_X8_learn l g t1 t2 q lb hlb  hN hc H.size) (cwV 0 hts (TB_V tw_1671 tw_1672 tw_1673 tw_10 co_X8_learn) rfl rfl rfl (by decide +kernel) ⟨Nat.le_of_ble_eq_true rfl, Nat.le_of_ble_eq_true rfl⟩) (preV (q0 := 8) (ci := 8) rfl sX_bl hP hK hNb hD rfl rfl (sX_call hX hS (d_full hD hS hA))) rfl rfl hl.1 rfl (lv_room (Nat.le_of_ble_eq_true rfl)) dX12_equate_4 ⟨Nat.le_of_ble_eq_true rfl, Nat.le_of_ble_eq_true rfl⟩) hP hD hS hA (fun τ3 H locs hN hf hq hP hD hS => ?_)
  replace hw := hw τ3 hN hf hq
  have hF : f_r [45, 46, 47, 48, 49, 58, 59, 60] [67, 68, 69, 70, 71, 72, 73, 74, 75, 76, 95, 96] [] σ τ3 := f_t hF hf (by decide) (by decide) (by decide)
  have hB := hN
  refine lv_aload_n hx hb dX12_equate_7 rfl (lv_at hl 0 rfl) ?_
  refine gfX12_library hx hb hts hK hP hown (hts _ tw_889) dX12_equate_8 ?_
  refine lv_iload_n hx hb dX12_equate_11 rfl (lv_at hl 1 rfl) ?_
  obtain ⟨Q4, hc, hw⟩ := hw
  refine wc_i (X := CX g q lb) (va_runV (As := [.int (I n1)]) (rest := []) ⟨hx, hb, hml, hown, hts⟩ (L_X3_isStatement l g q lb hlb r_n1 hN hc H.size) (cwV 1 hts (TB_V tw_1413 tw_1414 tw_1415 tw_2 co_X3_isStatement) rfl rfl rfl (by decide +kernel) ⟨Nat.le_of_ble_eq_true rfl, Nat.le_of_ble_eq_true rfl⟩) (preV (q0 := 1) (ci := 3) rfl xT_bl hP hK hNb hD rfl rfl xT_at) rfl rfl hl.1 rfl (lv_room (Nat.le_of_ble_eq_true rfl)) dX12_equate_12 ⟨Nat.le_of_ble_eq_true rfl, Nat.le_of_ble_eq_true rfl⟩) hP hD hS hA (fun x5 H locs r_x5 hq hP hD hS => ?_)
  replace hw := hw x5 r_x5 hq
  refine bi_if_eq (tgt := 42) hx hb r_x5 dX12_equate_15 (by decide) (fun c7 => ?_) (fun c7 => ?_)
  ·
    replace hw := hw.1 c7
    refine lv_iconst (v := I (-1)) hx hb dX12_equate_42 rfl ?_
    exact xri hx hb hr hlk hP hK hD hS ⟨_, _, (by decide), rfl, hN, hF, rfl, hw⟩ (Nat.le_of_ble_eq_true rfl) (Nat.le_of_ble_eq_true rfl) dX12_equate_43
  ·
    replace hw := hw.2 c7
    refine lv_aload_n hx hb dX12_equate_18 rfl (lv_at hl 0 rfl) ?_
    refine gfX12_rules hx hb hts hK hP hown (hts _ tw_895) dX12_equate_19 ?_
    refine lv_iload_n hx hb dX12_equate_22 rfl (lv_at hl 1 rfl) ?_
    obtain ⟨Q8, hc, hw⟩ := hw
    refine wc_i (X := CX g q lb) (va_runV (As := [.int (I n1)]) (rest := []) ⟨hx, hb, hml, hown, hts⟩ (L_X8_isRule l g q lb hlb r_n1 hN hc H.size) (cwV 1 hts (TB_V tw_1904 tw_1686 tw_1687 tw_10 co_X8_isRule) rfl rfl rfl (by decide +kernel) ⟨Nat.le_of_ble_eq_true rfl, Nat.le_of_ble_eq_true rfl⟩) (preV (q0 := 8) (ci := 8) rfl xT_bl hP hK hNb hD rfl rfl xT_at) rfl rfl hl.1 rfl (lv_room (Nat.le_of_ble_eq_true rfl)) dX12_equate_23 ⟨Nat.le_of_ble_eq_true rfl, Nat.le_of_ble_eq_true rfl⟩) hP hD hS hA (fun x9 H locs r_x9 hq hP hD hS => ?_)
    replace hw := hw x9 r_x9 hq
    refine bi_if_eq (tgt := 42) hx hb r_x9 dX12_equate_26 (by decide) (fun c11 => ?_) (fun c11 => ?_)
    ·
      replace hw := hw.1 c11
      refine lv_iconst (v := I (-1)) hx hb dX12_equate_42 rfl ?_
      exact xri hx hb hr hlk hP hK hD hS ⟨_, _, (by decide), rfl, hN, hF, rfl, hw⟩ (Nat.le_of_ble_eq_true rfl) (Nat.le_of_ble_eq_true rfl) dX12_equate_43
    ·
      replace hw := hw.2 c11
      refine lv_aload_n hx hb dX12_equate_29 rfl (lv_at hl 0 rfl) ?_
      refine gfX12_assertions hx hb hts hK hP hown (hts _ tw_891) dX12_equate_30 ?_
      refine gfNX0_frameSize hx hb hts hK hP hown (nb_use hNb tn_247) dX12_equate_33 ?_
      refine lv_iload_n hx hb dX12_equate_36 rfl (lv_at hl 1 rfl) ?_
      obtain ⟨c12, hw⟩ := hw
      refine ldCX0_frameSize hx hb hK hP hN c12 dX12_equate_37 (fun x13 r_x13 e_x13 => ?_)
      replace hw := hw x13 r_x13 e_x13
      refine lv_iconst (v := I 2) hx hb dX12_equate_38 rfl ?_
      refine bi_icmp_eq (tgt := 44) hx hb r_x13 (by decide) dX12_equate_39 (by decide) (fun c14 => ?_) (fun c14 => ?_)
      ·
        replace hw := hw.1 c14
        refine lv_aload_n hx hb dX12_equate_44 rfl (lv_at hl 0 rfl) ?_
        refine gfX12_definitions hx hb hts hK hP hown (hts _ tw_898) dX12_equate_45 ?_
        refine lv_iload_n hx hb dX12_equate_48 rfl (lv_at hl 1 rfl) ?_
        obtain ⟨Q15, hc, hw⟩ := hw
        refine wc_I (X := CX g q lb) (va_runV (As := [.int (I n1)]) (rest := []) ⟨hx, hb, hml, hown, hts⟩ (L_X2_turn l g q lb hlb r_n1 hN hc H.size) (cwV 1 hts (TB_V tw_1905 tw_1906 tw_1907 tw_13 co_X2_turn) rfl rfl rfl (by decide +kernel) ⟨Nat.le_of_ble_eq_true rfl, Nat.le_of_ble_eq_true rfl⟩) (preV (q0 := 11) (ci := 2) rfl xT_bl hP hK hNb hD rfl rfl xT_at) rfl rfl hl.1 rfl (lv_room (Nat.le_of_ble_eq_true rfl)) dX12_equate_49 ⟨Nat.le_of_ble_eq_true rfl, Nat.le_of_ble_eq_true rfl⟩) hP hD hS hA (fun x16 τ17 H locs r_x16 hN hf hq hP hD hS => ?_)
        replace hw := hw x16 τ17 r_x16 hN hf hq
        have hF : f_r [45, 46, 47, 48, 49, 58, 59, 60] [67, 68, 69, 70, 71, 72, 73, 74, 75, 76, 95, 96] [] σ τ17 := f_t hF hf (by decide) (by decide) (by decide)
        have hB := hN
        exact xri hx hb hr hlk hP hK hD hS ⟨_, _, r_x16, rfl, hN, hF, rfl, hw⟩ (Nat.le_of_ble_eq_true rfl) (Nat.le_of_ble_eq_true rfl) dX12_equate_52
      ·
        replace hw := hw.2 c14
        refine lv_iconst (v := I (-1)) hx hb dX12_equate_42 rfl ?_
        exact xri hx hb hr hlk hP hK hD hS ⟨_, _, (by decide), rfl, hN, hF, rfl, hw⟩ (Nat.le_of_ble_eq_true rfl) (Nat.le_of_ble_eq_true rfl) dX12_equate_43
def W_X12_definition (n1 : Int) (σ : S0) (Q : Int → S0 → Prop) : Prop :=
  ∃ (Q1 : Int → Prop), W_X3_isStatement n1 σ Q1 ∧ ∀ (x2 : Int), rg x2 → Q1 x2 → ((x2 = 0 → Q (-1) σ) ∧ (¬ x2 = 0 → (0 ≤ n1 ∧ n1 < 1500) ∧ (∀ (x6 : Int), rg x6 → x6 = σ.2.1 13 n1 → ((x6 = 2 → ∃ (Q8 : Int → Prop), W_X3_lengthOf n1 σ Q8 ∧ ∀ (x9 : Int), rg x9 → Q8 x9 → ((x9 ≤ 60 → ∃ (Q12 : S0 → Prop), W_X8_learn σ Q12 ∧ ∀ (τ14 : S0), n_m τ14 → f_r [45, 46, 47, 48, 49] [67, 68, 69, 70, 71, 72, 73, 74, 75, 76] [] σ τ14 → Q12 τ14 → (rg (n1 + 1) ∧ ∃ (Q16 : S0 → Prop), W_X2_study (n1 + 1) τ14 Q16 ∧ ∀ (τ18 : S0), n_m τ18 → f_r [50, 51, 52, 53, 54, 57, 61, 62] [77, 78, 79, 80, 81, 82, 83, 84, 85, 86, 88, 89, 90, 92, 93, 94, 100] [3, 4, 5, 6, 7, 8] τ14 τ18 → Q16 τ18 → (∃ (Q19 : Int → Prop), W_X2_definedRule n1 τ18 Q19 ∧ ∀ (x20 : Int), rg x20 → Q19 x20 → (Q x20 τ18)))) ∧ (60 < x9 → Q (-2) σ))) ∧ (¬ x6 = 2 → Q (-1) σ)))))
set_option maxRecDepth 100000 in
set_option maxHeartbeats 4000000 in
theorem L_X12_definition (l : Launch) (g : gG) (t1 t2 : Nat) (q : Nat → Nat) (lb : Nat) (hlb : lb < 2 ^ 31) {n1 : Int} {σ : S0} {Q : Int → S0 → Prop} (r_n1 : rg n1) (hN : n_m σ) (hw : W_X12_definition n1 σ Q) (sz : Nat) : MetI l yX12_definition cX12_definition 2 (some .int) { frames := 6, cells := 0, slots := 0, locals := 153 } g [.ref (q 0), .int (I n1)] (CX g q lb σ) sz (sX t1 t2 (va_A (CX g q lb σ) sz)) (p_I (CX g q lb) [45, 46, 47, 48, 49, 50, 51, 52, 53, 54, 57, 61, 62] [67, 68, 69, 70, 71, 72, 73, 74, 75, 76, 77, 78, 79, 80, 81, 82, 83, 84, 85, 86, 88, 89, 90, 92, 93, 94, 100] [3, 4, 5, 6, 7, 8] σ Q) 0 0 := by
  refine mkMet (Qc := fun A => QI g A (p_I (CX g q lb) [45, 46, 47, 48, 49, 50, 51, 52, 53, 54, 57, 61, 62] [67, 68, 69, 70, 71, 72, 73, 74, 75, 76, 77, 78, 79, 80, 81, 82, 83, 84, 85, 86, 88, 89, 90, 92, 93, 94, 100] [3, 4, 5, 6, 7, 8] σ Q)) (by decide) (Nat.le_of_ble_eq_true rfl) ?_
  intro p e s m below meth c A H ls hx hb hr hml hown hts hlk hnm hsz hP hK hNb hD hA hAe hS hX hl
  rw [← hAe] at hX
  have hl : lv_has ls 2 [(0, .ref (q 0)), (1, .int (I n1))] := hl
  have hB := hN
  have hF : f_r [45, 46, 47, 48, 49, 50, 51, 52, 53, 54, 57, 61, 62] [67, 68, 69, 70, 71, 72, 73, 74, 75, 76, 77, 78, 79, 80, 81, 82, 83, 84, 85, 86, 88, 89, 90, 92, 93, 94, 100] [3, 4, 5, 6, 7, 8] σ σ := f_0
  obtain ⟨locs, hlocs⟩ : ∃ z : List Loc, z = [] := ⟨_, rfl⟩
  rw [← hlocs] at hS ⊢
  refine lv_aload_n hx hb dX12_definition_0 rfl (lv_at hl 0 rfl) ?_
  refine gfX12_library hx hb hts hK hP hown (hts _ tw_889) dX12_definition_1 ?_
  refine lv_iload_n hx hb dX12_definition_4 rfl (lv_at hl 1 rfl) ?_
  obtain ⟨Q1, hc, hw⟩ := hw
  refine wc_i (X := CX g q lb) (va_runV (As := [.int (I n1)]) (rest := []) ⟨hx, hb, hml, hown, hts⟩ (L_X3_isStatement l g q lb hlb r_n1 hN hc H.size) (cwV 1 hts (TB_V tw_1413 tw_1414 tw_1415 tw_2 co_X3_isStatement) rfl rfl rfl (by decide +kernel) ⟨Nat.le_of_ble_eq_true rfl, Nat.le_of_ble_eq_true rfl⟩) (preV (q0 := 1) (ci := 3) rfl xT_bl hP hK hNb hD rfl rfl xT_at) rfl rfl hl.1 rfl (lv_room (Nat.le_of_ble_eq_true rfl)) dX12_definition_5 ⟨Nat.le_of_ble_eq_true rfl, Nat.le_of_ble_eq_true rfl⟩) hP hD hS hA (fun x2 H locs r_x2 hq hP hD hS => ?_)
  replace hw := hw x2 r_x2 hq
  refine bi_if_eq (tgt := 24) hx hb r_x2 dX12_definition_8 (by decide) (fun c4 => ?_) (fun c4 => ?_)
  ·
    replace hw := hw.1 c4
    refine lv_iconst (v := I (-1)) hx hb dX12_definition_24 rfl ?_
    exact xri hx hb hr hlk hP hK hD hS ⟨_, _, (by decide), rfl, hN, hF, rfl, hw⟩ (Nat.le_of_ble_eq_true rfl) (Nat.le_of_ble_eq_true rfl) dX12_definition_25
  ·
    replace hw := hw.2 c4
    refine lv_aload_n hx hb dX12_definition_11 rfl (lv_at hl 0 rfl) ?_
    refine gfX12_library hx hb hts hK hP hown (hts _ tw_889) dX12_definition_12 ?_
    refine gfNX3_kind hx hb hts hK hP hown (nb_use hNb tn_75) dX12_definition_15 ?_
    refine lv_iload_n hx hb dX12_definition_18 rfl (lv_at hl 1 rfl) ?_
    obtain ⟨c5, hw⟩ := hw
    refine ldCX3_kind hx hb hK hP hN c5 dX12_definition_19 (fun x6 r_x6 e_x6 => ?_)
    replace hw := hw x6 r_x6 e_x6
    refine lv_iconst (v := I 2) hx hb dX12_definition_20 rfl ?_
    refine bi_icmp_eq (tgt := 26) hx hb r_x6 (by decide) dX12_definition_21 (by decide) (fun c7 => ?_) (fun c7 => ?_)
    ·
      replace hw := hw.1 c7
      refine lv_aload_n hx hb dX12_definition_26 rfl (lv_at hl 0 rfl) ?_
      refine gfX12_library hx hb hts hK hP hown (hts _ tw_889) dX12_definition_27 ?_
      refine lv_iload_n hx hb dX12_definition_30 rfl (lv_at hl 1 rfl) ?_
      obtain ⟨Q8, hc, hw⟩ := hw
      refine wc_i (X := CX g q lb) (va_runV (As := [.int (I n1)]) (rest := []) ⟨hx, hb, hml, hown, hts⟩ (L_X3_lengthOf l g q lb hlb r_n1 hN hc H.size) (cwV 1 hts (TB_V tw_1421 tw_1292 tw_1293 tw_2 co_X3_lengthOf) rfl rfl rfl (by decide +kernel) ⟨Nat.le_of_ble_eq_true rfl, Nat.le_of_ble_eq_true rfl⟩) (preV (q0 := 1) (ci := 3) rfl xT_bl hP hK hNb hD rfl rfl xT_at) rfl rfl hl.1 rfl (lv_room (Nat.le_of_ble_eq_true rfl)) dX12_definition_31 ⟨Nat.le_of_ble_eq_true rfl, Nat.le_of_ble_eq_true rfl⟩) hP hD hS hA (fun x9 H locs r_x9 hq hP hD hS => ?_)
      replace hw := hw x9 r_x9 hq
      refine lv_bipush (v := I 60) hx hb dX12_definition_34 (by decide) ?_
      refine bi_icmp_le (tgt := 42) hx hb r_x9 (by decide) dX12_definition_36 (by decide) (fun c11 => ?_) (fun c11 => ?_)
      ·
        replace hw := hw.1 c11
        refine lv_aload_n hx hb dX12_definition_42 rfl (lv_at hl 0 rfl) ?_
        refine gfX12_rules hx hb hts hK hP hown (hts _ tw_895) dX12_definition_43 ?_
        obtain ⟨Q12, hc, hw⟩ := hw
        refine wc_V (X := CX g q lb) (va_runV (As := []) (rest := []) ⟨hx, hb, hml, hown, hts⟩ (L_X8_learn l g t1 t2 q lb hlb  hN hc H.size) (cwV 0 hts (TB_V tw_1671 tw_1672 tw_1673 tw_10 co_X8_learn) rfl rfl rfl (by decide +kernel) ⟨Nat.le_of_ble_eq_true rfl, Nat.le_of_ble_eq_true rfl⟩) (preV (q0 := 8) (ci := 8) rfl sX_bl hP hK hNb hD rfl rfl (sX_call hX hS (d_full hD hS hA))) rfl rfl hl.1 rfl (lv_room (Nat.le_of_ble_eq_true rfl)) dX12_definition_46 ⟨Nat.le_of_ble_eq_true rfl, Nat.le_of_ble_eq_true rfl⟩) hP hD hS hA (fun τ14 H locs hN hf hq hP hD hS => ?_)
        replace hw := hw τ14 hN hf hq
        have hF : f_r [45, 46, 47, 48, 49, 50, 51, 52, 53, 54, 57, 61, 62] [67, 68, 69, 70, 71, 72, 73, 74, 75, 76, 77, 78, 79, 80, 81, 82, 83, 84, 85, 86, 88, 89, 90, 92, 93, 94, 100] [3, 4, 5, 6, 7, 8] σ τ14 := f_t hF hf (by decide) (by decide) (by decide)
        have hB := hN
        refine lv_aload_n hx hb dX12_definition_49 rfl (lv_at hl 0 rfl) ?_
        refine gfX12_definitions hx hb hts hK hP hown (hts _ tw_898) dX12_definition_50 ?_
        refine lv_iload_n hx hb dX12_definition_53 rfl (lv_at hl 1 rfl) ?_
        refine lv_iconst (v := I 1) hx hb dX12_definition_54 rfl ?_
        refine bi_iadd hx hb dX12_definition_55 ?_
        obtain ⟨c15, hw⟩ := hw
        obtain ⟨Q16, hc, hw⟩ := hw
        refine wc_V (X := CX g q lb) (va_runV (As := [.int (I (n1 + 1))]) (rest := []) ⟨hx, hb, hml, hown, hts⟩ (L_X2_study l g q lb hlb c15 hN hc H.size) (cwV 1 hts (TB_V tw_1803 tw_1804 tw_1805 tw_13 co_X2_study) rfl rfl rfl (by decide +kernel) ⟨Nat.le_of_ble_eq_true rfl, Nat.le_of_ble_eq_true rfl⟩) (preV (q0 := 11) (ci := 2) rfl xT_bl hP hK hNb hD rfl rfl xT_at) rfl rfl hl.1 rfl (lv_room (Nat.le_of_ble_eq_true rfl)) dX12_definition_56 ⟨Nat.le_of_ble_eq_true rfl, Nat.le_of_ble_eq_true rfl⟩) hP hD hS hA (fun τ18 H locs hN hf hq hP hD hS => ?_)
        replace hw := hw τ18 hN hf hq
        have hF : f_r [45, 46, 47, 48, 49, 50, 51, 52, 53, 54, 57, 61, 62] [67, 68, 69, 70, 71, 72, 73, 74, 75, 76, 77, 78, 79, 80, 81, 82, 83, 84, 85, 86, 88, 89, 90, 92, 93, 94, 100] [3, 4, 5, 6, 7, 8] σ τ18 := f_t hF hf (by decide) (by decide) (by decide)
        have hB := hN
        refine lv_aload_n hx hb dX12_definition_59 rfl (lv_at hl 0 rfl) ?_
        refine gfX12_definitions hx hb hts hK hP hown (hts _ tw_898) dX12_definition_60 ?_
        refine lv_iload_n hx hb dX12_definition_63 rfl (lv_at hl 1 rfl) ?_
        obtain ⟨Q19, hc, hw⟩ := hw
        refine wc_i (X := CX g q lb) (va_runV (As := [.int (I n1)]) (rest := []) ⟨hx, hb, hml, hown, hts⟩ (L_X2_definedRule l g q lb hlb r_n1 hN hc H.size) (cwV 1 hts (TB_V tw_1914 tw_1848 tw_1849 tw_13 co_X2_definedRule) rfl rfl rfl (by decide +kernel) ⟨Nat.le_of_ble_eq_true rfl, Nat.le_of_ble_eq_true rfl⟩) (preV (q0 := 11) (ci := 2) rfl xT_bl hP hK hNb hD rfl rfl xT_at) rfl rfl hl.1 rfl (lv_room (Nat.le_of_ble_eq_true rfl)) dX12_definition_64 ⟨Nat.le_of_ble_eq_true rfl, Nat.le_of_ble_eq_true rfl⟩) hP hD hS hA (fun x20 H locs r_x20 hq hP hD hS => ?_)
        replace hw := hw x20 r_x20 hq
        exact xri hx hb hr hlk hP hK hD hS ⟨_, _, r_x20, rfl, hN, hF, rfl, hw⟩ (Nat.le_of_ble_eq_true rfl) (Nat.le_of_ble_eq_true rfl) dX12_definition_67
      ·
        replace hw := hw.2 c11
        refine lv_bipush (v := I (-2)) hx hb dX12_definition_39 (by decide) ?_
        exact xri hx hb hr hlk hP hK hD hS ⟨_, _, (by decide), rfl, hN, hF, rfl, hw⟩ (Nat.le_of_ble_eq_true rfl) (Nat.le_of_ble_eq_true rfl) dX12_definition_41
    ·
      replace hw := hw.2 c7
      refine lv_iconst (v := I (-1)) hx hb dX12_definition_24 rfl ?_
      exact xri hx hb hr hlk hP hK hD hS ⟨_, _, (by decide), rfl, hN, hF, rfl, hw⟩ (Nat.le_of_ble_eq_true rfl) (Nat.le_of_ble_eq_true rfl) dX12_definition_25
def W_X12_takeRow (σ : S0) (Q : Int → S0 → Prop) : Prop :=
  ∀ (P24 : Int → Int → Int → Int → S0 → Prop) (P72 : Int → Int → Int → Int → Int → S0 → Prop) (P96 : Int → Int → Int → Int → S0 → Prop),
  (∀ (u1 : Int) (u2 : Int) (u3 : Int) (u4 : Int) (τ : S0), ((u1 ≤ u4 → Q u2 τ) ∧ (u4 < u1 → (u1 ≤ u3 → Q u2 τ) ∧ (u3 < u1 → ∃ (Q10 : Int → Prop), W_X12_tokenEnd_q13 u3 u1 τ Q10 ∧ ∀ (x11 : Int), rg x11 → Q10 x11 → ((¬ x11 = u3 → rg (x11 - u3) ∧ ∃ (Q15 : Int → Prop), W_X3_symbolNamed_q13 u3 (x11 - u3) τ Q15 ∧ ∀ (x16 : Int), rg x16 → Q15 x16 → (P72 u1 u2 u4 x11 x16 τ)) ∧ (x11 = u3 → P72 u1 u2 u4 x11 (-1) τ))))) → P24 u1 u2 u3 u4 τ) →
  (∀ (u1 : Int) (u2 : Int) (u4 : Int) (u5 : Int) (k0 : Int) (τ : S0), ((¬ k0 = (-1) → (60 ≤ u2 → P96 u1 u2 u4 u5 τ) ∧ (u2 < 60 → (0 ≤ u2 ∧ u2 < 60) ∧ (P96 u1 u2 u4 u5 (s_a τ 1 u2 k0)))) ∧ (k0 = (-1) → Q (-1) τ)) → P72 u1 u2 u4 u5 k0 τ) →
  (∀ (u1 : Int) (u2 : Int) (u4 : Int) (u5 : Int) (τ : S0), (∃ (Q21 : Int → Prop), W_X12_skipBlanks_q13 u5 u1 τ Q21 ∧ ∀ (x22 : Int), rg x22 → Q21 x22 → (rg (u2 + 1) ∧ rg (u4 + 1) ∧ P24 u1 (u2 + 1) x22 (u4 + 1) τ)) → P96 u1 u2 u4 u5 τ) →
  ∃ (Q1 : S0 → Prop), W_X12_useTape σ Q1 ∧ ∀ (τ3 : S0), n_m τ3 → f_r [0, 1] [] [] σ τ3 → Q1 τ3 → (rg (σ.1 0) ∧ ∃ (Q5 : Int → Prop), W_X12_skipBlanks_q13 0 (σ.1 0) τ3 Q5 ∧ ∀ (x6 : Int), rg x6 → Q5 x6 → (P24 (σ.1 0) 0 x6 0 τ3))
set_option maxRecDepth 100000 in
set_option maxHeartbeats 4000000 in
theorem L_X12_takeRow (l : Launch) (g : gG) (q : Nat → Nat) (lb : Nat) (hlb : lb < 2 ^ 31) {σ : S0} {Q : Int → S0 → Prop} (hN : n_m σ) (hw : W_X12_takeRow σ Q) (sz : Nat) : MetI l yX12_takeRow cX12_takeRow 7 (some .int) { frames := 3, cells := 0, slots := 0, locals := 74 } g [.ref (q 0)] (CX g q lb σ) sz xT (p_I (CX g q lb) [0, 1] [1] [] σ Q) 0 0 := by
  refine mkMet (Qc := fun A => QI g A (p_I (CX g q lb) [0, 1] [1] [] σ Q)) (by decide) (Nat.le_of_ble_eq_true rfl) ?_
  intro p e s m below meth c A H ls hx hb hr hml hown hts hlk hnm hsz hP hK hNb hD hA hAe hS hX hl
  have hl : lv_has ls 7 [(0, .ref (q 0))] := hl
  have hB := hN
  have hF : f_r [0, 1] [1] [] σ σ := f_0
  obtain ⟨locs, hlocs⟩ : ∃ z : List Loc, z = [] := ⟨_, rfl⟩
  rw [← hlocs] at hS ⊢
  obtain ⟨P24, hP24⟩ : ∃ P : Int → Int → Int → Int → S0 → Prop, ∀ (u1 : Int) (u2 : Int) (u3 : Int) (u4 : Int) (τ : S0), (P u1 u2 u3 u4 τ ↔ (rg u1 → rg u2 → rg u3 → rg u4 → n_m τ → f_r [0, 1] [1] [] σ τ → ∀ (H : Heap) (locs : List Loc) (ls : Array Slot), KP g (CX g q lb τ) H → va_D A (CX g q lb τ) → va_S A s.heap H locs → lv_has ls 7 [(0, .ref (q 0)), (1, .int (I u1)), (2, .int (I u2)), (3, .int (I u3)), (4, .int (I u4))] → W p l e ({ frames := 3, cells := 0, slots := 0, locals := 74 }) s m [.ref (q 0)].toArray below meth c H locs 0 0 (MQ below (QI g A (p_I (CX g q lb) [0, 1] [1] [] σ Q)) [.ref (q 0)].toArray s 0 0 A) (F0 m 24 ls []))) := ⟨_, fun _ _ _ _ _ => Iff.rfl⟩
  obtain ⟨P72, hP72⟩ : ∃ P : Int → Int → Int → Int → Int → S0 → Prop, ∀ (u1 : Int) (u2 : Int) (u4 : Int) (u5 : Int) (k0 : Int) (τ : S0), (P u1 u2 u4 u5 k0 τ ↔ (rg u1 → rg u2 → rg u4 → rg u5 → rg k0 → n_m τ → f_r [0, 1] [1] [] σ τ → ∀ (H : Heap) (locs : List Loc) (ls : Array Slot), KP g (CX g q lb τ) H → va_D A (CX g q lb τ) → va_S A s.heap H locs → lv_has ls 7 [(0, .ref (q 0)), (1, .int (I u1)), (2, .int (I u2)), (4, .int (I u4)), (5, .int (I u5))] → W p l e ({ frames := 3, cells := 0, slots := 0, locals := 74 }) s m [.ref (q 0)].toArray below meth c H locs 0 0 (MQ below (QI g A (p_I (CX g q lb) [0, 1] [1] [] σ Q)) [.ref (q 0)].toArray s 0 0 A) (F0 m 72 ls [.int (I k0)]))) := ⟨_, fun _ _ _ _ _ _ => Iff.rfl⟩
  obtain ⟨P96, hP96⟩ : ∃ P : Int → Int → Int → Int → S0 → Prop, ∀ (u1 : Int) (u2 : Int) (u4 : Int) (u5 : Int) (τ : S0), (P u1 u2 u4 u5 τ ↔ (rg u1 → rg u2 → rg u4 → rg u5 → n_m τ → f_r [0, 1] [1] [] σ τ → ∀ (H : Heap) (locs : List Loc) (ls : Array Slot), KP g (CX g q lb τ) H → va_D A (CX g q lb τ) → va_S A s.heap H locs → lv_has ls 7 [(0, .ref (q 0)), (1, .int (I u1)), (2, .int (I u2)), (4, .int (I u4)), (5, .int (I u5))] → W p l e ({ frames := 3, cells := 0, slots := 0, locals := 74 }) s m [.ref (q 0)].toArray below meth c H locs 0 0 (MQ below (QI g A (p_I (CX g q lb) [0, 1] [1] [] σ Q)) [.ref (q 0)].toArray s 0 0 A) (F0 m 96 ls []))) := ⟨_, fun _ _ _ _ _ => Iff.rfl⟩
  refine (fun hw => ?_) (hw P24 P72 P96 ?_ ?_ ?_)
  ·
    refine lv_aload_n hx hb dX12_takeRow_0 rfl (lv_at hl 0 rfl) ?_
    refine gfX12_tapeLength hx hb hts hK hP hown (hts _ tw_885) (x := σ.1 0) rfl dX12_takeRow_1 ?_
    refine lv_istore_n (lv' := [(1, .int (I (σ.1 0))), (0, .ref (q 0))]) hx hb dX12_takeRow_4 rfl hl (by decide) rfl (fun ls hl => ?_)
    refine lv_aload_n hx hb dX12_takeRow_5 rfl (lv_at hl 1 rfl) ?_
    obtain ⟨Q1, hc, hw⟩ := hw
    refine wc_V (X := CX g q lb) (va_runV (As := []) (rest := []) ⟨hx, hb, hml, hown, hts⟩ (L_X12_useTape l g q lb hlb  hN hc H.size) (cwV 0 hts (TB_V tw_1389 tw_1391 ts_51 tw_1 co_X12_useTape) rfl rfl rfl (by decide +kernel) ⟨Nat.le_of_ble_eq_true rfl, Nat.le_of_ble_eq_true rfl⟩) (preV (q0 := 0) (ci := 12) rfl xT_bl hP hK hNb hD rfl rfl xT_at) rfl rfl hl.1 rfl (lv_room (Nat.le_of_ble_eq_true rfl)) dX12_takeRow_6 ⟨Nat.le_of_ble_eq_true rfl, Nat.le_of_ble_eq_true rfl⟩) hP hD hS hA (fun τ3 H locs hN hf hq hP hD hS => ?_)
    replace hw := hw τ3 hN hf hq
    have hF : f_r [0, 1] [1] [] σ τ3 := f_t hF hf (by decide) (by decide) (by decide)
    have hB := hN
    refine lv_iconst (v := I 0) hx hb dX12_takeRow_9 rfl ?_
    refine lv_istore_n (lv' := [(2, .int (I 0)), (1, .int (I (σ.1 0))), (0, .ref (q 0))]) hx hb dX12_takeRow_10 rfl hl (by decide) rfl (fun ls hl => ?_)
    refine lv_aload_n hx hb dX12_takeRow_11 rfl (lv_at hl 2 rfl) ?_
    refine gfX12_tape hx hb hts hK hP hown (hts _ tw_884) dX12_takeRow_12 ?_
    refine lv_iconst (v := I 0) hx hb dX12_takeRow_15 rfl ?_
    refine lv_iload_n hx hb dX12_takeRow_16 rfl (lv_at hl 1 rfl) ?_
    obtain ⟨c4, hw⟩ := hw
    obtain ⟨Q5, hc, hw⟩ := hw
    refine wc_i (X := CX g q lb) (va_runS (As := [.ref (q 13), .int (I 0), .int (I (σ.1 0))]) (rest := []) ⟨hx, hb, hml, hown, hts⟩ (L_X12_skipBlanks_q13 l g q lb hlb (by decide) c4 hN hc H.size) (cwS 3 hts (TB_S tw_1438 tw_974 tw_1 co_X12_skipBlanks) rfl rfl rfl (by decide +kernel) ⟨Nat.le_of_ble_eq_true rfl, Nat.le_of_ble_eq_true rfl⟩) (preS xT_bl hP hK hNb hD xT_at) rfl rfl hl.1 rfl (lv_room (Nat.le_of_ble_eq_true rfl)) dX12_takeRow_17 ⟨Nat.le_of_ble_eq_true rfl, Nat.le_of_ble_eq_true rfl⟩) hP hD hS hA (fun x6 H locs r_x6 hq hP hD hS => ?_)
    replace hw := hw x6 r_x6 hq
    refine lv_istore_n (lv' := [(3, .int (I x6)), (2, .int (I 0)), (1, .int (I (σ.1 0))), (0, .ref (q 0))]) hx hb dX12_takeRow_20 rfl hl (by decide) rfl (fun ls hl => ?_)
    refine lv_iconst (v := I 0) hx hb dX12_takeRow_21 rfl ?_
    refine lv_istore (lv' := [(4, .int (I 0)), (3, .int (I x6)), (2, .int (I 0)), (1, .int (I (σ.1 0))), (0, .ref (q 0))]) hx hb dX12_takeRow_22 hl (by decide) rfl (fun ls hl => ?_)
    exact (hP24 _ _ _ _ _).mp hw c4 (by decide) r_x6 (by decide) hN hF H locs ls hP hD hS (lv_sub hl [4, 3, 2, 1, 0] rfl)
  ·
    intro u1 u2 u3 u4 τ hw
    refine (hP24 _ _ _ _ _).mpr ?_
    intro r_u1 r_u2 r_u3 r_u4 hN hF H locs ls hP hD hS hl
    have hB := hN
    refine lv_iload hx hb dX12_takeRow_24 (lv_at hl 4 rfl) ?_
    refine lv_iload_n hx hb dX12_takeRow_26 rfl (lv_at hl 1 rfl) ?_
    refine bi_icmp_ge (tgt := 116) hx hb r_u4 r_u1 dX12_takeRow_27 (by decide) (fun c8 => ?_) (fun c8 => ?_)
    ·
      replace hw := hw.1 c8
      refine lv_iload_n hx hb dX12_takeRow_116 rfl (lv_at hl 2 rfl) ?_
      exact xri hx hb hr hlk hP hK hD hS ⟨_, _, r_u2, rfl, hN, hF, rfl, hw⟩ (Nat.le_of_ble_eq_true rfl) (Nat.le_of_ble_eq_true rfl) dX12_takeRow_117
    ·
      replace hw := hw.2 c8
      refine lv_iload_n hx hb dX12_takeRow_30 rfl (lv_at hl 3 rfl) ?_
      refine lv_iload_n hx hb dX12_takeRow_31 rfl (lv_at hl 1 rfl) ?_
      refine bi_icmp_ge (tgt := 116) hx hb r_u3 r_u1 dX12_takeRow_32 (by decide) (fun c9 => ?_) (fun c9 => ?_)
      ·
        replace hw := hw.1 c9
        refine lv_iload_n hx hb dX12_takeRow_116 rfl (lv_at hl 2 rfl) ?_
        exact xri hx hb hr hlk hP hK hD hS ⟨_, _, r_u2, rfl, hN, hF, rfl, hw⟩ (Nat.le_of_ble_eq_true rfl) (Nat.le_of_ble_eq_true rfl) dX12_takeRow_117
      ·
        replace hw := hw.2 c9
        refine lv_aload_n hx hb dX12_takeRow_35 rfl (lv_at hl 0 rfl) ?_
        refine gfX12_tape hx hb hts hK hP hown (hts _ tw_884) dX12_takeRow_36 ?_
        refine lv_iload_n hx hb dX12_takeRow_39 rfl (lv_at hl 3 rfl) ?_
        refine lv_iload_n hx hb dX12_takeRow_40 rfl (lv_at hl 1 rfl) ?_
        obtain ⟨Q10, hc, hw⟩ := hw
        refine wc_i (X := CX g q lb) (va_runS (As := [.ref (q 13), .int (I u3), .int (I u1)]) (rest := []) ⟨hx, hb, hml, hown, hts⟩ (L_X12_tokenEnd_q13 l g q lb hlb r_u3 r_u1 hN hc H.size) (cwS 3 hts (TB_S tw_1439 tw_980 tw_1 co_X12_tokenEnd) rfl rfl rfl (by decide +kernel) ⟨Nat.le_of_ble_eq_true rfl, Nat.le_of_ble_eq_true rfl⟩) (preS xT_bl hP hK hNb hD xT_at) rfl rfl hl.1 rfl (lv_room (Nat.le_of_ble_eq_true rfl)) dX12_takeRow_41 ⟨Nat.le_of_ble_eq_true rfl, Nat.le_of_ble_eq_true rfl⟩) hP hD hS hA (fun x11 H locs r_x11 hq hP hD hS => ?_)
        replace hw := hw x11 r_x11 hq
        refine lv_istore (lv' := [(5, .int (I x11)), (0, .ref (q 0)), (1, .int (I u1)), (2, .int (I u2)), (3, .int (I u3)), (4, .int (I u4))]) hx hb dX12_takeRow_44 hl (by decide) rfl (fun ls hl => ?_)
        refine lv_iload hx hb dX12_takeRow_46 (lv_at hl 0 rfl) ?_
        refine lv_iload_n hx hb dX12_takeRow_48 rfl (lv_at hl 4 rfl) ?_
        refine bi_icmp_ne (tgt := 56) hx hb r_x11 r_u3 dX12_takeRow_49 (by decide) (fun c13 => ?_) (fun c13 => ?_)
        ·
          replace hw := hw.1 c13
          refine lv_aload_n hx hb dX12_takeRow_56 rfl (lv_at hl 1 rfl) ?_
          refine gfX12_library hx hb hts hK hP hown (hts _ tw_889) dX12_takeRow_57 ?_
          refine lv_aload_n hx hb dX12_takeRow_60 rfl (lv_at hl 1 rfl) ?_
          refine gfX12_tape hx hb hts hK hP hown (hts _ tw_884) dX12_takeRow_61 ?_
          refine lv_iload_n hx hb dX12_takeRow_64 rfl (lv_at hl 4 rfl) ?_
          refine lv_iload hx hb dX12_takeRow_65 (lv_at hl 0 rfl) ?_
          refine lv_iload_n hx hb dX12_takeRow_67 rfl (lv_at hl 4 rfl) ?_
          refine bi_isub hx hb dX12_takeRow_68 ?_
          obtain ⟨c14, hw⟩ := hw
          obtain ⟨Q15, hc, hw⟩ := hw
          refine wc_i (X := CX g q lb) (va_runV (As := [.ref (q 13), .int (I u3), .int (I (x11 - u3))]) (rest := []) ⟨hx, hb, hml, hown, hts⟩ (L_X3_symbolNamed_q13 l g q lb hlb r_u3 c14 hN hc H.size) (cwV 3 hts (TB_V tw_1446 tw_1447 tw_1448 tw_2 co_X3_symbolNamed) rfl rfl rfl (by decide +kernel) ⟨Nat.le_of_ble_eq_true rfl, Nat.le_of_ble_eq_true rfl⟩) (preV (q0 := 1) (ci := 3) rfl xT_bl hP hK hNb hD rfl rfl xT_at) rfl rfl hl.1 rfl (lv_room (Nat.le_of_ble_eq_true rfl)) dX12_takeRow_69 ⟨Nat.le_of_ble_eq_true rfl, Nat.le_of_ble_eq_true rfl⟩) hP hD hS hA (fun x16 H locs r_x16 hq hP hD hS => ?_)
          replace hw := hw x16 r_x16 hq
          exact (hP72 _ _ _ _ _ _).mp hw r_u1 r_u2 r_u4 r_x11 r_x16 hN hF H locs ls hP hD hS (lv_sub hl [1, 2, 3, 5, 0] rfl)
        ·
          replace hw := hw.2 c13
          refine lv_iconst (v := I (-1)) hx hb dX12_takeRow_52 rfl ?_
          refine lv_goto (tgt := 72) hx hb dX12_takeRow_53 (by decide) ?_
          exact (hP72 _ _ _ _ _ _).mp hw r_u1 r_u2 r_u4 r_x11 (by decide) hN hF H locs ls hP hD hS (lv_sub hl [1, 2, 3, 5, 0] rfl)
  ·
    intro u1 u2 u4 u5 k0 τ hw
    refine (hP72 _ _ _ _ _ _).mpr ?_
    intro r_u1 r_u2 r_u4 r_u5 r_k0 hN hF H locs ls hP hD hS hl
    have hB := hN
    refine lv_istore (lv' := [(6, .int (I k0)), (0, .ref (q 0)), (1, .int (I u1)), (2, .int (I u2)), (4, .int (I u4)), (5, .int (I u5))]) hx hb dX12_takeRow_72 hl (by decide) rfl (fun ls hl => ?_)
    refine lv_iload hx hb dX12_takeRow_74 (lv_at hl 0 rfl) ?_
    refine lv_iconst (v := I (-1)) hx hb dX12_takeRow_76 rfl ?_
    refine bi_icmp_ne (tgt := 82) hx hb r_k0 (by decide) dX12_takeRow_77 (by decide) (fun c18 => ?_) (fun c18 => ?_)
    ·
      replace hw := hw.1 c18
      refine lv_iload_n hx hb dX12_takeRow_82 rfl (lv_at hl 3 rfl) ?_
      refine lv_bipush (v := I 60) hx hb dX12_takeRow_83 (by decide) ?_
      refine bi_icmp_ge (tgt := 96) hx hb r_u2 (by decide) dX12_takeRow_85 (by decide) (fun c19 => ?_) (fun c19 => ?_)
      ·
        replace hw := hw.1 c19
        exact (hP96 _ _ _ _ _).mp hw r_u1 r_u2 r_u4 r_u5 hN hF H locs ls hP hD hS (lv_sub hl [1, 2, 3, 4, 5] rfl)
      ·
        replace hw := hw.2 c19
        refine lv_aload_n hx hb dX12_takeRow_88 rfl (lv_at hl 1 rfl) ?_
        refine gfX12_asked hx hb hts hK hP hown (hts _ tw_888) dX12_takeRow_89 ?_
        refine lv_iload_n hx hb dX12_takeRow_92 rfl (lv_at hl 3 rfl) ?_
        refine lv_iload hx hb dX12_takeRow_93 (lv_at hl 0 rfl) ?_
        obtain ⟨c20, hw⟩ := hw
        refine sdCX12_asked hx hb hK hP hD hS c20 dX12_takeRow_95 (fun H locs hP hD hS => ?_)
        have hN : n_m (s_a τ 1 u2 k0) := n_a (k := 1) (j := u2) hN (r_k0 : rg k0)
        have hF : f_r [0, 1] [1] [] σ (s_a τ 1 u2 k0) := f_a hF (by decide)
        exact (hP96 _ _ _ _ _).mp hw r_u1 r_u2 r_u4 r_u5 hN hF H locs ls hP hD hS (lv_sub hl [1, 2, 3, 4, 5] rfl)
    ·
      replace hw := hw.2 c18
      refine lv_iconst (v := I (-1)) hx hb dX12_takeRow_80 rfl ?_
      exact xri hx hb hr hlk hP hK hD hS ⟨_, _, (by decide), rfl, hN, hF, rfl, hw⟩ (Nat.le_of_ble_eq_true rfl) (Nat.le_of_ble_eq_true rfl) dX12_takeRow_81
  ·
    intro u1 u2 u4 u5 τ hw
    refine (hP96 _ _ _ _ _).mpr ?_
    intro r_u1 r_u2 r_u4 r_u5 hN hF H locs ls hP hD hS hl
    have hB := hN
    refine lv_iinc (v := I (u2 + 1)) (lv' := [(2, .int (I (u2 + 1))), (0, .ref (q 0)), (1, .int (I u1)), (4, .int (I u4)), (5, .int (I u5))]) hx hb dX12_takeRow_96 hl (k := 2) rfl (I_add _ _) (by decide) rfl (fun ls hl => ?_)
    refine lv_aload_n hx hb dX12_takeRow_99 rfl (lv_at hl 1 rfl) ?_
    refine gfX12_tape hx hb hts hK hP hown (hts _ tw_884) dX12_takeRow_100 ?_
    refine lv_iload hx hb dX12_takeRow_103 (lv_at hl 4 rfl) ?_
    refine lv_iload_n hx hb dX12_takeRow_105 rfl (lv_at hl 2 rfl) ?_
    obtain ⟨Q21, hc, hw⟩ := hw
    refine wc_i (X := CX g q lb) (va_runS (As := [.ref (q 13), .int (I u5), .int (I u1)]) (rest := []) ⟨hx, hb, hml, hown, hts⟩ (L_X12_skipBlanks_q13 l g q lb hlb r_u5 r_u1 hN hc H.size) (cwS 3 hts (TB_S tw_1438 tw_974 tw_1 co_X12_skipBlanks) rfl rfl rfl (by decide +kernel) ⟨Nat.le_of_ble_eq_true rfl, Nat.le_of_ble_eq_true rfl⟩) (preS xT_bl hP hK hNb hD xT_at) rfl rfl hl.1 rfl (lv_room (Nat.le_of_ble_eq_true rfl)) dX12_takeRow_106 ⟨Nat.le_of_ble_eq_true rfl, Nat.le_of_ble_eq_true rfl⟩) hP hD hS hA (fun x22 H locs r_x22 hq hP hD hS => ?_)
    replace hw := hw x22 r_x22 hq
    refine lv_istore_n (lv' := [(3, .int (I x22)), (2, .int (I (u2 + 1))), (0, .ref (q 0)), (1, .int (I u1)), (4, .int (I u4)), (5, .int (I u5))]) hx hb dX12_takeRow_109 rfl hl (by decide) rfl (fun ls hl => ?_)
    refine lv_iinc (v := I (u4 + 1)) (lv' := [(4, .int (I (u4 + 1))), (3, .int (I x22)), (2, .int (I (u2 + 1))), (0, .ref (q 0)), (1, .int (I u1)), (5, .int (I u5))]) hx hb dX12_takeRow_110 hl (k := 4) rfl (I_add _ _) (by decide) rfl (fun ls hl => ?_)
    refine lv_goto (tgt := 24) hx hb dX12_takeRow_113 (by decide) ?_
    obtain ⟨c24, hw⟩ := hw
    obtain ⟨c25, hw⟩ := hw
    exact (hP24 _ _ _ _ _).mp hw r_u1 c24 r_x22 c25 hN hF H locs ls hP hD hS (lv_sub hl [3, 4, 2, 1, 0] rfl)
def W_X1_takeRow_q14 (n2 : Int) (σ : S0) (Q : S0 → Prop) : Prop :=
  ∀ (P18 : Int → S0 → Prop),
  (∀ (u3 : Int) (τ : S0), ((τ.1 50 ≤ u3 → ∀ (x7 : Int), rg x7 → x7 = τ.2.1 1 0 → (∃ (Q8 : Int → Prop), W_X8_goalRank x7 (s_v τ 51 (τ.1 7)) Q8 ∧ ∀ (x9 : Int), rg x9 → Q8 x9 → (Q (s_v (s_v τ 51 (τ.1 7)) 52 x9)))) ∧ (u3 < τ.1 50 → (0 ≤ (u3 + 1) ∧ (u3 + 1) < 60) ∧ (∀ (x12 : Int), rg x12 → x12 = τ.2.1 1 (u3 + 1) → ((0 ≤ u3 ∧ u3 < 60) ∧ (∀ (x14 : Int), rg x14 → x14 = τ.2.1 1 (u3 + 1) → ((0 ≤ x14 ∧ x14 < 1000) ∧ (∀ (x16 : Int), rg x16 → x16 = τ.2.1 9 x14 → (P18 (u3 + 1) (s_a (s_a τ 77 u3 x12) 78 u3 x16))))))))) → P18 u3 τ) →
  ∃ (Q1 : S0 → Prop), W_X1_forgetRow σ Q1 ∧ ∀ (τ3 : S0), n_m τ3 → f_r [] [] [3] σ τ3 → Q1 τ3 → (∀ (x4 : Int), rg x4 → x4 ≤ n2 → x4 ≤ 60 → (x4 = n2 ∨ x4 = 60) → (rg (x4 - 1) ∧ P18 0 (s_v τ3 50 (x4 - 1))))
set_option maxRecDepth 100000 in
set_option maxHeartbeats 4000000 in
theorem L_X1_takeRow_q14 (l : Launch) (g : gG) (q : Nat → Nat) (lb : Nat) (hlb : lb < 2 ^ 31) {n2 : Int} {σ : S0} {Q : S0 → Prop} (r_n2 : rg n2) (hN : n_m σ) (hw : W_X1_takeRow_q14 n2 σ Q) (sz : Nat) : MetV l yX1_takeRow cX1_takeRow 4 { frames := 1, cells := 0, slots := 0, locals := 22 } g [.ref (q 9), .ref (q 14), .int (I n2)] (CX g q lb σ) sz xT (p_V (CX g q lb) [50, 51, 52] [77, 78] [3] σ Q) 0 0 := by
  refine mkMet (Qc := fun A => QV g A (p_V (CX g q lb) [50, 51, 52] [77, 78] [3] σ Q)) (by decide) (Nat.le_of_ble_eq_true rfl) ?_
  intro p e s m below meth c A H ls hx hb hr hml hown hts hlk hnm hsz hP hK hNb hD hA hAe hS hX hl
  have hl : lv_has ls 4 [(0, .ref (q 9)), (1, .ref (q 14)), (2, .int (I n2))] := hl
  have hB := hN
  have hF : f_r [50, 51, 52] [77, 78] [3] σ σ := f_0
  obtain ⟨locs, hlocs⟩ : ∃ z : List Loc, z = [] := ⟨_, rfl⟩
  rw [← hlocs] at hS ⊢
  obtain ⟨P18, hP18⟩ : ∃ P : Int → S0 → Prop, ∀ (u3 : Int) (τ : S0), (P u3 τ ↔ (rg u3 → n_m τ → f_r [50, 51, 52] [77, 78] [3] σ τ → ∀ (H : Heap) (locs : List Loc) (ls : Array Slot), KP g (CX g q lb τ) H → va_D A (CX g q lb τ) → va_S A s.heap H locs → lv_has ls 4 [(0, .ref (q 9)), (1, .ref (q 14)), (3, .int (I u3))] → W p l e ({ frames := 1, cells := 0, slots := 0, locals := 22 }) s m [.ref (q 9), .ref (q 14), .int (I n2)].toArray below meth c H locs 0 0 (MQ below (QV g A (p_V (CX g q lb) [50, 51, 52] [77, 78] [3] σ Q)) [.ref (q 9), .ref (q 14), .int (I n2)].toArray s 0 0 A) (F0 m 18 ls []))) := ⟨_, fun _ _ => Iff.rfl⟩
  refine (fun hw => ?_) (hw P18 ?_)
  ·
    refine lv_aload_n hx hb dX1_takeRow_0 rfl (lv_at hl 0 rfl) ?_
    obtain ⟨Q1, hc, hw⟩ := hw
    refine wc_V (X := CX g q lb) (va_runV (As := []) (rest := []) ⟨hx, hb, hml, hown, hts⟩ (L_X1_forgetRow l g q lb hlb  hN hc H.size) (cwV 0 hts (TB_V tw_1706 tw_1708 ts_70 tw_11 co_X1_forgetRow) rfl rfl rfl (by decide +kernel) ⟨Nat.le_of_ble_eq_true rfl, Nat.le_of_ble_eq_true rfl⟩) (preV (q0 := 9) (ci := 1) rfl xT_bl hP hK hNb hD rfl rfl xT_at) rfl rfl hl.1 rfl (lv_room (Nat.le_of_ble_eq_true rfl)) dX1_takeRow_1 ⟨Nat.le_of_ble_eq_true rfl, Nat.le_of_ble_eq_true rfl⟩) hP hD hS hA (fun τ3 H locs hN hf hq hP hD hS => ?_)
    replace hw := hw τ3 hN hf hq
    have hF : f_r [50, 51, 52] [77, 78] [3] σ τ3 := f_t hF hf (by decide) (by decide) (by decide)
    have hB := hN
    refine lv_aload_n hx hb dX1_takeRow_4 rfl (lv_at hl 0 rfl) ?_
    refine lv_iload_n hx hb dX1_takeRow_5 rfl (lv_at hl 2 rfl) ?_
    refine lv_bipush (v := I 60) hx hb dX1_takeRow_6 (by decide) ?_
    refine bi_mmin hx hb (by rw [hml]; exact hl.1.symm) hown (hts _ tw_1711) (hts _ tw_1712) (hts _ tw_16) (hts _ tw_1713) (Nat.le_of_ble_eq_true rfl) (Nat.le_of_ble_eq_true rfl) (Nat.le_of_ble_eq_true rfl) (Nat.le_of_ble_eq_true rfl) r_n2 (by decide) dX1_takeRow_8 (fun x4 r_x4 p_x4 m_x4 o_x4 => ?_)
    replace hw := hw x4 r_x4 p_x4 m_x4 o_x4
    refine lv_iconst (v := I 1) hx hb dX1_takeRow_11 rfl ?_
    refine bi_isub hx hb dX1_takeRow_12 ?_
    obtain ⟨c5, hw⟩ := hw
    refine pfX1_length hx hb hts hK hP hD hS hown (hts _ tw_676) dX1_takeRow_13 (fun H locs hP hD hS => ?_)
    have hN : n_m (s_v τ3 50 (x4 - 1)) := n_v (i := 50) hN (c5 : rg (x4 - 1))
    have hF : f_r [50, 51, 52] [77, 78] [3] σ (s_v τ3 50 (x4 - 1)) := f_v hF (by decide)
    refine lv_iconst (v := I 0) hx hb dX1_takeRow_16 rfl ?_
    refine lv_istore_n (lv' := [(3, .int (I 0)), (0, .ref (q 9)), (1, .ref (q 14)), (2, .int (I n2))]) hx hb dX1_takeRow_17 rfl hl (by decide) rfl (fun ls hl => ?_)
    exact (hP18 _ _).mp hw (by decide) hN hF H locs ls hP hD hS (lv_sub hl [1, 2, 0] rfl)
  ·
    intro u3 τ hw
    refine (hP18 _ _).mpr ?_
    intro r_u3 hN hF H locs ls hP hD hS hl
    have hB := hN
    refine lv_iload_n hx hb dX1_takeRow_18 rfl (lv_at hl 2 rfl) ?_
    refine lv_aload_n hx hb dX1_takeRow_19 rfl (lv_at hl 0 rfl) ?_
    refine gfX1_length hx hb hts hK hP hown (hts _ tw_676) (x := τ.1 50) rfl dX1_takeRow_20 ?_
    refine bi_icmp_ge (tgt := 62) hx hb r_u3 (hB.1 50) dX1_takeRow_23 (by decide) (fun c6 => ?_) (fun c6 => ?_)
    ·
      replace hw := hw.1 c6
      refine lv_aload_n hx hb dX1_takeRow_62 rfl (lv_at hl 0 rfl) ?_
      refine lv_aload_n hx hb dX1_takeRow_63 rfl (lv_at hl 0 rfl) ?_
      refine gfX1_library hx hb hts hK hP hown (hts _ tw_670) dX1_takeRow_64 ?_
      refine gfNX3_statements hx hb hts hK hP hown (nb_use hNb tn_104) (x := τ.1 7) rfl dX1_takeRow_67 ?_
      refine pfX1_limit hx hb hts hK hP hD hS hown (hts _ tw_678) dX1_takeRow_70 (fun H locs hP hD hS => ?_)
      have hN : n_m (s_v τ 51 (τ.1 7)) := n_v (i := 51) hN ((hB.1 7) : rg (τ.1 7))
      have hF : f_r [50, 51, 52] [77, 78] [3] σ (s_v τ 51 (τ.1 7)) := f_v hF (by decide)
      refine lv_aload_n hx hb dX1_takeRow_73 rfl (lv_at hl 0 rfl) ?_
      refine lv_aload_n hx hb dX1_takeRow_74 rfl (lv_at hl 0 rfl) ?_
      refine gfX1_rules hx hb hts hK hP hown (hts _ tw_671) dX1_takeRow_75 ?_
      refine lv_aload_n hx hb dX1_takeRow_78 rfl (lv_at hl 1 rfl) ?_
      refine lv_iconst (v := I 0) hx hb dX1_takeRow_79 rfl ?_
      refine ldCX12_asked hx hb hK hP hN (by decide) dX1_takeRow_80 (fun x7 r_x7 e_x7 => ?_)
      replace hw := hw x7 r_x7 e_x7
      obtain ⟨Q8, hc, hw⟩ := hw
      refine wc_i (X := CX g q lb) (va_runV (As := [.int (I x7)]) (rest := [.ref (q 9)]) ⟨hx, hb, hml, hown, hts⟩ (L_X8_goalRank l g q lb hlb r_x7 hN hc H.size) (cwV 1 hts (TB_V tw_1715 tw_1716 tw_1717 tw_10 co_X8_goalRank) rfl rfl rfl (by decide +kernel) ⟨Nat.le_of_ble_eq_true rfl, Nat.le_of_ble_eq_true rfl⟩) (preV (q0 := 8) (ci := 8) rfl xT_bl hP hK hNb hD rfl rfl xT_at) rfl rfl hl.1 rfl (lv_room (Nat.le_of_ble_eq_true rfl)) dX1_takeRow_81 ⟨Nat.le_of_ble_eq_true rfl, Nat.le_of_ble_eq_true rfl⟩) hP hD hS hA (fun x9 H locs r_x9 hq hP hD hS => ?_)
      replace hw := hw x9 r_x9 hq
      refine pfX1_goal hx hb hts hK hP hD hS hown (hts _ tw_680) dX1_takeRow_84 (fun H locs hP hD hS => ?_)
      have hN : n_m (s_v (s_v τ 51 (τ.1 7)) 52 x9) := n_v (i := 52) hN (r_x9 : rg x9)
      have hF : f_r [50, 51, 52] [77, 78] [3] σ (s_v (s_v τ 51 (τ.1 7)) 52 x9) := f_v hF (by decide)
      exact xrv hx hb hr hlk hP hK hD hS ⟨_, hN, hF, rfl, hw⟩ (Nat.le_of_ble_eq_true rfl) (Nat.le_of_ble_eq_true rfl) dX1_takeRow_87
    ·
      replace hw := hw.2 c6
      refine lv_aload_n hx hb dX1_takeRow_26 rfl (lv_at hl 0 rfl) ?_
      refine gfX1_row hx hb hts hK hP hown (hts _ tw_672) dX1_takeRow_27 ?_
      refine lv_iload_n hx hb dX1_takeRow_30 rfl (lv_at hl 2 rfl) ?_
      refine lv_aload_n hx hb dX1_takeRow_31 rfl (lv_at hl 1 rfl) ?_
      refine lv_iload_n hx hb dX1_takeRow_32 rfl (lv_at hl 2 rfl) ?_
      refine lv_iconst (v := I 1) hx hb dX1_takeRow_33 rfl ?_
      refine bi_iadd hx hb dX1_takeRow_34 ?_
      obtain ⟨c11, hw⟩ := hw
      refine ldCX12_asked hx hb hK hP hN c11 dX1_takeRow_35 (fun x12 r_x12 e_x12 => ?_)
      replace hw := hw x12 r_x12 e_x12
      obtain ⟨c13, hw⟩ := hw
      refine sdCX1_row hx hb hK hP hD hS c13 dX1_takeRow_36 (fun H locs hP hD hS => ?_)
      have hN : n_m (s_a τ 77 u3 x12) := n_a (k := 77) (j := u3) hN (r_x12 : rg x12)
      have hF : f_r [50, 51, 52] [77, 78] [3] σ (s_a τ 77 u3 x12) := f_a hF (by decide)
      refine lv_aload_n hx hb dX1_takeRow_37 rfl (lv_at hl 0 rfl) ?_
      refine gfX1_leaf hx hb hts hK hP hown (hts _ tw_675) dX1_takeRow_38 ?_
      refine lv_iload_n hx hb dX1_takeRow_41 rfl (lv_at hl 2 rfl) ?_
      refine lv_aload_n hx hb dX1_takeRow_42 rfl (lv_at hl 0 rfl) ?_
      refine gfX1_library hx hb hts hK hP hown (hts _ tw_670) dX1_takeRow_43 ?_
      refine gfNX3_firstFloat hx hb hts hK hP hown (nb_use hNb tn_53) dX1_takeRow_46 ?_
      refine lv_aload_n hx hb dX1_takeRow_49 rfl (lv_at hl 1 rfl) ?_
      refine lv_iload_n hx hb dX1_takeRow_50 rfl (lv_at hl 2 rfl) ?_
      refine lv_iconst (v := I 1) hx hb dX1_takeRow_51 rfl ?_
      refine bi_iadd hx hb dX1_takeRow_52 ?_
      refine ldCX12_asked hx hb hK hP hN c11 dX1_takeRow_53 (fun x14 r_x14 e_x14 => ?_)
      replace hw := hw x14 r_x14 e_x14
      obtain ⟨c15, hw⟩ := hw
      refine ldCX3_firstFloat hx hb hK hP hN c15 dX1_takeRow_54 (fun x16 r_x16 e_x16 => ?_)
      replace hw := hw x16 r_x16 e_x16
      refine sdCX1_leaf hx hb hK hP hD hS c13 dX1_takeRow_55 (fun H locs hP hD hS => ?_)
      have hN : n_m (s_a (s_a τ 77 u3 x12) 78 u3 x16) := n_a (k := 78) (j := u3) hN (r_x16 : rg x16)
      have hF : f_r [50, 51, 52] [77, 78] [3] σ (s_a (s_a τ 77 u3 x12) 78 u3 x16) := f_a hF (by decide)
      refine lv_iinc (v := I (u3 + 1)) (lv' := [(3, .int (I (u3 + 1))), (0, .ref (q 9)), (1, .ref (q 14))]) hx hb dX1_takeRow_56 hl (k := 2) rfl (I_add _ _) (by decide) rfl (fun ls hl => ?_)
      refine lv_goto (tgt := 18) hx hb dX1_takeRow_59 (by decide) ?_
      exact (hP18 _ _).mp hw (rg_ix c11.1 c11.2 (by decide)) hN hF H locs ls hP hD hS (lv_sub hl [1, 2, 0] rfl)
def W_X5_putSymbols_q93 (n2 : Int) (n3 : Int) (σ : S0) (Q : S0 → Prop) : Prop :=
  ∀ (P3 : Int → Int → S0 → Prop),
  (∀ (u3 : Int) (u4 : Int) (τ : S0), ((u3 ≤ u4 → Q τ) ∧ (u4 < u3 → (¬ τ.1 64 = 0 → Q τ) ∧ (τ.1 64 = 0 → (0 ≤ u4 ∧ u4 < 60) ∧ (∀ (x4 : Int), rg x4 → x4 = τ.2.1 77 u4 → (∃ (Q5 : S0 → Prop), W_X5_putSymbol x4 τ Q5 ∧ ∀ (τ7 : S0), n_m τ7 → f_r [63, 64] [101, 102] [] τ τ7 → Q5 τ7 → (rg (u4 + 1) ∧ P3 u3 (u4 + 1) τ7)))))) → P3 u3 u4 τ) →
  P3 n3 n2 σ
set_option maxRecDepth 100000 in
set_option maxHeartbeats 4000000 in
theorem L_X5_putSymbols_q93 (l : Launch) (g : gG) (q : Nat → Nat) (lb : Nat) (hlb : lb < 2 ^ 31) {n2 : Int} {n3 : Int} {σ : S0} {Q : S0 → Prop} (r_n2 : rg n2) (r_n3 : rg n3) (hN : n_m σ) (hw : W_X5_putSymbols_q93 n2 n3 σ Q) (sz : Nat) : MetV l yX5_putSymbols cX5_putSymbols 5 { frames := 4, cells := 0, slots := 0, locals := 84 } g [.ref (q 12), .ref (q 93), .int (I n2), .int (I n3)] (CX g q lb σ) sz xT (p_V (CX g q lb) [63, 64] [101, 102] [] σ Q) 0 0 := by
  refine mkMet (Qc := fun A => QV g A (p_V (CX g q lb) [63, 64] [101, 102] [] σ Q)) (by decide) (Nat.le_of_ble_eq_true rfl) ?_
  intro p e s m below meth c A H ls hx hb hr hml hown hts hlk hnm hsz hP hK hNb hD hA hAe hS hX hl
  have hl : lv_has ls 5 [(0, .ref (q 12)), (1, .ref (q 93)), (2, .int (I n2)), (3, .int (I n3))] := hl
  have hB := hN
  have hF : f_r [63, 64] [101, 102] [] σ σ := f_0
  obtain ⟨locs, hlocs⟩ : ∃ z : List Loc, z = [] := ⟨_, rfl⟩
  rw [← hlocs] at hS ⊢
  obtain ⟨P3, hP3⟩ : ∃ P : Int → Int → S0 → Prop, ∀ (u3 : Int) (u4 : Int) (τ : S0), (P u3 u4 τ ↔ (rg u3 → rg u4 → n_m τ → f_r [63, 64] [101, 102] [] σ τ → ∀ (H : Heap) (locs : List Loc) (ls : Array Slot), KP g (CX g q lb τ) H → va_D A (CX g q lb τ) → va_S A s.heap H locs → lv_has ls 5 [(0, .ref (q 12)), (1, .ref (q 93)), (3, .int (I u3)), (4, .int (I u4))] → W p l e ({ frames := 4, cells := 0, slots := 0, locals := 84 }) s m [.ref (q 12), .ref (q 93), .int (I n2), .int (I n3)].toArray below meth c H locs 0 0 (MQ below (QV g A (p_V (CX g q lb) [63, 64] [101, 102] [] σ Q)) [.ref (q 12), .ref (q 93), .int (I n2), .int (I n3)].toArray s 0 0 A) (F0 m 3 ls []))) := ⟨_, fun _ _ _ => Iff.rfl⟩
  refine (fun hw => ?_) (hw P3 ?_)
  ·
    refine lv_iload_n hx hb dX5_putSymbols_0 rfl (lv_at hl 2 rfl) ?_
    refine lv_istore (lv' := [(4, .int (I n2)), (0, .ref (q 12)), (1, .ref (q 93)), (2, .int (I n2)), (3, .int (I n3))]) hx hb dX5_putSymbols_1 hl (by decide) rfl (fun ls hl => ?_)
    exact (hP3 _ _ _).mp hw r_n3 r_n2 hN hF H locs ls hP hD hS (lv_sub hl [1, 2, 4, 0] rfl)
  ·
    intro u3 u4 τ hw
    refine (hP3 _ _ _).mpr ?_
    intro r_u3 r_u4 hN hF H locs ls hP hD hS hl
    have hB := hN
    refine lv_iload hx hb dX5_putSymbols_3 (lv_at hl 3 rfl) ?_
    refine lv_iload_n hx hb dX5_putSymbols_5 rfl (lv_at hl 2 rfl) ?_
    refine bi_icmp_ge (tgt := 30) hx hb r_u4 r_u3 dX5_putSymbols_6 (by decide) (fun c1 => ?_) (fun c1 => ?_)
    ·
      replace hw := hw.1 c1
      exact xrv hx hb hr hlk hP hK hD hS ⟨_, hN, hF, rfl, hw⟩ (Nat.le_of_ble_eq_true rfl) (Nat.le_of_ble_eq_true rfl) dX5_putSymbols_30
    ·
      replace hw := hw.2 c1
      refine lv_aload_n hx hb dX5_putSymbols_9 rfl (lv_at hl 0 rfl) ?_
      refine gfX5_overflow hx hb hts hK hP hown (hts _ tw_868) (x := τ.1 64) rfl dX5_putSymbols_10 ?_
      refine bi_if_ne (tgt := 30) hx hb (hB.1 64) dX5_putSymbols_13 (by decide) (fun c2 => ?_) (fun c2 => ?_)
      ·
        replace hw := hw.1 c2
        exact xrv hx hb hr hlk hP hK hD hS ⟨_, hN, hF, rfl, hw⟩ (Nat.le_of_ble_eq_true rfl) (Nat.le_of_ble_eq_true rfl) dX5_putSymbols_30
      ·
        replace hw := hw.2 c2
        refine lv_aload_n hx hb dX5_putSymbols_16 rfl (lv_at hl 0 rfl) ?_
        refine lv_aload_n hx hb dX5_putSymbols_17 rfl (lv_at hl 1 rfl) ?_
        refine lv_iload hx hb dX5_putSymbols_18 (lv_at hl 3 rfl) ?_
        obtain ⟨c3, hw⟩ := hw
        refine ldCX1_row hx hb hK hP hN c3 dX5_putSymbols_20 (fun x4 r_x4 e_x4 => ?_)
        replace hw := hw x4 r_x4 e_x4
        obtain ⟨Q5, hc, hw⟩ := hw
        refine wc_V (X := CX g q lb) (va_runV (As := [.int (I x4)]) (rest := []) ⟨hx, hb, hml, hown, hts⟩ (L_X5_putSymbol l g q lb hlb r_x4 hN hc H.size) (cwV 1 hts (TB_V tw_1586 tw_1537 tw_1538 tw_14 co_X5_putSymbol) rfl rfl rfl (by decide +kernel) ⟨Nat.le_of_ble_eq_true rfl, Nat.le_of_ble_eq_true rfl⟩) (preV (q0 := 12) (ci := 5) rfl xT_bl hP hK hNb hD rfl rfl xT_at) rfl rfl hl.1 rfl (lv_room (Nat.le_of_ble_eq_true rfl)) dX5_putSymbols_21 ⟨Nat.le_of_ble_eq_true rfl, Nat.le_of_ble_eq_true rfl⟩) hP hD hS hA (fun τ7 H locs hN hf hq hP hD hS => ?_)
        replace hw := hw τ7 hN hf hq
        have hF : f_r [63, 64] [101, 102] [] σ τ7 := f_t hF hf (by decide) (by decide) (by decide)
        have hB := hN
        refine lv_iinc (v := I (u4 + 1)) (lv' := [(4, .int (I (u4 + 1))), (0, .ref (q 12)), (1, .ref (q 93)), (3, .int (I u3))]) hx hb dX5_putSymbols_24 hl (k := 3) rfl (I_add _ _) (by decide) rfl (fun ls hl => ?_)
        refine lv_goto (tgt := 3) hx hb dX5_putSymbols_27 (by decide) ?_
        obtain ⟨c8, hw⟩ := hw
        exact (hP3 _ _ _).mp hw r_u3 c8 hN hF H locs ls hP hD hS (lv_sub hl [1, 2, 3, 0] rfl)
def W_X12_printBound (n1 : Int) (σ : S0) (Q : S0 → Prop) : Prop :=
  ∀ (P10 : Int → Int → S0 → Prop),
  (∀ (u1 : Int) (u2 : Int) (τ : S0), ((0 ≤ (u1 + 1) ∧ (u1 + 1) < 1501) ∧ (∀ (x4 : Int), rg x4 → x4 = τ.2.1 14 (u1 + 1) → ((x4 ≤ u2 → Q τ) ∧ (u2 < x4 → (0 ≤ u2 ∧ u2 < 30000) ∧ (∀ (x7 : Int), rg x7 → x7 = τ.2.1 15 u2 → (∀ (x8 : Int), rg x8 → x8 = τ.2.1 16 u2 → ((¬ x8 = (-1) → (0 ≤ x7 ∧ x7 < 1000) ∧ (∀ (x11 : Int), rg x11 → x11 = τ.2.1 89 x7 → (∀ (x12 : Int), rg x12 → x12 = τ.2.1 90 x7 → (∃ (Q13 : S0 → Prop), W_X5_putSymbols_q93 x11 x12 τ Q13 ∧ ∀ (τ15 : S0), n_m τ15 → f_r [63, 64] [101, 102] [] τ τ15 → Q13 τ15 → (rg (u2 + 1) ∧ P10 u1 (u2 + 1) τ15))))) ∧ (x8 = (-1) → ∃ (Q17 : S0 → Prop), W_X5_putSymbol x7 τ Q17 ∧ ∀ (τ19 : S0), n_m τ19 → f_r [63, 64] [101, 102] [] τ τ19 → Q17 τ19 → (rg (u2 + 1) ∧ P10 u1 (u2 + 1) τ19))))))))) → P10 u1 u2 τ) →
  (0 ≤ n1 ∧ n1 < 1501) ∧ (∀ (x2 : Int), rg x2 → x2 = σ.2.1 14 n1 → (P10 n1 x2 σ))
set_option maxRecDepth 100000 in
set_option maxHeartbeats 4000000 in
theorem L_X12_printBound (l : Launch) (g : gG) (q : Nat → Nat) (lb : Nat) (hlb : lb < 2 ^ 31) {n1 : Int} {σ : S0} {Q : S0 → Prop} (r_n1 : rg n1) (hN : n_m σ) (hw : W_X12_printBound n1 σ Q) (sz : Nat) : MetV l yX12_printBound cX12_printBound 4 { frames := 5, cells := 0, slots := 0, locals := 108 } g [.ref (q 0), .int (I n1)] (CX g q lb σ) sz xT (p_V (CX g q lb) [63, 64] [101, 102] [] σ Q) 0 0 := by
  refine mkMet (Qc := fun A => QV g A (p_V (CX g q lb) [63, 64] [101, 102] [] σ Q)) (by decide) (Nat.le_of_ble_eq_true rfl) ?_
  intro p e s m below meth c A H ls hx hb hr hml hown hts hlk hnm hsz hP hK hNb hD hA hAe hS hX hl
  have hl : lv_has ls 4 [(0, .ref (q 0)), (1, .int (I n1))] := hl
  have hB := hN
  have hF : f_r [63, 64] [101, 102] [] σ σ := f_0
  obtain ⟨locs, hlocs⟩ : ∃ z : List Loc, z = [] := ⟨_, rfl⟩
  rw [← hlocs] at hS ⊢
  obtain ⟨P10, hP10⟩ : ∃ P : Int → Int → S0 → Prop, ∀ (u1 : Int) (u2 : Int) (τ : S0), (P u1 u2 τ ↔ (rg u1 → rg u2 → n_m τ → f_r [63, 64] [101, 102] [] σ τ → ∀ (H : Heap) (locs : List Loc) (ls : Array Slot), KP g (CX g q lb τ) H → va_D A (CX g q lb τ) → va_S A s.heap H locs → lv_has ls 4 [(0, .ref (q 0)), (1, .int (I u1)), (2, .int (I u2))] → W p l e ({ frames := 5, cells := 0, slots := 0, locals := 108 }) s m [.ref (q 0), .int (I n1)].toArray below meth c H locs 0 0 (MQ below (QV g A (p_V (CX g q lb) [63, 64] [101, 102] [] σ Q)) [.ref (q 0), .int (I n1)].toArray s 0 0 A) (F0 m 10 ls []))) := ⟨_, fun _ _ _ => Iff.rfl⟩
  refine (fun hw => ?_) (hw P10 ?_)
  ·
    refine lv_aload_n hx hb dX12_printBound_0 rfl (lv_at hl 0 rfl) ?_
    refine gfX12_library hx hb hts hK hP hown (hts _ tw_889) dX12_printBound_1 ?_
    refine gfNX3_at hx hb hts hK hP hown (nb_use hNb tn_83) dX12_printBound_4 ?_
    refine lv_iload_n hx hb dX12_printBound_7 rfl (lv_at hl 1 rfl) ?_
    obtain ⟨c1, hw⟩ := hw
    refine ldCX3_at hx hb hK hP hN c1 dX12_printBound_8 (fun x2 r_x2 e_x2 => ?_)
    replace hw := hw x2 r_x2 e_x2
    refine lv_istore_n (lv' := [(2, .int (I x2)), (0, .ref (q 0)), (1, .int (I n1))]) hx hb dX12_printBound_9 rfl hl (by decide) rfl (fun ls hl => ?_)
    exact (hP10 _ _ _).mp hw r_n1 r_x2 hN hF H locs ls hP hD hS (lv_sub hl [1, 2, 0] rfl)
  ·
    intro u1 u2 τ hw
    refine (hP10 _ _ _).mpr ?_
    intro r_u1 r_u2 hN hF H locs ls hP hD hS hl
    have hB := hN
    refine lv_iload_n hx hb dX12_printBound_10 rfl (lv_at hl 2 rfl) ?_
    refine lv_aload_n hx hb dX12_printBound_11 rfl (lv_at hl 0 rfl) ?_
    refine gfX12_library hx hb hts hK hP hown (hts _ tw_889) dX12_printBound_12 ?_
    refine gfNX3_at hx hb hts hK hP hown (nb_use hNb tn_83) dX12_printBound_15 ?_
    refine lv_iload_n hx hb dX12_printBound_18 rfl (lv_at hl 1 rfl) ?_
    refine lv_iconst (v := I 1) hx hb dX12_printBound_19 rfl ?_
    refine bi_iadd hx hb dX12_printBound_20 ?_
    obtain ⟨c3, hw⟩ := hw
    refine ldCX3_at hx hb hK hP hN c3 dX12_printBound_21 (fun x4 r_x4 e_x4 => ?_)
    replace hw := hw x4 r_x4 e_x4
    refine bi_icmp_ge (tgt := 97) hx hb r_u2 r_x4 dX12_printBound_22 (by decide) (fun c5 => ?_) (fun c5 => ?_)
    ·
      replace hw := hw.1 c5
      exact xrv hx hb hr hlk hP hK hD hS ⟨_, hN, hF, rfl, hw⟩ (Nat.le_of_ble_eq_true rfl) (Nat.le_of_ble_eq_true rfl) dX12_printBound_97
    ·
      replace hw := hw.2 c5
      refine lv_aload_n hx hb dX12_printBound_25 rfl (lv_at hl 0 rfl) ?_
      refine gfX12_library hx hb hts hK hP hown (hts _ tw_889) dX12_printBound_26 ?_
      refine gfNX3_text hx hb hts hK hP hown (nb_use hNb tn_90) dX12_printBound_29 ?_
      refine lv_iload_n hx hb dX12_printBound_32 rfl (lv_at hl 2 rfl) ?_
      obtain ⟨c6, hw⟩ := hw
      refine ldCX3_text hx hb hK hP hN c6 dX12_printBound_33 (fun x7 r_x7 e_x7 => ?_)
      replace hw := hw x7 r_x7 e_x7
      refine lv_istore_n (lv' := [(3, .int (I x7)), (0, .ref (q 0)), (1, .int (I u1)), (2, .int (I u2))]) hx hb dX12_printBound_34 rfl hl (by decide) rfl (fun ls hl => ?_)
      refine lv_aload_n hx hb dX12_printBound_35 rfl (lv_at hl 1 rfl) ?_
      refine gfX12_library hx hb hts hK hP hown (hts _ tw_889) dX12_printBound_36 ?_
      refine gfNX3_floats hx hb hts hK hP hown (nb_use hNb tn_100) dX12_printBound_39 ?_
      refine lv_iload_n hx hb dX12_printBound_42 rfl (lv_at hl 3 rfl) ?_
      refine ldCX3_floats hx hb hK hP hN c6 dX12_printBound_43 (fun x8 r_x8 e_x8 => ?_)
      replace hw := hw x8 r_x8 e_x8
      refine lv_iconst (v := I (-1)) hx hb dX12_printBound_44 rfl ?_
      refine bi_icmp_ne (tgt := 59) hx hb r_x8 (by decide) dX12_printBound_45 (by decide) (fun c9 => ?_) (fun c9 => ?_)
      ·
        replace hw := hw.1 c9
        refine lv_aload_n hx hb dX12_printBound_59 rfl (lv_at hl 1 rfl) ?_
        refine gfX12_paper hx hb hts hK hP hown (hts _ tw_899) dX12_printBound_60 ?_
        refine lv_aload_n hx hb dX12_printBound_63 rfl (lv_at hl 1 rfl) ?_
        refine gfX12_chart hx hb hts hK hP hown (hts _ tw_896) dX12_printBound_64 ?_
        refine gfNX1_row hx hb hts hK hP hown (nb_use hNb tn_674) dX12_printBound_67 ?_
        refine lv_aload_n hx hb dX12_printBound_70 rfl (lv_at hl 1 rfl) ?_
        refine gfX12_tree hx hb hts hK hP hown (hts _ tw_897) dX12_printBound_71 ?_
        refine gfNX11_spanFrom hx hb hts hK hP hown (nb_use hNb tn_753) dX12_printBound_74 ?_
        refine lv_iload_n hx hb dX12_printBound_77 rfl (lv_at hl 0 rfl) ?_
        obtain ⟨c10, hw⟩ := hw
        refine ldCX11_spanFrom hx hb hK hP hN c10 dX12_printBound_78 (fun x11 r_x11 e_x11 => ?_)
        replace hw := hw x11 r_x11 e_x11
        refine lv_aload_n hx hb dX12_printBound_79 rfl (lv_at hl 1 rfl) ?_
        refine gfX12_tree hx hb hts hK hP hown (hts _ tw_897) dX12_printBound_80 ?_
        refine gfNX11_spanTo hx hb hts hK hP hown (nb_use hNb tn_755) dX12_printBound_83 ?_
        refine lv_iload_n hx hb dX12_printBound_86 rfl (lv_at hl 0 rfl) ?_
        refine ldCX11_spanTo hx hb hK hP hN c10 dX12_printBound_87 (fun x12 r_x12 e_x12 => ?_)
        replace hw := hw x12 r_x12 e_x12
        obtain ⟨Q13, hc, hw⟩ := hw
        refine wc_V (X := CX g q lb) (va_runV (As := [.ref (q 93), .int (I x11), .int (I x12)]) (rest := []) ⟨hx, hb, hml, hown, hts⟩ (L_X5_putSymbols_q93 l g q lb hlb r_x11 r_x12 hN hc H.size) (cwV 3 hts (TB_V tw_1582 tw_1583 tw_1584 tw_14 co_X5_putSymbols) rfl rfl rfl (by decide +kernel) ⟨Nat.le_of_ble_eq_true rfl, Nat.le_of_ble_eq_true rfl⟩) (preV (q0 := 12) (ci := 5) rfl xT_bl hP hK hNb hD rfl rfl xT_at) rfl rfl hl.1 rfl (lv_room (Nat.le_of_ble_eq_true rfl)) dX12_printBound_88 ⟨Nat.le_of_ble_eq_true rfl, Nat.le_of_ble_eq_true rfl⟩) hP hD hS hA (fun τ15 H locs hN hf hq hP hD hS => ?_)
        replace hw := hw τ15 hN hf hq
        have hF : f_r [63, 64] [101, 102] [] σ τ15 := f_t hF hf (by decide) (by decide) (by decide)
        have hB := hN
        refine lv_iinc (v := I (u2 + 1)) (lv' := [(2, .int (I (u2 + 1))), (3, .int (I x7)), (0, .ref (q 0)), (1, .int (I u1))]) hx hb dX12_printBound_91 hl (k := 3) rfl (I_add _ _) (by decide) rfl (fun ls hl => ?_)
        refine lv_goto (tgt := 10) hx hb dX12_printBound_94 (by decide) ?_
        obtain ⟨c16, hw⟩ := hw
        exact (hP10 _ _ _).mp hw r_u1 c16 hN hF H locs ls hP hD hS (lv_sub hl [2, 3, 0] rfl)
      ·
        replace hw := hw.2 c9
        refine lv_aload_n hx hb dX12_printBound_48 rfl (lv_at hl 1 rfl) ?_
        refine gfX12_paper hx hb hts hK hP hown (hts _ tw_899) dX12_printBound_49 ?_
        refine lv_iload_n hx hb dX12_printBound_52 rfl (lv_at hl 0 rfl) ?_
        obtain ⟨Q17, hc, hw⟩ := hw
        refine wc_V (X := CX g q lb) (va_runV (As := [.int (I x7)]) (rest := []) ⟨hx, hb, hml, hown, hts⟩ (L_X5_putSymbol l g q lb hlb r_x7 hN hc H.size) (cwV 1 hts (TB_V tw_1536 tw_1537 tw_1538 tw_14 co_X5_putSymbol) rfl rfl rfl (by decide +kernel) ⟨Nat.le_of_ble_eq_true rfl, Nat.le_of_ble_eq_true rfl⟩) (preV (q0 := 12) (ci := 5) rfl xT_bl hP hK hNb hD rfl rfl xT_at) rfl rfl hl.1 rfl (lv_room (Nat.le_of_ble_eq_true rfl)) dX12_printBound_53 ⟨Nat.le_of_ble_eq_true rfl, Nat.le_of_ble_eq_true rfl⟩) hP hD hS hA (fun τ19 H locs hN hf hq hP hD hS => ?_)
        replace hw := hw τ19 hN hf hq
        have hF : f_r [63, 64] [101, 102] [] σ τ19 := f_t hF hf (by decide) (by decide) (by decide)
        have hB := hN
        refine lv_goto (tgt := 91) hx hb dX12_printBound_56 (by decide) ?_
        refine lv_iinc (v := I (u2 + 1)) (lv' := [(2, .int (I (u2 + 1))), (3, .int (I x7)), (0, .ref (q 0)), (1, .int (I u1))]) hx hb dX12_printBound_91 hl (k := 3) rfl (I_add _ _) (by decide) rfl (fun ls hl => ?_)
        refine lv_goto (tgt := 10) hx hb dX12_printBound_94 (by decide) ?_
        obtain ⟨c20, hw⟩ := hw
        exact (hP10 _ _ _).mp hw r_u1 c20 hN hF H locs ls hP hD hS (lv_sub hl [2, 3, 0] rfl)
def W_X12_printEssentials (n1 : Int) (σ : S0) (Q : Int → S0 → Prop) : Prop :=
  ∀ (P22 : Int → Int → Int → Int → S0 → Prop) (P80 : Int → Int → Int → Int → Int → S0 → Prop),
  (∀ (u1 : Int) (u2 : Int) (u3 : Int) (u4 : Int) (τ : S0), ((0 ≤ u1 ∧ u1 < 1500) ∧ (∀ (x7 : Int), rg x7 → x7 = τ.2.1 28 u1 → (rg (u3 + x7) ∧ ((u3 + x7) ≤ u4 → ∃ (Q10 : Int → S0 → Prop), W_X5_finish τ Q10 ∧ ∀ (x11 : Int) (τ12 : S0), rg x11 → n_m τ12 → f_r [65, 67] [] [] τ τ12 → Q10 x11 τ12 → ((¬ x11 = (-2) → Q u2 τ12) ∧ (x11 = (-2) → Q (-2) τ12))) ∧ (u4 < (u3 + x7) → (0 ≤ u4 ∧ u4 < 90000) ∧ (∀ (x15 : Int), rg x15 → x15 = τ.2.1 29 u4 → ((0 ≤ x15 ∧ x15 < 1500) ∧ (∀ (x17 : Int), rg x17 → x17 = τ.2.1 13 x15 → ((x17 = 1 → (u2 ≤ 0 → P80 u1 u2 u3 u4 x15 τ) ∧ (0 < u2 → ∃ (Q20 : S0 → Prop), W_X5_putToken 44 τ Q20 ∧ ∀ (τ22 : S0), n_m τ22 → f_r [63, 64] [101, 102] [] τ τ22 → Q20 τ22 → (P80 u1 u2 u3 u4 x15 τ22))) ∧ (¬ x17 = 1 → rg (u4 + 1) ∧ P22 u1 u2 u3 (u4 + 1) τ))))))))) → P22 u1 u2 u3 u4 τ) →
  (∀ (u1 : Int) (u2 : Int) (u3 : Int) (u4 : Int) (u5 : Int) (τ : S0), (∃ (Q24 : S0 → Prop), W_X12_printBound u5 τ Q24 ∧ ∀ (τ26 : S0), n_m τ26 → f_r [63, 64] [101, 102] [] τ τ26 → Q24 τ26 → (rg (u2 + 1) ∧ rg (u4 + 1) ∧ P22 u1 (u2 + 1) u3 (u4 + 1) τ26)) → P80 u1 u2 u3 u4 u5 τ) →
  ∃ (Q1 : S0 → Prop), W_X5_begin σ Q1 ∧ ∀ (τ3 : S0), n_m τ3 → f_r [63, 64] [] [] σ τ3 → Q1 τ3 → ((0 ≤ n1 ∧ n1 < 1500) ∧ (∀ (x5 : Int), rg x5 → x5 = τ3.2.1 27 n1 → (P22 n1 0 x5 x5 τ3)))
set_option maxRecDepth 100000 in
set_option maxHeartbeats 4000000 in
theorem L_X12_printEssentials (l : Launch) (g : gG) (q : Nat → Nat) (lb : Nat) (hlb : lb < 2 ^ 31) {n1 : Int} {σ : S0} {Q : Int → S0 → Prop} (r_n1 : rg n1) (hN : n_m σ) (hw : W_X12_printEssentials n1 σ Q) (sz : Nat) : MetI l yX12_printEssentials cX12_printEssentials 6 (some .int) { frames := 6, cells := 0, slots := 0, locals := 131 } g [.ref (q 0), .int (I n1)] (CX g q lb σ) sz xT (p_I (CX g q lb) [63, 64, 65, 67] [101, 102] [] σ Q) 0 0 := by
  refine mkMet (Qc := fun A => QI g A (p_I (CX g q lb) [63, 64, 65, 67] [101, 102] [] σ Q)) (by decide) (Nat.le_of_ble_eq_true rfl) ?_
  intro p e s m below meth c A H ls hx hb hr hml hown hts hlk hnm hsz hP hK hNb hD hA hAe hS hX hl
  have hl : lv_has ls 6 [(0, .ref (q 0)), (1, .int (I n1))] := hl
  have hB := hN
  have hF : f_r [63, 64, 65, 67] [101, 102] [] σ σ := f_0
  obtain ⟨locs, hlocs⟩ : ∃ z : List Loc, z = [] := ⟨_, rfl⟩
  rw [← hlocs] at hS ⊢
  obtain ⟨P22, hP22⟩ : ∃ P : Int → Int → Int → Int → S0 → Prop, ∀ (u1 : Int) (u2 : Int) (u3 : Int) (u4 : Int) (τ : S0), (P u1 u2 u3 u4 τ ↔ (rg u1 → rg u2 → rg u3 → rg u4 → n_m τ → f_r [63, 64, 65, 67] [101, 102] [] σ τ → ∀ (H : Heap) (locs : List Loc) (ls : Array Slot), KP g (CX g q lb τ) H → va_D A (CX g q lb τ) → va_S A s.heap H locs → lv_has ls 6 [(0, .ref (q 0)), (1, .int (I u1)), (2, .int (I u2)), (3, .int (I u3)), (4, .int (I u4))] → W p l e ({ frames := 6, cells := 0, slots := 0, locals := 131 }) s m [.ref (q 0), .int (I n1)].toArray below meth c H locs 0 0 (MQ below (QI g A (p_I (CX g q lb) [63, 64, 65, 67] [101, 102] [] σ Q)) [.ref (q 0), .int (I n1)].toArray s 0 0 A) (F0 m 22 ls []))) := ⟨_, fun _ _ _ _ _ => Iff.rfl⟩
  obtain ⟨P80, hP80⟩ : ∃ P : Int → Int → Int → Int → Int → S0 → Prop, ∀ (u1 : Int) (u2 : Int) (u3 : Int) (u4 : Int) (u5 : Int) (τ : S0), (P u1 u2 u3 u4 u5 τ ↔ (rg u1 → rg u2 → rg u3 → rg u4 → rg u5 → n_m τ → f_r [63, 64, 65, 67] [101, 102] [] σ τ → ∀ (H : Heap) (locs : List Loc) (ls : Array Slot), KP g (CX g q lb τ) H → va_D A (CX g q lb τ) → va_S A s.heap H locs → lv_has ls 6 [(0, .ref (q 0)), (1, .int (I u1)), (2, .int (I u2)), (3, .int (I u3)), (4, .int (I u4)), (5, .int (I u5))] → W p l e ({ frames := 6, cells := 0, slots := 0, locals := 131 }) s m [.ref (q 0), .int (I n1)].toArray below meth c H locs 0 0 (MQ below (QI g A (p_I (CX g q lb) [63, 64, 65, 67] [101, 102] [] σ Q)) [.ref (q 0), .int (I n1)].toArray s 0 0 A) (F0 m 80 ls []))) := ⟨_, fun _ _ _ _ _ _ => Iff.rfl⟩
  refine (fun hw => ?_) (hw P22 P80 ?_ ?_)
  ·
    refine lv_iconst (v := I 0) hx hb dX12_printEssentials_0 rfl ?_
    refine lv_istore_n (lv' := [(2, .int (I 0)), (0, .ref (q 0)), (1, .int (I n1))]) hx hb dX12_printEssentials_1 rfl hl (by decide) rfl (fun ls hl => ?_)
    refine lv_aload_n hx hb dX12_printEssentials_2 rfl (lv_at hl 1 rfl) ?_
    refine gfX12_paper hx hb hts hK hP hown (hts _ tw_899) dX12_printEssentials_3 ?_
    obtain ⟨Q1, hc, hw⟩ := hw
    refine wc_V (X := CX g q lb) (va_runV (As := []) (rest := []) ⟨hx, hb, hml, hown, hts⟩ (L_X5_begin l g q lb hlb  hN hc H.size) (cwV 0 hts (TB_V tw_1532 tw_1533 tw_1534 tw_14 co_X5_begin) rfl rfl rfl (by decide +kernel) ⟨Nat.le_of_ble_eq_true rfl, Nat.le_of_ble_eq_true rfl⟩) (preV (q0 := 12) (ci := 5) rfl xT_bl hP hK hNb hD rfl rfl xT_at) rfl rfl hl.1 rfl (lv_room (Nat.le_of_ble_eq_true rfl)) dX12_printEssentials_6 ⟨Nat.le_of_ble_eq_true rfl, Nat.le_of_ble_eq_true rfl⟩) hP hD hS hA (fun τ3 H locs hN hf hq hP hD hS => ?_)
    replace hw := hw τ3 hN hf hq
    have hF : f_r [63, 64, 65, 67] [101, 102] [] σ τ3 := f_t hF hf (by decide) (by decide) (by decide)
    have hB := hN
    refine lv_aload_n hx hb dX12_printEssentials_9 rfl (lv_at hl 1 rfl) ?_
    refine gfX12_assertions hx hb hts hK hP hown (hts _ tw_891) dX12_printEssentials_10 ?_
    refine gfNX0_frameAt hx hb hts hK hP hown (nb_use hNb tn_239) dX12_printEssentials_13 ?_
    refine lv_iload_n hx hb dX12_printEssentials_16 rfl (lv_at hl 2 rfl) ?_
    obtain ⟨c4, hw⟩ := hw
    refine ldCX0_frameAt hx hb hK hP hN c4 dX12_printEssentials_17 (fun x5 r_x5 e_x5 => ?_)
    replace hw := hw x5 r_x5 e_x5
    refine lv_istore_n (lv' := [(3, .int (I x5)), (2, .int (I 0)), (0, .ref (q 0)), (1, .int (I n1))]) hx hb dX12_printEssentials_18 rfl hl (by decide) rfl (fun ls hl => ?_)
    refine lv_iload_n hx hb dX12_printEssentials_19 rfl (lv_at hl 0 rfl) ?_
    refine lv_istore (lv' := [(4, .int (I x5)), (3, .int (I x5)), (2, .int (I 0)), (0, .ref (q 0)), (1, .int (I n1))]) hx hb dX12_printEssentials_20 hl (by decide) rfl (fun ls hl => ?_)
    exact (hP22 _ _ _ _ _).mp hw r_n1 (by decide) r_x5 r_x5 hN hF H locs ls hP hD hS (lv_sub hl [3, 4, 2, 1, 0] rfl)
  ·
    intro u1 u2 u3 u4 τ hw
    refine (hP22 _ _ _ _ _).mpr ?_
    intro r_u1 r_u2 r_u3 r_u4 hN hF H locs ls hP hD hS hl
    have hB := hN
    refine lv_iload hx hb dX12_printEssentials_22 (lv_at hl 4 rfl) ?_
    refine lv_iload_n hx hb dX12_printEssentials_24 rfl (lv_at hl 3 rfl) ?_
    refine lv_aload_n hx hb dX12_printEssentials_25 rfl (lv_at hl 0 rfl) ?_
    refine gfX12_assertions hx hb hts hK hP hown (hts _ tw_891) dX12_printEssentials_26 ?_
    refine gfNX0_frameSize hx hb hts hK hP hown (nb_use hNb tn_247) dX12_printEssentials_29 ?_
    refine lv_iload_n hx hb dX12_printEssentials_32 rfl (lv_at hl 1 rfl) ?_
    obtain ⟨c6, hw⟩ := hw
    refine ldCX0_frameSize hx hb hK hP hN c6 dX12_printEssentials_33 (fun x7 r_x7 e_x7 => ?_)
    replace hw := hw x7 r_x7 e_x7
    refine bi_iadd hx hb dX12_printEssentials_34 ?_
    obtain ⟨c8, hw⟩ := hw
    refine bi_icmp_ge (tgt := 95) hx hb r_u4 c8 dX12_printEssentials_35 (by decide) (fun c9 => ?_) (fun c9 => ?_)
    ·
      replace hw := hw.1 c9
      refine lv_aload_n hx hb dX12_printEssentials_95 rfl (lv_at hl 0 rfl) ?_
      refine gfX12_paper hx hb hts hK hP hown (hts _ tw_899) dX12_printEssentials_96 ?_
      obtain ⟨Q10, hc, hw⟩ := hw
      refine wc_I (X := CX g q lb) (va_runV (As := []) (rest := []) ⟨hx, hb, hml, hown, hts⟩ (L_X5_finish l g q lb hlb  hN hc H.size) (cwV 0 hts (TB_V tw_1552 tw_1553 tw_1554 tw_14 co_X5_finish) rfl rfl rfl (by decide +kernel) ⟨Nat.le_of_ble_eq_true rfl, Nat.le_of_ble_eq_true rfl⟩) (preV (q0 := 12) (ci := 5) rfl xT_bl hP hK hNb hD rfl rfl xT_at) rfl rfl hl.1 rfl (lv_room (Nat.le_of_ble_eq_true rfl)) dX12_printEssentials_99 ⟨Nat.le_of_ble_eq_true rfl, Nat.le_of_ble_eq_true rfl⟩) hP hD hS hA (fun x11 τ12 H locs r_x11 hN hf hq hP hD hS => ?_)
      replace hw := hw x11 τ12 r_x11 hN hf hq
      have hF : f_r [63, 64, 65, 67] [101, 102] [] σ τ12 := f_t hF hf (by decide) (by decide) (by decide)
      have hB := hN
      refine lv_istore (lv' := [(4, .int (I x11)), (0, .ref (q 0)), (1, .int (I u1)), (2, .int (I u2)), (3, .int (I u3))]) hx hb dX12_printEssentials_102 hl (by decide) rfl (fun ls hl => ?_)
      refine lv_iload hx hb dX12_printEssentials_104 (lv_at hl 0 rfl) ?_
      refine lv_bipush (v := I (-2)) hx hb dX12_printEssentials_106 (by decide) ?_
      refine bi_icmp_ne (tgt := 116) hx hb r_x11 (by decide) dX12_printEssentials_108 (by decide) (fun c13 => ?_) (fun c13 => ?_)
      ·
        replace hw := hw.1 c13
        refine lv_iload_n hx hb dX12_printEssentials_116 rfl (lv_at hl 3 rfl) ?_
        exact xri hx hb hr hlk hP hK hD hS ⟨_, _, r_u2, rfl, hN, hF, rfl, hw⟩ (Nat.le_of_ble_eq_true rfl) (Nat.le_of_ble_eq_true rfl) dX12_printEssentials_117
      ·
        replace hw := hw.2 c13
        refine lv_bipush (v := I (-2)) hx hb dX12_printEssentials_111 (by decide) ?_
        refine lv_goto (tgt := 117) hx hb dX12_printEssentials_113 (by decide) ?_
        exact xri hx hb hr hlk hP hK hD hS ⟨_, _, (by decide), rfl, hN, hF, rfl, hw⟩ (Nat.le_of_ble_eq_true rfl) (Nat.le_of_ble_eq_true rfl) dX12_printEssentials_117
    ·
      replace hw := hw.2 c9
      refine lv_aload_n hx hb dX12_printEssentials_38 rfl (lv_at hl 0 rfl) ?_
      refine gfX12_assertions hx hb hts hK hP hown (hts _ tw_891) dX12_printEssentials_39 ?_
      refine gfNX0_hypotheses hx hb hts hK hP hown (nb_use hNb tn_254) dX12_printEssentials_42 ?_
      refine lv_iload hx hb dX12_printEssentials_45 (lv_at hl 4 rfl) ?_
      obtain ⟨c14, hw⟩ := hw
      refine ldCX0_hypotheses hx hb hK hP hN c14 dX12_printEssentials_47 (fun x15 r_x15 e_x15 => ?_)
      replace hw := hw x15 r_x15 e_x15
      refine lv_istore (lv' := [(5, .int (I x15)), (0, .ref (q 0)), (1, .int (I u1)), (2, .int (I u2)), (3, .int (I u3)), (4, .int (I u4))]) hx hb dX12_printEssentials_48 hl (by decide) rfl (fun ls hl => ?_)
      refine lv_aload_n hx hb dX12_printEssentials_50 rfl (lv_at hl 1 rfl) ?_
      refine gfX12_library hx hb hts hK hP hown (hts _ tw_889) dX12_printEssentials_51 ?_
      refine gfNX3_kind hx hb hts hK hP hown (nb_use hNb tn_75) dX12_printEssentials_54 ?_
      refine lv_iload hx hb dX12_printEssentials_57 (lv_at hl 0 rfl) ?_
      obtain ⟨c16, hw⟩ := hw
      refine ldCX3_kind hx hb hK hP hN c16 dX12_printEssentials_59 (fun x17 r_x17 e_x17 => ?_)
      replace hw := hw x17 r_x17 e_x17
      refine lv_iconst (v := I 1) hx hb dX12_printEssentials_60 rfl ?_
      refine bi_icmp_eq (tgt := 67) hx hb r_x17 (by decide) dX12_printEssentials_61 (by decide) (fun c18 => ?_) (fun c18 => ?_)
      ·
        replace hw := hw.1 c18
        refine lv_iload_n hx hb dX12_printEssentials_67 rfl (lv_at hl 3 rfl) ?_
        refine bi_if_le (tgt := 80) hx hb r_u2 dX12_printEssentials_68 (by decide) (fun c19 => ?_) (fun c19 => ?_)
        ·
          replace hw := hw.1 c19
          exact (hP80 _ _ _ _ _ _).mp hw r_u1 r_u2 r_u3 r_u4 r_x15 hN hF H locs ls hP hD hS (lv_sub hl [1, 2, 3, 4, 5, 0] rfl)
        ·
          replace hw := hw.2 c19
          refine lv_aload_n hx hb dX12_printEssentials_71 rfl (lv_at hl 1 rfl) ?_
          refine gfX12_paper hx hb hts hK hP hown (hts _ tw_899) dX12_printEssentials_72 ?_
          refine lv_bipush (v := I 44) hx hb dX12_printEssentials_75 (by decide) ?_
          obtain ⟨Q20, hc, hw⟩ := hw
          refine wc_V (X := CX g q lb) (va_runV (As := [.int (I 44)]) (rest := []) ⟨hx, hb, hml, hown, hts⟩ (L_X5_putToken l g q lb hlb (by decide) hN hc H.size) (cwV 1 hts (TB_V tw_1637 tw_1638 tw_1639 tw_14 co_X5_putToken) rfl rfl rfl (by decide +kernel) ⟨Nat.le_of_ble_eq_true rfl, Nat.le_of_ble_eq_true rfl⟩) (preV (q0 := 12) (ci := 5) rfl xT_bl hP hK hNb hD rfl rfl xT_at) rfl rfl hl.1 rfl (lv_room (Nat.le_of_ble_eq_true rfl)) dX12_printEssentials_77 ⟨Nat.le_of_ble_eq_true rfl, Nat.le_of_ble_eq_true rfl⟩) hP hD hS hA (fun τ22 H locs hN hf hq hP hD hS => ?_)
          replace hw := hw τ22 hN hf hq
          have hF : f_r [63, 64, 65, 67] [101, 102] [] σ τ22 := f_t hF hf (by decide) (by decide) (by decide)
          have hB := hN
          exact (hP80 _ _ _ _ _ _).mp hw r_u1 r_u2 r_u3 r_u4 r_x15 hN hF H locs ls hP hD hS (lv_sub hl [1, 2, 3, 4, 5, 0] rfl)
      ·
        replace hw := hw.2 c18
        refine lv_goto (tgt := 89) hx hb dX12_printEssentials_64 (by decide) ?_
        refine lv_iinc (v := I (u4 + 1)) (lv' := [(4, .int (I (u4 + 1))), (5, .int (I x15)), (0, .ref (q 0)), (1, .int (I u1)), (2, .int (I u2)), (3, .int (I u3))]) hx hb dX12_printEssentials_89 hl (k := 5) rfl (I_add _ _) (by decide) rfl (fun ls hl => ?_)
        refine lv_goto (tgt := 22) hx hb dX12_printEssentials_92 (by decide) ?_
        obtain ⟨c23, hw⟩ := hw
        exact (hP22 _ _ _ _ _).mp hw r_u1 r_u2 r_u3 c23 hN hF H locs ls hP hD hS (lv_sub hl [2, 3, 4, 5, 0] rfl)
  ·
    intro u1 u2 u3 u4 u5 τ hw
    refine (hP80 _ _ _ _ _ _).mpr ?_
    intro r_u1 r_u2 r_u3 r_u4 r_u5 hN hF H locs ls hP hD hS hl
    have hB := hN
    refine lv_iinc (v := I (u2 + 1)) (lv' := [(2, .int (I (u2 + 1))), (0, .ref (q 0)), (1, .int (I u1)), (3, .int (I u3)), (4, .int (I u4)), (5, .int (I u5))]) hx hb dX12_printEssentials_80 hl (k := 2) rfl (I_add _ _) (by decide) rfl (fun ls hl => ?_)
    refine lv_aload_n hx hb dX12_printEssentials_83 rfl (lv_at hl 1 rfl) ?_
    refine lv_iload hx hb dX12_printEssentials_84 (lv_at hl 5 rfl) ?_
    obtain ⟨Q24, hc, hw⟩ := hw
    refine wc_V (X := CX g q lb) (va_runV (As := [.int (I u5)]) (rest := []) ⟨hx, hb, hml, hown, hts⟩ (L_X12_printBound l g q lb hlb r_u5 hN hc H.size) (cwV 1 hts (TB_V tw_1950 tw_1952 ts_97 tw_1 co_X12_printBound) rfl rfl rfl (by decide +kernel) ⟨Nat.le_of_ble_eq_true rfl, Nat.le_of_ble_eq_true rfl⟩) (preV (q0 := 0) (ci := 12) rfl xT_bl hP hK hNb hD rfl rfl xT_at) rfl rfl hl.1 rfl (lv_room (Nat.le_of_ble_eq_true rfl)) dX12_printEssentials_86 ⟨Nat.le_of_ble_eq_true rfl, Nat.le_of_ble_eq_true rfl⟩) hP hD hS hA (fun τ26 H locs hN hf hq hP hD hS => ?_)
    replace hw := hw τ26 hN hf hq
    have hF : f_r [63, 64, 65, 67] [101, 102] [] σ τ26 := f_t hF hf (by decide) (by decide) (by decide)
    have hB := hN
    refine lv_iinc (v := I (u4 + 1)) (lv' := [(4, .int (I (u4 + 1))), (2, .int (I (u2 + 1))), (0, .ref (q 0)), (1, .int (I u1)), (3, .int (I u3)), (5, .int (I u5))]) hx hb dX12_printEssentials_89 hl (k := 4) rfl (I_add _ _) (by decide) rfl (fun ls hl => ?_)
    refine lv_goto (tgt := 22) hx hb dX12_printEssentials_92 (by decide) ?_
    obtain ⟨c27, hw⟩ := hw
    obtain ⟨c28, hw⟩ := hw
    exact (hP22 _ _ _ _ _).mp hw r_u1 c27 r_u3 c28 hN hF H locs ls hP hD hS (lv_sub hl [2, 3, 1, 4, 0] rfl)
def W_X12_apply (n1 : Int) (σ : S0) (Q : Int → S0 → Prop) : Prop :=
  ∃ (Q1 : Int → S0 → Prop), W_X12_takeRow σ Q1 ∧ ∀ (x2 : Int) (τ3 : S0), rg x2 → n_m τ3 → f_r [0, 1] [1] [] σ τ3 → Q1 x2 τ3 → (∃ (Q4 : Int → Prop), W_X3_isAssertion n1 τ3 Q4 ∧ ∀ (x5 : Int), rg x5 → Q4 x5 → ((x5 = 0 → Q (-1) τ3) ∧ (¬ x5 = 0 → (0 < x2 → (60 < x2 → Q (-2) τ3) ∧ (x2 ≤ 60 → ∃ (Q10 : Int → Prop), W_X3_lengthOf n1 τ3 Q10 ∧ ∀ (x11 : Int), rg x11 → Q10 x11 → ((x11 ≤ 60 → ∀ (x14 : Int), rg x14 → x14 = τ3.2.1 1 0 → (∃ (Q15 : Int → Prop), W_X3_typeOf n1 τ3 Q15 ∧ ∀ (x16 : Int), rg x16 → Q15 x16 → ((¬ x14 = x16 → Q (-1) τ3) ∧ (x14 = x16 → ∃ (Q19 : Int → S0 → Prop), W_X12_treesOf n1 τ3 Q19 ∧ ∀ (x20 : Int) (τ21 : S0), rg x20 → n_m τ21 → f_r [45, 46, 47, 48, 49, 50, 51, 52, 53] [67, 68, 69, 70, 71, 72, 73, 74, 75, 76, 77, 78, 79, 80, 81, 82, 83] [3, 4, 5, 6, 7] τ3 τ21 → Q19 x20 τ21 → ((x20 = 1 → ∃ (Q23 : S0 → Prop), W_X11_grow τ21 Q23 ∧ ∀ (τ25 : S0), n_m τ25 → f_r [54] [84, 85, 86, 88, 89, 90] [8] τ21 τ25 → Q23 τ25 → (∃ (Q26 : S0 → Prop), W_X11_keepPattern τ25 Q26 ∧ ∀ (τ28 : S0), n_m τ28 → f_r [55] [87] [] τ25 τ28 → Q26 τ28 → (∃ (Q29 : S0 → Prop), W_X1_takeRow_q14 x2 τ28 Q29 ∧ ∀ (τ31 : S0), n_m τ31 → f_r [50, 51, 52] [77, 78] [3] τ28 τ31 → Q29 τ31 → (∃ (Q32 : Int → S0 → Prop), W_X1_countTrees τ31 Q32 ∧ ∀ (x33 : Int) (τ34 : S0), rg x33 → n_m τ34 → f_r [53] [79, 80, 81, 82, 83] [3, 4, 5, 6, 7] τ31 τ34 → Q32 x33 τ34 → ((x33 = 1 → ∃ (Q36 : S0 → Prop), W_X11_grow τ34 Q36 ∧ ∀ (τ38 : S0), n_m τ38 → f_r [54] [84, 85, 86, 88, 89, 90] [8] τ34 τ38 → Q36 τ38 → (∃ (Q39 : Int → S0 → Prop), W_X11_fitsPattern τ38 Q39 ∧ ∀ (x40 : Int) (τ41 : S0), rg x40 → n_m τ41 → f_r [56] [89, 90, 91] [] τ38 τ41 → Q39 x40 τ41 → ((x40 = 0 → Q (-1) τ41) ∧ (¬ x40 = 0 → ∃ (Q43 : Int → Prop), W_X11_bindsEssentials n1 τ41 Q43 ∧ ∀ (x44 : Int), rg x44 → Q43 x44 → ((¬ x44 = 0 → ∃ (Q47 : Int → S0 → Prop), W_X12_printEssentials n1 τ41 Q47 ∧ ∀ (x48 : Int) (τ49 : S0), rg x48 → n_m τ49 → f_r [63, 64, 65, 67] [101, 102] [] τ41 τ49 → Q47 x48 τ49 → (Q x48 τ49)) ∧ (x44 = 0 → Q (-1) τ41)))))) ∧ (¬ x33 = 1 → Q (-1) τ34)))))) ∧ (¬ x20 = 1 → Q (-1) τ21)))))) ∧ (60 < x11 → Q (-2) τ3)))) ∧ (x2 ≤ 0 → Q (-1) τ3))))
set_option maxRecDepth 100000 in
set_option maxHeartbeats 4000000 in
theorem L_X12_apply (l : Launch) (g : gG) (t1 t2 : Nat) (q : Nat → Nat) (lb : Nat) (hlb : lb < 2 ^ 31) {n1 : Int} {σ : S0} {Q : Int → S0 → Prop} (r_n1 : rg n1) (hN : n_m σ) (hw : W_X12_apply n1 σ Q) (sz : Nat) : MetI l yX12_apply cX12_apply 3 (some .int) { frames := 7, cells := 0, slots := 0, locals := 156 } g [.ref (q 0), .int (I n1)] (CX g q lb σ) sz (sX t1 t2 (va_A (CX g q lb σ) sz)) (p_I (CX g q lb) [0, 1, 45, 46, 47, 48, 49, 50, 51, 52, 53, 54, 55, 56, 63, 64, 65, 67] [1, 67, 68, 69, 70, 71, 72, 73, 74, 75, 76, 77, 78, 79, 80, 81, 82, 83, 84, 85, 86, 87, 88, 89, 90, 91, 101, 102] [3, 4, 5, 6, 7, 8] σ Q) 0 0 := by
  refine mkMet (Qc := fun A => QI g A (p_I (CX g q lb) [0, 1, 45, 46, 47, 48, 49, 50, 51, 52, 53, 54, 55, 56, 63, 64, 65, 67] [1, 67, 68, 69, 70, 71, 72, 73, 74, 75, 76, 77, 78, 79, 80, 81, 82, 83, 84, 85, 86, 87, 88, 89, 90, 91, 101, 102] [3, 4, 5, 6, 7, 8] σ Q)) (by decide) (Nat.le_of_ble_eq_true rfl) ?_
  intro p e s m below meth c A H ls hx hb hr hml hown hts hlk hnm hsz hP hK hNb hD hA hAe hS hX hl
  rw [← hAe] at hX
  have hl : lv_has ls 3 [(0, .ref (q 0)), (1, .int (I n1))] := hl
  have hB := hN
  have hF : f_r [0, 1, 45, 46, 47, 48, 49, 50, 51, 52, 53, 54, 55, 56, 63, 64, 65, 67] [1, 67, 68, 69, 70, 71, 72, 73, 74, 75, 76, 77, 78, 79, 80, 81, 82, 83, 84, 85, 86, 87, 88, 89, 90, 91, 101, 102] [3, 4, 5, 6, 7, 8] σ σ := f_0
  obtain ⟨locs, hlocs⟩ : ∃ z : List Loc, z = [] := ⟨_, rfl⟩
  rw [← hlocs] at hS ⊢
  refine lv_aload_n hx hb dX12_apply_0 rfl (lv_at hl 0 rfl) ?_
  obtain ⟨Q1, hc, hw⟩ := hw
  refine wc_I (X := CX g q lb) (va_runV (As := []) (rest := []) ⟨hx, hb, hml, hown, hts⟩ (L_X12_takeRow l g q lb hlb  hN hc H.size) (cwV 0 hts (TB_V tw_1919 tw_1921 ts_94 tw_1 co_X12_takeRow) rfl rfl rfl (by decide +kernel) ⟨Nat.le_of_ble_eq_true rfl, Nat.le_of_ble_eq_true rfl⟩) (preV (q0 := 0) (ci := 12) rfl xT_bl hP hK hNb hD rfl rfl xT_at) rfl rfl hl.1 rfl (lv_room (Nat.le_of_ble_eq_true rfl)) dX12_apply_1 ⟨Nat.le_of_ble_eq_true rfl, Nat.le_of_ble_eq_true rfl⟩) hP hD hS hA (fun x2 τ3 H locs r_x2 hN hf hq hP hD hS => ?_)
  replace hw := hw x2 τ3 r_x2 hN hf hq
  have hF : f_r [0, 1, 45, 46, 47, 48, 49, 50, 51, 52, 53, 54, 55, 56, 63, 64, 65, 67] [1, 67, 68, 69, 70, 71, 72, 73, 74, 75, 76, 77, 78, 79, 80, 81, 82, 83, 84, 85, 86, 87, 88, 89, 90, 91, 101, 102] [3, 4, 5, 6, 7, 8] σ τ3 := f_t hF hf (by decide) (by decide) (by decide)
  have hB := hN
  refine lv_istore_n (lv' := [(2, .int (I x2)), (0, .ref (q 0)), (1, .int (I n1))]) hx hb dX12_apply_4 rfl hl (by decide) rfl (fun ls hl => ?_)
  refine lv_aload_n hx hb dX12_apply_5 rfl (lv_at hl 1 rfl) ?_
  refine gfX12_library hx hb hts hK hP hown (hts _ tw_889) dX12_apply_6 ?_
  refine lv_iload_n hx hb dX12_apply_9 rfl (lv_at hl 2 rfl) ?_
  obtain ⟨Q4, hc, hw⟩ := hw
  refine wc_i (X := CX g q lb) (va_runV (As := [.int (I n1)]) (rest := []) ⟨hx, hb, hml, hown, hts⟩ (L_X3_isAssertion l g q lb hlb r_n1 hN hc H.size) (cwV 1 hts (TB_V tw_1455 tw_1456 tw_1457 tw_2 co_X3_isAssertion) rfl rfl rfl (by decide +kernel) ⟨Nat.le_of_ble_eq_true rfl, Nat.le_of_ble_eq_true rfl⟩) (preV (q0 := 1) (ci := 3) rfl xT_bl hP hK hNb hD rfl rfl xT_at) rfl rfl hl.1 rfl (lv_room (Nat.le_of_ble_eq_true rfl)) dX12_apply_10 ⟨Nat.le_of_ble_eq_true rfl, Nat.le_of_ble_eq_true rfl⟩) hP hD hS hA (fun x5 H locs r_x5 hq hP hD hS => ?_)
  replace hw := hw x5 r_x5 hq
  refine bi_if_eq (tgt := 20) hx hb r_x5 dX12_apply_13 (by decide) (fun c7 => ?_) (fun c7 => ?_)
  ·
    replace hw := hw.1 c7
    refine lv_iconst (v := I (-1)) hx hb dX12_apply_20 rfl ?_
    exact xri hx hb hr hlk hP hK hD hS ⟨_, _, (by decide), rfl, hN, hF, rfl, hw⟩ (Nat.le_of_ble_eq_true rfl) (Nat.le_of_ble_eq_true rfl) dX12_apply_21
  ·
    replace hw := hw.2 c7
    refine lv_iload_n hx hb dX12_apply_16 rfl (lv_at hl 0 rfl) ?_
    refine bi_if_gt (tgt := 22) hx hb r_x2 dX12_apply_17 (by decide) (fun c8 => ?_) (fun c8 => ?_)
    ·
      replace hw := hw.1 c8
      refine lv_iload_n hx hb dX12_apply_22 rfl (lv_at hl 0 rfl) ?_
      refine lv_bipush (v := I 60) hx hb dX12_apply_23 (by decide) ?_
      refine bi_icmp_gt (tgt := 41) hx hb r_x2 (by decide) dX12_apply_25 (by decide) (fun c9 => ?_) (fun c9 => ?_)
      ·
        replace hw := hw.1 c9
        refine lv_bipush (v := I (-2)) hx hb dX12_apply_41 (by decide) ?_
        exact xri hx hb hr hlk hP hK hD hS ⟨_, _, (by decide), rfl, hN, hF, rfl, hw⟩ (Nat.le_of_ble_eq_true rfl) (Nat.le_of_ble_eq_true rfl) dX12_apply_43
      ·
        replace hw := hw.2 c9
        refine lv_aload_n hx hb dX12_apply_28 rfl (lv_at hl 1 rfl) ?_
        refine gfX12_library hx hb hts hK hP hown (hts _ tw_889) dX12_apply_29 ?_
        refine lv_iload_n hx hb dX12_apply_32 rfl (lv_at hl 2 rfl) ?_
        obtain ⟨Q10, hc, hw⟩ := hw
        refine wc_i (X := CX g q lb) (va_runV (As := [.int (I n1)]) (rest := []) ⟨hx, hb, hml, hown, hts⟩ (L_X3_lengthOf l g q lb hlb r_n1 hN hc H.size) (cwV 1 hts (TB_V tw_1421 tw_1292 tw_1293 tw_2 co_X3_lengthOf) rfl rfl rfl (by decide +kernel) ⟨Nat.le_of_ble_eq_true rfl, Nat.le_of_ble_eq_true rfl⟩) (preV (q0 := 1) (ci := 3) rfl xT_bl hP hK hNb hD rfl rfl xT_at) rfl rfl hl.1 rfl (lv_room (Nat.le_of_ble_eq_true rfl)) dX12_apply_33 ⟨Nat.le_of_ble_eq_true rfl, Nat.le_of_ble_eq_true rfl⟩) hP hD hS hA (fun x11 H locs r_x11 hq hP hD hS => ?_)
        replace hw := hw x11 r_x11 hq
        refine lv_bipush (v := I 60) hx hb dX12_apply_36 (by decide) ?_
        refine bi_icmp_le (tgt := 44) hx hb r_x11 (by decide) dX12_apply_38 (by decide) (fun c13 => ?_) (fun c13 => ?_)
        ·
          replace hw := hw.1 c13
          refine lv_aload_n hx hb dX12_apply_44 rfl (lv_at hl 1 rfl) ?_
          refine gfX12_asked hx hb hts hK hP hown (hts _ tw_888) dX12_apply_45 ?_
          refine lv_iconst (v := I 0) hx hb dX12_apply_48 rfl ?_
          refine ldCX12_asked hx hb hK hP hN (by decide) dX12_apply_49 (fun x14 r_x14 e_x14 => ?_)
          replace hw := hw x14 r_x14 e_x14
          refine lv_aload_n hx hb dX12_apply_50 rfl (lv_at hl 1 rfl) ?_
          refine gfX12_library hx hb hts hK hP hown (hts _ tw_889) dX12_apply_51 ?_
          refine lv_iload_n hx hb dX12_apply_54 rfl (lv_at hl 2 rfl) ?_
          obtain ⟨Q15, hc, hw⟩ := hw
          refine wc_i (X := CX g q lb) (va_runV (As := [.int (I n1)]) (rest := [.int (I x14)]) ⟨hx, hb, hml, hown, hts⟩ (L_X3_typeOf l g q lb hlb r_n1 hN hc H.size) (cwV 1 hts (TB_V tw_1923 tw_1208 tw_1209 tw_2 co_X3_typeOf) rfl rfl rfl (by decide +kernel) ⟨Nat.le_of_ble_eq_true rfl, Nat.le_of_ble_eq_true rfl⟩) (preV (q0 := 1) (ci := 3) rfl xT_bl hP hK hNb hD rfl rfl xT_at) rfl rfl hl.1 rfl (lv_room (Nat.le_of_ble_eq_true rfl)) dX12_apply_55 ⟨Nat.le_of_ble_eq_true rfl, Nat.le_of_ble_eq_true rfl⟩) hP hD hS hA (fun x16 H locs r_x16 hq hP hD hS => ?_)
          replace hw := hw x16 r_x16 hq
          refine bi_icmp_ne (tgt := 70) hx hb r_x14 r_x16 dX12_apply_58 (by decide) (fun c18 => ?_) (fun c18 => ?_)
          ·
            replace hw := hw.1 c18
            refine lv_iconst (v := I (-1)) hx hb dX12_apply_70 rfl ?_
            exact xri hx hb hr hlk hP hK hD hS ⟨_, _, (by decide), rfl, hN, hF, rfl, hw⟩ (Nat.le_of_ble_eq_true rfl) (Nat.le_of_ble_eq_true rfl) dX12_apply_71
          ·
            replace hw := hw.2 c18
            refine lv_aload_n hx hb dX12_apply_61 rfl (lv_at hl 1 rfl) ?_
            refine lv_iload_n hx hb dX12_apply_62 rfl (lv_at hl 2 rfl) ?_
            obtain ⟨Q19, hc, hw⟩ := hw
            refine wc_I (X := CX g q lb) (va_runV (As := [.int (I n1)]) (rest := []) ⟨hx, hb, hml, hown, hts⟩ (L_X12_treesOf l g t1 t2 q lb hlb r_n1 hN hc H.size) (cwV 1 hts (TB_V tw_1667 tw_1669 ts_66 tw_1 co_X12_treesOf) rfl rfl rfl (by decide +kernel) ⟨Nat.le_of_ble_eq_true rfl, Nat.le_of_ble_eq_true rfl⟩) (preV (q0 := 0) (ci := 12) rfl sX_bl hP hK hNb hD rfl rfl (sX_call hX hS (d_full hD hS hA))) rfl rfl hl.1 rfl (lv_room (Nat.le_of_ble_eq_true rfl)) dX12_apply_63 ⟨Nat.le_of_ble_eq_true rfl, Nat.le_of_ble_eq_true rfl⟩) hP hD hS hA (fun x20 τ21 H locs r_x20 hN hf hq hP hD hS => ?_)
            replace hw := hw x20 τ21 r_x20 hN hf hq
            have hF : f_r [0, 1, 45, 46, 47, 48, 49, 50, 51, 52, 53, 54, 55, 56, 63, 64, 65, 67] [1, 67, 68, 69, 70, 71, 72, 73, 74, 75, 76, 77, 78, 79, 80, 81, 82, 83, 84, 85, 86, 87, 88, 89, 90, 91, 101, 102] [3, 4, 5, 6, 7, 8] σ τ21 := f_t hF hf (by decide) (by decide) (by decide)
            have hB := hN
            refine lv_iconst (v := I 1) hx hb dX12_apply_66 rfl ?_
            refine bi_icmp_eq (tgt := 72) hx hb r_x20 (by decide) dX12_apply_67 (by decide) (fun c22 => ?_) (fun c22 => ?_)
            ·
              replace hw := hw.1 c22
              refine lv_aload_n hx hb dX12_apply_72 rfl (lv_at hl 1 rfl) ?_
              refine gfX12_tree hx hb hts hK hP hown (hts _ tw_897) dX12_apply_73 ?_
              obtain ⟨Q23, hc, hw⟩ := hw
              refine wc_V (X := CX g q lb) (va_runV (As := []) (rest := []) ⟨hx, hb, hml, hown, hts⟩ (L_X11_grow l g q lb hlb  hN hc H.size) (cwV 0 hts (TB_V tw_1765 tw_1766 tw_1767 tw_12 co_X11_grow) rfl rfl rfl (by decide +kernel) ⟨Nat.le_of_ble_eq_true rfl, Nat.le_of_ble_eq_true rfl⟩) (preV (q0 := 10) (ci := 11) rfl xT_bl hP hK hNb hD rfl rfl xT_at) rfl rfl hl.1 rfl (lv_room (Nat.le_of_ble_eq_true rfl)) dX12_apply_76 ⟨Nat.le_of_ble_eq_true rfl, Nat.le_of_ble_eq_true rfl⟩) hP hD hS hA (fun τ25 H locs hN hf hq hP hD hS => ?_)
              replace hw := hw τ25 hN hf hq
              have hF : f_r [0, 1, 45, 46, 47, 48, 49, 50, 51, 52, 53, 54, 55, 56, 63, 64, 65, 67] [1, 67, 68, 69, 70, 71, 72, 73, 74, 75, 76, 77, 78, 79, 80, 81, 82, 83, 84, 85, 86, 87, 88, 89, 90, 91, 101, 102] [3, 4, 5, 6, 7, 8] σ τ25 := f_t hF hf (by decide) (by decide) (by decide)
              have hB := hN
              refine lv_aload_n hx hb dX12_apply_79 rfl (lv_at hl 1 rfl) ?_
              refine gfX12_tree hx hb hts hK hP hown (hts _ tw_897) dX12_apply_80 ?_
              obtain ⟨Q26, hc, hw⟩ := hw
              refine wc_V (X := CX g q lb) (va_runV (As := []) (rest := []) ⟨hx, hb, hml, hown, hts⟩ (L_X11_keepPattern l g q lb hlb  hN hc H.size) (cwV 0 hts (TB_V tw_1924 tw_1925 tw_1926 tw_12 co_X11_keepPattern) rfl rfl rfl (by decide +kernel) ⟨Nat.le_of_ble_eq_true rfl, Nat.le_of_ble_eq_true rfl⟩) (preV (q0 := 10) (ci := 11) rfl xT_bl hP hK hNb hD rfl rfl xT_at) rfl rfl hl.1 rfl (lv_room (Nat.le_of_ble_eq_true rfl)) dX12_apply_83 ⟨Nat.le_of_ble_eq_true rfl, Nat.le_of_ble_eq_true rfl⟩) hP hD hS hA (fun τ28 H locs hN hf hq hP hD hS => ?_)
              replace hw := hw τ28 hN hf hq
              have hF : f_r [0, 1, 45, 46, 47, 48, 49, 50, 51, 52, 53, 54, 55, 56, 63, 64, 65, 67] [1, 67, 68, 69, 70, 71, 72, 73, 74, 75, 76, 77, 78, 79, 80, 81, 82, 83, 84, 85, 86, 87, 88, 89, 90, 91, 101, 102] [3, 4, 5, 6, 7, 8] σ τ28 := f_t hF hf (by decide) (by decide) (by decide)
              have hB := hN
              refine lv_aload_n hx hb dX12_apply_86 rfl (lv_at hl 1 rfl) ?_
              refine gfX12_chart hx hb hts hK hP hown (hts _ tw_896) dX12_apply_87 ?_
              refine lv_aload_n hx hb dX12_apply_90 rfl (lv_at hl 1 rfl) ?_
              refine gfX12_asked hx hb hts hK hP hown (hts _ tw_888) dX12_apply_91 ?_
              refine lv_iload_n hx hb dX12_apply_94 rfl (lv_at hl 0 rfl) ?_
              obtain ⟨Q29, hc, hw⟩ := hw
              refine wc_V (X := CX g q lb) (va_runV (As := [.ref (q 14), .int (I x2)]) (rest := []) ⟨hx, hb, hml, hown, hts⟩ (L_X1_takeRow_q14 l g q lb hlb r_x2 hN hc H.size) (cwV 2 hts (TB_V tw_1929 tw_1930 tw_1931 tw_11 co_X1_takeRow) rfl rfl rfl (by decide +kernel) ⟨Nat.le_of_ble_eq_true rfl, Nat.le_of_ble_eq_true rfl⟩) (preV (q0 := 9) (ci := 1) rfl xT_bl hP hK hNb hD rfl rfl xT_at) rfl rfl hl.1 rfl (lv_room (Nat.le_of_ble_eq_true rfl)) dX12_apply_95 ⟨Nat.le_of_ble_eq_true rfl, Nat.le_of_ble_eq_true rfl⟩) hP hD hS hA (fun τ31 H locs hN hf hq hP hD hS => ?_)
              replace hw := hw τ31 hN hf hq
              have hF : f_r [0, 1, 45, 46, 47, 48, 49, 50, 51, 52, 53, 54, 55, 56, 63, 64, 65, 67] [1, 67, 68, 69, 70, 71, 72, 73, 74, 75, 76, 77, 78, 79, 80, 81, 82, 83, 84, 85, 86, 87, 88, 89, 90, 91, 101, 102] [3, 4, 5, 6, 7, 8] σ τ31 := f_t hF hf (by decide) (by decide) (by decide)
              have hB := hN
              refine lv_aload_n hx hb dX12_apply_98 rfl (lv_at hl 1 rfl) ?_
              refine gfX12_chart hx hb hts hK hP hown (hts _ tw_896) dX12_apply_99 ?_
              obtain ⟨Q32, hc, hw⟩ := hw
              refine wc_I (X := CX g q lb) (va_runV (As := []) (rest := []) ⟨hx, hb, hml, hown, hts⟩ (L_X1_countTrees l g q lb hlb  hN hc H.size) (cwV 0 hts (TB_V tw_1719 tw_1720 tw_1721 tw_11 co_X1_countTrees) rfl rfl rfl (by decide +kernel) ⟨Nat.le_of_ble_eq_true rfl, Nat.le_of_ble_eq_true rfl⟩) (preV (q0 := 9) (ci := 1) rfl xT_bl hP hK hNb hD rfl rfl xT_at) rfl rfl hl.1 rfl (lv_room (Nat.le_of_ble_eq_true rfl)) dX12_apply_102 ⟨Nat.le_of_ble_eq_true rfl, Nat.le_of_ble_eq_true rfl⟩) hP hD hS hA (fun x33 τ34 H locs r_x33 hN hf hq hP hD hS => ?_)
              replace hw := hw x33 τ34 r_x33 hN hf hq
              have hF : f_r [0, 1, 45, 46, 47, 48, 49, 50, 51, 52, 53, 54, 55, 56, 63, 64, 65, 67] [1, 67, 68, 69, 70, 71, 72, 73, 74, 75, 76, 77, 78, 79, 80, 81, 82, 83, 84, 85, 86, 87, 88, 89, 90, 91, 101, 102] [3, 4, 5, 6, 7, 8] σ τ34 := f_t hF hf (by decide) (by decide) (by decide)
              have hB := hN
              refine lv_iconst (v := I 1) hx hb dX12_apply_105 rfl ?_
              refine bi_icmp_eq (tgt := 111) hx hb r_x33 (by decide) dX12_apply_106 (by decide) (fun c35 => ?_) (fun c35 => ?_)
              ·
                replace hw := hw.1 c35
                refine lv_aload_n hx hb dX12_apply_111 rfl (lv_at hl 1 rfl) ?_
                refine gfX12_tree hx hb hts hK hP hown (hts _ tw_897) dX12_apply_112 ?_
                obtain ⟨Q36, hc, hw⟩ := hw
                refine wc_V (X := CX g q lb) (va_runV (As := []) (rest := []) ⟨hx, hb, hml, hown, hts⟩ (L_X11_grow l g q lb hlb  hN hc H.size) (cwV 0 hts (TB_V tw_1765 tw_1766 tw_1767 tw_12 co_X11_grow) rfl rfl rfl (by decide +kernel) ⟨Nat.le_of_ble_eq_true rfl, Nat.le_of_ble_eq_true rfl⟩) (preV (q0 := 10) (ci := 11) rfl xT_bl hP hK hNb hD rfl rfl xT_at) rfl rfl hl.1 rfl (lv_room (Nat.le_of_ble_eq_true rfl)) dX12_apply_115 ⟨Nat.le_of_ble_eq_true rfl, Nat.le_of_ble_eq_true rfl⟩) hP hD hS hA (fun τ38 H locs hN hf hq hP hD hS => ?_)
                replace hw := hw τ38 hN hf hq
                have hF : f_r [0, 1, 45, 46, 47, 48, 49, 50, 51, 52, 53, 54, 55, 56, 63, 64, 65, 67] [1, 67, 68, 69, 70, 71, 72, 73, 74, 75, 76, 77, 78, 79, 80, 81, 82, 83, 84, 85, 86, 87, 88, 89, 90, 91, 101, 102] [3, 4, 5, 6, 7, 8] σ τ38 := f_t hF hf (by decide) (by decide) (by decide)
                have hB := hN
                refine lv_aload_n hx hb dX12_apply_118 rfl (lv_at hl 1 rfl) ?_
                refine gfX12_tree hx hb hts hK hP hown (hts _ tw_897) dX12_apply_119 ?_
                obtain ⟨Q39, hc, hw⟩ := hw
                refine wc_I (X := CX g q lb) (va_runV (As := []) (rest := []) ⟨hx, hb, hml, hown, hts⟩ (L_X11_fitsPattern l g q lb hlb  hN hc H.size) (cwV 0 hts (TB_V tw_1933 tw_1934 tw_1935 tw_12 co_X11_fitsPattern) rfl rfl rfl (by decide +kernel) ⟨Nat.le_of_ble_eq_true rfl, Nat.le_of_ble_eq_true rfl⟩) (preV (q0 := 10) (ci := 11) rfl xT_bl hP hK hNb hD rfl rfl xT_at) rfl rfl hl.1 rfl (lv_room (Nat.le_of_ble_eq_true rfl)) dX12_apply_122 ⟨Nat.le_of_ble_eq_true rfl, Nat.le_of_ble_eq_true rfl⟩) hP hD hS hA (fun x40 τ41 H locs r_x40 hN hf hq hP hD hS => ?_)
                replace hw := hw x40 τ41 r_x40 hN hf hq
                have hF : f_r [0, 1, 45, 46, 47, 48, 49, 50, 51, 52, 53, 54, 55, 56, 63, 64, 65, 67] [1, 67, 68, 69, 70, 71, 72, 73, 74, 75, 76, 77, 78, 79, 80, 81, 82, 83, 84, 85, 86, 87, 88, 89, 90, 91, 101, 102] [3, 4, 5, 6, 7, 8] σ τ41 := f_t hF hf (by decide) (by decide) (by decide)
                have hB := hN
                refine bi_if_eq (tgt := 139) hx hb r_x40 dX12_apply_125 (by decide) (fun c42 => ?_) (fun c42 => ?_)
                ·
                  replace hw := hw.1 c42
                  refine lv_iconst (v := I (-1)) hx hb dX12_apply_139 rfl ?_
                  exact xri hx hb hr hlk hP hK hD hS ⟨_, _, (by decide), rfl, hN, hF, rfl, hw⟩ (Nat.le_of_ble_eq_true rfl) (Nat.le_of_ble_eq_true rfl) dX12_apply_140
                ·
                  replace hw := hw.2 c42
                  refine lv_aload_n hx hb dX12_apply_128 rfl (lv_at hl 1 rfl) ?_
                  refine gfX12_tree hx hb hts hK hP hown (hts _ tw_897) dX12_apply_129 ?_
                  refine lv_iload_n hx hb dX12_apply_132 rfl (lv_at hl 2 rfl) ?_
                  obtain ⟨Q43, hc, hw⟩ := hw
                  refine wc_i (X := CX g q lb) (va_runV (As := [.int (I n1)]) (rest := []) ⟨hx, hb, hml, hown, hts⟩ (L_X11_bindsEssentials l g q lb hlb r_n1 hN hc H.size) (cwV 1 hts (TB_V tw_1942 tw_1943 tw_1944 tw_12 co_X11_bindsEssentials) rfl rfl rfl (by decide +kernel) ⟨Nat.le_of_ble_eq_true rfl, Nat.le_of_ble_eq_true rfl⟩) (preV (q0 := 10) (ci := 11) rfl xT_bl hP hK hNb hD rfl rfl xT_at) rfl rfl hl.1 rfl (lv_room (Nat.le_of_ble_eq_true rfl)) dX12_apply_133 ⟨Nat.le_of_ble_eq_true rfl, Nat.le_of_ble_eq_true rfl⟩) hP hD hS hA (fun x44 H locs r_x44 hq hP hD hS => ?_)
                  replace hw := hw x44 r_x44 hq
                  refine bi_if_ne (tgt := 141) hx hb r_x44 dX12_apply_136 (by decide) (fun c46 => ?_) (fun c46 => ?_)
                  ·
                    replace hw := hw.1 c46
                    refine lv_aload_n hx hb dX12_apply_141 rfl (lv_at hl 1 rfl) ?_
                    refine lv_iload_n hx hb dX12_apply_142 rfl (lv_at hl 2 rfl) ?_
                    obtain ⟨Q47, hc, hw⟩ := hw
                    refine wc_I (X := CX g q lb) (va_runV (As := [.int (I n1)]) (rest := []) ⟨hx, hb, hml, hown, hts⟩ (L_X12_printEssentials l g q lb hlb r_n1 hN hc H.size) (cwV 1 hts (TB_V tw_1946 tw_1948 ts_96 tw_1 co_X12_printEssentials) rfl rfl rfl (by decide +kernel) ⟨Nat.le_of_ble_eq_true rfl, Nat.le_of_ble_eq_true rfl⟩) (preV (q0 := 0) (ci := 12) rfl xT_bl hP hK hNb hD rfl rfl xT_at) rfl rfl hl.1 rfl (lv_room (Nat.le_of_ble_eq_true rfl)) dX12_apply_143 ⟨Nat.le_of_ble_eq_true rfl, Nat.le_of_ble_eq_true rfl⟩) hP hD hS hA (fun x48 τ49 H locs r_x48 hN hf hq hP hD hS => ?_)
                    replace hw := hw x48 τ49 r_x48 hN hf hq
                    have hF : f_r [0, 1, 45, 46, 47, 48, 49, 50, 51, 52, 53, 54, 55, 56, 63, 64, 65, 67] [1, 67, 68, 69, 70, 71, 72, 73, 74, 75, 76, 77, 78, 79, 80, 81, 82, 83, 84, 85, 86, 87, 88, 89, 90, 91, 101, 102] [3, 4, 5, 6, 7, 8] σ τ49 := f_t hF hf (by decide) (by decide) (by decide)
                    have hB := hN
                    exact xri hx hb hr hlk hP hK hD hS ⟨_, _, r_x48, rfl, hN, hF, rfl, hw⟩ (Nat.le_of_ble_eq_true rfl) (Nat.le_of_ble_eq_true rfl) dX12_apply_146
                  ·
                    replace hw := hw.2 c46
                    refine lv_iconst (v := I (-1)) hx hb dX12_apply_139 rfl ?_
                    exact xri hx hb hr hlk hP hK hD hS ⟨_, _, (by decide), rfl, hN, hF, rfl, hw⟩ (Nat.le_of_ble_eq_true rfl) (Nat.le_of_ble_eq_true rfl) dX12_apply_140
              ·
                replace hw := hw.2 c35
                refine lv_iconst (v := I (-1)) hx hb dX12_apply_109 rfl ?_
                exact xri hx hb hr hlk hP hK hD hS ⟨_, _, (by decide), rfl, hN, hF, rfl, hw⟩ (Nat.le_of_ble_eq_true rfl) (Nat.le_of_ble_eq_true rfl) dX12_apply_110
            ·
              replace hw := hw.2 c22
              refine lv_iconst (v := I (-1)) hx hb dX12_apply_70 rfl ?_
              exact xri hx hb hr hlk hP hK hD hS ⟨_, _, (by decide), rfl, hN, hF, rfl, hw⟩ (Nat.le_of_ble_eq_true rfl) (Nat.le_of_ble_eq_true rfl) dX12_apply_71
        ·
          replace hw := hw.2 c13
          refine lv_bipush (v := I (-2)) hx hb dX12_apply_41 (by decide) ?_
          exact xri hx hb hr hlk hP hK hD hS ⟨_, _, (by decide), rfl, hN, hF, rfl, hw⟩ (Nat.le_of_ble_eq_true rfl) (Nat.le_of_ble_eq_true rfl) dX12_apply_43
    ·
      replace hw := hw.2 c8
      refine lv_iconst (v := I (-1)) hx hb dX12_apply_20 rfl ?_
      exact xri hx hb hr hlk hP hK hD hS ⟨_, _, (by decide), rfl, hN, hF, rfl, hw⟩ (Nat.le_of_ble_eq_true rfl) (Nat.le_of_ble_eq_true rfl) dX12_apply_21
