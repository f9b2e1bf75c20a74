-- methods told as propositions, and tied to the machine
def W_X12_isSound (n1 : Int) (σ : S0) (Q : Int → S0 → Prop) : Prop :=
  ∀ (P66 : Int → S0 → Prop),
  (∀ (u1 : Int) (τ : S0), (∃ (Q20 : Int → Prop), W_X0_restsOnEarlier u1 τ Q20 ∧ ∀ (x21 : Int), rg x21 → Q20 x21 → ((0 ≤ x21 ∧ x21 ≤ 1) ∧ Q x21 τ)) → P66 u1 τ) →
  (0 ≤ n1 ∧ n1 < 1500) ∧ (∀ (x2 : Int), rg x2 → x2 = σ.2.1 34 n1 → (rg (x2 - 1) ∧ ∃ (Q4 : Int → S0 → Prop), W_X6_goAgain n1 (x2 - 1) σ Q4 ∧ ∀ (x5 : Int) (τ6 : S0), rg x5 → n_m τ6 → f_r [17, 18, 19] [39, 40, 41, 42, 43, 44, 45] [] σ τ6 → Q4 x5 τ6 → ((x5 = 0 → Q 0 τ6) ∧ (¬ x5 = 0 → ∃ (Q8 : Int → Prop), W_X6_isStatement (x2 - 1) n1 τ6 Q8 ∧ ∀ (x9 : Int), rg x9 → Q8 x9 → ((¬ x9 = 0 → ∃ (Q12 : Int64 → Prop), W_X0_labelsOf n1 τ6 Q12 ∧ ∀ (x13 : Int64), Q12 x13 → ((4000 < x13 → P66 n1 τ6) ∧ (x13 ≤ 4000 → ∃ (Q16 : Int → S0 → Prop), W_X4_comesBack n1 τ6 Q16 ∧ ∀ (x17 : Int) (τ18 : S0), rg x17 → n_m τ18 → f_r [40, 41, 42, 43, 44] [55, 56, 57, 58, 59, 60, 61, 62, 63, 64, 65, 66] [] τ6 τ18 → Q16 x17 τ18 → ((¬ x17 = 0 → P66 n1 τ18) ∧ (x17 = 0 → Q 0 τ18))))) ∧ (x9 = 0 → Q 0 τ6))))))
set_option maxRecDepth 100000 in
set_option maxHeartbeats 4000000 in
theorem L_X12_isSound (l : Launch) (g : gG) (q : Nat → Nat) (lb : Nat) (hlb : lb < 2 ^ 31) {n1 : Int} {σ : S0} {Q : Int → S0 → Prop} (r_n1 : rg n1) (hN : n_m σ) (hw : W_X12_isSound n1 σ Q) (sz : Nat) : MetI l yX12_isSound cX12_isSound 3 (some .boolean) { frames := 5, cells := 0, slots := 0, locals := 126 } g [.ref (q 0), .int (I n1)] (CX g q lb σ) sz xT (p_I (CX g q lb) [17, 18, 19, 40, 41, 42, 43, 44] [39, 40, 41, 42, 43, 44, 45, 55, 56, 57, 58, 59, 60, 61, 62, 63, 64, 65, 66] [] σ Q) 0 0 := by
  refine mkMet (Qc := fun A => QI g A (p_I (CX g q lb) [17, 18, 19, 40, 41, 42, 43, 44] [39, 40, 41, 42, 43, 44, 45, 55, 56, 57, 58, 59, 60, 61, 62, 63, 64, 65, 66] [] σ Q)) (by decide) (Nat.le_of_ble_eq_true rfl) ?_
  intro p e s m below meth c A H ls hx hb hr hml hown hts hlk hnm hsz hP hK hNb hD hA hAe hS hX hl
  have hl : lv_has ls 3 [(0, .ref (q 0)), (1, .int (I n1))] := hl
  have hB := hN
  have hF : f_r [17, 18, 19, 40, 41, 42, 43, 44] [39, 40, 41, 42, 43, 44, 45, 55, 56, 57, 58, 59, 60, 61, 62, 63, 64, 65, 66] [] σ σ := f_0
  obtain ⟨locs, hlocs⟩ : ∃ z : List Loc, z = [] := ⟨_, rfl⟩
  rw [← hlocs] at hS ⊢
  obtain ⟨P66, hP66⟩ : ∃ P : Int → S0 → Prop, ∀ (u1 : Int) (τ : S0), (P u1 τ ↔ (rg u1 → n_m τ → f_r [17, 18, 19, 40, 41, 42, 43, 44] [39, 40, 41, 42, 43, 44, 45, 55, 56, 57, 58, 59, 60, 61, 62, 63, 64, 65, 66] [] σ τ → ∀ (H : Heap) (locs : List Loc) (ls : Array Slot), KP g (CX g q lb τ) H → va_D A (CX g q lb τ) → va_S A s.heap H locs → lv_has ls 3 [(0, .ref (q 0)), (1, .int (I u1))] → W p l e ({ frames := 5, cells := 0, slots := 0, locals := 126 }) s m [.ref (q 0), .int (I n1)].toArray below meth c H locs 0 0 (MQ below (QI g A (p_I (CX g q lb) [17, 18, 19, 40, 41, 42, 43, 44] [39, 40, 41, 42, 43, 44, 45, 55, 56, 57, 58, 59, 60, 61, 62, 63, 64, 65, 66] [] σ Q)) [.ref (q 0), .int (I n1)].toArray s 0 0 A) (F0 m 66 ls []))) := ⟨_, fun _ _ => Iff.rfl⟩
  refine (fun hw => ?_) (hw P66 ?_)
  ·
    refine lv_aload_n hx hb dX12_isSound_0 rfl (lv_at hl 0 rfl) ?_
    refine gfX12_assertions hx hb hts hK hP hown (hts _ tw_891) dX12_isSound_1 ?_
    refine gfNX0_rowCount hx hb hts hK hP hown (nb_use hNb tn_272) dX12_isSound_4 ?_
    refine lv_iload_n hx hb dX12_isSound_7 rfl (lv_at hl 1 rfl) ?_
    obtain ⟨c1, hw⟩ := hw
    refine ldCX0_rowCount hx hb hK hP hN c1 dX12_isSound_8 (fun x2 r_x2 e_x2 => ?_)
    replace hw := hw x2 r_x2 e_x2
    refine lv_iconst (v := I 1) hx hb dX12_isSound_9 rfl ?_
    refine bi_isub hx hb dX12_isSound_10 ?_
    refine lv_istore_n (lv' := [(2, .int (I (x2 - 1))), (0, .ref (q 0)), (1, .int (I n1))]) hx hb dX12_isSound_11 rfl hl (by decide) rfl (fun ls hl => ?_)
    refine lv_aload_n hx hb dX12_isSound_12 rfl (lv_at hl 1 rfl) ?_
    refine gfX12_pile hx hb hts hK hP hown (hts _ tw_892) dX12_isSound_13 ?_
    refine lv_iload_n hx hb dX12_isSound_16 rfl (lv_at hl 2 rfl) ?_
    refine lv_iload_n hx hb dX12_isSound_17 rfl (lv_at hl 0 rfl) ?_
    obtain ⟨c3, hw⟩ := hw
    obtain ⟨Q4, hc, hw⟩ := hw
    refine wc_I (X := CX g q lb) (va_runV (As := [.int (I n1), .int (I (x2 - 1))]) (rest := []) ⟨hx, hb, hml, hown, hts⟩ (L_X6_goAgain l g q lb hlb r_n1 c3 hN hc H.size) (cwV 2 hts (TB_V tw_1565 tw_1566 tw_1567 tw_6 co_X6_goAgain) rfl rfl rfl (by decide +kernel) ⟨Nat.le_of_ble_eq_true rfl, Nat.le_of_ble_eq_true rfl⟩) (preV (q0 := 4) (ci := 6) rfl xT_bl hP hK hNb hD rfl rfl xT_at) rfl rfl hl.1 rfl (lv_room (Nat.le_of_ble_eq_true rfl)) dX12_isSound_18 ⟨Nat.le_of_ble_eq_true rfl, Nat.le_of_ble_eq_true rfl⟩) hP hD hS hA (fun x5 τ6 H locs r_x5 hN hf hq hP hD hS => ?_)
    replace hw := hw x5 τ6 r_x5 hN hf hq
    have hF : f_r [17, 18, 19, 40, 41, 42, 43, 44] [39, 40, 41, 42, 43, 44, 45, 55, 56, 57, 58, 59, 60, 61, 62, 63, 64, 65, 66] [] σ τ6 := f_t hF hf (by decide) (by decide) (by decide)
    have hB := hN
    refine bi_if_eq (tgt := 36) hx hb r_x5 dX12_isSound_21 (by decide) (fun c7 => ?_) (fun c7 => ?_)
    ·
      replace hw := hw.1 c7
      refine lv_iconst (v := I 0) hx hb dX12_isSound_36 rfl ?_
      exact xrz hx hb hr (by decide) hlk hP hK hD hS ⟨_, _, (by decide), rfl, hN, hF, rfl, hw⟩ (Nat.le_of_ble_eq_true rfl) (Nat.le_of_ble_eq_true rfl) dX12_isSound_37
    ·
      replace hw := hw.2 c7
      refine lv_aload_n hx hb dX12_isSound_24 rfl (lv_at hl 1 rfl) ?_
      refine gfX12_pile hx hb hts hK hP hown (hts _ tw_892) dX12_isSound_25 ?_
      refine lv_iload_n hx hb dX12_isSound_28 rfl (lv_at hl 0 rfl) ?_
      refine lv_iload_n hx hb dX12_isSound_29 rfl (lv_at hl 2 rfl) ?_
      obtain ⟨Q8, hc, hw⟩ := hw
      refine wc_i (X := CX g q lb) (va_runV (As := [.int (I (x2 - 1)), .int (I n1)]) (rest := []) ⟨hx, hb, hml, hown, hts⟩ (L_X6_isStatement l g q lb hlb c3 r_n1 hN hc H.size) (cwV 2 hts (TB_V tw_1962 tw_1350 tw_1351 tw_6 co_X6_isStatement) rfl rfl rfl (by decide +kernel) ⟨Nat.le_of_ble_eq_true rfl, Nat.le_of_ble_eq_true rfl⟩) (preV (q0 := 4) (ci := 6) rfl xT_bl hP hK hNb hD rfl rfl xT_at) rfl rfl hl.1 rfl (lv_room (Nat.le_of_ble_eq_true rfl)) dX12_isSound_30 ⟨Nat.le_of_ble_eq_true rfl, Nat.le_of_ble_eq_true rfl⟩) hP hD hS hA (fun x9 H locs r_x9 hq hP hD hS => ?_)
      replace hw := hw x9 r_x9 hq
      refine bi_if_ne (tgt := 38) hx hb r_x9 dX12_isSound_33 (by decide) (fun c11 => ?_) (fun c11 => ?_)
      ·
        replace hw := hw.1 c11
        refine lv_aload_n hx hb dX12_isSound_38 rfl (lv_at hl 1 rfl) ?_
        refine gfX12_assertions hx hb hts hK hP hown (hts _ tw_891) dX12_isSound_39 ?_
        refine lv_iload_n hx hb dX12_isSound_42 rfl (lv_at hl 2 rfl) ?_
        obtain ⟨Q12, hc, hw⟩ := hw
        refine wc_l (X := CX g q lb) (va_runV (As := [.int (I n1)]) (rest := []) ⟨hx, hb, hml, hown, hts⟩ (L_X0_labelsOf l g q lb hlb r_n1 hN hc H.size) (cwV 1 hts (TB_V tw_1518 tw_1519 tw_1520 tw_5 co_X0_labelsOf) rfl rfl rfl (by decide +kernel) ⟨Nat.le_of_ble_eq_true rfl, Nat.le_of_ble_eq_true rfl⟩) (preV (q0 := 3) (ci := 0) rfl xT_bl hP hK hNb hD rfl rfl xT_at) rfl rfl hl.1 rfl (lv_room (Nat.le_of_ble_eq_true rfl)) dX12_isSound_43 ⟨Nat.le_of_ble_eq_true rfl, Nat.le_of_ble_eq_true rfl⟩) hP hD hS hA (fun x13 H locs hq hP hD hS => ?_)
        replace hw := hw x13 hq
        refine lv_ldc2 (own := RX12) (v := 4000) hx hb hown (hts _ tw_1657) dX12_isSound_46 ?_
        refine bi_lcmp_gt (tgt := 66) hx hb dX12_isSound_49 dX12_isSound_50 (by decide) (fun c15 => ?_) (fun c15 => ?_)
        ·
          replace hw := hw.1 c15
          exact (hP66 _ _).mp hw r_n1 hN hF H locs ls hP hD hS (lv_sub hl [1, 2] rfl)
        ·
          replace hw := hw.2 c15
          refine lv_aload_n hx hb dX12_isSound_53 rfl (lv_at hl 1 rfl) ?_
          refine gfX12_packer hx hb hts hK hP hown (hts _ tw_894) dX12_isSound_54 ?_
          refine lv_iload_n hx hb dX12_isSound_57 rfl (lv_at hl 2 rfl) ?_
          obtain ⟨Q16, hc, hw⟩ := hw
          refine wc_I (X := CX g q lb) (va_runV (As := [.int (I n1)]) (rest := []) ⟨hx, hb, hml, hown, hts⟩ (L_X4_comesBack l g q lb hlb r_n1 hN hc H.size) (cwV 1 hts (TB_V tw_1963 tw_1964 tw_1965 tw_9 co_X4_comesBack) rfl rfl rfl (by decide +kernel) ⟨Nat.le_of_ble_eq_true rfl, Nat.le_of_ble_eq_true rfl⟩) (preV (q0 := 7) (ci := 4) rfl xT_bl hP hK hNb hD rfl rfl xT_at) rfl rfl hl.1 rfl (lv_room (Nat.le_of_ble_eq_true rfl)) dX12_isSound_58 ⟨Nat.le_of_ble_eq_true rfl, Nat.le_of_ble_eq_true rfl⟩) hP hD hS hA (fun x17 τ18 H locs r_x17 hN hf hq hP hD hS => ?_)
          replace hw := hw x17 τ18 r_x17 hN hf hq
          have hF : f_r [17, 18, 19, 40, 41, 42, 43, 44] [39, 40, 41, 42, 43, 44, 45, 55, 56, 57, 58, 59, 60, 61, 62, 63, 64, 65, 66] [] σ τ18 := f_t hF hf (by decide) (by decide) (by decide)
          have hB := hN
          refine bi_if_ne (tgt := 66) hx hb r_x17 dX12_isSound_61 (by decide) (fun c19 => ?_) (fun c19 => ?_)
          ·
            replace hw := hw.1 c19
            exact (hP66 _ _).mp hw r_n1 hN hF H locs ls hP hD hS (lv_sub hl [1, 2] rfl)
          ·
            replace hw := hw.2 c19
            refine lv_iconst (v := I 0) hx hb dX12_isSound_64 rfl ?_
            exact xrz hx hb hr (by decide) hlk hP hK hD hS ⟨_, _, (by decide), rfl, hN, hF, rfl, hw⟩ (Nat.le_of_ble_eq_true rfl) (Nat.le_of_ble_eq_true rfl) dX12_isSound_65
      ·
        replace hw := hw.2 c11
        refine lv_iconst (v := I 0) hx hb dX12_isSound_36 rfl ?_
        exact xrz hx hb hr (by decide) hlk hP hK hD hS ⟨_, _, (by decide), rfl, hN, hF, rfl, hw⟩ (Nat.le_of_ble_eq_true rfl) (Nat.le_of_ble_eq_true rfl) dX12_isSound_37
  ·
    intro u1 τ hw
    refine (hP66 _ _).mpr ?_
    intro r_u1 hN hF H locs ls hP hD hS hl
    have hB := hN
    refine lv_aload_n hx hb dX12_isSound_66 rfl (lv_at hl 0 rfl) ?_
    refine gfX12_assertions hx hb hts hK hP hown (hts _ tw_891) dX12_isSound_67 ?_
    refine lv_iload_n hx hb dX12_isSound_70 rfl (lv_at hl 1 rfl) ?_
    obtain ⟨Q20, hc, hw⟩ := hw
    refine wc_i (X := CX g q lb) (va_runV (As := [.int (I u1)]) (rest := []) ⟨hx, hb, hml, hown, hts⟩ (L_X0_restsOnEarlier l g q lb hlb r_u1 hN hc H.size) (cwV 1 hts (TB_V tw_1977 tw_1978 tw_1979 tw_5 co_X0_restsOnEarlier) rfl rfl rfl (by decide +kernel) ⟨Nat.le_of_ble_eq_true rfl, Nat.le_of_ble_eq_true rfl⟩) (preV (q0 := 3) (ci := 0) rfl xT_bl hP hK hNb hD rfl rfl xT_at) rfl rfl hl.1 rfl (lv_room (Nat.le_of_ble_eq_true rfl)) dX12_isSound_71 ⟨Nat.le_of_ble_eq_true rfl, Nat.le_of_ble_eq_true rfl⟩) hP hD hS hA (fun x21 H locs r_x21 hq hP hD hS => ?_)
    replace hw := hw x21 r_x21 hq
    obtain ⟨c23, hw⟩ := hw
    exact xrz hx hb hr (nzI c23.1 c23.2) hlk hP hK hD hS ⟨_, _, r_x21, rfl, hN, hF, rfl, hw⟩ (Nat.le_of_ble_eq_true rfl) (Nat.le_of_ble_eq_true rfl) dX12_isSound_74
def W_X12_makesItsSymbols (lb : Nat) (n1 : Int) (σ : S0) (Q : Int → S0 → Prop) : Prop :=
  ∀ (P52 : Int → Int → S0 → Prop),
  (∀ (u1 : Int) (u2 : Int) (τ : S0), (∀ (x14 : Int), rg x14 → x14 = τ.2.1 41 0 → ((x14 ≤ u2 → Q 1 τ) ∧ (u2 < x14 → ∀ (x16 : Int), rg x16 → x16 = τ.2.1 40 0 → ((0 ≤ (x16 + u2) ∧ (x16 + u2) < 42000) ∧ (∀ (x18 : Int), rg x18 → x18 = τ.2.1 39 (x16 + u2) → ((0 ≤ u1 ∧ u1 < 1501) ∧ (∀ (x20 : Int), rg x20 → x20 = τ.2.1 14 u1 → ((0 ≤ ((x20 + 1) + u2) ∧ ((x20 + 1) + u2) < 30000) ∧ (∀ (x22 : Int), rg x22 → x22 = τ.2.1 15 ((x20 + 1) + u2) → ((x18 = x22 → rg (u2 + 1) ∧ P52 u1 (u2 + 1) τ) ∧ (¬ x18 = x22 → Q 0 τ))))))))))) → P52 u1 u2 τ) →
  ∃ (Q1 : S0 → Prop), W_X11_grow σ Q1 ∧ ∀ (τ3 : S0), n_m τ3 → f_r [54] [84, 85, 86, 88, 89, 90] [8] σ τ3 → Q1 τ3 → (∃ (Q4 : Int → S0 → Prop), W_X2_evaluate lb 0 (τ3.1 54) 0 τ3 Q4 ∧ ∀ (x5 : Int) (τ6 : S0), rg x5 → n_m τ6 → f_r [17, 18, 19] [39, 40, 41, 42, 43] [] τ3 τ6 → Q4 x5 τ6 → ((x5 = 0 → Q 0 τ6) ∧ (¬ x5 = 0 → ∀ (x8 : Int), rg x8 → x8 = τ6.2.1 41 0 → (∃ (Q9 : Int → Prop), W_X3_lengthOf n1 τ6 Q9 ∧ ∀ (x10 : Int), rg x10 → Q9 x10 → (rg (x10 - 1) ∧ (x8 = (x10 - 1) → P52 n1 0 τ6) ∧ (¬ x8 = (x10 - 1) → Q 0 τ6))))))
set_option maxRecDepth 100000 in
set_option maxHeartbeats 4000000 in
theorem L_X12_makesItsSymbols (l : Launch) (g : gG) (q : Nat → Nat) (lb : Nat) (hlb : lb < 2 ^ 31) {n1 : Int} {σ : S0} {Q : Int → S0 → Prop} (r_n1 : rg n1) (hN : n_m σ) (hw : W_X12_makesItsSymbols lb n1 σ Q) (sz : Nat) : MetI l yX12_makesItsSymbols cX12_makesItsSymbols 3 (some .boolean) { frames := 4, cells := 0, slots := 0, locals := 151 } g [.ref (q 0), .int (I n1)] (CX g q lb σ) sz xT (p_I (CX g q lb) [17, 18, 19, 54] [39, 40, 41, 42, 43, 84, 85, 86, 88, 89, 90] [8] σ Q) 0 0 := by
  refine mkMet (Qc := fun A => QI g A (p_I (CX g q lb) [17, 18, 19, 54] [39, 40, 41, 42, 43, 84, 85, 86, 88, 89, 90] [8] σ Q)) (by decide) (Nat.le_of_ble_eq_true rfl) ?_
  intro p e s m below meth c A H ls hx hb hr hml hown hts hlk hnm hsz hP hK hNb hD hA hAe hS hX hl
  have hl : lv_has ls 3 [(0, .ref (q 0)), (1, .int (I n1))] := hl
  have hB := hN
  have hF : f_r [17, 18, 19, 54] [39, 40, 41, 42, 43, 84, 85, 86, 88, 89, 90] [8] σ σ := f_0
  obtain ⟨locs, hlocs⟩ : ∃ z : List Loc, z = [] := ⟨_, rfl⟩
  rw [← hlocs] at hS ⊢
  obtain ⟨P52, hP52⟩ : ∃ P : Int → Int → S0 → Prop, ∀ (u1 : Int) (u2 : Int) (τ : S0), (P u1 u2 τ ↔ (rg u1 → rg u2 → n_m τ → f_r [17, 18, 19, 54] [39, 40, 41, 42, 43, 84, 85, 86, 88, 89, 90] [8] σ τ → ∀ (H : Heap) (locs : List Loc) (ls : Array Slot), KP g (CX g q lb τ) H → va_D A (CX g q lb τ) → va_S A s.heap H locs → lv_has ls 3 [(0, .ref (q 0)), (1, .int (I u1)), (2, .int (I u2))] → W p l e ({ frames := 4, cells := 0, slots := 0, locals := 151 }) s m [.ref (q 0), .int (I n1)].toArray below meth c H locs 0 0 (MQ below (QI g A (p_I (CX g q lb) [17, 18, 19, 54] [39, 40, 41, 42, 43, 84, 85, 86, 88, 89, 90] [8] σ Q)) [.ref (q 0), .int (I n1)].toArray s 0 0 A) (F0 m 52 ls []))) := ⟨_, fun _ _ _ => Iff.rfl⟩
  refine (fun hw => ?_) (hw P52 ?_)
  ·
    refine lv_aload_n hx hb dX12_makesItsSymbols_0 rfl (lv_at hl 0 rfl) ?_
    refine gfX12_tree hx hb hts hK hP hown (hts _ tw_897) dX12_makesItsSymbols_1 ?_
    obtain ⟨Q1, hc, hw⟩ := hw
    refine wc_V (X := CX g q lb) (va_runV (As := []) (rest := []) ⟨hx, hb, hml, hown, hts⟩ (L_X11_grow l g q lb hlb  hN hc H.size) (cwV 0 hts (TB_V tw_1765 tw_1766 tw_1767 tw_12 co_X11_grow) rfl rfl rfl (by decide +kernel) ⟨Nat.le_of_ble_eq_true rfl, Nat.le_of_ble_eq_true rfl⟩) (preV (q0 := 10) (ci := 11) rfl xT_bl hP hK hNb hD rfl rfl xT_at) rfl rfl hl.1 rfl (lv_room (Nat.le_of_ble_eq_true rfl)) dX12_makesItsSymbols_4 ⟨Nat.le_of_ble_eq_true rfl, Nat.le_of_ble_eq_true rfl⟩) hP hD hS hA (fun τ3 H locs hN hf hq hP hD hS => ?_)
    replace hw := hw τ3 hN hf hq
    have hF : f_r [17, 18, 19, 54] [39, 40, 41, 42, 43, 84, 85, 86, 88, 89, 90] [8] σ τ3 := f_t hF hf (by decide) (by decide) (by decide)
    have hB := hN
    refine lv_aload_n hx hb dX12_makesItsSymbols_7 rfl (lv_at hl 0 rfl) ?_
    refine gfX12_definitions hx hb hts hK hP hown (hts _ tw_898) dX12_makesItsSymbols_8 ?_
    refine lv_iconst (v := I 0) hx hb dX12_makesItsSymbols_11 rfl ?_
    refine lv_aload_n hx hb dX12_makesItsSymbols_12 rfl (lv_at hl 0 rfl) ?_
    refine gfX12_tree hx hb hts hK hP hown (hts _ tw_897) dX12_makesItsSymbols_13 ?_
    refine gfNX11_size hx hb hts hK hP hown (nb_use hNb tn_747) (x := τ3.1 54) rfl dX12_makesItsSymbols_16 ?_
    refine lv_iconst (v := I 0) hx hb dX12_makesItsSymbols_19 rfl ?_
    obtain ⟨Q4, hc, hw⟩ := hw
    refine wc_I (X := CX g q lb) (va_runV (As := [.int (I 0), .int (I (τ3.1 54)), .int (I 0)]) (rest := []) ⟨hx, hb, hml, hown, hts⟩ (L_X2_evaluate l g q lb hlb (by decide) (hB.1 54) (by decide) hN hc H.size) (cwV 3 hts (TB_V tw_1887 tw_1856 tw_1857 tw_13 co_X2_evaluate) rfl rfl rfl (by decide +kernel) ⟨Nat.le_of_ble_eq_true rfl, Nat.le_of_ble_eq_true rfl⟩) (preV (q0 := 11) (ci := 2) rfl xT_bl hP hK hNb hD rfl rfl xT_at) rfl rfl hl.1 rfl (lv_room (Nat.le_of_ble_eq_true rfl)) dX12_makesItsSymbols_20 ⟨Nat.le_of_ble_eq_true rfl, Nat.le_of_ble_eq_true rfl⟩) hP hD hS hA (fun x5 τ6 H locs r_x5 hN hf hq hP hD hS => ?_)
    replace hw := hw x5 τ6 r_x5 hN hf hq
    have hF : f_r [17, 18, 19, 54] [39, 40, 41, 42, 43, 84, 85, 86, 88, 89, 90] [8] σ τ6 := f_t hF hf (by decide) (by decide) (by decide)
    have hB := hN
    refine bi_if_eq (tgt := 48) hx hb r_x5 dX12_makesItsSymbols_23 (by decide) (fun c7 => ?_) (fun c7 => ?_)
    ·
      replace hw := hw.1 c7
      refine lv_iconst (v := I 0) hx hb dX12_makesItsSymbols_48 rfl ?_
      exact xrz hx hb hr (by decide) hlk hP hK hD hS ⟨_, _, (by decide), rfl, hN, hF, rfl, hw⟩ (Nat.le_of_ble_eq_true rfl) (Nat.le_of_ble_eq_true rfl) dX12_makesItsSymbols_49
    ·
      replace hw := hw.2 c7
      refine lv_aload_n hx hb dX12_makesItsSymbols_26 rfl (lv_at hl 0 rfl) ?_
      refine gfX12_pile hx hb hts hK hP hown (hts _ tw_892) dX12_makesItsSymbols_27 ?_
      refine gfNX6_size hx hb hts hK hP hown (nb_use hNb tn_359) dX12_makesItsSymbols_30 ?_
      refine lv_iconst (v := I 0) hx hb dX12_makesItsSymbols_33 rfl ?_
      refine ldCX6_size hx hb hK hP hN (by decide) dX12_makesItsSymbols_34 (fun x8 r_x8 e_x8 => ?_)
      replace hw := hw x8 r_x8 e_x8
      refine lv_aload_n hx hb dX12_makesItsSymbols_35 rfl (lv_at hl 0 rfl) ?_
      refine gfX12_library hx hb hts hK hP hown (hts _ tw_889) dX12_makesItsSymbols_36 ?_
      refine lv_iload_n hx hb dX12_makesItsSymbols_39 rfl (lv_at hl 1 rfl) ?_
      obtain ⟨Q9, hc, hw⟩ := hw
      refine wc_i (X := CX g q lb) (va_runV (As := [.int (I n1)]) (rest := [.int (I x8)]) ⟨hx, hb, hml, hown, hts⟩ (L_X3_lengthOf l g q lb hlb r_n1 hN hc H.size) (cwV 1 hts (TB_V tw_1421 tw_1292 tw_1293 tw_2 co_X3_lengthOf) rfl rfl rfl (by decide +kernel) ⟨Nat.le_of_ble_eq_true rfl, Nat.le_of_ble_eq_true rfl⟩) (preV (q0 := 1) (ci := 3) rfl xT_bl hP hK hNb hD rfl rfl xT_at) rfl rfl hl.1 rfl (lv_room (Nat.le_of_ble_eq_true rfl)) dX12_makesItsSymbols_40 ⟨Nat.le_of_ble_eq_true rfl, Nat.le_of_ble_eq_true rfl⟩) hP hD hS hA (fun x10 H locs r_x10 hq hP hD hS => ?_)
      replace hw := hw x10 r_x10 hq
      refine lv_iconst (v := I 1) hx hb dX12_makesItsSymbols_43 rfl ?_
      refine bi_isub hx hb dX12_makesItsSymbols_44 ?_
      obtain ⟨c12, hw⟩ := hw
      refine bi_icmp_eq (tgt := 50) hx hb r_x8 c12 dX12_makesItsSymbols_45 (by decide) (fun c13 => ?_) (fun c13 => ?_)
      ·
        replace hw := hw.1 c13
        refine lv_iconst (v := I 0) hx hb dX12_makesItsSymbols_50 rfl ?_
        refine lv_istore_n (lv' := [(2, .int (I 0)), (0, .ref (q 0)), (1, .int (I n1))]) hx hb dX12_makesItsSymbols_51 rfl hl (by decide) rfl (fun ls hl => ?_)
        exact (hP52 _ _ _).mp hw r_n1 (by decide) hN hF H locs ls hP hD hS (lv_sub hl [1, 2, 0] rfl)
      ·
        replace hw := hw.2 c13
        refine lv_iconst (v := I 0) hx hb dX12_makesItsSymbols_48 rfl ?_
        exact xrz hx hb hr (by decide) hlk hP hK hD hS ⟨_, _, (by decide), rfl, hN, hF, rfl, hw⟩ (Nat.le_of_ble_eq_true rfl) (Nat.le_of_ble_eq_true rfl) dX12_makesItsSymbols_49
  ·
    intro u1 u2 τ hw
    refine (hP52 _ _ _).mpr ?_
    intro r_u1 r_u2 hN hF H locs ls hP hD hS hl
    have hB := hN
    refine lv_iload_n hx hb dX12_makesItsSymbols_52 rfl (lv_at hl 2 rfl) ?_
    refine lv_aload_n hx hb dX12_makesItsSymbols_53 rfl (lv_at hl 0 rfl) ?_
    refine gfX12_pile hx hb hts hK hP hown (hts _ tw_892) dX12_makesItsSymbols_54 ?_
    refine gfNX6_size hx hb hts hK hP hown (nb_use hNb tn_359) dX12_makesItsSymbols_57 ?_
    refine lv_iconst (v := I 0) hx hb dX12_makesItsSymbols_60 rfl ?_
    refine ldCX6_size hx hb hK hP hN (by decide) dX12_makesItsSymbols_61 (fun x14 r_x14 e_x14 => ?_)
    replace hw := hw x14 r_x14 e_x14
    refine bi_icmp_ge (tgt := 116) hx hb r_u2 r_x14 dX12_makesItsSymbols_62 (by decide) (fun c15 => ?_) (fun c15 => ?_)
    ·
      replace hw := hw.1 c15
      refine lv_iconst (v := I 1) hx hb dX12_makesItsSymbols_116 rfl ?_
      exact xrz hx hb hr (by decide) hlk hP hK hD hS ⟨_, _, (by decide), rfl, hN, hF, rfl, hw⟩ (Nat.le_of_ble_eq_true rfl) (Nat.le_of_ble_eq_true rfl) dX12_makesItsSymbols_117
    ·
      replace hw := hw.2 c15
      refine lv_aload_n hx hb dX12_makesItsSymbols_65 rfl (lv_at hl 0 rfl) ?_
      refine gfX12_pile hx hb hts hK hP hown (hts _ tw_892) dX12_makesItsSymbols_66 ?_
      refine gfNX6_data hx hb hts hK hP hown (nb_use hNb tn_349) dX12_makesItsSymbols_69 ?_
      refine lv_aload_n hx hb dX12_makesItsSymbols_72 rfl (lv_at hl 0 rfl) ?_
      refine gfX12_pile hx hb hts hK hP hown (hts _ tw_892) dX12_makesItsSymbols_73 ?_
      refine gfNX6_at hx hb hts hK hP hown (nb_use hNb tn_355) dX12_makesItsSymbols_76 ?_
      refine lv_iconst (v := I 0) hx hb dX12_makesItsSymbols_79 rfl ?_
      refine ldCX6_at hx hb hK hP hN (by decide) dX12_makesItsSymbols_80 (fun x16 r_x16 e_x16 => ?_)
      replace hw := hw x16 r_x16 e_x16
      refine lv_iload_n hx hb dX12_makesItsSymbols_81 rfl (lv_at hl 2 rfl) ?_
      refine bi_iadd hx hb dX12_makesItsSymbols_82 ?_
      obtain ⟨c17, hw⟩ := hw
      refine ldCX6_data hx hb hK hP hN c17 dX12_makesItsSymbols_83 (fun x18 r_x18 e_x18 => ?_)
      replace hw := hw x18 r_x18 e_x18
      refine lv_aload_n hx hb dX12_makesItsSymbols_84 rfl (lv_at hl 0 rfl) ?_
      refine gfX12_library hx hb hts hK hP hown (hts _ tw_889) dX12_makesItsSymbols_85 ?_
      refine gfNX3_text hx hb hts hK hP hown (nb_use hNb tn_90) dX12_makesItsSymbols_88 ?_
      refine lv_aload_n hx hb dX12_makesItsSymbols_91 rfl (lv_at hl 0 rfl) ?_
      refine gfX12_library hx hb hts hK hP hown (hts _ tw_889) dX12_makesItsSymbols_92 ?_
      refine gfNX3_at hx hb hts hK hP hown (nb_use hNb tn_83) dX12_makesItsSymbols_95 ?_
      refine lv_iload_n hx hb dX12_makesItsSymbols_98 rfl (lv_at hl 1 rfl) ?_
      obtain ⟨c19, hw⟩ := hw
      refine ldCX3_at hx hb hK hP hN c19 dX12_makesItsSymbols_99 (fun x20 r_x20 e_x20 => ?_)
      replace hw := hw x20 r_x20 e_x20
      refine lv_iconst (v := I 1) hx hb dX12_makesItsSymbols_100 rfl ?_
      refine bi_iadd hx hb dX12_makesItsSymbols_101 ?_
      refine lv_iload_n hx hb dX12_makesItsSymbols_102 rfl (lv_at hl 2 rfl) ?_
      refine bi_iadd hx hb dX12_makesItsSymbols_103 ?_
      obtain ⟨c21, hw⟩ := hw
      refine ldCX3_text hx hb hK hP hN c21 dX12_makesItsSymbols_104 (fun x22 r_x22 e_x22 => ?_)
      replace hw := hw x22 r_x22 e_x22
      refine bi_icmp_eq (tgt := 110) hx hb r_x18 r_x22 dX12_makesItsSymbols_105 (by decide) (fun c23 => ?_) (fun c23 => ?_)
      ·
        replace hw := hw.1 c23
        refine lv_iinc (v := I (u2 + 1)) (lv' := [(2, .int (I (u2 + 1))), (0, .ref (q 0)), (1, .int (I u1))]) hx hb dX12_makesItsSymbols_110 hl (k := 2) rfl (I_add _ _) (by decide) rfl (fun ls hl => ?_)
        refine lv_goto (tgt := 52) hx hb dX12_makesItsSymbols_113 (by decide) ?_
        obtain ⟨c24, hw⟩ := hw
        exact (hP52 _ _ _).mp hw r_u1 c24 hN hF H locs ls hP hD hS (lv_sub hl [1, 2, 0] rfl)
      ·
        replace hw := hw.2 c23
        refine lv_iconst (v := I 0) hx hb dX12_makesItsSymbols_108 rfl ?_
        exact xrz hx hb hr (by decide) hlk hP hK hD hS ⟨_, _, (by decide), rfl, hN, hF, rfl, hw⟩ (Nat.le_of_ble_eq_true rfl) (Nat.le_of_ble_eq_true rfl) dX12_makesItsSymbols_109
def W_X12_check (lb : Nat) (σ : S0) (Q : Int → S0 → Prop) : Prop :=
  ∀ (P2 : Int → S0 → Prop) (P56 : Int → S0 → Prop),
  (∀ (u1 : Int) (τ : S0), ((τ.1 7 ≤ u1 → rg (τ.1 7 - 4) ∧ ∀ (x3 : Int), rg x3 → 0 ≤ x3 → (τ.1 7 - 4) ≤ x3 → (x3 = 0 ∨ x3 = (τ.1 7 - 4)) → (P56 x3 τ)) ∧ (u1 < τ.1 7 → (0 ≤ u1 ∧ u1 < 1500) ∧ (∀ (x5 : Int), rg x5 → x5 = τ.2.1 13 u1 → ((¬ x5 = 3 → rg (u1 + 1) ∧ P2 (u1 + 1) τ) ∧ (x5 = 3 → ∃ (Q8 : Int → S0 → Prop), W_X12_isSound u1 τ Q8 ∧ ∀ (x9 : Int) (τ10 : S0), rg x9 → n_m τ10 → f_r [17, 18, 19, 40, 41, 42, 43, 44] [39, 40, 41, 42, 43, 44, 45, 55, 56, 57, 58, 59, 60, 61, 62, 63, 64, 65, 66] [] τ τ10 → Q8 x9 τ10 → ((¬ x9 = 0 → rg (u1 + 1) ∧ P2 (u1 + 1) τ10) ∧ (x9 = 0 → Q 0 τ10))))))) → P2 u1 τ) →
  (∀ (u1 : Int) (τ : S0), ((τ.1 7 ≤ u1 → Q 1 τ) ∧ (u1 < τ.1 7 → ∃ (Q14 : Int → S0 → Prop), W_X12_treesOf u1 τ Q14 ∧ ∀ (x15 : Int) (τ16 : S0), rg x15 → n_m τ16 → f_r [45, 46, 47, 48, 49, 50, 51, 52, 53] [67, 68, 69, 70, 71, 72, 73, 74, 75, 76, 77, 78, 79, 80, 81, 82, 83] [3, 4, 5, 6, 7] τ τ16 → Q14 x15 τ16 → ((¬ x15 = 1 → rg (u1 + 1) ∧ P56 (u1 + 1) τ16) ∧ (x15 = 1 → ∃ (Q19 : Int → S0 → Prop), W_X12_makesItsSymbols lb u1 τ16 Q19 ∧ ∀ (x20 : Int) (τ21 : S0), rg x20 → n_m τ21 → f_r [17, 18, 19, 54] [39, 40, 41, 42, 43, 84, 85, 86, 88, 89, 90] [8] τ16 τ21 → Q19 x20 τ21 → ((¬ x20 = 0 → rg (u1 + 1) ∧ P56 (u1 + 1) τ21) ∧ (x20 = 0 → Q 0 τ21)))))) → P56 u1 τ) →
  P2 0 σ
set_option maxRecDepth 100000 in
set_option maxHeartbeats 4000000 in
theorem L_X12_check (l : Launch) (g : gG) (t1 t2 : Nat) (q : Nat → Nat) (lb : Nat) (hlb : lb < 2 ^ 31) {σ : S0} {Q : Int → S0 → Prop} (hN : n_m σ) (hw : W_X12_check lb σ Q) (sz : Nat) : MetI l yX12_check cX12_check 2 (some .int) { frames := 6, cells := 0, slots := 0, locals := 173 } g [.ref (q 0)] (CX g q lb σ) sz (sX t1 t2 (va_A (CX g q lb σ) sz)) (p_I (CX g q lb) [17, 18, 19, 40, 41, 42, 43, 44, 45, 46, 47, 48, 49, 50, 51, 52, 53, 54] [39, 40, 41, 42, 43, 44, 45, 55, 56, 57, 58, 59, 60, 61, 62, 63, 64, 65, 66, 67, 68, 69, 70, 71, 72, 73, 74, 75, 76, 77, 78, 79, 80, 81, 82, 83, 84, 85, 86, 88, 89, 90] [3, 4, 5, 6, 7, 8] σ Q) 0 0 := by
  refine mkMet (Qc := fun A => QI g A (p_I (CX g q lb) [17, 18, 19, 40, 41, 42, 43, 44, 45, 46, 47, 48, 49, 50, 51, 52, 53, 54] [39, 40, 41, 42, 43, 44, 45, 55, 56, 57, 58, 59, 60, 61, 62, 63, 64, 65, 66, 67, 68, 69, 70, 71, 72, 73, 74, 75, 76, 77, 78, 79, 80, 81, 82, 83, 84, 85, 86, 88, 89, 90] [3, 4, 5, 6, 7, 8] σ Q)) (by decide) (Nat.le_of_ble_eq_true rfl) ?_
  intro p e s m below meth c A H ls hx hb hr hml hown hts hlk hnm hsz hP hK hNb hD hA hAe hS hX hl
  rw [← hAe] at hX
  have hl : lv_has ls 2 [(0, .ref (q 0))] := hl
  have hB := hN
  have hF : f_r [17, 18, 19, 40, 41, 42, 43, 44, 45, 46, 47, 48, 49, 50, 51, 52, 53, 54] [39, 40, 41, 42, 43, 44, 45, 55, 56, 57, 58, 59, 60, 61, 62, 63, 64, 65, 66, 67, 68, 69, 70, 71, 72, 73, 74, 75, 76, 77, 78, 79, 80, 81, 82, 83, 84, 85, 86, 88, 89, 90] [3, 4, 5, 6, 7, 8] σ σ := f_0
  obtain ⟨locs, hlocs⟩ : ∃ z : List Loc, z = [] := ⟨_, rfl⟩
  rw [← hlocs] at hS ⊢
  obtain ⟨P2, hP2⟩ : ∃ P : Int → S0 → Prop, ∀ (u1 : Int) (τ : S0), (P u1 τ ↔ (rg u1 → n_m τ → f_r [17, 18, 19, 40, 41, 42, 43, 44, 45, 46, 47, 48, 49, 50, 51, 52, 53, 54] [39, 40, 41, 42, 43, 44, 45, 55, 56, 57, 58, 59, 60, 61, 62, 63, 64, 65, 66, 67, 68, 69, 70, 71, 72, 73, 74, 75, 76, 77, 78, 79, 80, 81, 82, 83, 84, 85, 86, 88, 89, 90] [3, 4, 5, 6, 7, 8] σ τ → ∀ (H : Heap) (locs : List Loc) (ls : Array Slot), KP g (CX g q lb τ) H → va_D A (CX g q lb τ) → va_S A s.heap H locs → lv_has ls 2 [(0, .ref (q 0)), (1, .int (I u1))] → W p l e ({ frames := 6, cells := 0, slots := 0, locals := 173 }) s m [.ref (q 0)].toArray below meth c H locs 0 0 (MQ below (QI g A (p_I (CX g q lb) [17, 18, 19, 40, 41, 42, 43, 44, 45, 46, 47, 48, 49, 50, 51, 52, 53, 54] [39, 40, 41, 42, 43, 44, 45, 55, 56, 57, 58, 59, 60, 61, 62, 63, 64, 65, 66, 67, 68, 69, 70, 71, 72, 73, 74, 75, 76, 77, 78, 79, 80, 81, 82, 83, 84, 85, 86, 88, 89, 90] [3, 4, 5, 6, 7, 8] σ Q)) [.ref (q 0)].toArray s 0 0 A) (F0 m 2 ls []))) := ⟨_, fun _ _ => Iff.rfl⟩
  obtain ⟨P56, hP56⟩ : ∃ P : Int → S0 → Prop, ∀ (u1 : Int) (τ : S0), (P u1 τ ↔ (rg u1 → n_m τ → f_r [17, 18, 19, 40, 41, 42, 43, 44, 45, 46, 47, 48, 49, 50, 51, 52, 53, 54] [39, 40, 41, 42, 43, 44, 45, 55, 56, 57, 58, 59, 60, 61, 62, 63, 64, 65, 66, 67, 68, 69, 70, 71, 72, 73, 74, 75, 76, 77, 78, 79, 80, 81, 82, 83, 84, 85, 86, 88, 89, 90] [3, 4, 5, 6, 7, 8] σ τ → ∀ (H : Heap) (locs : List Loc) (ls : Array Slot), KP g (CX g q lb τ) H → va_D A (CX g q lb τ) → va_S A s.heap H locs → lv_has ls 2 [(0, .ref (q 0)), (1, .int (I u1))] → W p l e ({ frames := 6, cells := 0, slots := 0, locals := 173 }) s m [.ref (q 0)].toArray below meth c H locs 0 0 (MQ below (QI g A (p_I (CX g q lb) [17, 18, 19, 40, 41, 42, 43, 44, 45, 46, 47, 48, 49, 50, 51, 52, 53, 54] [39, 40, 41, 42, 43, 44, 45, 55, 56, 57, 58, 59, 60, 61, 62, 63, 64, 65, 66, 67, 68, 69, 70, 71, 72, 73, 74, 75, 76, 77, 78, 79, 80, 81, 82, 83, 84, 85, 86, 88, 89, 90] [3, 4, 5, 6, 7, 8] σ Q)) [.ref (q 0)].toArray s 0 0 A) (F0 m 56 ls []))) := ⟨_, fun _ _ => Iff.rfl⟩
  refine (fun hw => ?_) (hw P2 P56 ?_ ?_)
  ·
    refine lv_iconst (v := I 0) hx hb dX12_check_0 rfl ?_
    refine lv_istore_n (lv' := [(1, .int (I 0)), (0, .ref (q 0))]) hx hb dX12_check_1 rfl hl (by decide) rfl (fun ls hl => ?_)
    exact (hP2 _ _).mp hw (by decide) hN hF H locs ls hP hD hS (lv_sub hl [1, 0] rfl)
  ·
    intro u1 τ hw
    refine (hP2 _ _).mpr ?_
    intro r_u1 hN hF H locs ls hP hD hS hl
    have hB := hN
    refine lv_iload_n hx hb dX12_check_2 rfl (lv_at hl 1 rfl) ?_
    refine lv_aload_n hx hb dX12_check_3 rfl (lv_at hl 0 rfl) ?_
    refine gfX12_library hx hb hts hK hP hown (hts _ tw_889) dX12_check_4 ?_
    refine gfNX3_statements hx hb hts hK hP hown (nb_use hNb tn_105) (x := τ.1 7) rfl dX12_check_7 ?_
    refine bi_icmp_ge (tgt := 42) hx hb r_u1 (hB.1 7) dX12_check_10 (by decide) (fun c1 => ?_) (fun c1 => ?_)
    ·
      replace hw := hw.1 c1
      refine lv_iconst (v := I 0) hx hb dX12_check_42 rfl ?_
      refine lv_aload_n hx hb dX12_check_43 rfl (lv_at hl 0 rfl) ?_
      refine gfX12_library hx hb hts hK hP hown (hts _ tw_889) dX12_check_44 ?_
      refine gfNX3_statements hx hb hts hK hP hown (nb_use hNb tn_105) (x := τ.1 7) rfl dX12_check_47 ?_
      refine lv_iconst (v := I 4) hx hb dX12_check_50 rfl ?_
      refine bi_isub hx hb dX12_check_51 ?_
      obtain ⟨c2, hw⟩ := hw
      refine bi_mmax hx hb (by rw [hml]; exact hl.1.symm) hown (hts _ tw_1982) (hts _ tw_1119) (hts _ tw_16) (hts _ tw_1120) (Nat.le_of_ble_eq_true rfl) (Nat.le_of_ble_eq_true rfl) (Nat.le_of_ble_eq_true rfl) (Nat.le_of_ble_eq_true rfl) (by decide) c2 dX12_check_52 (fun x3 r_x3 p_x3 m_x3 o_x3 => ?_)
      replace hw := hw x3 r_x3 p_x3 m_x3 o_x3
      refine lv_istore_n (lv' := [(1, .int (I x3)), (0, .ref (q 0))]) hx hb dX12_check_55 rfl hl (by decide) rfl (fun ls hl => ?_)
      exact (hP56 _ _).mp hw r_x3 hN hF H locs ls hP hD hS (lv_sub hl [1, 0] rfl)
    ·
      replace hw := hw.2 c1
      refine lv_aload_n hx hb dX12_check_13 rfl (lv_at hl 0 rfl) ?_
      refine gfX12_library hx hb hts hK hP hown (hts _ tw_889) dX12_check_14 ?_
      refine gfNX3_kind hx hb hts hK hP hown (nb_use hNb tn_75) dX12_check_17 ?_
      refine lv_iload_n hx hb dX12_check_20 rfl (lv_at hl 1 rfl) ?_
      obtain ⟨c4, hw⟩ := hw
      refine ldCX3_kind hx hb hK hP hN c4 dX12_check_21 (fun x5 r_x5 e_x5 => ?_)
      replace hw := hw x5 r_x5 e_x5
      refine lv_iconst (v := I 3) hx hb dX12_check_22 rfl ?_
      refine bi_icmp_ne (tgt := 36) hx hb r_x5 (by decide) dX12_check_23 (by decide) (fun c6 => ?_) (fun c6 => ?_)
      ·
        replace hw := hw.1 c6
        refine lv_iinc (v := I (u1 + 1)) (lv' := [(1, .int (I (u1 + 1))), (0, .ref (q 0))]) hx hb dX12_check_36 hl (k := 1) rfl (I_add _ _) (by decide) rfl (fun ls hl => ?_)
        refine lv_goto (tgt := 2) hx hb dX12_check_39 (by decide) ?_
        obtain ⟨c7, hw⟩ := hw
        exact (hP2 _ _).mp hw c7 hN hF H locs ls hP hD hS (lv_sub hl [1, 0] rfl)
      ·
        replace hw := hw.2 c6
        refine lv_aload_n hx hb dX12_check_26 rfl (lv_at hl 0 rfl) ?_
        refine lv_iload_n hx hb dX12_check_27 rfl (lv_at hl 1 rfl) ?_
        obtain ⟨Q8, hc, hw⟩ := hw
        refine wc_I (X := CX g q lb) (va_runV (As := [.int (I u1)]) (rest := []) ⟨hx, hb, hml, hown, hts⟩ (L_X12_isSound l g q lb hlb r_u1 hN hc H.size) (cwV 1 hts (TB_V tw_1958 tw_1960 ts_98 tw_1 co_X12_isSound) rfl rfl rfl (by decide +kernel) ⟨Nat.le_of_ble_eq_true rfl, Nat.le_of_ble_eq_true rfl⟩) (preV (q0 := 0) (ci := 12) rfl xT_bl hP hK hNb hD rfl rfl xT_at) rfl rfl hl.1 rfl (lv_room (Nat.le_of_ble_eq_true rfl)) dX12_check_28 ⟨Nat.le_of_ble_eq_true rfl, Nat.le_of_ble_eq_true rfl⟩) hP hD hS hA (fun x9 τ10 H locs r_x9 hN hf hq hP hD hS => ?_)
        replace hw := hw x9 τ10 r_x9 hN hf hq
        have hF : f_r [17, 18, 19, 40, 41, 42, 43, 44, 45, 46, 47, 48, 49, 50, 51, 52, 53, 54] [39, 40, 41, 42, 43, 44, 45, 55, 56, 57, 58, 59, 60, 61, 62, 63, 64, 65, 66, 67, 68, 69, 70, 71, 72, 73, 74, 75, 76, 77, 78, 79, 80, 81, 82, 83, 84, 85, 86, 88, 89, 90] [3, 4, 5, 6, 7, 8] σ τ10 := f_t hF hf (by decide) (by decide) (by decide)
        have hB := hN
        refine bi_if_ne (tgt := 36) hx hb r_x9 dX12_check_31 (by decide) (fun c11 => ?_) (fun c11 => ?_)
        ·
          replace hw := hw.1 c11
          refine lv_iinc (v := I (u1 + 1)) (lv' := [(1, .int (I (u1 + 1))), (0, .ref (q 0))]) hx hb dX12_check_36 hl (k := 1) rfl (I_add _ _) (by decide) rfl (fun ls hl => ?_)
          refine lv_goto (tgt := 2) hx hb dX12_check_39 (by decide) ?_
          obtain ⟨c12, hw⟩ := hw
          exact (hP2 _ _).mp hw c12 hN hF H locs ls hP hD hS (lv_sub hl [1, 0] rfl)
        ·
          replace hw := hw.2 c11
          refine lv_iconst (v := I 0) hx hb dX12_check_34 rfl ?_
          exact xri hx hb hr hlk hP hK hD hS ⟨_, _, (by decide), rfl, hN, hF, rfl, hw⟩ (Nat.le_of_ble_eq_true rfl) (Nat.le_of_ble_eq_true rfl) dX12_check_35
  ·
    intro u1 τ hw
    refine (hP56 _ _).mpr ?_
    intro r_u1 hN hF H locs ls hP hD hS hl
    have hB := hN
    refine lv_iload_n hx hb dX12_check_56 rfl (lv_at hl 1 rfl) ?_
    refine lv_aload_n hx hb dX12_check_57 rfl (lv_at hl 0 rfl) ?_
    refine gfX12_library hx hb hts hK hP hown (hts _ tw_889) dX12_check_58 ?_
    refine gfNX3_statements hx hb hts hK hP hown (nb_use hNb tn_105) (x := τ.1 7) rfl dX12_check_61 ?_
    refine bi_icmp_ge (tgt := 92) hx hb r_u1 (hB.1 7) dX12_check_64 (by decide) (fun c13 => ?_) (fun c13 => ?_)
    ·
      replace hw := hw.1 c13
      refine lv_iconst (v := I 1) hx hb dX12_check_92 rfl ?_
      exact xri hx hb hr hlk hP hK hD hS ⟨_, _, (by decide), rfl, hN, hF, rfl, hw⟩ (Nat.le_of_ble_eq_true rfl) (Nat.le_of_ble_eq_true rfl) dX12_check_93
    ·
      replace hw := hw.2 c13
      refine lv_aload_n hx hb dX12_check_67 rfl (lv_at hl 0 rfl) ?_
      refine lv_iload_n hx hb dX12_check_68 rfl (lv_at hl 1 rfl) ?_
      obtain ⟨Q14, hc, hw⟩ := hw
      refine wc_I (X := CX g q lb) (va_runV (As := [.int (I u1)]) (rest := []) ⟨hx, hb, hml, hown, hts⟩ (L_X12_treesOf l g t1 t2 q lb hlb r_u1 hN hc H.size) (cwV 1 hts (TB_V tw_1667 tw_1669 ts_66 tw_1 co_X12_treesOf) rfl rfl rfl (by decide +kernel) ⟨Nat.le_of_ble_eq_true rfl, Nat.le_of_ble_eq_true rfl⟩) (preV (q0 := 0) (ci := 12) rfl sX_bl hP hK hNb hD rfl rfl (sX_call hX hS (d_full hD hS hA))) rfl rfl hl.1 rfl (lv_room (Nat.le_of_ble_eq_true rfl)) dX12_check_69 ⟨Nat.le_of_ble_eq_true rfl, Nat.le_of_ble_eq_true rfl⟩) hP hD hS hA (fun x15 τ16 H locs r_x15 hN hf hq hP hD hS => ?_)
      replace hw := hw x15 τ16 r_x15 hN hf hq
      have hF : f_r [17, 18, 19, 40, 41, 42, 43, 44, 45, 46, 47, 48, 49, 50, 51, 52, 53, 54] [39, 40, 41, 42, 43, 44, 45, 55, 56, 57, 58, 59, 60, 61, 62, 63, 64, 65, 66, 67, 68, 69, 70, 71, 72, 73, 74, 75, 76, 77, 78, 79, 80, 81, 82, 83, 84, 85, 86, 88, 89, 90] [3, 4, 5, 6, 7, 8] σ τ16 := f_t hF hf (by decide) (by decide) (by decide)
      have hB := hN
      refine lv_iconst (v := I 1) hx hb dX12_check_72 rfl ?_
      refine bi_icmp_ne (tgt := 86) hx hb r_x15 (by decide) dX12_check_73 (by decide) (fun c17 => ?_) (fun c17 => ?_)
      ·
        replace hw := hw.1 c17
        refine lv_iinc (v := I (u1 + 1)) (lv' := [(1, .int (I (u1 + 1))), (0, .ref (q 0))]) hx hb dX12_check_86 hl (k := 1) rfl (I_add _ _) (by decide) rfl (fun ls hl => ?_)
        refine lv_goto (tgt := 56) hx hb dX12_check_89 (by decide) ?_
        obtain ⟨c18, hw⟩ := hw
        exact (hP56 _ _).mp hw c18 hN hF H locs ls hP hD hS (lv_sub hl [1, 0] rfl)
      ·
        replace hw := hw.2 c17
        refine lv_aload_n hx hb dX12_check_76 rfl (lv_at hl 0 rfl) ?_
        refine lv_iload_n hx hb dX12_check_77 rfl (lv_at hl 1 rfl) ?_
        obtain ⟨Q19, hc, hw⟩ := hw
        refine wc_I (X := CX g q lb) (va_runV (As := [.int (I u1)]) (rest := []) ⟨hx, hb, hml, hown, hts⟩ (L_X12_makesItsSymbols l g q lb hlb r_u1 hN hc H.size) (cwV 1 hts (TB_V tw_1983 tw_1985 ts_101 tw_1 co_X12_makesItsSymbols) rfl rfl rfl (by decide +kernel) ⟨Nat.le_of_ble_eq_true rfl, Nat.le_of_ble_eq_true rfl⟩) (preV (q0 := 0) (ci := 12) rfl xT_bl hP hK hNb hD rfl rfl xT_at) rfl rfl hl.1 rfl (lv_room (Nat.le_of_ble_eq_true rfl)) dX12_check_78 ⟨Nat.le_of_ble_eq_true rfl, Nat.le_of_ble_eq_true rfl⟩) hP hD hS hA (fun x20 τ21 H locs r_x20 hN hf hq hP hD hS => ?_)
        replace hw := hw x20 τ21 r_x20 hN hf hq
        have hF : f_r [17, 18, 19, 40, 41, 42, 43, 44, 45, 46, 47, 48, 49, 50, 51, 52, 53, 54] [39, 40, 41, 42, 43, 44, 45, 55, 56, 57, 58, 59, 60, 61, 62, 63, 64, 65, 66, 67, 68, 69, 70, 71, 72, 73, 74, 75, 76, 77, 78, 79, 80, 81, 82, 83, 84, 85, 86, 88, 89, 90] [3, 4, 5, 6, 7, 8] σ τ21 := f_t hF hf (by decide) (by decide) (by decide)
        have hB := hN
        refine bi_if_ne (tgt := 86) hx hb r_x20 dX12_check_81 (by decide) (fun c22 => ?_) (fun c22 => ?_)
        ·
          replace hw := hw.1 c22
          refine lv_iinc (v := I (u1 + 1)) (lv' := [(1, .int (I (u1 + 1))), (0, .ref (q 0))]) hx hb dX12_check_86 hl (k := 1) rfl (I_add _ _) (by decide) rfl (fun ls hl => ?_)
          refine lv_goto (tgt := 56) hx hb dX12_check_89 (by decide) ?_
          obtain ⟨c23, hw⟩ := hw
          exact (hP56 _ _).mp hw c23 hN hF H locs ls hP hD hS (lv_sub hl [1, 0] rfl)
        ·
          replace hw := hw.2 c22
          refine lv_iconst (v := I 0) hx hb dX12_check_84 rfl ?_
          exact xri hx hb hr hlk hP hK hD hS ⟨_, _, (by decide), rfl, hN, hF, rfl, hw⟩ (Nat.le_of_ble_eq_true rfl) (Nat.le_of_ble_eq_true rfl) dX12_check_85
