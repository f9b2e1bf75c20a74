-- methods told as propositions, and tied to the machine
def W_X13_resting (n1 : Int) (σ : S0) (Q : Int → Prop) : Prop :=
  ∀ (P4 : Int → Int → Int → Prop),
  (∀ (u1 : Int) (u2 : Int) (u3 : Int), ((σ.1 5 ≤ u3 → Q u2) ∧ (u3 < σ.1 5 → ∀ (x2 : Int), rg x2 → (0 ≤ u3 → x2 = u3 / 64) → (u3 < 0 → x2 = -((-u3) / 64)) → ((0 ≤ ((24 * u1) + x2) ∧ ((24 * u1) + x2) < 36024) ∧ (∀ (x4 : Int64), x4 = σ.2.2 0 ((24 * u1) + x2) → (∀ (x5 : Int), rg x5 → (0 ≤ u3 → x5 = u3 % 64) → (u3 < 0 → x5 = -((-u3) % 64)) → ((¬ ((j_shr x4 x5) &&& 1) = 1 → rg (u2 + 0) ∧ rg (u3 + 1) ∧ P4 u1 (u2 + 0) (u3 + 1)) ∧ (((j_shr x4 x5) &&& 1) = 1 → rg (u2 + 1) ∧ rg (u3 + 1) ∧ P4 u1 (u2 + 1) (u3 + 1)))))))) → P4 u1 u2 u3) →
  P4 n1 0 0
set_option maxRecDepth 100000 in
set_option maxHeartbeats 4000000 in
theorem L_X13_resting (l : Launch) (g : gG) (q : Nat → Nat) (lb : Nat) (hlb : lb < 2 ^ 31) {n1 : Int} {σ : S0} {Q : Int → Prop} (r_n1 : rg n1) (hN : n_m σ) (hw : W_X13_resting n1 σ Q) (sz : Nat) : MetI l yX13_resting cX13_resting 4 (some .int) { frames := 0, cells := 0, slots := 0, locals := 0 } g [.ref (q 0), .int (I n1)] (MX g q lb σ) sz xT (p_i (MX g q lb) σ Q) 0 0 := by
  refine mkMet (Qc := fun A => QI g A (p_i (MX g q lb) σ Q)) (by decide) (Nat.le_of_ble_eq_true rfl) ?_
  intro p e s m below meth c A H ls hx hb hr hml hown hts hlk hnm hsz hP hK hNb hD hA hAe hS hX hl
  have hl : lv_has ls 4 [(0, .ref (q 0)), (1, .int (I n1))] := hl
  have hB := hN
  obtain ⟨locs, hlocs⟩ : ∃ z : List Loc, z = [] := ⟨_, rfl⟩
  rw [← hlocs] at hS ⊢
  obtain ⟨P4, hP4⟩ : ∃ P : Int → Int → Int → Prop, ∀ (u1 : Int) (u2 : Int) (u3 : Int), (P u1 u2 u3 ↔ (rg u1 → rg u2 → rg u3 → ∀ (H : Heap) (locs : List Loc) (ls : Array Slot), KP g (MX g q lb σ) H → va_D A (MX g q lb σ) → va_S A s.heap H locs → lv_has ls 4 [(0, .ref (q 0)), (1, .int (I u1)), (2, .int (I u2)), (3, .int (I u3))] → W p l e ({ frames := 0, cells := 0, slots := 0, locals := 0 }) s m [.ref (q 0), .int (I n1)].toArray below meth c H locs 0 0 (MQ below (QI g A (p_i (MX g q lb) σ Q)) [.ref (q 0), .int (I n1)].toArray s 0 0 A) (F0 m 4 ls []))) := ⟨_, fun _ _ _ => Iff.rfl⟩
  refine (fun hw => ?_) (hw P4 ?_)
  ·
    refine lv_iconst (v := I 0) hx hb dX13_resting_0 rfl ?_
    refine lv_istore_n (lv' := [(2, .int (I 0)), (0, .ref (q 0)), (1, .int (I n1))]) hx hb dX13_resting_1 rfl hl (by decide) rfl (fun ls hl => ?_)
    refine lv_iconst (v := I 0) hx hb dX13_resting_2 rfl ?_
    refine lv_istore_n (lv' := [(3, .int (I 0)), (2, .int (I 0)), (0, .ref (q 0)), (1, .int (I n1))]) hx hb dX13_resting_3 rfl hl (by decide) rfl (fun ls hl => ?_)
    exact (hP4 _ _ _).mp hw r_n1 (by decide) (by decide)  H locs ls hP hD hS (lv_sub hl [2, 3, 1, 0] rfl)
  ·
    intro u1 u2 u3 hw
    refine (hP4 _ _ _).mpr ?_
    intro r_u1 r_u2 r_u3 H locs ls hP hD hS hl
    refine lv_iload_n hx hb dX13_resting_4 rfl (lv_at hl 3 rfl) ?_
    refine lv_aload_n hx hb dX13_resting_5 rfl (lv_at hl 0 rfl) ?_
    refine gfX13_statements hx hb hts hK hP hown (hts _ tw_2024) (x := σ.1 5) rfl dX13_resting_6 ?_
    refine bi_icmp_ge (tgt := 52) hx hb r_u3 (hB.1 5) dX13_resting_9 (by decide) (fun c1 => ?_) (fun c1 => ?_)
    ·
      replace hw := hw.1 c1
      refine lv_iload_n hx hb dX13_resting_52 rfl (lv_at hl 2 rfl) ?_
      exact xri hx hb hr hlk hP hK hD hS ⟨_, r_u2, rfl, rfl, hw⟩ (Nat.le_of_ble_eq_true rfl) (Nat.le_of_ble_eq_true rfl) dX13_resting_53
    ·
      replace hw := hw.2 c1
      refine lv_iload_n hx hb dX13_resting_12 rfl (lv_at hl 2 rfl) ?_
      refine lv_aload_n hx hb dX13_resting_13 rfl (lv_at hl 0 rfl) ?_
      refine gfX13_rest hx hb hts hK hP hown (hts _ tw_2046) dX13_resting_14 ?_
      refine lv_bipush (v := I 24) hx hb dX13_resting_17 (by decide) ?_
      refine lv_iload_n hx hb dX13_resting_19 rfl (lv_at hl 1 rfl) ?_
      refine bi_imul hx hb dX13_resting_20 ?_
      refine lv_iload_n hx hb dX13_resting_21 rfl (lv_at hl 3 rfl) ?_
      refine lv_bipush (v := I 64) hx hb dX13_resting_22 (by decide) ?_
      refine bi_idiv hx hb r_u3 (by decide) (by decide) dX13_resting_24 (fun x2 r_x2 p_x2 m_x2 => ?_)
      replace hw := hw x2 r_x2 p_x2 m_x2
      refine bi_iadd hx hb dX13_resting_25 ?_
      obtain ⟨c3, hw⟩ := hw
      refine ldMX13_rest hx hb hK hP hN c3 dX13_resting_26 (fun x4 e_x4 => ?_)
      replace hw := hw x4 e_x4
      refine lv_iload_n hx hb dX13_resting_27 rfl (lv_at hl 3 rfl) ?_
      refine lv_bipush (v := I 64) hx hb dX13_resting_28 (by decide) ?_
      refine bi_irem hx hb r_u3 (by decide) (by decide) dX13_resting_30 (fun x5 r_x5 p_x5 m_x5 => ?_)
      replace hw := hw x5 r_x5 p_x5 m_x5
      refine bi_lshr hx hb dX13_resting_31 ?_
      refine lv_lconst (v := 1) hx hb dX13_resting_32 (by decide) ?_
      refine lv_land hx hb dX13_resting_33 ?_
      refine lv_lconst (v := 1) hx hb dX13_resting_34 (by decide) ?_
      refine bi_lcmp_ne (tgt := 43) hx hb dX13_resting_35 dX13_resting_36 (by decide) (fun c6 => ?_) (fun c6 => ?_)
      ·
        replace hw := hw.1 c6
        refine lv_iconst (v := I 0) hx hb dX13_resting_43 rfl ?_
        refine bi_iadd hx hb dX13_resting_44 ?_
        refine lv_istore_n (lv' := [(2, .int (I (u2 + 0))), (0, .ref (q 0)), (1, .int (I u1)), (3, .int (I u3))]) hx hb dX13_resting_45 rfl hl (by decide) rfl (fun ls hl => ?_)
        refine lv_iinc (v := I (u3 + 1)) (lv' := [(3, .int (I (u3 + 1))), (2, .int (I (u2 + 0))), (0, .ref (q 0)), (1, .int (I u1))]) hx hb dX13_resting_46 hl (k := 3) rfl (I_add _ _) (by decide) rfl (fun ls hl => ?_)
        refine lv_goto (tgt := 4) hx hb dX13_resting_49 (by decide) ?_
        obtain ⟨c7, hw⟩ := hw
        obtain ⟨c8, hw⟩ := hw
        exact (hP4 _ _ _).mp hw r_u1 c7 c8  H locs ls hP hD hS (lv_sub hl [2, 3, 1, 0] rfl)
      ·
        replace hw := hw.2 c6
        refine lv_iconst (v := I 1) hx hb dX13_resting_39 rfl ?_
        refine lv_goto (tgt := 44) hx hb dX13_resting_40 (by decide) ?_
        refine bi_iadd hx hb dX13_resting_44 ?_
        refine lv_istore_n (lv' := [(2, .int (I (u2 + 1))), (0, .ref (q 0)), (1, .int (I u1)), (3, .int (I u3))]) hx hb dX13_resting_45 rfl hl (by decide) rfl (fun ls hl => ?_)
        refine lv_iinc (v := I (u3 + 1)) (lv' := [(3, .int (I (u3 + 1))), (2, .int (I (u2 + 1))), (0, .ref (q 0)), (1, .int (I u1))]) hx hb dX13_resting_46 hl (k := 3) rfl (I_add _ _) (by decide) rfl (fun ls hl => ?_)
        refine lv_goto (tgt := 4) hx hb dX13_resting_49 (by decide) ?_
        obtain ⟨c9, hw⟩ := hw
        obtain ⟨c10, hw⟩ := hw
        exact (hP4 _ _ _).mp hw r_u1 c9 c10  H locs ls hP hD hS (lv_sub hl [2, 3, 1, 0] rfl)
def W_X13_frame (n1 : Int) (n2 : Int) (σ : S0) (Q : Int → Prop) : Prop :=
  ∃ (Q1 : Int → Prop), W_X13_isAssertion n1 σ Q1 ∧ ∀ (x2 : Int), rg x2 → Q1 x2 → ((x2 = 0 → Q (-1)) ∧ (¬ x2 = 0 → ∃ (Q5 : Int → Prop), W_X13_isIn (j_of n2) 0 2 σ Q5 ∧ ∀ (x6 : Int), rg x6 → Q5 x6 → ((¬ x6 = 0 → (¬ n2 = 0 → (¬ n2 = 1 → (0 ≤ n1 ∧ n1 < 1501) ∧ (∀ (x12 : Int), rg x12 → x12 = σ.2.1 13 n1 → ((¬ x12 = 4 → ∃ (Q14 : Int → Prop), W_X13_resting n1 σ Q14 ∧ ∀ (x15 : Int), rg x15 → Q14 x15 → (Q x15)) ∧ (x12 = 4 → Q (-1))))) ∧ (n2 = 1 → (0 ≤ n1 ∧ n1 < 1501) ∧ (∀ (x18 : Int), rg x18 → x18 = σ.2.1 22 n1 → (Q x18)))) ∧ (n2 = 0 → (0 ≤ n1 ∧ n1 < 1501) ∧ (∀ (x20 : Int), rg x20 → x20 = σ.2.1 19 n1 → (Q x20)))) ∧ (x6 = 0 → Q (-1)))))
set_option maxRecDepth 100000 in
set_option maxHeartbeats 4000000 in
theorem L_X13_frame (l : Launch) (g : gG) (q : Nat → Nat) (lb : Nat) (hlb : lb < 2 ^ 31) {n1 : Int} {n2 : Int} {σ : S0} {Q : Int → Prop} (r_n1 : rg n1) (r_n2 : rg n2) (hN : n_m σ) (hw : W_X13_frame n1 n2 σ Q) (sz : Nat) : MetI l yX13_frame cX13_frame 3 (some .int) { frames := 3, cells := 0, slots := 0, locals := 67 } g [.ref (q 0), .int (I n1), .int (I n2)] (MX g q lb σ) sz xT (p_i (MX g q lb) σ Q) 0 0 := by
  refine mkMet (Qc := fun A => QI g A (p_i (MX g q lb) σ Q)) (by decide) (Nat.le_of_ble_eq_true rfl) ?_
  intro p e s m below meth c A H ls hx hb hr hml hown hts hlk hnm hsz hP hK hNb hD hA hAe hS hX hl
  have hl : lv_has ls 3 [(0, .ref (q 0)), (1, .int (I n1)), (2, .int (I n2))] := hl
  have hB := hN
  obtain ⟨locs, hlocs⟩ : ∃ z : List Loc, z = [] := ⟨_, rfl⟩
  rw [← hlocs] at hS ⊢
  refine lv_aload_n hx hb dX13_frame_0 rfl (lv_at hl 0 rfl) ?_
  refine lv_iload_n hx hb dX13_frame_1 rfl (lv_at hl 1 rfl) ?_
  obtain ⟨Q1, hc, hw⟩ := hw
  refine wc_i (X := MX g q lb) (va_runV (As := [.int (I n1)]) (rest := []) ⟨hx, hb, hml, hown, hts⟩ (L_X13_isAssertion l g q lb hlb r_n1 hN hc H.size) (cwV 1 hts (TB_V tw_2835 tw_2837 ts_164 tw_15 co_X13_isAssertion) rfl rfl rfl (by decide +kernel) ⟨Nat.le_of_ble_eq_true rfl, Nat.le_of_ble_eq_true rfl⟩) (preV (q0 := 0) (ci := 13) rfl xT_bl hP hK hNb hD rfl rfl xT_at) rfl rfl hl.1 rfl (lv_room (Nat.le_of_ble_eq_true rfl)) dX13_frame_2 ⟨Nat.le_of_ble_eq_true rfl, Nat.le_of_ble_eq_true rfl⟩) hP hD hS hA (fun x2 H locs r_x2 hq hP hD hS => ?_)
  replace hw := hw x2 r_x2 hq
  refine bi_if_eq (tgt := 20) hx hb r_x2 dX13_frame_5 (by decide) (fun c4 => ?_) (fun c4 => ?_)
  ·
    replace hw := hw.1 c4
    refine lv_iconst (v := I (-1)) hx hb dX13_frame_20 rfl ?_
    exact xri hx hb hr hlk hP hK hD hS ⟨_, (by decide), rfl, rfl, hw⟩ (Nat.le_of_ble_eq_true rfl) (Nat.le_of_ble_eq_true rfl) dX13_frame_21
  ·
    replace hw := hw.2 c4
    refine lv_iload_n hx hb dX13_frame_8 rfl (lv_at hl 2 rfl) ?_
    refine bi_i2l hx hb r_n2 dX13_frame_9 ?_
    refine lv_lconst (v := 0) hx hb dX13_frame_10 (by decide) ?_
    refine lv_ldc2 (own := RX13) (v := 2) hx hb hown (hts _ tw_2839) dX13_frame_11 ?_
    obtain ⟨Q5, hc, hw⟩ := hw
    refine wc_i (X := MX g q lb) (va_runS (As := [.long (j_of n2), .long 0, .long 2]) (rest := []) ⟨hx, hb, hml, hown, hts⟩ (L_X13_isIn l g q lb hlb  hN hc H.size) (cwS 3 hts (TB_S tw_2525 tw_2526 tw_15 co_X13_isIn) rfl rfl rfl (by decide +kernel) ⟨Nat.le_of_ble_eq_true rfl, Nat.le_of_ble_eq_true rfl⟩) (preS xT_bl hP hK hNb hD xT_at) rfl rfl hl.1 rfl (lv_room (Nat.le_of_ble_eq_true rfl)) dX13_frame_14 ⟨Nat.le_of_ble_eq_true rfl, Nat.le_of_ble_eq_true rfl⟩) hP hD hS hA (fun x6 H locs r_x6 hq hP hD hS => ?_)
    replace hw := hw x6 r_x6 hq
    refine bi_if_ne (tgt := 22) hx hb r_x6 dX13_frame_17 (by decide) (fun c8 => ?_) (fun c8 => ?_)
    ·
      replace hw := hw.1 c8
      refine lv_iload_n hx hb dX13_frame_22 rfl (lv_at hl 2 rfl) ?_
      refine bi_if_ne (tgt := 35) hx hb r_n2 dX13_frame_23 (by decide) (fun c9 => ?_) (fun c9 => ?_)
      ·
        replace hw := hw.1 c9
        refine lv_iload_n hx hb dX13_frame_35 rfl (lv_at hl 2 rfl) ?_
        refine lv_iconst (v := I 1) hx hb dX13_frame_36 rfl ?_
        refine bi_icmp_ne (tgt := 49) hx hb r_n2 (by decide) dX13_frame_37 (by decide) (fun c10 => ?_) (fun c10 => ?_)
        ·
          replace hw := hw.1 c10
          refine lv_aload_n hx hb dX13_frame_49 rfl (lv_at hl 0 rfl) ?_
          refine gfX13_kindOf hx hb hts hK hP hown (hts _ tw_2025) dX13_frame_50 ?_
          refine lv_iload_n hx hb dX13_frame_53 rfl (lv_at hl 1 rfl) ?_
          obtain ⟨c11, hw⟩ := hw
          refine ldMX13_kindOf hx hb hK hP hN c11 dX13_frame_54 (fun x12 r_x12 e_x12 => ?_)
          replace hw := hw x12 r_x12 e_x12
          refine lv_iconst (v := I 4) hx hb dX13_frame_55 rfl ?_
          refine bi_icmp_ne (tgt := 63) hx hb r_x12 (by decide) dX13_frame_56 (by decide) (fun c13 => ?_) (fun c13 => ?_)
          ·
            replace hw := hw.1 c13
            refine lv_aload_n hx hb dX13_frame_63 rfl (lv_at hl 0 rfl) ?_
            refine lv_iload_n hx hb dX13_frame_64 rfl (lv_at hl 1 rfl) ?_
            obtain ⟨Q14, hc, hw⟩ := hw
            refine wc_i (X := MX g q lb) (va_runV (As := [.int (I n1)]) (rest := []) ⟨hx, hb, hml, hown, hts⟩ (L_X13_resting l g q lb hlb r_n1 hN hc H.size) (cwV 1 hts (TB_V tw_2840 tw_2842 ts_165 tw_15 co_X13_resting) rfl rfl rfl (by decide +kernel) ⟨Nat.le_of_ble_eq_true rfl, Nat.le_of_ble_eq_true rfl⟩) (preV (q0 := 0) (ci := 13) rfl xT_bl hP hK hNb hD rfl rfl xT_at) rfl rfl hl.1 rfl (lv_room (Nat.le_of_ble_eq_true rfl)) dX13_frame_65 ⟨Nat.le_of_ble_eq_true rfl, Nat.le_of_ble_eq_true rfl⟩) hP hD hS hA (fun x15 H locs r_x15 hq hP hD hS => ?_)
            replace hw := hw x15 r_x15 hq
            exact xri hx hb hr hlk hP hK hD hS ⟨_, r_x15, rfl, rfl, hw⟩ (Nat.le_of_ble_eq_true rfl) (Nat.le_of_ble_eq_true rfl) dX13_frame_68
          ·
            replace hw := hw.2 c13
            refine lv_iconst (v := I (-1)) hx hb dX13_frame_59 rfl ?_
            refine lv_goto (tgt := 68) hx hb dX13_frame_60 (by decide) ?_
            exact xri hx hb hr hlk hP hK hD hS ⟨_, (by decide), rfl, rfl, hw⟩ (Nat.le_of_ble_eq_true rfl) (Nat.le_of_ble_eq_true rfl) dX13_frame_68
        ·
          replace hw := hw.2 c10
          refine lv_aload_n hx hb dX13_frame_40 rfl (lv_at hl 0 rfl) ?_
          refine gfX13_pairSize hx hb hts hK hP hown (hts _ tw_2036) dX13_frame_41 ?_
          refine lv_iload_n hx hb dX13_frame_44 rfl (lv_at hl 1 rfl) ?_
          obtain ⟨c17, hw⟩ := hw
          refine ldMX13_pairSize hx hb hK hP hN c17 dX13_frame_45 (fun x18 r_x18 e_x18 => ?_)
          replace hw := hw x18 r_x18 e_x18
          refine lv_goto (tgt := 68) hx hb dX13_frame_46 (by decide) ?_
          exact xri hx hb hr hlk hP hK hD hS ⟨_, r_x18, rfl, rfl, hw⟩ (Nat.le_of_ble_eq_true rfl) (Nat.le_of_ble_eq_true rfl) dX13_frame_68
      ·
        replace hw := hw.2 c9
        refine lv_aload_n hx hb dX13_frame_26 rfl (lv_at hl 0 rfl) ?_
        refine gfX13_hypSize hx hb hts hK hP hown (hts _ tw_2032) dX13_frame_27 ?_
        refine lv_iload_n hx hb dX13_frame_30 rfl (lv_at hl 1 rfl) ?_
        obtain ⟨c19, hw⟩ := hw
        refine ldMX13_hypSize hx hb hK hP hN c19 dX13_frame_31 (fun x20 r_x20 e_x20 => ?_)
        replace hw := hw x20 r_x20 e_x20
        refine lv_goto (tgt := 68) hx hb dX13_frame_32 (by decide) ?_
        exact xri hx hb hr hlk hP hK hD hS ⟨_, r_x20, rfl, rfl, hw⟩ (Nat.le_of_ble_eq_true rfl) (Nat.le_of_ble_eq_true rfl) dX13_frame_68
    ·
      replace hw := hw.2 c8
      refine lv_iconst (v := I (-1)) hx hb dX13_frame_20 rfl ?_
      exact xri hx hb hr hlk hP hK hD hS ⟨_, (by decide), rfl, rfl, hw⟩ (Nat.le_of_ble_eq_true rfl) (Nat.le_of_ble_eq_true rfl) dX13_frame_21
def W_X13_hypothesis (n1 : Int) (n2 : Int) (σ : S0) (Q : Int → Prop) : Prop :=
  ∃ (Q1 : Int → Prop), W_X13_isAssertion n1 σ Q1 ∧ ∀ (x2 : Int), rg x2 → Q1 x2 → ((x2 = 0 → Q (-1)) ∧ (¬ x2 = 0 → (0 ≤ n1 ∧ n1 < 1501) ∧ (∀ (x6 : Int), rg x6 → x6 = σ.2.1 19 n1 → (rg (x6 - 1) ∧ ∃ (Q8 : Int → Prop), W_X13_isIn (j_of n2) 0 (j_of (x6 - 1)) σ Q8 ∧ ∀ (x9 : Int), rg x9 → Q8 x9 → ((x9 = 0 → Q (-1)) ∧ (¬ x9 = 0 → ∀ (x12 : Int), rg x12 → x12 = σ.2.1 18 n1 → ((0 ≤ (x12 + n2) ∧ (x12 + n2) < 90100) ∧ (∀ (x14 : Int), rg x14 → x14 = σ.2.1 20 (x12 + n2) → (Q x14)))))))))
set_option maxRecDepth 100000 in
set_option maxHeartbeats 4000000 in
theorem L_X13_hypothesis (l : Launch) (g : gG) (q : Nat → Nat) (lb : Nat) (hlb : lb < 2 ^ 31) {n1 : Int} {n2 : Int} {σ : S0} {Q : Int → Prop} (r_n1 : rg n1) (r_n2 : rg n2) (hN : n_m σ) (hw : W_X13_hypothesis n1 n2 σ Q) (sz : Nat) : MetI l yX13_hypothesis cX13_hypothesis 3 (some .int) { frames := 3, cells := 0, slots := 0, locals := 67 } g [.ref (q 0), .int (I n1), .int (I n2)] (MX g q lb σ) sz xT (p_i (MX g q lb) σ Q) 0 0 := by
  refine mkMet (Qc := fun A => QI g A (p_i (MX g q lb) σ Q)) (by decide) (Nat.le_of_ble_eq_true rfl) ?_
  intro p e s m below meth c A H ls hx hb hr hml hown hts hlk hnm hsz hP hK hNb hD hA hAe hS hX hl
  have hl : lv_has ls 3 [(0, .ref (q 0)), (1, .int (I n1)), (2, .int (I n2))] := hl
  have hB := hN
  obtain ⟨locs, hlocs⟩ : ∃ z : List Loc, z = [] := ⟨_, rfl⟩
  rw [← hlocs] at hS ⊢
  refine lv_aload_n hx hb dX13_hypothesis_0 rfl (lv_at hl 0 rfl) ?_
  refine lv_iload_n hx hb dX13_hypothesis_1 rfl (lv_at hl 1 rfl) ?_
  obtain ⟨Q1, hc, hw⟩ := hw
  refine wc_i (X := MX g q lb) (va_runV (As := [.int (I n1)]) (rest := []) ⟨hx, hb, hml, hown, hts⟩ (L_X13_isAssertion l g q lb hlb r_n1 hN hc H.size) (cwV 1 hts (TB_V tw_2835 tw_2837 ts_164 tw_15 co_X13_isAssertion) rfl rfl rfl (by decide +kernel) ⟨Nat.le_of_ble_eq_true rfl, Nat.le_of_ble_eq_true rfl⟩) (preV (q0 := 0) (ci := 13) rfl xT_bl hP hK hNb hD rfl rfl xT_at) rfl rfl hl.1 rfl (lv_room (Nat.le_of_ble_eq_true rfl)) dX13_hypothesis_2 ⟨Nat.le_of_ble_eq_true rfl, Nat.le_of_ble_eq_true rfl⟩) hP hD hS hA (fun x2 H locs r_x2 hq hP hD hS => ?_)
  replace hw := hw x2 r_x2 hq
  refine bi_if_eq (tgt := 42) hx hb r_x2 dX13_hypothesis_5 (by decide) (fun c4 => ?_) (fun c4 => ?_)
  ·
    replace hw := hw.1 c4
    refine lv_iconst (v := I (-1)) hx hb dX13_hypothesis_42 rfl ?_
    exact xri hx hb hr hlk hP hK hD hS ⟨_, (by decide), rfl, rfl, hw⟩ (Nat.le_of_ble_eq_true rfl) (Nat.le_of_ble_eq_true rfl) dX13_hypothesis_43
  ·
    replace hw := hw.2 c4
    refine lv_iload_n hx hb dX13_hypothesis_8 rfl (lv_at hl 2 rfl) ?_
    refine bi_i2l hx hb r_n2 dX13_hypothesis_9 ?_
    refine lv_lconst (v := 0) hx hb dX13_hypothesis_10 (by decide) ?_
    refine lv_aload_n hx hb dX13_hypothesis_11 rfl (lv_at hl 0 rfl) ?_
    refine gfX13_hypSize hx hb hts hK hP hown (hts _ tw_2032) dX13_hypothesis_12 ?_
    refine lv_iload_n hx hb dX13_hypothesis_15 rfl (lv_at hl 1 rfl) ?_
    obtain ⟨c5, hw⟩ := hw
    refine ldMX13_hypSize hx hb hK hP hN c5 dX13_hypothesis_16 (fun x6 r_x6 e_x6 => ?_)
    replace hw := hw x6 r_x6 e_x6
    refine lv_iconst (v := I 1) hx hb dX13_hypothesis_17 rfl ?_
    refine bi_isub hx hb dX13_hypothesis_18 ?_
    obtain ⟨c7, hw⟩ := hw
    refine bi_i2l hx hb c7 dX13_hypothesis_19 ?_
    obtain ⟨Q8, hc, hw⟩ := hw
    refine wc_i (X := MX g q lb) (va_runS (As := [.long (j_of n2), .long 0, .long (j_of (x6 - 1))]) (rest := []) ⟨hx, hb, hml, hown, hts⟩ (L_X13_isIn l g q lb hlb  hN hc H.size) (cwS 3 hts (TB_S tw_2525 tw_2526 tw_15 co_X13_isIn) rfl rfl rfl (by decide +kernel) ⟨Nat.le_of_ble_eq_true rfl, Nat.le_of_ble_eq_true rfl⟩) (preS xT_bl hP hK hNb hD xT_at) rfl rfl hl.1 rfl (lv_room (Nat.le_of_ble_eq_true rfl)) dX13_hypothesis_20 ⟨Nat.le_of_ble_eq_true rfl, Nat.le_of_ble_eq_true rfl⟩) hP hD hS hA (fun x9 H locs r_x9 hq hP hD hS => ?_)
    replace hw := hw x9 r_x9 hq
    refine bi_if_eq (tgt := 42) hx hb r_x9 dX13_hypothesis_23 (by decide) (fun c11 => ?_) (fun c11 => ?_)
    ·
      replace hw := hw.1 c11
      refine lv_iconst (v := I (-1)) hx hb dX13_hypothesis_42 rfl ?_
      exact xri hx hb hr hlk hP hK hD hS ⟨_, (by decide), rfl, rfl, hw⟩ (Nat.le_of_ble_eq_true rfl) (Nat.le_of_ble_eq_true rfl) dX13_hypothesis_43
    ·
      replace hw := hw.2 c11
      refine lv_aload_n hx hb dX13_hypothesis_26 rfl (lv_at hl 0 rfl) ?_
      refine gfX13_hyps hx hb hts hK hP hown (hts _ tw_2033) dX13_hypothesis_27 ?_
      refine lv_aload_n hx hb dX13_hypothesis_30 rfl (lv_at hl 0 rfl) ?_
      refine gfX13_hypAt hx hb hts hK hP hown (hts _ tw_2031) dX13_hypothesis_31 ?_
      refine lv_iload_n hx hb dX13_hypothesis_34 rfl (lv_at hl 1 rfl) ?_
      refine ldMX13_hypAt hx hb hK hP hN c5 dX13_hypothesis_35 (fun x12 r_x12 e_x12 => ?_)
      replace hw := hw x12 r_x12 e_x12
      refine lv_iload_n hx hb dX13_hypothesis_36 rfl (lv_at hl 2 rfl) ?_
      refine bi_iadd hx hb dX13_hypothesis_37 ?_
      obtain ⟨c13, hw⟩ := hw
      refine ldMX13_hyps hx hb hK hP hN c13 dX13_hypothesis_38 (fun x14 r_x14 e_x14 => ?_)
      replace hw := hw x14 r_x14 e_x14
      refine lv_goto (tgt := 43) hx hb dX13_hypothesis_39 (by decide) ?_
      exact xri hx hb hr hlk hP hK hD hS ⟨_, r_x14, rfl, rfl, hw⟩ (Nat.le_of_ble_eq_true rfl) (Nat.le_of_ble_eq_true rfl) dX13_hypothesis_43
def W_X13_apart (n1 : Int) (n2 : Int) (n3 : Int) (σ : S0) (Q : Int → Prop) : Prop :=
  ∀ (P18 : Int → Int → Int → Int → Prop) (P58 : Int → Int → Int → Int → Prop),
  (∀ (u1 : Int) (u2 : Int) (u3 : Int) (u4 : Int), ((0 ≤ u1 ∧ u1 < 1501) ∧ (∀ (x8 : Int), rg x8 → x8 = σ.2.1 21 u1 → (∀ (x9 : Int), rg x9 → x9 = σ.2.1 22 u1 → (rg (x8 + x9) ∧ ((x8 + x9) ≤ u4 → Q 0) ∧ (u4 < (x8 + x9) → (0 ≤ u4 ∧ u4 < 20000) ∧ (∀ (x13 : Int), rg x13 → x13 = σ.2.1 23 u4 → ((¬ x13 = u2 → P58 u1 u2 u3 u4) ∧ (x13 = u2 → ∀ (x15 : Int), rg x15 → x15 = σ.2.1 24 u4 → ((x15 = u3 → Q 1) ∧ (¬ x15 = u3 → P58 u1 u2 u3 u4)))))))))) → P18 u1 u2 u3 u4) →
  (∀ (u1 : Int) (u2 : Int) (u3 : Int) (u4 : Int), ((0 ≤ u4 ∧ u4 < 20000) ∧ (∀ (x18 : Int), rg x18 → x18 = σ.2.1 23 u4 → ((¬ x18 = u3 → rg (u4 + 1) ∧ P18 u1 u2 u3 (u4 + 1)) ∧ (x18 = u3 → ∀ (x21 : Int), rg x21 → x21 = σ.2.1 24 u4 → ((¬ x21 = u2 → rg (u4 + 1) ∧ P18 u1 u2 u3 (u4 + 1)) ∧ (x21 = u2 → Q 1)))))) → P58 u1 u2 u3 u4) →
  ∃ (Q1 : Int → Prop), W_X13_isAssertion n1 σ Q1 ∧ ∀ (x2 : Int), rg x2 → Q1 x2 → ((¬ x2 = 0 → (0 ≤ n1 ∧ n1 < 1501) ∧ (∀ (x6 : Int), rg x6 → x6 = σ.2.1 21 n1 → (P18 n1 n2 n3 x6))) ∧ (x2 = 0 → Q (-1)))
set_option maxRecDepth 100000 in
set_option maxHeartbeats 4000000 in
theorem L_X13_apart (l : Launch) (g : gG) (q : Nat → Nat) (lb : Nat) (hlb : lb < 2 ^ 31) {n1 : Int} {n2 : Int} {n3 : Int} {σ : S0} {Q : Int → Prop} (r_n1 : rg n1) (r_n2 : rg n2) (r_n3 : rg n3) (hN : n_m σ) (hw : W_X13_apart n1 n2 n3 σ Q) (sz : Nat) : MetI l yX13_apart cX13_apart 5 (some .int) { frames := 3, cells := 0, slots := 0, locals := 67 } g [.ref (q 0), .int (I n1), .int (I n2), .int (I n3)] (MX g q lb σ) sz xT (p_i (MX g q lb) σ Q) 0 0 := by
  refine mkMet (Qc := fun A => QI g A (p_i (MX g q lb) σ Q)) (by decide) (Nat.le_of_ble_eq_true rfl) ?_
  intro p e s m below meth c A H ls hx hb hr hml hown hts hlk hnm hsz hP hK hNb hD hA hAe hS hX hl
  have hl : lv_has ls 5 [(0, .ref (q 0)), (1, .int (I n1)), (2, .int (I n2)), (3, .int (I n3))] := hl
  have hB := hN
  obtain ⟨locs, hlocs⟩ : ∃ z : List Loc, z = [] := ⟨_, rfl⟩
  rw [← hlocs] at hS ⊢
  obtain ⟨P18, hP18⟩ : ∃ P : Int → Int → Int → Int → Prop, ∀ (u1 : Int) (u2 : Int) (u3 : Int) (u4 : Int), (P u1 u2 u3 u4 ↔ (rg u1 → rg u2 → rg u3 → rg u4 → ∀ (H : Heap) (locs : List Loc) (ls : Array Slot), KP g (MX g q lb σ) H → va_D A (MX g q lb σ) → va_S A s.heap H locs → lv_has ls 5 [(0, .ref (q 0)), (1, .int (I u1)), (2, .int (I u2)), (3, .int (I u3)), (4, .int (I u4))] → W p l e ({ frames := 3, cells := 0, slots := 0, locals := 67 }) s m [.ref (q 0), .int (I n1), .int (I n2), .int (I n3)].toArray below meth c H locs 0 0 (MQ below (QI g A (p_i (MX g q lb) σ Q)) [.ref (q 0), .int (I n1), .int (I n2), .int (I n3)].toArray s 0 0 A) (F0 m 18 ls []))) := ⟨_, fun _ _ _ _ => Iff.rfl⟩
  obtain ⟨P58, hP58⟩ : ∃ P : Int → Int → Int → Int → Prop, ∀ (u1 : Int) (u2 : Int) (u3 : Int) (u4 : Int), (P u1 u2 u3 u4 ↔ (rg u1 → rg u2 → rg u3 → rg u4 → ∀ (H : Heap) (locs : List Loc) (ls : Array Slot), KP g (MX g q lb σ) H → va_D A (MX g q lb σ) → va_S A s.heap H locs → lv_has ls 5 [(0, .ref (q 0)), (1, .int (I u1)), (2, .int (I u2)), (3, .int (I u3)), (4, .int (I u4))] → W p l e ({ frames := 3, cells := 0, slots := 0, locals := 67 }) s m [.ref (q 0), .int (I n1), .int (I n2), .int (I n3)].toArray below meth c H locs 0 0 (MQ below (QI g A (p_i (MX g q lb) σ Q)) [.ref (q 0), .int (I n1), .int (I n2), .int (I n3)].toArray s 0 0 A) (F0 m 58 ls []))) := ⟨_, fun _ _ _ _ => Iff.rfl⟩
  refine (fun hw => ?_) (hw P18 P58 ?_ ?_)
  ·
    refine lv_aload_n hx hb dX13_apart_0 rfl (lv_at hl 0 rfl) ?_
    refine lv_iload_n hx hb dX13_apart_1 rfl (lv_at hl 1 rfl) ?_
    obtain ⟨Q1, hc, hw⟩ := hw
    refine wc_i (X := MX g q lb) (va_runV (As := [.int (I n1)]) (rest := []) ⟨hx, hb, hml, hown, hts⟩ (L_X13_isAssertion l g q lb hlb r_n1 hN hc H.size) (cwV 1 hts (TB_V tw_2835 tw_2837 ts_164 tw_15 co_X13_isAssertion) rfl rfl rfl (by decide +kernel) ⟨Nat.le_of_ble_eq_true rfl, Nat.le_of_ble_eq_true rfl⟩) (preV (q0 := 0) (ci := 13) rfl xT_bl hP hK hNb hD rfl rfl xT_at) rfl rfl hl.1 rfl (lv_room (Nat.le_of_ble_eq_true rfl)) dX13_apart_2 ⟨Nat.le_of_ble_eq_true rfl, Nat.le_of_ble_eq_true rfl⟩) hP hD hS hA (fun x2 H locs r_x2 hq hP hD hS => ?_)
    replace hw := hw x2 r_x2 hq
    refine bi_if_ne (tgt := 10) hx hb r_x2 dX13_apart_5 (by decide) (fun c4 => ?_) (fun c4 => ?_)
    ·
      replace hw := hw.1 c4
      refine lv_aload_n hx hb dX13_apart_10 rfl (lv_at hl 0 rfl) ?_
      refine gfX13_pairAt hx hb hts hK hP hown (hts _ tw_2035) dX13_apart_11 ?_
      refine lv_iload_n hx hb dX13_apart_14 rfl (lv_at hl 1 rfl) ?_
      obtain ⟨c5, hw⟩ := hw
      refine ldMX13_pairAt hx hb hK hP hN c5 dX13_apart_15 (fun x6 r_x6 e_x6 => ?_)
      replace hw := hw x6 r_x6 e_x6
      refine lv_istore (lv' := [(4, .int (I x6)), (0, .ref (q 0)), (1, .int (I n1)), (2, .int (I n2)), (3, .int (I n3))]) hx hb dX13_apart_16 hl (by decide) rfl (fun ls hl => ?_)
      exact (hP18 _ _ _ _).mp hw r_n1 r_n2 r_n3 r_x6  H locs ls hP hD hS (lv_sub hl [1, 2, 3, 4, 0] rfl)
    ·
      replace hw := hw.2 c4
      refine lv_iconst (v := I (-1)) hx hb dX13_apart_8 rfl ?_
      exact xri hx hb hr hlk hP hK hD hS ⟨_, (by decide), rfl, rfl, hw⟩ (Nat.le_of_ble_eq_true rfl) (Nat.le_of_ble_eq_true rfl) dX13_apart_9
  ·
    intro u1 u2 u3 u4 hw
    refine (hP18 _ _ _ _).mpr ?_
    intro r_u1 r_u2 r_u3 r_u4 H locs ls hP hD hS hl
    refine lv_iload hx hb dX13_apart_18 (lv_at hl 4 rfl) ?_
    refine lv_aload_n hx hb dX13_apart_20 rfl (lv_at hl 0 rfl) ?_
    refine gfX13_pairAt hx hb hts hK hP hown (hts _ tw_2035) dX13_apart_21 ?_
    refine lv_iload_n hx hb dX13_apart_24 rfl (lv_at hl 1 rfl) ?_
    obtain ⟨c7, hw⟩ := hw
    refine ldMX13_pairAt hx hb hK hP hN c7 dX13_apart_25 (fun x8 r_x8 e_x8 => ?_)
    replace hw := hw x8 r_x8 e_x8
    refine lv_aload_n hx hb dX13_apart_26 rfl (lv_at hl 0 rfl) ?_
    refine gfX13_pairSize hx hb hts hK hP hown (hts _ tw_2036) dX13_apart_27 ?_
    refine lv_iload_n hx hb dX13_apart_30 rfl (lv_at hl 1 rfl) ?_
    refine ldMX13_pairSize hx hb hK hP hN c7 dX13_apart_31 (fun x9 r_x9 e_x9 => ?_)
    replace hw := hw x9 r_x9 e_x9
    refine bi_iadd hx hb dX13_apart_32 ?_
    obtain ⟨c10, hw⟩ := hw
    refine bi_icmp_ge (tgt := 88) hx hb r_u4 c10 dX13_apart_33 (by decide) (fun c11 => ?_) (fun c11 => ?_)
    ·
      replace hw := hw.1 c11
      refine lv_iconst (v := I 0) hx hb dX13_apart_88 rfl ?_
      exact xri hx hb hr hlk hP hK hD hS ⟨_, (by decide), rfl, rfl, hw⟩ (Nat.le_of_ble_eq_true rfl) (Nat.le_of_ble_eq_true rfl) dX13_apart_89
    ·
      replace hw := hw.2 c11
      refine lv_aload_n hx hb dX13_apart_36 rfl (lv_at hl 0 rfl) ?_
      refine gfX13_pairA hx hb hts hK hP hown (hts _ tw_2037) dX13_apart_37 ?_
      refine lv_iload hx hb dX13_apart_40 (lv_at hl 4 rfl) ?_
      obtain ⟨c12, hw⟩ := hw
      refine ldMX13_pairA hx hb hK hP hN c12 dX13_apart_42 (fun x13 r_x13 e_x13 => ?_)
      replace hw := hw x13 r_x13 e_x13
      refine lv_iload_n hx hb dX13_apart_43 rfl (lv_at hl 2 rfl) ?_
      refine bi_icmp_ne (tgt := 58) hx hb r_x13 r_u2 dX13_apart_44 (by decide) (fun c14 => ?_) (fun c14 => ?_)
      ·
        replace hw := hw.1 c14
        exact (hP58 _ _ _ _).mp hw r_u1 r_u2 r_u3 r_u4  H locs ls hP hD hS (lv_sub hl [0, 1, 2, 3, 4] rfl)
      ·
        replace hw := hw.2 c14
        refine lv_aload_n hx hb dX13_apart_47 rfl (lv_at hl 0 rfl) ?_
        refine gfX13_pairB hx hb hts hK hP hown (hts _ tw_2038) dX13_apart_48 ?_
        refine lv_iload hx hb dX13_apart_51 (lv_at hl 4 rfl) ?_
        refine ldMX13_pairB hx hb hK hP hN c12 dX13_apart_53 (fun x15 r_x15 e_x15 => ?_)
        replace hw := hw x15 r_x15 e_x15
        refine lv_iload_n hx hb dX13_apart_54 rfl (lv_at hl 3 rfl) ?_
        refine bi_icmp_eq (tgt := 80) hx hb r_x15 r_u3 dX13_apart_55 (by decide) (fun c16 => ?_) (fun c16 => ?_)
        ·
          replace hw := hw.1 c16
          refine lv_iconst (v := I 1) hx hb dX13_apart_80 rfl ?_
          exact xri hx hb hr hlk hP hK hD hS ⟨_, (by decide), rfl, rfl, hw⟩ (Nat.le_of_ble_eq_true rfl) (Nat.le_of_ble_eq_true rfl) dX13_apart_81
        ·
          replace hw := hw.2 c16
          exact (hP58 _ _ _ _).mp hw r_u1 r_u2 r_u3 r_u4  H locs ls hP hD hS (lv_sub hl [0, 1, 2, 3, 4] rfl)
  ·
    intro u1 u2 u3 u4 hw
    refine (hP58 _ _ _ _).mpr ?_
    intro r_u1 r_u2 r_u3 r_u4 H locs ls hP hD hS hl
    refine lv_aload_n hx hb dX13_apart_58 rfl (lv_at hl 0 rfl) ?_
    refine gfX13_pairA hx hb hts hK hP hown (hts _ tw_2037) dX13_apart_59 ?_
    refine lv_iload hx hb dX13_apart_62 (lv_at hl 4 rfl) ?_
    obtain ⟨c17, hw⟩ := hw
    refine ldMX13_pairA hx hb hK hP hN c17 dX13_apart_64 (fun x18 r_x18 e_x18 => ?_)
    replace hw := hw x18 r_x18 e_x18
    refine lv_iload_n hx hb dX13_apart_65 rfl (lv_at hl 3 rfl) ?_
    refine bi_icmp_ne (tgt := 82) hx hb r_x18 r_u3 dX13_apart_66 (by decide) (fun c19 => ?_) (fun c19 => ?_)
    ·
      replace hw := hw.1 c19
      refine lv_iinc (v := I (u4 + 1)) (lv' := [(4, .int (I (u4 + 1))), (0, .ref (q 0)), (1, .int (I u1)), (2, .int (I u2)), (3, .int (I u3))]) hx hb dX13_apart_82 hl (k := 4) rfl (I_add _ _) (by decide) rfl (fun ls hl => ?_)
      refine lv_goto (tgt := 18) hx hb dX13_apart_85 (by decide) ?_
      obtain ⟨c20, hw⟩ := hw
      exact (hP18 _ _ _ _).mp hw r_u1 r_u2 r_u3 c20  H locs ls hP hD hS (lv_sub hl [1, 2, 3, 4, 0] rfl)
    ·
      replace hw := hw.2 c19
      refine lv_aload_n hx hb dX13_apart_69 rfl (lv_at hl 0 rfl) ?_
      refine gfX13_pairB hx hb hts hK hP hown (hts _ tw_2038) dX13_apart_70 ?_
      refine lv_iload hx hb dX13_apart_73 (lv_at hl 4 rfl) ?_
      refine ldMX13_pairB hx hb hK hP hN c17 dX13_apart_75 (fun x21 r_x21 e_x21 => ?_)
      replace hw := hw x21 r_x21 e_x21
      refine lv_iload_n hx hb dX13_apart_76 rfl (lv_at hl 2 rfl) ?_
      refine bi_icmp_ne (tgt := 82) hx hb r_x21 r_u2 dX13_apart_77 (by decide) (fun c22 => ?_) (fun c22 => ?_)
      ·
        replace hw := hw.1 c22
        refine lv_iinc (v := I (u4 + 1)) (lv' := [(4, .int (I (u4 + 1))), (0, .ref (q 0)), (1, .int (I u1)), (2, .int (I u2)), (3, .int (I u3))]) hx hb dX13_apart_82 hl (k := 4) rfl (I_add _ _) (by decide) rfl (fun ls hl => ?_)
        refine lv_goto (tgt := 18) hx hb dX13_apart_85 (by decide) ?_
        obtain ⟨c23, hw⟩ := hw
        exact (hP18 _ _ _ _).mp hw r_u1 r_u2 r_u3 c23  H locs ls hP hD hS (lv_sub hl [1, 2, 3, 4, 0] rfl)
      ·
        replace hw := hw.2 c22
        refine lv_iconst (v := I 1) hx hb dX13_apart_80 rfl ?_
        exact xri hx hb hr hlk hP hK hD hS ⟨_, (by decide), rfl, rfl, hw⟩ (Nat.le_of_ble_eq_true rfl) (Nat.le_of_ble_eq_true rfl) dX13_apart_81
def W_X13_makeRows (n1 : Int) (σ : S0) (Q : S0 → Prop) : Prop :=
  ∀ (P45 : Int → Int → S0 → Prop) (P123 : Int → Int → Int → Int → S0 → Prop) (P162 : Int → Int → Int → Int → S0 → Prop) (P261 : Int → Int → S0 → Prop),
  (∀ (u1 : Int) (u2 : Int) (τ : S0), ((0 ≤ u1 ∧ u1 < 1501) ∧ (∀ (x6 : Int), rg x6 → x6 = τ.2.1 25 u1 → (∀ (x7 : Int), rg x7 → x7 = τ.2.1 26 u1 → (rg (x6 + x7) ∧ ((x6 + x7) ≤ u2 → Q τ) ∧ (u2 < (x6 + x7) → (0 ≤ u2 ∧ u2 < 20001) ∧ (∀ (x11 : Int), rg x11 → x11 = τ.2.1 27 u2 → ((0 ≤ x11 → (0 ≤ x11 ∧ x11 < 1501) ∧ (∀ (x14 : Int), rg x14 → x14 = τ.2.1 13 x11 → ((2 ≤ x14 → ∀ (x16 : Int), rg x16 → x16 = τ.2.1 19 x11 → (P123 u1 u2 x11 x16 τ)) ∧ (x14 < 2 → P123 u1 u2 x11 0 τ)))) ∧ (x11 < 0 → (0 ≤ ((-1) - x11) ∧ ((-1) - x11) < 300) ∧ (∀ (x18 : Int), rg x18 → x18 = τ.2.1 46 ((-1) - x11) → ((0 ≤ τ.1 30 ∧ τ.1 30 < 202) ∧ (rg (τ.1 30 + 1) ∧ rg (u2 + 1) ∧ P45 u1 (u2 + 1) (s_v (s_a τ 42 (τ.1 30) x18) 30 (τ.1 30 + 1))))))))))))) → P45 u1 u2 τ) →
  (∀ (u1 : Int) (u2 : Int) (u3 : Int) (k0 : Int) (τ : S0), ((0 ≤ τ.1 36 ∧ τ.1 36 < 20001) ∧ (rg (τ.1 30 - k0) ∧ P162 u1 u2 k0 0 (s_v (s_a (s_a τ 56 (τ.1 36) u3) 57 (τ.1 36) (τ.1 37)) 30 (τ.1 30 - k0)))) → P123 u1 u2 u3 k0 τ) →
  (∀ (u1 : Int) (u2 : Int) (u4 : Int) (u5 : Int) (τ : S0), ((u4 ≤ u5 → (0 ≤ τ.1 30 ∧ τ.1 30 < 202) ∧ (rg (τ.1 30 + 1) ∧ (0 ≤ u2 ∧ u2 < 20001) ∧ (∀ (x28 : Int), rg x28 → x28 = τ.2.1 28 u2 → ((x28 = 0 → P261 u1 u2 (s_v (s_a τ 42 (τ.1 30) (τ.1 36)) 30 (τ.1 30 + 1))) ∧ (¬ x28 = 0 → (0 ≤ τ.1 32 ∧ τ.1 32 < 300) ∧ (rg (τ.1 32 + 1) ∧ P261 u1 u2 (s_v (s_a (s_v (s_a τ 42 (τ.1 30) (τ.1 36)) 30 (τ.1 30 + 1)) 46 (τ.1 32) (τ.1 36)) 32 (τ.1 32 + 1)))))))) ∧ (u5 < u4 → (0 ≤ (τ.1 30 + u5) ∧ (τ.1 30 + u5) < 202) ∧ (∀ (x33 : Int), rg x33 → x33 = τ.2.1 42 (τ.1 30 + u5) → ((0 ≤ τ.1 37 ∧ τ.1 37 < 120000) ∧ (rg (τ.1 37 + 1) ∧ rg (u5 + 1) ∧ P162 u1 u2 u4 (u5 + 1) (s_v (s_a τ 58 (τ.1 37) x33) 37 (τ.1 37 + 1))))))) → P162 u1 u2 u4 u5 τ) →
  (∀ (u1 : Int) (u2 : Int) (τ : S0), (rg (τ.1 36 + 1) ∧ rg (u2 + 1) ∧ P45 u1 (u2 + 1) (s_v τ 36 (τ.1 36 + 1))) → P261 u1 u2 τ) →
  rg (n1 + 1) ∧ (¬ σ.1 38 = (n1 + 1) → (0 ≤ n1 ∧ n1 < 1501) ∧ (∀ (x4 : Int), rg x4 → x4 = σ.2.1 25 n1 → (P45 n1 x4 (s_v (s_v (s_v (s_v (s_v σ 38 (n1 + 1)) 36 0) 37 0) 30 0) 32 0)))) ∧ (σ.1 38 = (n1 + 1) → Q σ)
set_option maxRecDepth 100000 in
set_option maxHeartbeats 4000000 in
theorem L_X13_makeRows (l : Launch) (g : gG) (q : Nat → Nat) (lb : Nat) (hlb : lb < 2 ^ 31) {n1 : Int} {σ : S0} {Q : S0 → Prop} (r_n1 : rg n1) (hN : n_m σ) (hw : W_X13_makeRows n1 σ Q) (sz : Nat) : MetV l yX13_makeRows cX13_makeRows 6 { frames := 0, cells := 0, slots := 0, locals := 0 } g [.ref (q 0), .int (I n1)] (MX g q lb σ) sz xT (p_V (MX g q lb) [30, 32, 36, 37, 38] [42, 46, 56, 57, 58] [] σ Q) 0 0 := by
  refine mkMet (Qc := fun A => QV g A (p_V (MX g q lb) [30, 32, 36, 37, 38] [42, 46, 56, 57, 58] [] σ Q)) (by decide) (Nat.le_of_ble_eq_true rfl) ?_
  intro p e s m below meth c A H ls hx hb hr hml hown hts hlk hnm hsz hP hK hNb hD hA hAe hS hX hl
  have hl : lv_has ls 6 [(0, .ref (q 0)), (1, .int (I n1))] := hl
  have hB := hN
  have hF : f_r [30, 32, 36, 37, 38] [42, 46, 56, 57, 58] [] σ σ := f_0
  obtain ⟨locs, hlocs⟩ : ∃ z : List Loc, z = [] := ⟨_, rfl⟩
  rw [← hlocs] at hS ⊢
  obtain ⟨P45, hP45⟩ : ∃ P : Int → Int → S0 → Prop, ∀ (u1 : Int) (u2 : Int) (τ : S0), (P u1 u2 τ ↔ (rg u1 → rg u2 → n_m τ → f_r [30, 32, 36, 37, 38] [42, 46, 56, 57, 58] [] σ τ → ∀ (H : Heap) (locs : List Loc) (ls : Array Slot), KP g (MX g q lb τ) H → va_D A (MX g q lb τ) → va_S A s.heap H locs → lv_has ls 6 [(0, .ref (q 0)), (1, .int (I u1)), (2, .int (I u2))] → W p l e ({ frames := 0, cells := 0, slots := 0, locals := 0 }) s m [.ref (q 0), .int (I n1)].toArray below meth c H locs 0 0 (MQ below (QV g A (p_V (MX g q lb) [30, 32, 36, 37, 38] [42, 46, 56, 57, 58] [] σ Q)) [.ref (q 0), .int (I n1)].toArray s 0 0 A) (F0 m 45 ls []))) := ⟨_, fun _ _ _ => Iff.rfl⟩
  obtain ⟨P123, hP123⟩ : ∃ P : Int → Int → Int → Int → S0 → Prop, ∀ (u1 : Int) (u2 : Int) (u3 : Int) (k0 : Int) (τ : S0), (P u1 u2 u3 k0 τ ↔ (rg u1 → rg u2 → rg u3 → rg k0 → n_m τ → f_r [30, 32, 36, 37, 38] [42, 46, 56, 57, 58] [] σ τ → ∀ (H : Heap) (locs : List Loc) (ls : Array Slot), KP g (MX g q lb τ) H → va_D A (MX g q lb τ) → va_S A s.heap H locs → lv_has ls 6 [(0, .ref (q 0)), (1, .int (I u1)), (2, .int (I u2)), (3, .int (I u3))] → W p l e ({ frames := 0, cells := 0, slots := 0, locals := 0 }) s m [.ref (q 0), .int (I n1)].toArray below meth c H locs 0 0 (MQ below (QV g A (p_V (MX g q lb) [30, 32, 36, 37, 38] [42, 46, 56, 57, 58] [] σ Q)) [.ref (q 0), .int (I n1)].toArray s 0 0 A) (F0 m 123 ls [.int (I k0)]))) := ⟨_, fun _ _ _ _ _ => Iff.rfl⟩
  obtain ⟨P162, hP162⟩ : ∃ P : Int → Int → Int → Int → S0 → Prop, ∀ (u1 : Int) (u2 : Int) (u4 : Int) (u5 : Int) (τ : S0), (P u1 u2 u4 u5 τ ↔ (rg u1 → rg u2 → rg u4 → rg u5 → n_m τ → f_r [30, 32, 36, 37, 38] [42, 46, 56, 57, 58] [] σ τ → ∀ (H : Heap) (locs : List Loc) (ls : Array Slot), KP g (MX g q lb τ) H → va_D A (MX g q lb τ) → va_S A s.heap H locs → lv_has ls 6 [(0, .ref (q 0)), (1, .int (I u1)), (2, .int (I u2)), (4, .int (I u4)), (5, .int (I u5))] → W p l e ({ frames := 0, cells := 0, slots := 0, locals := 0 }) s m [.ref (q 0), .int (I n1)].toArray below meth c H locs 0 0 (MQ below (QV g A (p_V (MX g q lb) [30, 32, 36, 37, 38] [42, 46, 56, 57, 58] [] σ Q)) [.ref (q 0), .int (I n1)].toArray s 0 0 A) (F0 m 162 ls []))) := ⟨_, fun _ _ _ _ _ => Iff.rfl⟩
  obtain ⟨P261, hP261⟩ : ∃ P : Int → Int → S0 → Prop, ∀ (u1 : Int) (u2 : Int) (τ : S0), (P u1 u2 τ ↔ (rg u1 → rg u2 → n_m τ → f_r [30, 32, 36, 37, 38] [42, 46, 56, 57, 58] [] σ τ → ∀ (H : Heap) (locs : List Loc) (ls : Array Slot), KP g (MX g q lb τ) H → va_D A (MX g q lb τ) → va_S A s.heap H locs → lv_has ls 6 [(0, .ref (q 0)), (1, .int (I u1)), (2, .int (I u2))] → W p l e ({ frames := 0, cells := 0, slots := 0, locals := 0 }) s m [.ref (q 0), .int (I n1)].toArray below meth c H locs 0 0 (MQ below (QV g A (p_V (MX g q lb) [30, 32, 36, 37, 38] [42, 46, 56, 57, 58] [] σ Q)) [.ref (q 0), .int (I n1)].toArray s 0 0 A) (F0 m 261 ls []))) := ⟨_, fun _ _ _ => Iff.rfl⟩
  refine (fun hw => ?_) (hw P45 P123 P162 P261 ?_ ?_ ?_ ?_)
  ·
    refine lv_aload_n hx hb dX13_makeRows_0 rfl (lv_at hl 0 rfl) ?_
    refine gfX13_rowsOf hx hb hts hK hP hown (hts _ tw_2105) (x := σ.1 38) rfl dX13_makeRows_1 ?_
    refine lv_iload_n hx hb dX13_makeRows_4 rfl (lv_at hl 1 rfl) ?_
    refine lv_iconst (v := I 1) hx hb dX13_makeRows_5 rfl ?_
    refine bi_iadd hx hb dX13_makeRows_6 ?_
    obtain ⟨c1, hw⟩ := hw
    refine bi_icmp_ne (tgt := 11) hx hb (hB.1 38) c1 dX13_makeRows_7 (by decide) (fun c2 => ?_) (fun c2 => ?_)
    ·
      replace hw := hw.1 c2
      refine lv_aload_n hx hb dX13_makeRows_11 rfl (lv_at hl 0 rfl) ?_
      refine lv_iload_n hx hb dX13_makeRows_12 rfl (lv_at hl 1 rfl) ?_
      refine lv_iconst (v := I 1) hx hb dX13_makeRows_13 rfl ?_
      refine bi_iadd hx hb dX13_makeRows_14 ?_
      refine pfX13_rowsOf hx hb hts hK hP hD hS hown (hts _ tw_2105) dX13_makeRows_15 (fun H locs hP hD hS => ?_)
      have hN : n_m (s_v σ 38 (n1 + 1)) := n_v (i := 38) hN (c1 : rg (n1 + 1))
      have hF : f_r [30, 32, 36, 37, 38] [42, 46, 56, 57, 58] [] σ (s_v σ 38 (n1 + 1)) := f_v hF (by decide)
      refine lv_aload_n hx hb dX13_makeRows_18 rfl (lv_at hl 0 rfl) ?_
      refine lv_iconst (v := I 0) hx hb dX13_makeRows_19 rfl ?_
      refine pfX13_rowCount hx hb hts hK hP hD hS hown (hts _ tw_2103) dX13_makeRows_20 (fun H locs hP hD hS => ?_)
      have hN : n_m (s_v (s_v σ 38 (n1 + 1)) 36 0) := n_v (i := 36) hN ((by decide) : rg 0)
      have hF : f_r [30, 32, 36, 37, 38] [42, 46, 56, 57, 58] [] σ (s_v (s_v σ 38 (n1 + 1)) 36 0) := f_v hF (by decide)
      refine lv_aload_n hx hb dX13_makeRows_23 rfl (lv_at hl 0 rfl) ?_
      refine lv_iconst (v := I 0) hx hb dX13_makeRows_24 rfl ?_
      refine pfX13_rowFromCount hx hb hts hK hP hD hS hown (hts _ tw_2104) dX13_makeRows_25 (fun H locs hP hD hS => ?_)
      have hN : n_m (s_v (s_v (s_v σ 38 (n1 + 1)) 36 0) 37 0) := n_v (i := 37) hN ((by decide) : rg 0)
      have hF : f_r [30, 32, 36, 37, 38] [42, 46, 56, 57, 58] [] σ (s_v (s_v (s_v σ 38 (n1 + 1)) 36 0) 37 0) := f_v hF (by decide)
      refine lv_aload_n hx hb dX13_makeRows_28 rfl (lv_at hl 0 rfl) ?_
      refine lv_iconst (v := I 0) hx hb dX13_makeRows_29 rfl ?_
      refine pfX13_piled hx hb hts hK hP hD hS hown (hts _ tw_2081) dX13_makeRows_30 (fun H locs hP hD hS => ?_)
      have hN : n_m (s_v (s_v (s_v (s_v σ 38 (n1 + 1)) 36 0) 37 0) 30 0) := n_v (i := 30) hN ((by decide) : rg 0)
      have hF : f_r [30, 32, 36, 37, 38] [42, 46, 56, 57, 58] [] σ (s_v (s_v (s_v (s_v σ 38 (n1 + 1)) 36 0) 37 0) 30 0) := f_v hF (by decide)
      refine lv_aload_n hx hb dX13_makeRows_33 rfl (lv_at hl 0 rfl) ?_
      refine lv_iconst (v := I 0) hx hb dX13_makeRows_34 rfl ?_
      refine pfX13_savedRows hx hb hts hK hP hD hS hown (hts _ tw_2087) dX13_makeRows_35 (fun H locs hP hD hS => ?_)
      have hN : n_m (s_v (s_v (s_v (s_v (s_v σ 38 (n1 + 1)) 36 0) 37 0) 30 0) 32 0) := n_v (i := 32) hN ((by decide) : rg 0)
      have hF : f_r [30, 32, 36, 37, 38] [42, 46, 56, 57, 58] [] σ (s_v (s_v (s_v (s_v (s_v σ 38 (n1 + 1)) 36 0) 37 0) 30 0) 32 0) := f_v hF (by decide)
      refine lv_aload_n hx hb dX13_makeRows_38 rfl (lv_at hl 0 rfl) ?_
      refine gfX13_stepAt hx hb hts hK hP hown (hts _ tw_2040) dX13_makeRows_39 ?_
      refine lv_iload_n hx hb dX13_makeRows_42 rfl (lv_at hl 1 rfl) ?_
      obtain ⟨c3, hw⟩ := hw
      refine ldMX13_stepAt hx hb hK hP hN c3 dX13_makeRows_43 (fun x4 r_x4 e_x4 => ?_)
      replace hw := hw x4 r_x4 e_x4
      refine lv_istore_n (lv' := [(2, .int (I x4)), (0, .ref (q 0)), (1, .int (I n1))]) hx hb dX13_makeRows_44 rfl hl (by decide) rfl (fun ls hl => ?_)
      exact (hP45 _ _ _).mp hw r_n1 r_x4 hN hF H locs ls hP hD hS (lv_sub hl [1, 2, 0] rfl)
    ·
      replace hw := hw.2 c2
      exact xrv hx hb hr hlk hP hK hD hS ⟨_, hN, hF, rfl, hw⟩ (Nat.le_of_ble_eq_true rfl) (Nat.le_of_ble_eq_true rfl) dX13_makeRows_10
  ·
    intro u1 u2 τ hw
    refine (hP45 _ _ _).mpr ?_
    intro r_u1 r_u2 hN hF H locs ls hP hD hS hl
    have hB := hN
    refine lv_iload_n hx hb dX13_makeRows_45 rfl (lv_at hl 2 rfl) ?_
    refine lv_aload_n hx hb dX13_makeRows_46 rfl (lv_at hl 0 rfl) ?_
    refine gfX13_stepAt hx hb hts hK hP hown (hts _ tw_2040) dX13_makeRows_47 ?_
    refine lv_iload_n hx hb dX13_makeRows_50 rfl (lv_at hl 1 rfl) ?_
    obtain ⟨c5, hw⟩ := hw
    refine ldMX13_stepAt hx hb hK hP hN c5 dX13_makeRows_51 (fun x6 r_x6 e_x6 => ?_)
    replace hw := hw x6 r_x6 e_x6
    refine lv_aload_n hx hb dX13_makeRows_52 rfl (lv_at hl 0 rfl) ?_
    refine gfX13_stepSize hx hb hts hK hP hown (hts _ tw_2041) dX13_makeRows_53 ?_
    refine lv_iload_n hx hb dX13_makeRows_56 rfl (lv_at hl 1 rfl) ?_
    refine ldMX13_stepSize hx hb hK hP hN c5 dX13_makeRows_57 (fun x7 r_x7 e_x7 => ?_)
    replace hw := hw x7 r_x7 e_x7
    refine bi_iadd hx hb dX13_makeRows_58 ?_
    obtain ⟨c8, hw⟩ := hw
    refine bi_icmp_ge (tgt := 277) hx hb r_u2 c8 dX13_makeRows_59 (by decide) (fun c9 => ?_) (fun c9 => ?_)
    ·
      replace hw := hw.1 c9
      exact xrv hx hb hr hlk hP hK hD hS ⟨_, hN, hF, rfl, hw⟩ (Nat.le_of_ble_eq_true rfl) (Nat.le_of_ble_eq_true rfl) dX13_makeRows_277
    ·
      replace hw := hw.2 c9
      refine lv_aload_n hx hb dX13_makeRows_62 rfl (lv_at hl 0 rfl) ?_
      refine gfX13_steps hx hb hts hK hP hown (hts _ tw_2042) dX13_makeRows_63 ?_
      refine lv_iload_n hx hb dX13_makeRows_66 rfl (lv_at hl 2 rfl) ?_
      obtain ⟨c10, hw⟩ := hw
      refine ldMX13_steps hx hb hK hP hN c10 dX13_makeRows_67 (fun x11 r_x11 e_x11 => ?_)
      replace hw := hw x11 r_x11 e_x11
      refine lv_istore_n (lv' := [(3, .int (I x11)), (0, .ref (q 0)), (1, .int (I u1)), (2, .int (I u2))]) hx hb dX13_makeRows_68 rfl hl (by decide) rfl (fun ls hl => ?_)
      refine lv_iload_n hx hb dX13_makeRows_69 rfl (lv_at hl 0 rfl) ?_
      refine bi_if_ge (tgt := 103) hx hb r_x11 dX13_makeRows_70 (by decide) (fun c12 => ?_) (fun c12 => ?_)
      ·
        replace hw := hw.1 c12
        refine lv_aload_n hx hb dX13_makeRows_103 rfl (lv_at hl 1 rfl) ?_
        refine gfX13_kindOf hx hb hts hK hP hown (hts _ tw_2025) dX13_makeRows_104 ?_
        refine lv_iload_n hx hb dX13_makeRows_107 rfl (lv_at hl 0 rfl) ?_
        obtain ⟨c13, hw⟩ := hw
        refine ldMX13_kindOf hx hb hK hP hN c13 dX13_makeRows_108 (fun x14 r_x14 e_x14 => ?_)
        replace hw := hw x14 r_x14 e_x14
        refine lv_iconst (v := I 2) hx hb dX13_makeRows_109 rfl ?_
        refine bi_icmp_ge (tgt := 117) hx hb r_x14 (by decide) dX13_makeRows_110 (by decide) (fun c15 => ?_) (fun c15 => ?_)
        ·
          replace hw := hw.1 c15
          refine lv_aload_n hx hb dX13_makeRows_117 rfl (lv_at hl 1 rfl) ?_
          refine gfX13_hypSize hx hb hts hK hP hown (hts _ tw_2032) dX13_makeRows_118 ?_
          refine lv_iload_n hx hb dX13_makeRows_121 rfl (lv_at hl 0 rfl) ?_
          refine ldMX13_hypSize hx hb hK hP hN c13 dX13_makeRows_122 (fun x16 r_x16 e_x16 => ?_)
          replace hw := hw x16 r_x16 e_x16
          exact (hP123 _ _ _ _ _).mp hw r_u1 r_u2 r_x11 r_x16 hN hF H locs ls hP hD hS (lv_sub hl [1, 2, 3, 0] rfl)
        ·
          replace hw := hw.2 c15
          refine lv_iconst (v := I 0) hx hb dX13_makeRows_113 rfl ?_
          refine lv_goto (tgt := 123) hx hb dX13_makeRows_114 (by decide) ?_
          exact (hP123 _ _ _ _ _).mp hw r_u1 r_u2 r_x11 (by decide) hN hF H locs ls hP hD hS (lv_sub hl [1, 2, 3, 0] rfl)
      ·
        replace hw := hw.2 c12
        refine lv_aload_n hx hb dX13_makeRows_73 rfl (lv_at hl 1 rfl) ?_
        refine gfX13_pileRow hx hb hts hK hP hown (hts _ tw_2080) dX13_makeRows_74 ?_
        refine lv_aload_n hx hb dX13_makeRows_77 rfl (lv_at hl 1 rfl) ?_
        refine gfX13_piled hx hb hts hK hP hown (hts _ tw_2081) (x := τ.1 30) rfl dX13_makeRows_78 ?_
        refine lv_aload_n hx hb dX13_makeRows_81 rfl (lv_at hl 1 rfl) ?_
        refine gfX13_savedRow hx hb hts hK hP hown (hts _ tw_2086) dX13_makeRows_82 ?_
        refine lv_iconst (v := I (-1)) hx hb dX13_makeRows_85 rfl ?_
        refine lv_iload_n hx hb dX13_makeRows_86 rfl (lv_at hl 0 rfl) ?_
        refine bi_isub hx hb dX13_makeRows_87 ?_
        obtain ⟨c17, hw⟩ := hw
        refine ldMX13_savedRow hx hb hK hP hN c17 dX13_makeRows_88 (fun x18 r_x18 e_x18 => ?_)
        replace hw := hw x18 r_x18 e_x18
        obtain ⟨c19, hw⟩ := hw
        refine sdMX13_pileRow hx hb hK hP hD hS c19 dX13_makeRows_89 (fun H locs hP hD hS => ?_)
        have hN : n_m (s_a τ 42 (τ.1 30) x18) := n_a (k := 42) (j := τ.1 30) hN (r_x18 : rg x18)
        have hF : f_r [30, 32, 36, 37, 38] [42, 46, 56, 57, 58] [] σ (s_a τ 42 (τ.1 30) x18) := f_a hF (by decide)
        refine lv_aload_n hx hb dX13_makeRows_90 rfl (lv_at hl 1 rfl) ?_
        refine lv_dup hx hb dX13_makeRows_91 rfl ?_
        refine gfX13_piled hx hb hts hK hP hown (hts _ tw_2081) (x := τ.1 30) rfl dX13_makeRows_92 ?_
        refine lv_iconst (v := I 1) hx hb dX13_makeRows_95 rfl ?_
        refine bi_iadd hx hb dX13_makeRows_96 ?_
        obtain ⟨c20, hw⟩ := hw
        refine pfX13_piled hx hb hts hK hP hD hS hown (hts _ tw_2081) dX13_makeRows_97 (fun H locs hP hD hS => ?_)
        have hN : n_m (s_v (s_a τ 42 (τ.1 30) x18) 30 (τ.1 30 + 1)) := n_v (i := 30) hN (c20 : rg (τ.1 30 + 1))
        have hF : f_r [30, 32, 36, 37, 38] [42, 46, 56, 57, 58] [] σ (s_v (s_a τ 42 (τ.1 30) x18) 30 (τ.1 30 + 1)) := f_v hF (by decide)
        refine lv_goto (tgt := 271) hx hb dX13_makeRows_100 (by decide) ?_
        refine lv_iinc (v := I (u2 + 1)) (lv' := [(2, .int (I (u2 + 1))), (3, .int (I x11)), (0, .ref (q 0)), (1, .int (I u1))]) hx hb dX13_makeRows_271 hl (k := 3) rfl (I_add _ _) (by decide) rfl (fun ls hl => ?_)
        refine lv_goto (tgt := 45) hx hb dX13_makeRows_274 (by decide) ?_
        obtain ⟨c21, hw⟩ := hw
        exact (hP45 _ _ _).mp hw r_u1 c21 hN hF H locs ls hP hD hS (lv_sub hl [2, 3, 0] rfl)
  ·
    intro u1 u2 u3 k0 τ hw
    refine (hP123 _ _ _ _ _).mpr ?_
    intro r_u1 r_u2 r_u3 r_k0 hN hF H locs ls hP hD hS hl
    have hB := hN
    refine lv_istore (lv' := [(4, .int (I k0)), (0, .ref (q 0)), (1, .int (I u1)), (2, .int (I u2)), (3, .int (I u3))]) hx hb dX13_makeRows_123 hl (by decide) rfl (fun ls hl => ?_)
    refine lv_aload_n hx hb dX13_makeRows_125 rfl (lv_at hl 1 rfl) ?_
    refine gfX13_rowOf hx hb hts hK hP hown (hts _ tw_2100) dX13_makeRows_126 ?_
    refine lv_aload_n hx hb dX13_makeRows_129 rfl (lv_at hl 1 rfl) ?_
    refine gfX13_rowCount hx hb hts hK hP hown (hts _ tw_2103) (x := τ.1 36) rfl dX13_makeRows_130 ?_
    refine lv_iload_n hx hb dX13_makeRows_133 rfl (lv_at hl 4 rfl) ?_
    obtain ⟨c22, hw⟩ := hw
    refine sdMX13_rowOf hx hb hK hP hD hS c22 dX13_makeRows_134 (fun H locs hP hD hS => ?_)
    have hN : n_m (s_a τ 56 (τ.1 36) u3) := n_a (k := 56) (j := τ.1 36) hN (r_u3 : rg u3)
    have hF : f_r [30, 32, 36, 37, 38] [42, 46, 56, 57, 58] [] σ (s_a τ 56 (τ.1 36) u3) := f_a hF (by decide)
    refine lv_aload_n hx hb dX13_makeRows_135 rfl (lv_at hl 1 rfl) ?_
    refine gfX13_rowFromAt hx hb hts hK hP hown (hts _ tw_2101) dX13_makeRows_136 ?_
    refine lv_aload_n hx hb dX13_makeRows_139 rfl (lv_at hl 1 rfl) ?_
    refine gfX13_rowCount hx hb hts hK hP hown (hts _ tw_2103) (x := τ.1 36) rfl dX13_makeRows_140 ?_
    refine lv_aload_n hx hb dX13_makeRows_143 rfl (lv_at hl 1 rfl) ?_
    refine gfX13_rowFromCount hx hb hts hK hP hown (hts _ tw_2104) (x := τ.1 37) rfl dX13_makeRows_144 ?_
    refine sdMX13_rowFromAt hx hb hK hP hD hS c22 dX13_makeRows_147 (fun H locs hP hD hS => ?_)
    have hN : n_m (s_a (s_a τ 56 (τ.1 36) u3) 57 (τ.1 36) (τ.1 37)) := n_a (k := 57) (j := τ.1 36) hN ((hB.1 37) : rg (τ.1 37))
    have hF : f_r [30, 32, 36, 37, 38] [42, 46, 56, 57, 58] [] σ (s_a (s_a τ 56 (τ.1 36) u3) 57 (τ.1 36) (τ.1 37)) := f_a hF (by decide)
    refine lv_aload_n hx hb dX13_makeRows_148 rfl (lv_at hl 1 rfl) ?_
    refine lv_dup hx hb dX13_makeRows_149 rfl ?_
    refine gfX13_piled hx hb hts hK hP hown (hts _ tw_2081) (x := τ.1 30) rfl dX13_makeRows_150 ?_
    refine lv_iload hx hb dX13_makeRows_153 (lv_at hl 0 rfl) ?_
    refine bi_isub hx hb dX13_makeRows_155 ?_
    obtain ⟨c23, hw⟩ := hw
    refine pfX13_piled hx hb hts hK hP hD hS hown (hts _ tw_2081) dX13_makeRows_156 (fun H locs hP hD hS => ?_)
    have hN : n_m (s_v (s_a (s_a τ 56 (τ.1 36) u3) 57 (τ.1 36) (τ.1 37)) 30 (τ.1 30 - k0)) := n_v (i := 30) hN (c23 : rg (τ.1 30 - k0))
    have hF : f_r [30, 32, 36, 37, 38] [42, 46, 56, 57, 58] [] σ (s_v (s_a (s_a τ 56 (τ.1 36) u3) 57 (τ.1 36) (τ.1 37)) 30 (τ.1 30 - k0)) := f_v hF (by decide)
    refine lv_iconst (v := I 0) hx hb dX13_makeRows_159 rfl ?_
    refine lv_istore (lv' := [(5, .int (I 0)), (4, .int (I k0)), (0, .ref (q 0)), (1, .int (I u1)), (2, .int (I u2)), (3, .int (I u3))]) hx hb dX13_makeRows_160 hl (by decide) rfl (fun ls hl => ?_)
    exact (hP162 _ _ _ _ _).mp hw r_u1 r_u2 r_k0 (by decide) hN hF H locs ls hP hD hS (lv_sub hl [2, 3, 4, 1, 0] rfl)
  ·
    intro u1 u2 u4 u5 τ hw
    refine (hP162 _ _ _ _ _).mpr ?_
    intro r_u1 r_u2 r_u4 r_u5 hN hF H locs ls hP hD hS hl
    have hB := hN
    refine lv_iload hx hb dX13_makeRows_162 (lv_at hl 4 rfl) ?_
    refine lv_iload hx hb dX13_makeRows_164 (lv_at hl 3 rfl) ?_
    refine bi_icmp_ge (tgt := 206) hx hb r_u5 r_u4 dX13_makeRows_166 (by decide) (fun c24 => ?_) (fun c24 => ?_)
    ·
      replace hw := hw.1 c24
      refine lv_aload_n hx hb dX13_makeRows_206 rfl (lv_at hl 0 rfl) ?_
      refine gfX13_pileRow hx hb hts hK hP hown (hts _ tw_2080) dX13_makeRows_207 ?_
      refine lv_aload_n hx hb dX13_makeRows_210 rfl (lv_at hl 0 rfl) ?_
      refine gfX13_piled hx hb hts hK hP hown (hts _ tw_2081) (x := τ.1 30) rfl dX13_makeRows_211 ?_
      refine lv_aload_n hx hb dX13_makeRows_214 rfl (lv_at hl 0 rfl) ?_
      refine gfX13_rowCount hx hb hts hK hP hown (hts _ tw_2103) (x := τ.1 36) rfl dX13_makeRows_215 ?_
      obtain ⟨c25, hw⟩ := hw
      refine sdMX13_pileRow hx hb hK hP hD hS c25 dX13_makeRows_218 (fun H locs hP hD hS => ?_)
      have hN : n_m (s_a τ 42 (τ.1 30) (τ.1 36)) := n_a (k := 42) (j := τ.1 30) hN ((hB.1 36) : rg (τ.1 36))
      have hF : f_r [30, 32, 36, 37, 38] [42, 46, 56, 57, 58] [] σ (s_a τ 42 (τ.1 30) (τ.1 36)) := f_a hF (by decide)
      refine lv_aload_n hx hb dX13_makeRows_219 rfl (lv_at hl 0 rfl) ?_
      refine lv_dup hx hb dX13_makeRows_220 rfl ?_
      refine gfX13_piled hx hb hts hK hP hown (hts _ tw_2081) (x := τ.1 30) rfl dX13_makeRows_221 ?_
      refine lv_iconst (v := I 1) hx hb dX13_makeRows_224 rfl ?_
      refine bi_iadd hx hb dX13_makeRows_225 ?_
      obtain ⟨c26, hw⟩ := hw
      refine pfX13_piled hx hb hts hK hP hD hS hown (hts _ tw_2081) dX13_makeRows_226 (fun H locs hP hD hS => ?_)
      have hN : n_m (s_v (s_a τ 42 (τ.1 30) (τ.1 36)) 30 (τ.1 30 + 1)) := n_v (i := 30) hN (c26 : rg (τ.1 30 + 1))
      have hF : f_r [30, 32, 36, 37, 38] [42, 46, 56, 57, 58] [] σ (s_v (s_a τ 42 (τ.1 30) (τ.1 36)) 30 (τ.1 30 + 1)) := f_v hF (by decide)
      refine lv_aload_n hx hb dX13_makeRows_229 rfl (lv_at hl 0 rfl) ?_
      refine gfX13_saves hx hb hts hK hP hown (hts _ tw_2043) dX13_makeRows_230 ?_
      refine lv_iload_n hx hb dX13_makeRows_233 rfl (lv_at hl 2 rfl) ?_
      obtain ⟨c27, hw⟩ := hw
      refine ldMX13_saves hx hb hK hP hN c27 dX13_makeRows_234 (fun x28 r_x28 e_x28 => ?_)
      replace hw := hw x28 r_x28 e_x28
      refine bi_if_eq (tgt := 261) hx hb r_x28 dX13_makeRows_235 (by decide) (fun c29 => ?_) (fun c29 => ?_)
      ·
        replace hw := hw.1 c29
        exact (hP261 _ _ _).mp hw r_u1 r_u2 hN hF H locs ls hP hD hS (lv_sub hl [0, 1, 2] rfl)
      ·
        replace hw := hw.2 c29
        refine lv_aload_n hx hb dX13_makeRows_238 rfl (lv_at hl 0 rfl) ?_
        refine gfX13_savedRow hx hb hts hK hP hown (hts _ tw_2086) dX13_makeRows_239 ?_
        refine lv_aload_n hx hb dX13_makeRows_242 rfl (lv_at hl 0 rfl) ?_
        refine gfX13_savedRows hx hb hts hK hP hown (hts _ tw_2087) (x := τ.1 32) rfl dX13_makeRows_243 ?_
        refine lv_aload_n hx hb dX13_makeRows_246 rfl (lv_at hl 0 rfl) ?_
        refine gfX13_rowCount hx hb hts hK hP hown (hts _ tw_2103) (x := τ.1 36) rfl dX13_makeRows_247 ?_
        obtain ⟨c30, hw⟩ := hw
        refine sdMX13_savedRow hx hb hK hP hD hS c30 dX13_makeRows_250 (fun H locs hP hD hS => ?_)
        have hN : n_m (s_a (s_v (s_a τ 42 (τ.1 30) (τ.1 36)) 30 (τ.1 30 + 1)) 46 (τ.1 32) (τ.1 36)) := n_a (k := 46) (j := τ.1 32) hN ((hB.1 36) : rg (τ.1 36))
        have hF : f_r [30, 32, 36, 37, 38] [42, 46, 56, 57, 58] [] σ (s_a (s_v (s_a τ 42 (τ.1 30) (τ.1 36)) 30 (τ.1 30 + 1)) 46 (τ.1 32) (τ.1 36)) := f_a hF (by decide)
        refine lv_aload_n hx hb dX13_makeRows_251 rfl (lv_at hl 0 rfl) ?_
        refine lv_dup hx hb dX13_makeRows_252 rfl ?_
        refine gfX13_savedRows hx hb hts hK hP hown (hts _ tw_2087) (x := τ.1 32) rfl dX13_makeRows_253 ?_
        refine lv_iconst (v := I 1) hx hb dX13_makeRows_256 rfl ?_
        refine bi_iadd hx hb dX13_makeRows_257 ?_
        obtain ⟨c31, hw⟩ := hw
        refine pfX13_savedRows hx hb hts hK hP hD hS hown (hts _ tw_2087) dX13_makeRows_258 (fun H locs hP hD hS => ?_)
        have hN : n_m (s_v (s_a (s_v (s_a τ 42 (τ.1 30) (τ.1 36)) 30 (τ.1 30 + 1)) 46 (τ.1 32) (τ.1 36)) 32 (τ.1 32 + 1)) := n_v (i := 32) hN (c31 : rg (τ.1 32 + 1))
        have hF : f_r [30, 32, 36, 37, 38] [42, 46, 56, 57, 58] [] σ (s_v (s_a (s_v (s_a τ 42 (τ.1 30) (τ.1 36)) 30 (τ.1 30 + 1)) 46 (τ.1 32) (τ.1 36)) 32 (τ.1 32 + 1)) := f_v hF (by decide)
        exact (hP261 _ _ _).mp hw r_u1 r_u2 hN hF H locs ls hP hD hS (lv_sub hl [0, 1, 2] rfl)
    ·
      replace hw := hw.2 c24
      refine lv_aload_n hx hb dX13_makeRows_169 rfl (lv_at hl 0 rfl) ?_
      refine gfX13_rowFroms hx hb hts hK hP hown (hts _ tw_2102) dX13_makeRows_170 ?_
      refine lv_aload_n hx hb dX13_makeRows_173 rfl (lv_at hl 0 rfl) ?_
      refine gfX13_rowFromCount hx hb hts hK hP hown (hts _ tw_2104) (x := τ.1 37) rfl dX13_makeRows_174 ?_
      refine lv_aload_n hx hb dX13_makeRows_177 rfl (lv_at hl 0 rfl) ?_
      refine gfX13_pileRow hx hb hts hK hP hown (hts _ tw_2080) dX13_makeRows_178 ?_
      refine lv_aload_n hx hb dX13_makeRows_181 rfl (lv_at hl 0 rfl) ?_
      refine gfX13_piled hx hb hts hK hP hown (hts _ tw_2081) (x := τ.1 30) rfl dX13_makeRows_182 ?_
      refine lv_iload hx hb dX13_makeRows_185 (lv_at hl 4 rfl) ?_
      refine bi_iadd hx hb dX13_makeRows_187 ?_
      obtain ⟨c32, hw⟩ := hw
      refine ldMX13_pileRow hx hb hK hP hN c32 dX13_makeRows_188 (fun x33 r_x33 e_x33 => ?_)
      replace hw := hw x33 r_x33 e_x33
      obtain ⟨c34, hw⟩ := hw
      refine sdMX13_rowFroms hx hb hK hP hD hS c34 dX13_makeRows_189 (fun H locs hP hD hS => ?_)
      have hN : n_m (s_a τ 58 (τ.1 37) x33) := n_a (k := 58) (j := τ.1 37) hN (r_x33 : rg x33)
      have hF : f_r [30, 32, 36, 37, 38] [42, 46, 56, 57, 58] [] σ (s_a τ 58 (τ.1 37) x33) := f_a hF (by decide)
      refine lv_aload_n hx hb dX13_makeRows_190 rfl (lv_at hl 0 rfl) ?_
      refine lv_dup hx hb dX13_makeRows_191 rfl ?_
      refine gfX13_rowFromCount hx hb hts hK hP hown (hts _ tw_2104) (x := τ.1 37) rfl dX13_makeRows_192 ?_
      refine lv_iconst (v := I 1) hx hb dX13_makeRows_195 rfl ?_
      refine bi_iadd hx hb dX13_makeRows_196 ?_
      obtain ⟨c35, hw⟩ := hw
      refine pfX13_rowFromCount hx hb hts hK hP hD hS hown (hts _ tw_2104) dX13_makeRows_197 (fun H locs hP hD hS => ?_)
      have hN : n_m (s_v (s_a τ 58 (τ.1 37) x33) 37 (τ.1 37 + 1)) := n_v (i := 37) hN (c35 : rg (τ.1 37 + 1))
      have hF : f_r [30, 32, 36, 37, 38] [42, 46, 56, 57, 58] [] σ (s_v (s_a τ 58 (τ.1 37) x33) 37 (τ.1 37 + 1)) := f_v hF (by decide)
      refine lv_iinc (v := I (u5 + 1)) (lv' := [(5, .int (I (u5 + 1))), (0, .ref (q 0)), (1, .int (I u1)), (2, .int (I u2)), (4, .int (I u4))]) hx hb dX13_makeRows_200 hl (k := 4) rfl (I_add _ _) (by decide) rfl (fun ls hl => ?_)
      refine lv_goto (tgt := 162) hx hb dX13_makeRows_203 (by decide) ?_
      obtain ⟨c36, hw⟩ := hw
      exact (hP162 _ _ _ _ _).mp hw r_u1 r_u2 r_u4 c36 hN hF H locs ls hP hD hS (lv_sub hl [1, 2, 3, 4, 0] rfl)
  ·
    intro u1 u2 τ hw
    refine (hP261 _ _ _).mpr ?_
    intro r_u1 r_u2 hN hF H locs ls hP hD hS hl
    have hB := hN
    refine lv_aload_n hx hb dX13_makeRows_261 rfl (lv_at hl 0 rfl) ?_
    refine lv_dup hx hb dX13_makeRows_262 rfl ?_
    refine gfX13_rowCount hx hb hts hK hP hown (hts _ tw_2103) (x := τ.1 36) rfl dX13_makeRows_263 ?_
    refine lv_iconst (v := I 1) hx hb dX13_makeRows_266 rfl ?_
    refine bi_iadd hx hb dX13_makeRows_267 ?_
    obtain ⟨c37, hw⟩ := hw
    refine pfX13_rowCount hx hb hts hK hP hD hS hown (hts _ tw_2103) dX13_makeRows_268 (fun H locs hP hD hS => ?_)
    have hN : n_m (s_v τ 36 (τ.1 36 + 1)) := n_v (i := 36) hN (c37 : rg (τ.1 36 + 1))
    have hF : f_r [30, 32, 36, 37, 38] [42, 46, 56, 57, 58] [] σ (s_v τ 36 (τ.1 36 + 1)) := f_v hF (by decide)
    refine lv_iinc (v := I (u2 + 1)) (lv' := [(2, .int (I (u2 + 1))), (0, .ref (q 0)), (1, .int (I u1))]) hx hb dX13_makeRows_271 hl (k := 2) rfl (I_add _ _) (by decide) rfl (fun ls hl => ?_)
    refine lv_goto (tgt := 45) hx hb dX13_makeRows_274 (by decide) ?_
    obtain ⟨c38, hw⟩ := hw
    exact (hP45 _ _ _).mp hw r_u1 c38 hN hF H locs ls hP hD hS (lv_sub hl [1, 2, 0] rfl)
def W_X13_rowWidth (n1 : Int) (σ : S0) (Q : Int → Prop) : Prop :=
  (0 ≤ n1 ∧ n1 < 20001) ∧ (∀ (x2 : Int), rg x2 → x2 = σ.2.1 56 n1 → ((0 ≤ x2 ∧ x2 < 1501) ∧ (∀ (x4 : Int), rg x4 → x4 = σ.2.1 13 x2 → ((2 ≤ x4 → ∀ (x6 : Int), rg x6 → x6 = σ.2.1 19 x2 → (Q x6)) ∧ (x4 < 2 → Q 0)))))
set_option maxRecDepth 100000 in
set_option maxHeartbeats 4000000 in
theorem L_X13_rowWidth (l : Launch) (g : gG) (q : Nat → Nat) (lb : Nat) (hlb : lb < 2 ^ 31) {n1 : Int} {σ : S0} {Q : Int → Prop} (r_n1 : rg n1) (hN : n_m σ) (hw : W_X13_rowWidth n1 σ Q) (sz : Nat) : MetI l yX13_rowWidth cX13_rowWidth 3 (some .int) { frames := 0, cells := 0, slots := 0, locals := 0 } g [.ref (q 0), .int (I n1)] (MX g q lb σ) sz xT (p_i (MX g q lb) σ Q) 0 0 := by
  refine mkMet (Qc := fun A => QI g A (p_i (MX g q lb) σ Q)) (by decide) (Nat.le_of_ble_eq_true rfl) ?_
  intro p e s m below meth c A H ls hx hb hr hml hown hts hlk hnm hsz hP hK hNb hD hA hAe hS hX hl
  have hl : lv_has ls 3 [(0, .ref (q 0)), (1, .int (I n1))] := hl
  have hB := hN
  obtain ⟨locs, hlocs⟩ : ∃ z : List Loc, z = [] := ⟨_, rfl⟩
  rw [← hlocs] at hS ⊢
  refine lv_aload_n hx hb dX13_rowWidth_0 rfl (lv_at hl 0 rfl) ?_
  refine gfX13_rowOf hx hb hts hK hP hown (hts _ tw_2100) dX13_rowWidth_1 ?_
  refine lv_iload_n hx hb dX13_rowWidth_4 rfl (lv_at hl 1 rfl) ?_
  obtain ⟨c1, hw⟩ := hw
  refine ldMX13_rowOf hx hb hK hP hN c1 dX13_rowWidth_5 (fun x2 r_x2 e_x2 => ?_)
  replace hw := hw x2 r_x2 e_x2
  refine lv_istore_n (lv' := [(2, .int (I x2)), (0, .ref (q 0)), (1, .int (I n1))]) hx hb dX13_rowWidth_6 rfl hl (by decide) rfl (fun ls hl => ?_)
  refine lv_aload_n hx hb dX13_rowWidth_7 rfl (lv_at hl 1 rfl) ?_
  refine gfX13_kindOf hx hb hts hK hP hown (hts _ tw_2025) dX13_rowWidth_8 ?_
  refine lv_iload_n hx hb dX13_rowWidth_11 rfl (lv_at hl 0 rfl) ?_
  obtain ⟨c3, hw⟩ := hw
  refine ldMX13_kindOf hx hb hK hP hN c3 dX13_rowWidth_12 (fun x4 r_x4 e_x4 => ?_)
  replace hw := hw x4 r_x4 e_x4
  refine lv_iconst (v := I 2) hx hb dX13_rowWidth_13 rfl ?_
  refine bi_icmp_ge (tgt := 21) hx hb r_x4 (by decide) dX13_rowWidth_14 (by decide) (fun c5 => ?_) (fun c5 => ?_)
  ·
    replace hw := hw.1 c5
    refine lv_aload_n hx hb dX13_rowWidth_21 rfl (lv_at hl 1 rfl) ?_
    refine gfX13_hypSize hx hb hts hK hP hown (hts _ tw_2032) dX13_rowWidth_22 ?_
    refine lv_iload_n hx hb dX13_rowWidth_25 rfl (lv_at hl 0 rfl) ?_
    refine ldMX13_hypSize hx hb hK hP hN c3 dX13_rowWidth_26 (fun x6 r_x6 e_x6 => ?_)
    replace hw := hw x6 r_x6 e_x6
    exact xri hx hb hr hlk hP hK hD hS ⟨_, r_x6, rfl, rfl, hw⟩ (Nat.le_of_ble_eq_true rfl) (Nat.le_of_ble_eq_true rfl) dX13_rowWidth_27
  ·
    replace hw := hw.2 c5
    refine lv_iconst (v := I 0) hx hb dX13_rowWidth_17 rfl ?_
    refine lv_goto (tgt := 27) hx hb dX13_rowWidth_18 (by decide) ?_
    exact xri hx hb hr hlk hP hK hD hS ⟨_, (by decide), rfl, rfl, hw⟩ (Nat.le_of_ble_eq_true rfl) (Nat.le_of_ble_eq_true rfl) dX13_rowWidth_27
def W_X13_rows (n1 : Int) (σ : S0) (Q : Int → S0 → Prop) : Prop :=
  ∃ (Q1 : Int → Prop), W_X13_isProved n1 σ Q1 ∧ ∀ (x2 : Int), rg x2 → Q1 x2 → ((¬ x2 = 0 → ∃ (Q5 : S0 → Prop), W_X13_makeRows n1 σ Q5 ∧ ∀ (τ7 : S0), n_m τ7 → f_r [30, 32, 36, 37, 38] [42, 46, 56, 57, 58] [] σ τ7 → Q5 τ7 → (Q (τ7.1 36) τ7)) ∧ (x2 = 0 → Q (-1) σ))
set_option maxRecDepth 100000 in
set_option maxHeartbeats 4000000 in
theorem L_X13_rows (l : Launch) (g : gG) (q : Nat → Nat) (lb : Nat) (hlb : lb < 2 ^ 31) {n1 : Int} {σ : S0} {Q : Int → S0 → Prop} (r_n1 : rg n1) (hN : n_m σ) (hw : W_X13_rows n1 σ Q) (sz : Nat) : MetI l yX13_rows cX13_rows 2 (some .int) { frames := 3, cells := 0, slots := 0, locals := 67 } g [.ref (q 0), .int (I n1)] (MX g q lb σ) sz xT (p_I (MX g q lb) [30, 32, 36, 37, 38] [42, 46, 56, 57, 58] [] σ Q) 0 0 := by
  refine mkMet (Qc := fun A => QI g A (p_I (MX g q lb) [30, 32, 36, 37, 38] [42, 46, 56, 57, 58] [] σ Q)) (by decide) (Nat.le_of_ble_eq_true rfl) ?_
  intro p e s m below meth c A H ls hx hb hr hml hown hts hlk hnm hsz hP hK hNb hD hA hAe hS hX hl
  have hl : lv_has ls 2 [(0, .ref (q 0)), (1, .int (I n1))] := hl
  have hB := hN
  have hF : f_r [30, 32, 36, 37, 38] [42, 46, 56, 57, 58] [] σ σ := f_0
  obtain ⟨locs, hlocs⟩ : ∃ z : List Loc, z = [] := ⟨_, rfl⟩
  rw [← hlocs] at hS ⊢
  refine lv_aload_n hx hb dX13_rows_0 rfl (lv_at hl 0 rfl) ?_
  refine lv_iload_n hx hb dX13_rows_1 rfl (lv_at hl 1 rfl) ?_
  obtain ⟨Q1, hc, hw⟩ := hw
  refine wc_i (X := MX g q lb) (va_runV (As := [.int (I n1)]) (rest := []) ⟨hx, hb, hml, hown, hts⟩ (L_X13_isProved l g q lb hlb r_n1 hN hc H.size) (cwV 1 hts (TB_V tw_2856 tw_2858 ts_166 tw_15 co_X13_isProved) rfl rfl rfl (by decide +kernel) ⟨Nat.le_of_ble_eq_true rfl, Nat.le_of_ble_eq_true rfl⟩) (preV (q0 := 0) (ci := 13) rfl xT_bl hP hK hNb hD rfl rfl xT_at) rfl rfl hl.1 rfl (lv_room (Nat.le_of_ble_eq_true rfl)) dX13_rows_2 ⟨Nat.le_of_ble_eq_true rfl, Nat.le_of_ble_eq_true rfl⟩) hP hD hS hA (fun x2 H locs r_x2 hq hP hD hS => ?_)
  replace hw := hw x2 r_x2 hq
  refine bi_if_ne (tgt := 10) hx hb r_x2 dX13_rows_5 (by decide) (fun c4 => ?_) (fun c4 => ?_)
  ·
    replace hw := hw.1 c4
    refine lv_aload_n hx hb dX13_rows_10 rfl (lv_at hl 0 rfl) ?_
    refine lv_iload_n hx hb dX13_rows_11 rfl (lv_at hl 1 rfl) ?_
    obtain ⟨Q5, hc, hw⟩ := hw
    refine wc_V (X := MX g q lb) (va_runV (As := [.int (I n1)]) (rest := []) ⟨hx, hb, hml, hown, hts⟩ (L_X13_makeRows l g q lb hlb r_n1 hN hc H.size) (cwV 1 hts (TB_V tw_2860 tw_2862 ts_167 tw_15 co_X13_makeRows) rfl rfl rfl (by decide +kernel) ⟨Nat.le_of_ble_eq_true rfl, Nat.le_of_ble_eq_true rfl⟩) (preV (q0 := 0) (ci := 13) rfl xT_bl hP hK hNb hD rfl rfl xT_at) rfl rfl hl.1 rfl (lv_room (Nat.le_of_ble_eq_true rfl)) dX13_rows_12 ⟨Nat.le_of_ble_eq_true rfl, Nat.le_of_ble_eq_true rfl⟩) hP hD hS hA (fun τ7 H locs hN hf hq hP hD hS => ?_)
    replace hw := hw τ7 hN hf hq
    have hF : f_r [30, 32, 36, 37, 38] [42, 46, 56, 57, 58] [] σ τ7 := f_t hF hf (by decide) (by decide) (by decide)
    have hB := hN
    refine lv_aload_n hx hb dX13_rows_15 rfl (lv_at hl 0 rfl) ?_
    refine gfX13_rowCount hx hb hts hK hP hown (hts _ tw_2103) (x := τ7.1 36) rfl dX13_rows_16 ?_
    exact xri hx hb hr hlk hP hK hD hS ⟨_, _, (hB.1 36), rfl, hN, hF, rfl, hw⟩ (Nat.le_of_ble_eq_true rfl) (Nat.le_of_ble_eq_true rfl) dX13_rows_19
  ·
    replace hw := hw.2 c4
    refine lv_iconst (v := I (-1)) hx hb dX13_rows_8 rfl ?_
    exact xri hx hb hr hlk hP hK hD hS ⟨_, _, (by decide), rfl, hN, hF, rfl, hw⟩ (Nat.le_of_ble_eq_true rfl) (Nat.le_of_ble_eq_true rfl) dX13_rows_9
def W_X13_isRow (n1 : Int) (n2 : Int) (σ : S0) (Q : Int → S0 → Prop) : Prop :=
  ∃ (Q1 : Int → Prop), W_X13_isProved n1 σ Q1 ∧ ∀ (x2 : Int), rg x2 → Q1 x2 → ((x2 = 0 → Q 0 σ) ∧ (¬ x2 = 0 → (n2 < 0 → Q 0 σ) ∧ (0 ≤ n2 → ∃ (Q6 : Int → S0 → Prop), W_X13_rows n1 σ Q6 ∧ ∀ (x7 : Int) (τ8 : S0), rg x7 → n_m τ8 → f_r [30, 32, 36, 37, 38] [42, 46, 56, 57, 58] [] σ τ8 → Q6 x7 τ8 → ((x7 ≤ n2 → Q 0 τ8) ∧ (n2 < x7 → Q 1 τ8)))))
set_option maxRecDepth 100000 in
set_option maxHeartbeats 4000000 in
theorem L_X13_isRow (l : Launch) (g : gG) (q : Nat → Nat) (lb : Nat) (hlb : lb < 2 ^ 31) {n1 : Int} {n2 : Int} {σ : S0} {Q : Int → S0 → Prop} (r_n1 : rg n1) (r_n2 : rg n2) (hN : n_m σ) (hw : W_X13_isRow n1 n2 σ Q) (sz : Nat) : MetI l yX13_isRow cX13_isRow 3 (some .boolean) { frames := 4, cells := 0, slots := 0, locals := 88 } g [.ref (q 0), .int (I n1), .int (I n2)] (MX g q lb σ) sz xT (p_I (MX g q lb) [30, 32, 36, 37, 38] [42, 46, 56, 57, 58] [] σ Q) 0 0 := by
  refine mkMet (Qc := fun A => QI g A (p_I (MX g q lb) [30, 32, 36, 37, 38] [42, 46, 56, 57, 58] [] σ Q)) (by decide) (Nat.le_of_ble_eq_true rfl) ?_
  intro p e s m below meth c A H ls hx hb hr hml hown hts hlk hnm hsz hP hK hNb hD hA hAe hS hX hl
  have hl : lv_has ls 3 [(0, .ref (q 0)), (1, .int (I n1)), (2, .int (I n2))] := hl
  have hB := hN
  have hF : f_r [30, 32, 36, 37, 38] [42, 46, 56, 57, 58] [] σ σ := f_0
  obtain ⟨locs, hlocs⟩ : ∃ z : List Loc, z = [] := ⟨_, rfl⟩
  rw [← hlocs] at hS ⊢
  refine lv_aload_n hx hb dX13_isRow_0 rfl (lv_at hl 0 rfl) ?_
  refine lv_iload_n hx hb dX13_isRow_1 rfl (lv_at hl 1 rfl) ?_
  obtain ⟨Q1, hc, hw⟩ := hw
  refine wc_i (X := MX g q lb) (va_runV (As := [.int (I n1)]) (rest := []) ⟨hx, hb, hml, hown, hts⟩ (L_X13_isProved l g q lb hlb r_n1 hN hc H.size) (cwV 1 hts (TB_V tw_2856 tw_2858 ts_166 tw_15 co_X13_isProved) rfl rfl rfl (by decide +kernel) ⟨Nat.le_of_ble_eq_true rfl, Nat.le_of_ble_eq_true rfl⟩) (preV (q0 := 0) (ci := 13) rfl xT_bl hP hK hNb hD rfl rfl xT_at) rfl rfl hl.1 rfl (lv_room (Nat.le_of_ble_eq_true rfl)) dX13_isRow_2 ⟨Nat.le_of_ble_eq_true rfl, Nat.le_of_ble_eq_true rfl⟩) hP hD hS hA (fun x2 H locs r_x2 hq hP hD hS => ?_)
  replace hw := hw x2 r_x2 hq
  refine bi_if_eq (tgt := 25) hx hb r_x2 dX13_isRow_5 (by decide) (fun c4 => ?_) (fun c4 => ?_)
  ·
    replace hw := hw.1 c4
    refine lv_iconst (v := I 0) hx hb dX13_isRow_25 rfl ?_
    exact xrz hx hb hr (by decide) hlk hP hK hD hS ⟨_, _, (by decide), rfl, hN, hF, rfl, hw⟩ (Nat.le_of_ble_eq_true rfl) (Nat.le_of_ble_eq_true rfl) dX13_isRow_26
  ·
    replace hw := hw.2 c4
    refine lv_iload_n hx hb dX13_isRow_8 rfl (lv_at hl 2 rfl) ?_
    refine bi_if_lt (tgt := 25) hx hb r_n2 dX13_isRow_9 (by decide) (fun c5 => ?_) (fun c5 => ?_)
    ·
      replace hw := hw.1 c5
      refine lv_iconst (v := I 0) hx hb dX13_isRow_25 rfl ?_
      exact xrz hx hb hr (by decide) hlk hP hK hD hS ⟨_, _, (by decide), rfl, hN, hF, rfl, hw⟩ (Nat.le_of_ble_eq_true rfl) (Nat.le_of_ble_eq_true rfl) dX13_isRow_26
    ·
      replace hw := hw.2 c5
      refine lv_iload_n hx hb dX13_isRow_12 rfl (lv_at hl 2 rfl) ?_
      refine lv_aload_n hx hb dX13_isRow_13 rfl (lv_at hl 0 rfl) ?_
      refine lv_iload_n hx hb dX13_isRow_14 rfl (lv_at hl 1 rfl) ?_
      obtain ⟨Q6, hc, hw⟩ := hw
      refine wc_I (X := MX g q lb) (va_runV (As := [.int (I n1)]) (rest := [.int (I n2)]) ⟨hx, hb, hml, hown, hts⟩ (L_X13_rows l g q lb hlb r_n1 hN hc H.size) (cwV 1 hts (TB_V tw_2872 tw_2853 tw_2854 tw_15 co_X13_rows) rfl rfl rfl (by decide +kernel) ⟨Nat.le_of_ble_eq_true rfl, Nat.le_of_ble_eq_true rfl⟩) (preV (q0 := 0) (ci := 13) rfl xT_bl hP hK hNb hD rfl rfl xT_at) rfl rfl hl.1 rfl (lv_room (Nat.le_of_ble_eq_true rfl)) dX13_isRow_15 ⟨Nat.le_of_ble_eq_true rfl, Nat.le_of_ble_eq_true rfl⟩) hP hD hS hA (fun x7 τ8 H locs r_x7 hN hf hq hP hD hS => ?_)
      replace hw := hw x7 τ8 r_x7 hN hf hq
      have hF : f_r [30, 32, 36, 37, 38] [42, 46, 56, 57, 58] [] σ τ8 := f_t hF hf (by decide) (by decide) (by decide)
      have hB := hN
      refine bi_icmp_ge (tgt := 25) hx hb r_n2 r_x7 dX13_isRow_18 (by decide) (fun c9 => ?_) (fun c9 => ?_)
      ·
        replace hw := hw.1 c9
        refine lv_iconst (v := I 0) hx hb dX13_isRow_25 rfl ?_
        exact xrz hx hb hr (by decide) hlk hP hK hD hS ⟨_, _, (by decide), rfl, hN, hF, rfl, hw⟩ (Nat.le_of_ble_eq_true rfl) (Nat.le_of_ble_eq_true rfl) dX13_isRow_26
      ·
        replace hw := hw.2 c9
        refine lv_iconst (v := I 1) hx hb dX13_isRow_21 rfl ?_
        refine lv_goto (tgt := 26) hx hb dX13_isRow_22 (by decide) ?_
        exact xrz hx hb hr (by decide) hlk hP hK hD hS ⟨_, _, (by decide), rfl, hN, hF, rfl, hw⟩ (Nat.le_of_ble_eq_true rfl) (Nat.le_of_ble_eq_true rfl) dX13_isRow_26
def W_X13_row (n1 : Int) (n2 : Int) (σ : S0) (Q : Int → S0 → Prop) : Prop :=
  ∃ (Q1 : Int → S0 → Prop), W_X13_isRow n1 n2 σ Q1 ∧ ∀ (x2 : Int) (τ3 : S0), rg x2 → n_m τ3 → f_r [30, 32, 36, 37, 38] [42, 46, 56, 57, 58] [] σ τ3 → Q1 x2 τ3 → ((x2 = 0 → Q (-1) τ3) ∧ (¬ x2 = 0 → (0 ≤ n2 ∧ n2 < 20001) ∧ (∀ (x6 : Int), rg x6 → x6 = τ3.2.1 56 n2 → (Q x6 τ3))))
set_option maxRecDepth 100000 in
set_option maxHeartbeats 4000000 in
theorem L_X13_row (l : Launch) (g : gG) (q : Nat → Nat) (lb : Nat) (hlb : lb < 2 ^ 31) {n1 : Int} {n2 : Int} {σ : S0} {Q : Int → S0 → Prop} (r_n1 : rg n1) (r_n2 : rg n2) (hN : n_m σ) (hw : W_X13_row n1 n2 σ Q) (sz : Nat) : MetI l yX13_row cX13_row 3 (some .int) { frames := 5, cells := 0, slots := 0, locals := 110 } g [.ref (q 0), .int (I n1), .int (I n2)] (MX g q lb σ) sz xT (p_I (MX g q lb) [30, 32, 36, 37, 38] [42, 46, 56, 57, 58] [] σ Q) 0 0 := by
  refine mkMet (Qc := fun A => QI g A (p_I (MX g q lb) [30, 32, 36, 37, 38] [42, 46, 56, 57, 58] [] σ Q)) (by decide) (Nat.le_of_ble_eq_true rfl) ?_
  intro p e s m below meth c A H ls hx hb hr hml hown hts hlk hnm hsz hP hK hNb hD hA hAe hS hX hl
  have hl : lv_has ls 3 [(0, .ref (q 0)), (1, .int (I n1)), (2, .int (I n2))] := hl
  have hB := hN
  have hF : f_r [30, 32, 36, 37, 38] [42, 46, 56, 57, 58] [] σ σ := f_0
  obtain ⟨locs, hlocs⟩ : ∃ z : List Loc, z = [] := ⟨_, rfl⟩
  rw [← hlocs] at hS ⊢
  refine lv_aload_n hx hb dX13_row_0 rfl (lv_at hl 0 rfl) ?_
  refine lv_iload_n hx hb dX13_row_1 rfl (lv_at hl 1 rfl) ?_
  refine lv_iload_n hx hb dX13_row_2 rfl (lv_at hl 2 rfl) ?_
  obtain ⟨Q1, hc, hw⟩ := hw
  refine wc_I (X := MX g q lb) (va_runV (As := [.int (I n1), .int (I n2)]) (rest := []) ⟨hx, hb, hml, hown, hts⟩ (L_X13_isRow l g q lb hlb r_n1 r_n2 hN hc H.size) (cwV 2 hts (TB_V tw_2868 tw_2870 ts_168 tw_15 co_X13_isRow) rfl rfl rfl (by decide +kernel) ⟨Nat.le_of_ble_eq_true rfl, Nat.le_of_ble_eq_true rfl⟩) (preV (q0 := 0) (ci := 13) rfl xT_bl hP hK hNb hD rfl rfl xT_at) rfl rfl hl.1 rfl (lv_room (Nat.le_of_ble_eq_true rfl)) dX13_row_3 ⟨Nat.le_of_ble_eq_true rfl, Nat.le_of_ble_eq_true rfl⟩) hP hD hS hA (fun x2 τ3 H locs r_x2 hN hf hq hP hD hS => ?_)
  replace hw := hw x2 τ3 r_x2 hN hf hq
  have hF : f_r [30, 32, 36, 37, 38] [42, 46, 56, 57, 58] [] σ τ3 := f_t hF hf (by decide) (by decide) (by decide)
  have hB := hN
  refine bi_if_eq (tgt := 18) hx hb r_x2 dX13_row_6 (by decide) (fun c4 => ?_) (fun c4 => ?_)
  ·
    replace hw := hw.1 c4
    refine lv_iconst (v := I (-1)) hx hb dX13_row_18 rfl ?_
    exact xri hx hb hr hlk hP hK hD hS ⟨_, _, (by decide), rfl, hN, hF, rfl, hw⟩ (Nat.le_of_ble_eq_true rfl) (Nat.le_of_ble_eq_true rfl) dX13_row_19
  ·
    replace hw := hw.2 c4
    refine lv_aload_n hx hb dX13_row_9 rfl (lv_at hl 0 rfl) ?_
    refine gfX13_rowOf hx hb hts hK hP hown (hts _ tw_2100) dX13_row_10 ?_
    refine lv_iload_n hx hb dX13_row_13 rfl (lv_at hl 2 rfl) ?_
    obtain ⟨c5, hw⟩ := hw
    refine ldMX13_rowOf hx hb hK hP hN c5 dX13_row_14 (fun x6 r_x6 e_x6 => ?_)
    replace hw := hw x6 r_x6 e_x6
    refine lv_goto (tgt := 19) hx hb dX13_row_15 (by decide) ?_
    exact xri hx hb hr hlk hP hK hD hS ⟨_, _, r_x6, rfl, hN, hF, rfl, hw⟩ (Nat.le_of_ble_eq_true rfl) (Nat.le_of_ble_eq_true rfl) dX13_row_19
def W_X13_from (n1 : Int) (n2 : Int) (n3 : Int) (σ : S0) (Q : Int → S0 → Prop) : Prop :=
  ∃ (Q1 : Int → S0 → Prop), W_X13_isRow n1 n2 σ Q1 ∧ ∀ (x2 : Int) (τ3 : S0), rg x2 → n_m τ3 → f_r [30, 32, 36, 37, 38] [42, 46, 56, 57, 58] [] σ τ3 → Q1 x2 τ3 → ((x2 = 0 → Q (-1) τ3) ∧ (¬ x2 = 0 → ∃ (Q5 : Int → Prop), W_X13_rowWidth n2 τ3 Q5 ∧ ∀ (x6 : Int), rg x6 → Q5 x6 → (rg (x6 - 1) ∧ ∃ (Q9 : Int → Prop), W_X13_isIn (j_of n3) 0 (j_of (x6 - 1)) τ3 Q9 ∧ ∀ (x10 : Int), rg x10 → Q9 x10 → ((x10 = 0 → Q (-1) τ3) ∧ (¬ x10 = 0 → (0 ≤ n2 ∧ n2 < 20001) ∧ (∀ (x14 : Int), rg x14 → x14 = τ3.2.1 57 n2 → ((0 ≤ (x14 + n3) ∧ (x14 + n3) < 120000) ∧ (∀ (x16 : Int), rg x16 → x16 = τ3.2.1 58 (x14 + n3) → (Q x16 τ3)))))))))
set_option maxRecDepth 100000 in
set_option maxHeartbeats 4000000 in
theorem L_X13_from (l : Launch) (g : gG) (q : Nat → Nat) (lb : Nat) (hlb : lb < 2 ^ 31) {n1 : Int} {n2 : Int} {n3 : Int} {σ : S0} {Q : Int → S0 → Prop} (r_n1 : rg n1) (r_n2 : rg n2) (r_n3 : rg n3) (hN : n_m σ) (hw : W_X13_from n1 n2 n3 σ Q) (sz : Nat) : MetI l yX13_from cX13_from 4 (some .int) { frames := 5, cells := 0, slots := 0, locals := 110 } g [.ref (q 0), .int (I n1), .int (I n2), .int (I n3)] (MX g q lb σ) sz xT (p_I (MX g q lb) [30, 32, 36, 37, 38] [42, 46, 56, 57, 58] [] σ Q) 0 0 := by
  refine mkMet (Qc := fun A => QI g A (p_I (MX g q lb) [30, 32, 36, 37, 38] [42, 46, 56, 57, 58] [] σ Q)) (by decide) (Nat.le_of_ble_eq_true rfl) ?_
  intro p e s m below meth c A H ls hx hb hr hml hown hts hlk hnm hsz hP hK hNb hD hA hAe hS hX hl
  have hl : lv_has ls 4 [(0, .ref (q 0)), (1, .int (I n1)), (2, .int (I n2)), (3, .int (I n3))] := hl
  have hB := hN
  have hF : f_r [30, 32, 36, 37, 38] [42, 46, 56, 57, 58] [] σ σ := f_0
  obtain ⟨locs, hlocs⟩ : ∃ z : List Loc, z = [] := ⟨_, rfl⟩
  rw [← hlocs] at hS ⊢
  refine lv_aload_n hx hb dX13_from_0 rfl (lv_at hl 0 rfl) ?_
  refine lv_iload_n hx hb dX13_from_1 rfl (lv_at hl 1 rfl) ?_
  refine lv_iload_n hx hb dX13_from_2 rfl (lv_at hl 2 rfl) ?_
  obtain ⟨Q1, hc, hw⟩ := hw
  refine wc_I (X := MX g q lb) (va_runV (As := [.int (I n1), .int (I n2)]) (rest := []) ⟨hx, hb, hml, hown, hts⟩ (L_X13_isRow l g q lb hlb r_n1 r_n2 hN hc H.size) (cwV 2 hts (TB_V tw_2868 tw_2870 ts_168 tw_15 co_X13_isRow) rfl rfl rfl (by decide +kernel) ⟨Nat.le_of_ble_eq_true rfl, Nat.le_of_ble_eq_true rfl⟩) (preV (q0 := 0) (ci := 13) rfl xT_bl hP hK hNb hD rfl rfl xT_at) rfl rfl hl.1 rfl (lv_room (Nat.le_of_ble_eq_true rfl)) dX13_from_3 ⟨Nat.le_of_ble_eq_true rfl, Nat.le_of_ble_eq_true rfl⟩) hP hD hS hA (fun x2 τ3 H locs r_x2 hN hf hq hP hD hS => ?_)
  replace hw := hw x2 τ3 r_x2 hN hf hq
  have hF : f_r [30, 32, 36, 37, 38] [42, 46, 56, 57, 58] [] σ τ3 := f_t hF hf (by decide) (by decide) (by decide)
  have hB := hN
  refine bi_if_eq (tgt := 42) hx hb r_x2 dX13_from_6 (by decide) (fun c4 => ?_) (fun c4 => ?_)
  ·
    replace hw := hw.1 c4
    refine lv_iconst (v := I (-1)) hx hb dX13_from_42 rfl ?_
    exact xri hx hb hr hlk hP hK hD hS ⟨_, _, (by decide), rfl, hN, hF, rfl, hw⟩ (Nat.le_of_ble_eq_true rfl) (Nat.le_of_ble_eq_true rfl) dX13_from_43
  ·
    replace hw := hw.2 c4
    refine lv_iload_n hx hb dX13_from_9 rfl (lv_at hl 3 rfl) ?_
    refine bi_i2l hx hb r_n3 dX13_from_10 ?_
    refine lv_lconst (v := 0) hx hb dX13_from_11 (by decide) ?_
    refine lv_aload_n hx hb dX13_from_12 rfl (lv_at hl 0 rfl) ?_
    refine lv_iload_n hx hb dX13_from_13 rfl (lv_at hl 2 rfl) ?_
    obtain ⟨Q5, hc, hw⟩ := hw
    refine wc_i (X := MX g q lb) (va_runV (As := [.int (I n2)]) (rest := [.long 0, .long (j_of n3)]) ⟨hx, hb, hml, hown, hts⟩ (L_X13_rowWidth l g q lb hlb r_n2 hN hc H.size) (cwV 1 hts (TB_V tw_2877 tw_2879 ts_169 tw_15 co_X13_rowWidth) rfl rfl rfl (by decide +kernel) ⟨Nat.le_of_ble_eq_true rfl, Nat.le_of_ble_eq_true rfl⟩) (preV (q0 := 0) (ci := 13) rfl xT_bl hP hK hNb hD rfl rfl xT_at) rfl rfl hl.1 rfl (lv_room (Nat.le_of_ble_eq_true rfl)) dX13_from_14 ⟨Nat.le_of_ble_eq_true rfl, Nat.le_of_ble_eq_true rfl⟩) hP hD hS hA (fun x6 H locs r_x6 hq hP hD hS => ?_)
    replace hw := hw x6 r_x6 hq
    refine lv_iconst (v := I 1) hx hb dX13_from_17 rfl ?_
    refine bi_isub hx hb dX13_from_18 ?_
    obtain ⟨c8, hw⟩ := hw
    refine bi_i2l hx hb c8 dX13_from_19 ?_
    obtain ⟨Q9, hc, hw⟩ := hw
    refine wc_i (X := MX g q lb) (va_runS (As := [.long (j_of n3), .long 0, .long (j_of (x6 - 1))]) (rest := []) ⟨hx, hb, hml, hown, hts⟩ (L_X13_isIn l g q lb hlb  hN hc H.size) (cwS 3 hts (TB_S tw_2525 tw_2526 tw_15 co_X13_isIn) rfl rfl rfl (by decide +kernel) ⟨Nat.le_of_ble_eq_true rfl, Nat.le_of_ble_eq_true rfl⟩) (preS xT_bl hP hK hNb hD xT_at) rfl rfl hl.1 rfl (lv_room (Nat.le_of_ble_eq_true rfl)) dX13_from_20 ⟨Nat.le_of_ble_eq_true rfl, Nat.le_of_ble_eq_true rfl⟩) hP hD hS hA (fun x10 H locs r_x10 hq hP hD hS => ?_)
    replace hw := hw x10 r_x10 hq
    refine bi_if_eq (tgt := 42) hx hb r_x10 dX13_from_23 (by decide) (fun c12 => ?_) (fun c12 => ?_)
    ·
      replace hw := hw.1 c12
      refine lv_iconst (v := I (-1)) hx hb dX13_from_42 rfl ?_
      exact xri hx hb hr hlk hP hK hD hS ⟨_, _, (by decide), rfl, hN, hF, rfl, hw⟩ (Nat.le_of_ble_eq_true rfl) (Nat.le_of_ble_eq_true rfl) dX13_from_43
    ·
      replace hw := hw.2 c12
      refine lv_aload_n hx hb dX13_from_26 rfl (lv_at hl 0 rfl) ?_
      refine gfX13_rowFroms hx hb hts hK hP hown (hts _ tw_2102) dX13_from_27 ?_
      refine lv_aload_n hx hb dX13_from_30 rfl (lv_at hl 0 rfl) ?_
      refine gfX13_rowFromAt hx hb hts hK hP hown (hts _ tw_2101) dX13_from_31 ?_
      refine lv_iload_n hx hb dX13_from_34 rfl (lv_at hl 2 rfl) ?_
      obtain ⟨c13, hw⟩ := hw
      refine ldMX13_rowFromAt hx hb hK hP hN c13 dX13_from_35 (fun x14 r_x14 e_x14 => ?_)
      replace hw := hw x14 r_x14 e_x14
      refine lv_iload_n hx hb dX13_from_36 rfl (lv_at hl 3 rfl) ?_
      refine bi_iadd hx hb dX13_from_37 ?_
      obtain ⟨c15, hw⟩ := hw
      refine ldMX13_rowFroms hx hb hK hP hN c15 dX13_from_38 (fun x16 r_x16 e_x16 => ?_)
      replace hw := hw x16 r_x16 e_x16
      refine lv_goto (tgt := 43) hx hb dX13_from_39 (by decide) ?_
      exact xri hx hb hr hlk hP hK hD hS ⟨_, _, r_x16, rfl, hN, hF, rfl, hw⟩ (Nat.le_of_ble_eq_true rfl) (Nat.le_of_ble_eq_true rfl) dX13_from_43
def W_X13_rests (n1 : Int) (n2 : Int) (σ : S0) (Q : Int → Prop) : Prop :=
  ∃ (Q1 : Int → Prop), W_X13_isAssertion n1 σ Q1 ∧ ∀ (x2 : Int), rg x2 → Q1 x2 → ((x2 = 0 → Q (-1)) ∧ (¬ x2 = 0 → (0 ≤ n1 ∧ n1 < 1501) ∧ (∀ (x6 : Int), rg x6 → x6 = σ.2.1 13 n1 → ((¬ x6 = 3 → Q (-1)) ∧ (x6 = 3 → ∃ (Q8 : Int → Prop), W_X13_isAssertion n2 σ Q8 ∧ ∀ (x9 : Int), rg x9 → Q8 x9 → ((¬ x9 = 0 → ∀ (x12 : Int), rg x12 → (0 ≤ n2 → x12 = n2 / 64) → (n2 < 0 → x12 = -((-n2) / 64)) → ((0 ≤ ((24 * n1) + x12) ∧ ((24 * n1) + x12) < 36024) ∧ (∀ (x14 : Int64), x14 = σ.2.2 0 ((24 * n1) + x12) → (∀ (x15 : Int), rg x15 → (0 ≤ n2 → x15 = n2 % 64) → (n2 < 0 → x15 = -((-n2) % 64)) → (∀ (x16 : Int), rg x16 → (rg (((j_shr x14 x15) &&& 1) : Int64).toInt → x16 = (((j_shr x14 x15) &&& 1) : Int64).toInt) → (Q x16)))))) ∧ (x9 = 0 → Q (-1))))))))
set_option maxRecDepth 100000 in
set_option maxHeartbeats 4000000 in
theorem L_X13_rests (l : Launch) (g : gG) (q : Nat → Nat) (lb : Nat) (hlb : lb < 2 ^ 31) {n1 : Int} {n2 : Int} {σ : S0} {Q : Int → Prop} (r_n1 : rg n1) (r_n2 : rg n2) (hN : n_m σ) (hw : W_X13_rests n1 n2 σ Q) (sz : Nat) : MetI l yX13_rests cX13_rests 3 (some .int) { frames := 3, cells := 0, slots := 0, locals := 67 } g [.ref (q 0), .int (I n1), .int (I n2)] (MX g q lb σ) sz xT (p_i (MX g q lb) σ Q) 0 0 := by
  refine mkMet (Qc := fun A => QI g A (p_i (MX g q lb) σ Q)) (by decide) (Nat.le_of_ble_eq_true rfl) ?_
  intro p e s m below meth c A H ls hx hb hr hml hown hts hlk hnm hsz hP hK hNb hD hA hAe hS hX hl
  have hl : lv_has ls 3 [(0, .ref (q 0)), (1, .int (I n1)), (2, .int (I n2))] := hl
  have hB := hN
  obtain ⟨locs, hlocs⟩ : ∃ z : List Loc, z = [] := ⟨_, rfl⟩
  rw [← hlocs] at hS ⊢
  refine lv_aload_n hx hb dX13_rests_0 rfl (lv_at hl 0 rfl) ?_
  refine lv_iload_n hx hb dX13_rests_1 rfl (lv_at hl 1 rfl) ?_
  obtain ⟨Q1, hc, hw⟩ := hw
  refine wc_i (X := MX g q lb) (va_runV (As := [.int (I n1)]) (rest := []) ⟨hx, hb, hml, hown, hts⟩ (L_X13_isAssertion l g q lb hlb r_n1 hN hc H.size) (cwV 1 hts (TB_V tw_2835 tw_2837 ts_164 tw_15 co_X13_isAssertion) rfl rfl rfl (by decide +kernel) ⟨Nat.le_of_ble_eq_true rfl, Nat.le_of_ble_eq_true rfl⟩) (preV (q0 := 0) (ci := 13) rfl xT_bl hP hK hNb hD rfl rfl xT_at) rfl rfl hl.1 rfl (lv_room (Nat.le_of_ble_eq_true rfl)) dX13_rests_2 ⟨Nat.le_of_ble_eq_true rfl, Nat.le_of_ble_eq_true rfl⟩) hP hD hS hA (fun x2 H locs r_x2 hq hP hD hS => ?_)
  replace hw := hw x2 r_x2 hq
  refine bi_if_eq (tgt := 26) hx hb r_x2 dX13_rests_5 (by decide) (fun c4 => ?_) (fun c4 => ?_)
  ·
    replace hw := hw.1 c4
    refine lv_iconst (v := I (-1)) hx hb dX13_rests_26 rfl ?_
    exact xri hx hb hr hlk hP hK hD hS ⟨_, (by decide), rfl, rfl, hw⟩ (Nat.le_of_ble_eq_true rfl) (Nat.le_of_ble_eq_true rfl) dX13_rests_27
  ·
    replace hw := hw.2 c4
    refine lv_aload_n hx hb dX13_rests_8 rfl (lv_at hl 0 rfl) ?_
    refine gfX13_kindOf hx hb hts hK hP hown (hts _ tw_2025) dX13_rests_9 ?_
    refine lv_iload_n hx hb dX13_rests_12 rfl (lv_at hl 1 rfl) ?_
    obtain ⟨c5, hw⟩ := hw
    refine ldMX13_kindOf hx hb hK hP hN c5 dX13_rests_13 (fun x6 r_x6 e_x6 => ?_)
    replace hw := hw x6 r_x6 e_x6
    refine lv_iconst (v := I 3) hx hb dX13_rests_14 rfl ?_
    refine bi_icmp_ne (tgt := 26) hx hb r_x6 (by decide) dX13_rests_15 (by decide) (fun c7 => ?_) (fun c7 => ?_)
    ·
      replace hw := hw.1 c7
      refine lv_iconst (v := I (-1)) hx hb dX13_rests_26 rfl ?_
      exact xri hx hb hr hlk hP hK hD hS ⟨_, (by decide), rfl, rfl, hw⟩ (Nat.le_of_ble_eq_true rfl) (Nat.le_of_ble_eq_true rfl) dX13_rests_27
    ·
      replace hw := hw.2 c7
      refine lv_aload_n hx hb dX13_rests_18 rfl (lv_at hl 0 rfl) ?_
      refine lv_iload_n hx hb dX13_rests_19 rfl (lv_at hl 2 rfl) ?_
      obtain ⟨Q8, hc, hw⟩ := hw
      refine wc_i (X := MX g q lb) (va_runV (As := [.int (I n2)]) (rest := []) ⟨hx, hb, hml, hown, hts⟩ (L_X13_isAssertion l g q lb hlb r_n2 hN hc H.size) (cwV 1 hts (TB_V tw_2835 tw_2837 ts_164 tw_15 co_X13_isAssertion) rfl rfl rfl (by decide +kernel) ⟨Nat.le_of_ble_eq_true rfl, Nat.le_of_ble_eq_true rfl⟩) (preV (q0 := 0) (ci := 13) rfl xT_bl hP hK hNb hD rfl rfl xT_at) rfl rfl hl.1 rfl (lv_room (Nat.le_of_ble_eq_true rfl)) dX13_rests_20 ⟨Nat.le_of_ble_eq_true rfl, Nat.le_of_ble_eq_true rfl⟩) hP hD hS hA (fun x9 H locs r_x9 hq hP hD hS => ?_)
      replace hw := hw x9 r_x9 hq
      refine bi_if_ne (tgt := 28) hx hb r_x9 dX13_rests_23 (by decide) (fun c11 => ?_) (fun c11 => ?_)
      ·
        replace hw := hw.1 c11
        refine lv_aload_n hx hb dX13_rests_28 rfl (lv_at hl 0 rfl) ?_
        refine gfX13_rest hx hb hts hK hP hown (hts _ tw_2046) dX13_rests_29 ?_
        refine lv_bipush (v := I 24) hx hb dX13_rests_32 (by decide) ?_
        refine lv_iload_n hx hb dX13_rests_34 rfl (lv_at hl 1 rfl) ?_
        refine bi_imul hx hb dX13_rests_35 ?_
        refine lv_iload_n hx hb dX13_rests_36 rfl (lv_at hl 2 rfl) ?_
        refine lv_bipush (v := I 64) hx hb dX13_rests_37 (by decide) ?_
        refine bi_idiv hx hb r_n2 (by decide) (by decide) dX13_rests_39 (fun x12 r_x12 p_x12 m_x12 => ?_)
        replace hw := hw x12 r_x12 p_x12 m_x12
        refine bi_iadd hx hb dX13_rests_40 ?_
        obtain ⟨c13, hw⟩ := hw
        refine ldMX13_rest hx hb hK hP hN c13 dX13_rests_41 (fun x14 e_x14 => ?_)
        replace hw := hw x14 e_x14
        refine lv_iload_n hx hb dX13_rests_42 rfl (lv_at hl 2 rfl) ?_
        refine lv_bipush (v := I 64) hx hb dX13_rests_43 (by decide) ?_
        refine bi_irem hx hb r_n2 (by decide) (by decide) dX13_rests_45 (fun x15 r_x15 p_x15 m_x15 => ?_)
        replace hw := hw x15 r_x15 p_x15 m_x15
        refine bi_lshr hx hb dX13_rests_46 ?_
        refine lv_lconst (v := 1) hx hb dX13_rests_47 (by decide) ?_
        refine lv_land hx hb dX13_rests_48 ?_
        refine bi_l2i hx hb dX13_rests_49 (fun x16 r_x16 p_x16 => ?_)
        replace hw := hw x16 r_x16 p_x16
        exact xri hx hb hr hlk hP hK hD hS ⟨_, r_x16, rfl, rfl, hw⟩ (Nat.le_of_ble_eq_true rfl) (Nat.le_of_ble_eq_true rfl) dX13_rests_50
      ·
        replace hw := hw.2 c11
        refine lv_iconst (v := I (-1)) hx hb dX13_rests_26 rfl ?_
        exact xri hx hb hr hlk hP hK hD hS ⟨_, (by decide), rfl, rfl, hw⟩ (Nat.le_of_ble_eq_true rfl) (Nat.le_of_ble_eq_true rfl) dX13_rests_27
def W_X13_makeSizes (n1 : Int) (σ : S0) (Q : S0 → Prop) : Prop :=
  ∀ (P7 : Int → S0 → Prop) (P20 : Int → Int64 → Int → S0 → Prop),
  (∀ (u2 : Int) (τ : S0), ((τ.1 36 ≤ u2 → Q τ) ∧ (u2 < τ.1 36 → P20 u2 1 0 τ)) → P7 u2 τ) →
  (∀ (u2 : Int) (u3 : Int64) (u5 : Int) (τ : S0), (∃ (Q5 : Int → Prop), W_X13_rowWidth u2 τ Q5 ∧ ∀ (x6 : Int), rg x6 → Q5 x6 → ((x6 ≤ u5 → (0 ≤ u2 ∧ u2 < 20001) ∧ (rg (u2 + 1) ∧ P7 (u2 + 1) (s_b τ 2 u2 u3))) ∧ (u5 < x6 → (0 ≤ u2 ∧ u2 < 20001) ∧ (∀ (x12 : Int), rg x12 → x12 = τ.2.1 57 u2 → ((0 ≤ (x12 + u5) ∧ (x12 + u5) < 120000) ∧ (∀ (x14 : Int), rg x14 → x14 = τ.2.1 58 (x12 + u5) → ((0 ≤ x14 ∧ x14 < 20001) ∧ (∀ (x16 : Int64), x16 = τ.2.2 2 x14 → (((u3 + x16) ≤ 1000000000000000000 → rg (u5 + 1) ∧ P20 u2 (u3 + x16) (u5 + 1) τ) ∧ (1000000000000000000 < (u3 + x16) → rg (u5 + 1) ∧ P20 u2 1000000000000000001 (u5 + 1) τ)))))))))) → P20 u2 u3 u5 τ) →
  ∃ (Q1 : S0 → Prop), W_X13_makeRows n1 σ Q1 ∧ ∀ (τ3 : S0), n_m τ3 → f_r [30, 32, 36, 37, 38] [42, 46, 56, 57, 58] [] σ τ3 → Q1 τ3 → (P7 0 τ3)
set_option maxRecDepth 100000 in
set_option maxHeartbeats 4000000 in
theorem L_X13_makeSizes (l : Launch) (g : gG) (q : Nat → Nat) (lb : Nat) (hlb : lb < 2 ^ 31) {n1 : Int} {σ : S0} {Q : S0 → Prop} (r_n1 : rg n1) (hN : n_m σ) (hw : W_X13_makeSizes n1 σ Q) (sz : Nat) : MetV l yX13_makeSizes cX13_makeSizes 6 { frames := 1, cells := 0, slots := 0, locals := 25 } g [.ref (q 0), .int (I n1)] (MX g q lb σ) sz xT (p_V (MX g q lb) [30, 32, 36, 37, 38] [42, 46, 56, 57, 58] [2] σ Q) 0 0 := by
  refine mkMet (Qc := fun A => QV g A (p_V (MX g q lb) [30, 32, 36, 37, 38] [42, 46, 56, 57, 58] [2] σ Q)) (by decide) (Nat.le_of_ble_eq_true rfl) ?_
  intro p e s m below meth c A H ls hx hb hr hml hown hts hlk hnm hsz hP hK hNb hD hA hAe hS hX hl
  have hl : lv_has ls 6 [(0, .ref (q 0)), (1, .int (I n1))] := hl
  have hB := hN
  have hF : f_r [30, 32, 36, 37, 38] [42, 46, 56, 57, 58] [2] σ σ := f_0
  obtain ⟨locs, hlocs⟩ : ∃ z : List Loc, z = [] := ⟨_, rfl⟩
  rw [← hlocs] at hS ⊢
  obtain ⟨P7, hP7⟩ : ∃ P : Int → S0 → Prop, ∀ (u2 : Int) (τ : S0), (P u2 τ ↔ (rg u2 → n_m τ → f_r [30, 32, 36, 37, 38] [42, 46, 56, 57, 58] [2] σ τ → ∀ (H : Heap) (locs : List Loc) (ls : Array Slot), KP g (MX g q lb τ) H → va_D A (MX g q lb τ) → va_S A s.heap H locs → lv_has ls 6 [(0, .ref (q 0)), (2, .int (I u2))] → W p l e ({ frames := 1, cells := 0, slots := 0, locals := 25 }) s m [.ref (q 0), .int (I n1)].toArray below meth c H locs 0 0 (MQ below (QV g A (p_V (MX g q lb) [30, 32, 36, 37, 38] [42, 46, 56, 57, 58] [2] σ Q)) [.ref (q 0), .int (I n1)].toArray s 0 0 A) (F0 m 7 ls []))) := ⟨_, fun _ _ => Iff.rfl⟩
  obtain ⟨P20, hP20⟩ : ∃ P : Int → Int64 → Int → S0 → Prop, ∀ (u2 : Int) (u3 : Int64) (u5 : Int) (τ : S0), (P u2 u3 u5 τ ↔ (rg u2 → rg u5 → n_m τ → f_r [30, 32, 36, 37, 38] [42, 46, 56, 57, 58] [2] σ τ → ∀ (H : Heap) (locs : List Loc) (ls : Array Slot), KP g (MX g q lb τ) H → va_D A (MX g q lb τ) → va_S A s.heap H locs → lv_has ls 6 [(0, .ref (q 0)), (2, .int (I u2)), (3, .long u3), (5, .int (I u5))] → W p l e ({ frames := 1, cells := 0, slots := 0, locals := 25 }) s m [.ref (q 0), .int (I n1)].toArray below meth c H locs 0 0 (MQ below (QV g A (p_V (MX g q lb) [30, 32, 36, 37, 38] [42, 46, 56, 57, 58] [2] σ Q)) [.ref (q 0), .int (I n1)].toArray s 0 0 A) (F0 m 20 ls []))) := ⟨_, fun _ _ _ _ => Iff.rfl⟩
  refine (fun hw => ?_) (hw P7 P20 ?_ ?_)
  ·
    refine lv_aload_n hx hb dX13_makeSizes_0 rfl (lv_at hl 0 rfl) ?_
    refine lv_iload_n hx hb dX13_makeSizes_1 rfl (lv_at hl 1 rfl) ?_
    obtain ⟨Q1, hc, hw⟩ := hw
    refine wc_V (X := MX g q lb) (va_runV (As := [.int (I n1)]) (rest := []) ⟨hx, hb, hml, hown, hts⟩ (L_X13_makeRows l g q lb hlb r_n1 hN hc H.size) (cwV 1 hts (TB_V tw_2860 tw_2862 ts_167 tw_15 co_X13_makeRows) rfl rfl rfl (by decide +kernel) ⟨Nat.le_of_ble_eq_true rfl, Nat.le_of_ble_eq_true rfl⟩) (preV (q0 := 0) (ci := 13) rfl xT_bl hP hK hNb hD rfl rfl xT_at) rfl rfl hl.1 rfl (lv_room (Nat.le_of_ble_eq_true rfl)) dX13_makeSizes_2 ⟨Nat.le_of_ble_eq_true rfl, Nat.le_of_ble_eq_true rfl⟩) hP hD hS hA (fun τ3 H locs hN hf hq hP hD hS => ?_)
    replace hw := hw τ3 hN hf hq
    have hF : f_r [30, 32, 36, 37, 38] [42, 46, 56, 57, 58] [2] σ τ3 := f_t hF hf (by decide) (by decide) (by decide)
    have hB := hN
    refine lv_iconst (v := I 0) hx hb dX13_makeSizes_5 rfl ?_
    refine lv_istore_n (lv' := [(2, .int (I 0)), (0, .ref (q 0)), (1, .int (I n1))]) hx hb dX13_makeSizes_6 rfl hl (by decide) rfl (fun ls hl => ?_)
    exact (hP7 _ _).mp hw (by decide) hN hF H locs ls hP hD hS (lv_sub hl [1, 0] rfl)
  ·
    intro u2 τ hw
    refine (hP7 _ _).mpr ?_
    intro r_u2 hN hF H locs ls hP hD hS hl
    have hB := hN
    refine lv_iload_n hx hb dX13_makeSizes_7 rfl (lv_at hl 1 rfl) ?_
    refine lv_aload_n hx hb dX13_makeSizes_8 rfl (lv_at hl 0 rfl) ?_
    refine gfX13_rowCount hx hb hts hK hP hown (hts _ tw_2103) (x := τ.1 36) rfl dX13_makeSizes_9 ?_
    refine bi_icmp_ge (tgt := 87) hx hb r_u2 (hB.1 36) dX13_makeSizes_12 (by decide) (fun c4 => ?_) (fun c4 => ?_)
    ·
      replace hw := hw.1 c4
      exact xrv hx hb hr hlk hP hK hD hS ⟨_, hN, hF, rfl, hw⟩ (Nat.le_of_ble_eq_true rfl) (Nat.le_of_ble_eq_true rfl) dX13_makeSizes_87
    ·
      replace hw := hw.2 c4
      refine lv_lconst (v := 1) hx hb dX13_makeSizes_15 (by decide) ?_
      refine lv_lstore_n (lv' := [(3, .long 1), (0, .ref (q 0)), (2, .int (I u2))]) hx hb dX13_makeSizes_16 rfl hl (by decide) rfl (fun ls hl => ?_)
      refine lv_iconst (v := I 0) hx hb dX13_makeSizes_17 rfl ?_
      refine lv_istore (lv' := [(5, .int (I 0)), (3, .long 1), (0, .ref (q 0)), (2, .int (I u2))]) hx hb dX13_makeSizes_18 hl (by decide) rfl (fun ls hl => ?_)
      exact (hP20 _ _ _ _).mp hw r_u2 (by decide) hN hF H locs ls hP hD hS (lv_sub hl [2, 3, 1, 0] rfl)
  ·
    intro u2 u3 u5 τ hw
    refine (hP20 _ _ _ _).mpr ?_
    intro r_u2 r_u5 hN hF H locs ls hP hD hS hl
    have hB := hN
    refine lv_iload hx hb dX13_makeSizes_20 (lv_at hl 3 rfl) ?_
    refine lv_aload_n hx hb dX13_makeSizes_22 rfl (lv_at hl 0 rfl) ?_
    refine lv_iload_n hx hb dX13_makeSizes_23 rfl (lv_at hl 1 rfl) ?_
    obtain ⟨Q5, hc, hw⟩ := hw
    refine wc_i (X := MX g q lb) (va_runV (As := [.int (I u2)]) (rest := [.int (I u5)]) ⟨hx, hb, hml, hown, hts⟩ (L_X13_rowWidth l g q lb hlb r_u2 hN hc H.size) (cwV 1 hts (TB_V tw_2877 tw_2879 ts_169 tw_15 co_X13_rowWidth) rfl rfl rfl (by decide +kernel) ⟨Nat.le_of_ble_eq_true rfl, Nat.le_of_ble_eq_true rfl⟩) (preV (q0 := 0) (ci := 13) rfl xT_bl hP hK hNb hD rfl rfl xT_at) rfl rfl hl.1 rfl (lv_room (Nat.le_of_ble_eq_true rfl)) dX13_makeSizes_24 ⟨Nat.le_of_ble_eq_true rfl, Nat.le_of_ble_eq_true rfl⟩) hP hD hS hA (fun x6 H locs r_x6 hq hP hD hS => ?_)
    replace hw := hw x6 r_x6 hq
    refine bi_icmp_ge (tgt := 74) hx hb r_u5 r_x6 dX13_makeSizes_27 (by decide) (fun c8 => ?_) (fun c8 => ?_)
    ·
      replace hw := hw.1 c8
      refine lv_aload_n hx hb dX13_makeSizes_74 rfl (lv_at hl 0 rfl) ?_
      refine gfX13_sizes hx hb hts hK hP hown (hts _ tw_2106) dX13_makeSizes_75 ?_
      refine lv_iload_n hx hb dX13_makeSizes_78 rfl (lv_at hl 1 rfl) ?_
      refine lv_lload_n hx hb dX13_makeSizes_79 rfl (lv_at hl 2 rfl) ?_
      obtain ⟨c9, hw⟩ := hw
      refine sdMX13_sizes hx hb hK hP hD hS c9 dX13_makeSizes_80 (fun H locs hP hD hS => ?_)
      have hN : n_m (s_b τ 2 u2 u3) := n_b (k := 2) (j := u2) (x := u3) hN
      have hF : f_r [30, 32, 36, 37, 38] [42, 46, 56, 57, 58] [2] σ (s_b τ 2 u2 u3) := f_b hF (by decide)
      refine lv_iinc (v := I (u2 + 1)) (lv' := [(2, .int (I (u2 + 1))), (0, .ref (q 0)), (3, .long u3), (5, .int (I u5))]) hx hb dX13_makeSizes_81 hl (k := 1) rfl (I_add _ _) (by decide) rfl (fun ls hl => ?_)
      refine lv_goto (tgt := 7) hx hb dX13_makeSizes_84 (by decide) ?_
      obtain ⟨c10, hw⟩ := hw
      exact (hP7 _ _).mp hw c10 hN hF H locs ls hP hD hS (lv_sub hl [1, 0] rfl)
    ·
      replace hw := hw.2 c8
      refine lv_lload_n hx hb dX13_makeSizes_30 rfl (lv_at hl 2 rfl) ?_
      refine lv_aload_n hx hb dX13_makeSizes_31 rfl (lv_at hl 0 rfl) ?_
      refine gfX13_sizes hx hb hts hK hP hown (hts _ tw_2106) dX13_makeSizes_32 ?_
      refine lv_aload_n hx hb dX13_makeSizes_35 rfl (lv_at hl 0 rfl) ?_
      refine gfX13_rowFroms hx hb hts hK hP hown (hts _ tw_2102) dX13_makeSizes_36 ?_
      refine lv_aload_n hx hb dX13_makeSizes_39 rfl (lv_at hl 0 rfl) ?_
      refine gfX13_rowFromAt hx hb hts hK hP hown (hts _ tw_2101) dX13_makeSizes_40 ?_
      refine lv_iload_n hx hb dX13_makeSizes_43 rfl (lv_at hl 1 rfl) ?_
      obtain ⟨c11, hw⟩ := hw
      refine ldMX13_rowFromAt hx hb hK hP hN c11 dX13_makeSizes_44 (fun x12 r_x12 e_x12 => ?_)
      replace hw := hw x12 r_x12 e_x12
      refine lv_iload hx hb dX13_makeSizes_45 (lv_at hl 3 rfl) ?_
      refine bi_iadd hx hb dX13_makeSizes_47 ?_
      obtain ⟨c13, hw⟩ := hw
      refine ldMX13_rowFroms hx hb hK hP hN c13 dX13_makeSizes_48 (fun x14 r_x14 e_x14 => ?_)
      replace hw := hw x14 r_x14 e_x14
      obtain ⟨c15, hw⟩ := hw
      refine ldMX13_sizes hx hb hK hP hN c15 dX13_makeSizes_49 (fun x16 e_x16 => ?_)
      replace hw := hw x16 e_x16
      refine lv_ladd hx hb dX13_makeSizes_50 ?_
      refine lv_lstore_n (lv' := [(3, .long (u3 + x16)), (0, .ref (q 0)), (2, .int (I u2)), (5, .int (I u5))]) hx hb dX13_makeSizes_51 rfl hl (by decide) rfl (fun ls hl => ?_)
      refine lv_lload_n hx hb dX13_makeSizes_52 rfl (lv_at hl 0 rfl) ?_
      refine lv_ldc2 (own := RX13) (v := 1000000000000000000) hx hb hown (hts _ tw_2893) dX13_makeSizes_53 ?_
      refine bi_lcmp_le (tgt := 66) hx hb dX13_makeSizes_56 dX13_makeSizes_57 (by decide) (fun c17 => ?_) (fun c17 => ?_)
      ·
        replace hw := hw.1 c17
        refine lv_lload_n hx hb dX13_makeSizes_66 rfl (lv_at hl 0 rfl) ?_
        refine lv_lstore_n (lv' := [(3, .long (u3 + x16)), (0, .ref (q 0)), (2, .int (I u2)), (5, .int (I u5))]) hx hb dX13_makeSizes_67 rfl hl (by decide) rfl (fun ls hl => ?_)
        refine lv_iinc (v := I (u5 + 1)) (lv' := [(5, .int (I (u5 + 1))), (3, .long (u3 + x16)), (0, .ref (q 0)), (2, .int (I u2))]) hx hb dX13_makeSizes_68 hl (k := 3) rfl (I_add _ _) (by decide) rfl (fun ls hl => ?_)
        refine lv_goto (tgt := 20) hx hb dX13_makeSizes_71 (by decide) ?_
        obtain ⟨c18, hw⟩ := hw
        exact (hP20 _ _ _ _).mp hw r_u2 c18 hN hF H locs ls hP hD hS (lv_sub hl [2, 3, 1, 0] rfl)
      ·
        replace hw := hw.2 c17
        refine lv_ldc2 (own := RX13) (v := 1000000000000000001) hx hb hown (hts _ tw_2894) dX13_makeSizes_60 ?_
        refine lv_goto (tgt := 67) hx hb dX13_makeSizes_63 (by decide) ?_
        refine lv_lstore_n (lv' := [(3, .long 1000000000000000001), (0, .ref (q 0)), (2, .int (I u2)), (5, .int (I u5))]) hx hb dX13_makeSizes_67 rfl hl (by decide) rfl (fun ls hl => ?_)
        refine lv_iinc (v := I (u5 + 1)) (lv' := [(5, .int (I (u5 + 1))), (3, .long 1000000000000000001), (0, .ref (q 0)), (2, .int (I u2))]) hx hb dX13_makeSizes_68 hl (k := 3) rfl (I_add _ _) (by decide) rfl (fun ls hl => ?_)
        refine lv_goto (tgt := 20) hx hb dX13_makeSizes_71 (by decide) ?_
        obtain ⟨c19, hw⟩ := hw
        exact (hP20 _ _ _ _).mp hw r_u2 c19 hN hF H locs ls hP hD hS (lv_sub hl [2, 3, 1, 0] rfl)
def W_X13_size (n1 : Int) (σ : S0) (Q : Int64 → S0 → Prop) : Prop :=
  ∃ (Q1 : Int → Prop), W_X13_isProved n1 σ Q1 ∧ ∀ (x2 : Int), rg x2 → Q1 x2 → ((¬ x2 = 0 → ∃ (Q5 : S0 → Prop), W_X13_makeSizes n1 σ Q5 ∧ ∀ (τ7 : S0), n_m τ7 → f_r [30, 32, 36, 37, 38] [42, 46, 56, 57, 58] [2] σ τ7 → Q5 τ7 → ((0 ≤ (τ7.1 36 - 1) ∧ (τ7.1 36 - 1) < 20001) ∧ (∀ (x9 : Int64), x9 = τ7.2.2 2 (τ7.1 36 - 1) → ((x9 ≤ 1000000000000000000 → ∀ (x11 : Int64), x11 = τ7.2.2 2 (τ7.1 36 - 1) → (Q x11 τ7)) ∧ (1000000000000000000 < x9 → Q (-2) τ7))))) ∧ (x2 = 0 → Q (-1) σ))
set_option maxRecDepth 100000 in
set_option maxHeartbeats 4000000 in
theorem L_X13_size (l : Launch) (g : gG) (q : Nat → Nat) (lb : Nat) (hlb : lb < 2 ^ 31) {n1 : Int} {σ : S0} {Q : Int64 → S0 → Prop} (r_n1 : rg n1) (hN : n_m σ) (hw : W_X13_size n1 σ Q) (sz : Nat) : MetL l yX13_size cX13_size 2 (some .long) { frames := 3, cells := 0, slots := 0, locals := 67 } g [.ref (q 0), .int (I n1)] (MX g q lb σ) sz xT (p_L (MX g q lb) [30, 32, 36, 37, 38] [42, 46, 56, 57, 58] [2] σ Q) 0 0 := by
  refine mkMet (Qc := fun A => QL g A (p_L (MX g q lb) [30, 32, 36, 37, 38] [42, 46, 56, 57, 58] [2] σ Q)) (by decide) (Nat.le_of_ble_eq_true rfl) ?_
  intro p e s m below meth c A H ls hx hb hr hml hown hts hlk hnm hsz hP hK hNb hD hA hAe hS hX hl
  have hl : lv_has ls 2 [(0, .ref (q 0)), (1, .int (I n1))] := hl
  have hB := hN
  have hF : f_r [30, 32, 36, 37, 38] [42, 46, 56, 57, 58] [2] σ σ := f_0
  obtain ⟨locs, hlocs⟩ : ∃ z : List Loc, z = [] := ⟨_, rfl⟩
  rw [← hlocs] at hS ⊢
  refine lv_aload_n hx hb dX13_size_0 rfl (lv_at hl 0 rfl) ?_
  refine lv_iload_n hx hb dX13_size_1 rfl (lv_at hl 1 rfl) ?_
  obtain ⟨Q1, hc, hw⟩ := hw
  refine wc_i (X := MX g q lb) (va_runV (As := [.int (I n1)]) (rest := []) ⟨hx, hb, hml, hown, hts⟩ (L_X13_isProved l g q lb hlb r_n1 hN hc H.size) (cwV 1 hts (TB_V tw_2856 tw_2858 ts_166 tw_15 co_X13_isProved) rfl rfl rfl (by decide +kernel) ⟨Nat.le_of_ble_eq_true rfl, Nat.le_of_ble_eq_true rfl⟩) (preV (q0 := 0) (ci := 13) rfl xT_bl hP hK hNb hD rfl rfl xT_at) rfl rfl hl.1 rfl (lv_room (Nat.le_of_ble_eq_true rfl)) dX13_size_2 ⟨Nat.le_of_ble_eq_true rfl, Nat.le_of_ble_eq_true rfl⟩) hP hD hS hA (fun x2 H locs r_x2 hq hP hD hS => ?_)
  replace hw := hw x2 r_x2 hq
  refine bi_if_ne (tgt := 12) hx hb r_x2 dX13_size_5 (by decide) (fun c4 => ?_) (fun c4 => ?_)
  ·
    replace hw := hw.1 c4
    refine lv_aload_n hx hb dX13_size_12 rfl (lv_at hl 0 rfl) ?_
    refine lv_iload_n hx hb dX13_size_13 rfl (lv_at hl 1 rfl) ?_
    obtain ⟨Q5, hc, hw⟩ := hw
    refine wc_V (X := MX g q lb) (va_runV (As := [.int (I n1)]) (rest := []) ⟨hx, hb, hml, hown, hts⟩ (L_X13_makeSizes l g q lb hlb r_n1 hN hc H.size) (cwV 1 hts (TB_V tw_2889 tw_2891 ts_170 tw_15 co_X13_makeSizes) rfl rfl rfl (by decide +kernel) ⟨Nat.le_of_ble_eq_true rfl, Nat.le_of_ble_eq_true rfl⟩) (preV (q0 := 0) (ci := 13) rfl xT_bl hP hK hNb hD rfl rfl xT_at) rfl rfl hl.1 rfl (lv_room (Nat.le_of_ble_eq_true rfl)) dX13_size_14 ⟨Nat.le_of_ble_eq_true rfl, Nat.le_of_ble_eq_true rfl⟩) hP hD hS hA (fun τ7 H locs hN hf hq hP hD hS => ?_)
    replace hw := hw τ7 hN hf hq
    have hF : f_r [30, 32, 36, 37, 38] [42, 46, 56, 57, 58] [2] σ τ7 := f_t hF hf (by decide) (by decide) (by decide)
    have hB := hN
    refine lv_aload_n hx hb dX13_size_17 rfl (lv_at hl 0 rfl) ?_
    refine gfX13_sizes hx hb hts hK hP hown (hts _ tw_2106) dX13_size_18 ?_
    refine lv_aload_n hx hb dX13_size_21 rfl (lv_at hl 0 rfl) ?_
    refine gfX13_rowCount hx hb hts hK hP hown (hts _ tw_2103) (x := τ7.1 36) rfl dX13_size_22 ?_
    refine lv_iconst (v := I 1) hx hb dX13_size_25 rfl ?_
    refine bi_isub hx hb dX13_size_26 ?_
    obtain ⟨c8, hw⟩ := hw
    refine ldMX13_sizes hx hb hK hP hN c8 dX13_size_27 (fun x9 e_x9 => ?_)
    replace hw := hw x9 e_x9
    refine lv_ldc2 (own := RX13) (v := 1000000000000000000) hx hb hown (hts _ tw_2893) dX13_size_28 ?_
    refine bi_lcmp_le (tgt := 41) hx hb dX13_size_31 dX13_size_32 (by decide) (fun c10 => ?_) (fun c10 => ?_)
    ·
      replace hw := hw.1 c10
      refine lv_aload_n hx hb dX13_size_41 rfl (lv_at hl 0 rfl) ?_
      refine gfX13_sizes hx hb hts hK hP hown (hts _ tw_2106) dX13_size_42 ?_
      refine lv_aload_n hx hb dX13_size_45 rfl (lv_at hl 0 rfl) ?_
      refine gfX13_rowCount hx hb hts hK hP hown (hts _ tw_2103) (x := τ7.1 36) rfl dX13_size_46 ?_
      refine lv_iconst (v := I 1) hx hb dX13_size_49 rfl ?_
      refine bi_isub hx hb dX13_size_50 ?_
      refine ldMX13_sizes hx hb hK hP hN c8 dX13_size_51 (fun x11 e_x11 => ?_)
      replace hw := hw x11 e_x11
      exact xrl hx hb hr hlk hP hK hD hS ⟨_, hN, hF, rfl, hw⟩ (Nat.le_of_ble_eq_true rfl) (Nat.le_of_ble_eq_true rfl) dX13_size_52
    ·
      replace hw := hw.2 c10
      refine lv_ldc2 (own := RX13) (v := (-2)) hx hb hown (hts _ tw_2895) dX13_size_35 ?_
      refine lv_goto (tgt := 52) hx hb dX13_size_38 (by decide) ?_
      exact xrl hx hb hr hlk hP hK hD hS ⟨_, hN, hF, rfl, hw⟩ (Nat.le_of_ble_eq_true rfl) (Nat.le_of_ble_eq_true rfl) dX13_size_52
  ·
    replace hw := hw.2 c4
    refine lv_ldc2 (own := RX13) (v := (-1)) hx hb hown (hts _ tw_2774) dX13_size_8 ?_
    exact xrl hx hb hr hlk hP hK hD hS ⟨_, hN, hF, rfl, hw⟩ (Nat.le_of_ble_eq_true rfl) (Nat.le_of_ble_eq_true rfl) dX13_size_11
def W_X13_put (n1 : Int) (σ : S0) (Q : S0 → Prop) : Prop :=
  (24000 < σ.1 39 → Q σ) ∧ (σ.1 39 ≤ 24000 → (0 ≤ σ.1 39 ∧ σ.1 39 < 24002) ∧ (rg (σ.1 39 + 1) ∧ Q (s_v (s_a σ 59 (σ.1 39) n1) 39 (σ.1 39 + 1))))
set_option maxRecDepth 100000 in
set_option maxHeartbeats 4000000 in
theorem L_X13_put (l : Launch) (g : gG) (q : Nat → Nat) (lb : Nat) (hlb : lb < 2 ^ 31) {n1 : Int} {σ : S0} {Q : S0 → Prop} (r_n1 : rg n1) (hN : n_m σ) (hw : W_X13_put n1 σ Q) (sz : Nat) : MetV l yX13_put cX13_put 2 { frames := 0, cells := 0, slots := 0, locals := 0 } g [.ref (q 0), .int (I n1)] (MX g q lb σ) sz xT (p_V (MX g q lb) [39] [59] [] σ Q) 0 0 := by
  refine mkMet (Qc := fun A => QV g A (p_V (MX g q lb) [39] [59] [] σ Q)) (by decide) (Nat.le_of_ble_eq_true rfl) ?_
  intro p e s m below meth c A H ls hx hb hr hml hown hts hlk hnm hsz hP hK hNb hD hA hAe hS hX hl
  have hl : lv_has ls 2 [(0, .ref (q 0)), (1, .int (I n1))] := hl
  have hB := hN
  have hF : f_r [39] [59] [] σ σ := f_0
  obtain ⟨locs, hlocs⟩ : ∃ z : List Loc, z = [] := ⟨_, rfl⟩
  rw [← hlocs] at hS ⊢
  refine lv_aload_n hx hb dX13_put_0 rfl (lv_at hl 0 rfl) ?_
  refine gfX13_draftSize hx hb hts hK hP hown (hts _ tw_2108) (x := σ.1 39) rfl dX13_put_1 ?_
  refine lv_sipush (v := I 24000) hx hb dX13_put_4 (by decide) ?_
  refine bi_icmp_gt (tgt := 30) hx hb (hB.1 39) (by decide) dX13_put_7 (by decide) (fun c1 => ?_) (fun c1 => ?_)
  ·
    replace hw := hw.1 c1
    exact xrv hx hb hr hlk hP hK hD hS ⟨_, hN, hF, rfl, hw⟩ (Nat.le_of_ble_eq_true rfl) (Nat.le_of_ble_eq_true rfl) dX13_put_30
  ·
    replace hw := hw.2 c1
    refine lv_aload_n hx hb dX13_put_10 rfl (lv_at hl 0 rfl) ?_
    refine gfX13_draft hx hb hts hK hP hown (hts _ tw_2107) dX13_put_11 ?_
    refine lv_aload_n hx hb dX13_put_14 rfl (lv_at hl 0 rfl) ?_
    refine gfX13_draftSize hx hb hts hK hP hown (hts _ tw_2108) (x := σ.1 39) rfl dX13_put_15 ?_
    refine lv_iload_n hx hb dX13_put_18 rfl (lv_at hl 1 rfl) ?_
    obtain ⟨c2, hw⟩ := hw
    refine sdMX13_draft hx hb hK hP hD hS c2 dX13_put_19 (fun H locs hP hD hS => ?_)
    have hN : n_m (s_a σ 59 (σ.1 39) n1) := n_a (k := 59) (j := σ.1 39) hN (r_n1 : rg n1)
    have hF : f_r [39] [59] [] σ (s_a σ 59 (σ.1 39) n1) := f_a hF (by decide)
    refine lv_aload_n hx hb dX13_put_20 rfl (lv_at hl 0 rfl) ?_
    refine lv_dup hx hb dX13_put_21 rfl ?_
    refine gfX13_draftSize hx hb hts hK hP hown (hts _ tw_2108) (x := σ.1 39) rfl dX13_put_22 ?_
    refine lv_iconst (v := I 1) hx hb dX13_put_25 rfl ?_
    refine bi_iadd hx hb dX13_put_26 ?_
    obtain ⟨c3, hw⟩ := hw
    refine pfX13_draftSize hx hb hts hK hP hD hS hown (hts _ tw_2108) dX13_put_27 (fun H locs hP hD hS => ?_)
    have hN : n_m (s_v (s_a σ 59 (σ.1 39) n1) 39 (σ.1 39 + 1)) := n_v (i := 39) hN (c3 : rg (σ.1 39 + 1))
    have hF : f_r [39] [59] [] σ (s_v (s_a σ 59 (σ.1 39) n1) 39 (σ.1 39 + 1)) := f_v hF (by decide)
    exact xrv hx hb hr hlk hP hK hD hS ⟨_, hN, hF, rfl, hw⟩ (Nat.le_of_ble_eq_true rfl) (Nat.le_of_ble_eq_true rfl) dX13_put_30
def W_X13_putBlank (σ : S0) (Q : S0 → Prop) : Prop :=
  (σ.1 39 ≤ 0 → Q σ) ∧ (0 < σ.1 39 → ∃ (Q2 : S0 → Prop), W_X13_put 32 σ Q2 ∧ ∀ (τ4 : S0), n_m τ4 → f_r [39] [59] [] σ τ4 → Q2 τ4 → (Q τ4))
set_option maxRecDepth 100000 in
set_option maxHeartbeats 4000000 in
theorem L_X13_putBlank (l : Launch) (g : gG) (q : Nat → Nat) (lb : Nat) (hlb : lb < 2 ^ 31) {σ : S0} {Q : S0 → Prop} (hN : n_m σ) (hw : W_X13_putBlank σ Q) (sz : Nat) : MetV l yX13_putBlank cX13_putBlank 1 { frames := 1, cells := 0, slots := 0, locals := 21 } g [.ref (q 0)] (MX g q lb σ) sz xT (p_V (MX g q lb) [39] [59] [] σ Q) 0 0 := by
  refine mkMet (Qc := fun A => QV g A (p_V (MX g q lb) [39] [59] [] σ Q)) (by decide) (Nat.le_of_ble_eq_true rfl) ?_
  intro p e s m below meth c A H ls hx hb hr hml hown hts hlk hnm hsz hP hK hNb hD hA hAe hS hX hl
  have hl : lv_has ls 1 [(0, .ref (q 0))] := hl
  have hB := hN
  have hF : f_r [39] [59] [] σ σ := f_0
  obtain ⟨locs, hlocs⟩ : ∃ z : List Loc, z = [] := ⟨_, rfl⟩
  rw [← hlocs] at hS ⊢
  refine lv_aload_n hx hb dX13_putBlank_0 rfl (lv_at hl 0 rfl) ?_
  refine gfX13_draftSize hx hb hts hK hP hown (hts _ tw_2108) (x := σ.1 39) rfl dX13_putBlank_1 ?_
  refine bi_if_le (tgt := 13) hx hb (hB.1 39) dX13_putBlank_4 (by decide) (fun c1 => ?_) (fun c1 => ?_)
  ·
    replace hw := hw.1 c1
    exact xrv hx hb hr hlk hP hK hD hS ⟨_, hN, hF, rfl, hw⟩ (Nat.le_of_ble_eq_true rfl) (Nat.le_of_ble_eq_true rfl) dX13_putBlank_13
  ·
    replace hw := hw.2 c1
    refine lv_aload_n hx hb dX13_putBlank_7 rfl (lv_at hl 0 rfl) ?_
    refine lv_bipush (v := I 32) hx hb dX13_putBlank_8 (by decide) ?_
    obtain ⟨Q2, hc, hw⟩ := hw
    refine wc_V (X := MX g q lb) (va_runV (As := [.int (I 32)]) (rest := []) ⟨hx, hb, hml, hown, hts⟩ (L_X13_put l g q lb hlb (by decide) hN hc H.size) (cwV 1 hts (TB_V tw_3067 tw_3069 ts_208 tw_15 co_X13_put) rfl rfl rfl (by decide +kernel) ⟨Nat.le_of_ble_eq_true rfl, Nat.le_of_ble_eq_true rfl⟩) (preV (q0 := 0) (ci := 13) rfl xT_bl hP hK hNb hD rfl rfl xT_at) rfl rfl hl.1 rfl (lv_room (Nat.le_of_ble_eq_true rfl)) dX13_putBlank_10 ⟨Nat.le_of_ble_eq_true rfl, Nat.le_of_ble_eq_true rfl⟩) hP hD hS hA (fun τ4 H locs hN hf hq hP hD hS => ?_)
    replace hw := hw τ4 hN hf hq
    have hF : f_r [39] [59] [] σ τ4 := f_t hF hf (by decide) (by decide) (by decide)
    have hB := hN
    exact xrv hx hb hr hlk hP hK hD hS ⟨_, hN, hF, rfl, hw⟩ (Nat.le_of_ble_eq_true rfl) (Nat.le_of_ble_eq_true rfl) dX13_putBlank_13
def W_X13_putName (n1 : Int) (n2 : Int) (σ : S0) (Q : S0 → Prop) : Prop :=
  ∀ (P2 : Int → Int → Int → S0 → Prop),
  (∀ (u1 : Int) (u2 : Int) (u3 : Int) (τ : S0), ((u2 ≤ u3 → Q τ) ∧ (u3 < u2 → (0 ≤ (u1 + u3) ∧ (u1 + u3) < 30100) ∧ (∀ (x3 : Int), rg x3 → x3 = τ.2.1 1 (u1 + u3) → (∃ (Q4 : S0 → Prop), W_X13_put x3 τ Q4 ∧ ∀ (τ6 : S0), n_m τ6 → f_r [39] [59] [] τ τ6 → Q4 τ6 → (rg (u3 + 1) ∧ P2 u1 u2 (u3 + 1) τ6))))) → P2 u1 u2 u3 τ) →
  P2 n1 n2 0 σ
set_option maxRecDepth 100000 in
set_option maxHeartbeats 4000000 in
theorem L_X13_putName (l : Launch) (g : gG) (q : Nat → Nat) (lb : Nat) (hlb : lb < 2 ^ 31) {n1 : Int} {n2 : Int} {σ : S0} {Q : S0 → Prop} (r_n1 : rg n1) (r_n2 : rg n2) (hN : n_m σ) (hw : W_X13_putName n1 n2 σ Q) (sz : Nat) : MetV l yX13_putName cX13_putName 4 { frames := 1, cells := 0, slots := 0, locals := 21 } g [.ref (q 0), .int (I n1), .int (I n2)] (MX g q lb σ) sz xT (p_V (MX g q lb) [39] [59] [] σ Q) 0 0 := by
  refine mkMet (Qc := fun A => QV g A (p_V (MX g q lb) [39] [59] [] σ Q)) (by decide) (Nat.le_of_ble_eq_true rfl) ?_
  intro p e s m below meth c A H ls hx hb hr hml hown hts hlk hnm hsz hP hK hNb hD hA hAe hS hX hl
  have hl : lv_has ls 4 [(0, .ref (q 0)), (1, .int (I n1)), (2, .int (I n2))] := hl
  have hB := hN
  have hF : f_r [39] [59] [] σ σ := f_0
  obtain ⟨locs, hlocs⟩ : ∃ z : List Loc, z = [] := ⟨_, rfl⟩
  rw [← hlocs] at hS ⊢
  obtain ⟨P2, hP2⟩ : ∃ P : Int → Int → Int → S0 → Prop, ∀ (u1 : Int) (u2 : Int) (u3 : Int) (τ : S0), (P u1 u2 u3 τ ↔ (rg u1 → rg u2 → rg u3 → n_m τ → f_r [39] [59] [] σ τ → ∀ (H : Heap) (locs : List Loc) (ls : Array Slot), KP g (MX g q lb τ) H → va_D A (MX g q lb τ) → va_S A s.heap H locs → lv_has ls 4 [(0, .ref (q 0)), (1, .int (I u1)), (2, .int (I u2)), (3, .int (I u3))] → W p l e ({ frames := 1, cells := 0, slots := 0, locals := 21 }) s m [.ref (q 0), .int (I n1), .int (I n2)].toArray below meth c H locs 0 0 (MQ below (QV g A (p_V (MX g q lb) [39] [59] [] σ Q)) [.ref (q 0), .int (I n1), .int (I n2)].toArray s 0 0 A) (F0 m 2 ls []))) := ⟨_, fun _ _ _ _ => Iff.rfl⟩
  refine (fun hw => ?_) (hw P2 ?_)
  ·
    refine lv_iconst (v := I 0) hx hb dX13_putName_0 rfl ?_
    refine lv_istore_n (lv' := [(3, .int (I 0)), (0, .ref (q 0)), (1, .int (I n1)), (2, .int (I n2))]) hx hb dX13_putName_1 rfl hl (by decide) rfl (fun ls hl => ?_)
    exact (hP2 _ _ _ _).mp hw r_n1 r_n2 (by decide) hN hF H locs ls hP hD hS (lv_sub hl [1, 2, 3, 0] rfl)
  ·
    intro u1 u2 u3 τ hw
    refine (hP2 _ _ _ _).mpr ?_
    intro r_u1 r_u2 r_u3 hN hF H locs ls hP hD hS hl
    have hB := hN
    refine lv_iload_n hx hb dX13_putName_2 rfl (lv_at hl 3 rfl) ?_
    refine lv_iload_n hx hb dX13_putName_3 rfl (lv_at hl 2 rfl) ?_
    refine bi_icmp_ge (tgt := 25) hx hb r_u3 r_u2 dX13_putName_4 (by decide) (fun c1 => ?_) (fun c1 => ?_)
    ·
      replace hw := hw.1 c1
      exact xrv hx hb hr hlk hP hK hD hS ⟨_, hN, hF, rfl, hw⟩ (Nat.le_of_ble_eq_true rfl) (Nat.le_of_ble_eq_true rfl) dX13_putName_25
    ·
      replace hw := hw.2 c1
      refine lv_aload_n hx hb dX13_putName_7 rfl (lv_at hl 0 rfl) ?_
      refine lv_aload_n hx hb dX13_putName_8 rfl (lv_at hl 0 rfl) ?_
      refine gfX13_chars hx hb hts hK hP hown (hts _ tw_2009) dX13_putName_9 ?_
      refine lv_iload_n hx hb dX13_putName_12 rfl (lv_at hl 1 rfl) ?_
      refine lv_iload_n hx hb dX13_putName_13 rfl (lv_at hl 3 rfl) ?_
      refine bi_iadd hx hb dX13_putName_14 ?_
      obtain ⟨c2, hw⟩ := hw
      refine ldMX13_chars hx hb hK hP hN c2 dX13_putName_15 (fun x3 r_x3 e_x3 => ?_)
      replace hw := hw x3 r_x3 e_x3
      obtain ⟨Q4, hc, hw⟩ := hw
      refine wc_V (X := MX g q lb) (va_runV (As := [.int (I x3)]) (rest := []) ⟨hx, hb, hml, hown, hts⟩ (L_X13_put l g q lb hlb r_x3 hN hc H.size) (cwV 1 hts (TB_V tw_3067 tw_3069 ts_208 tw_15 co_X13_put) rfl rfl rfl (by decide +kernel) ⟨Nat.le_of_ble_eq_true rfl, Nat.le_of_ble_eq_true rfl⟩) (preV (q0 := 0) (ci := 13) rfl xT_bl hP hK hNb hD rfl rfl xT_at) rfl rfl hl.1 rfl (lv_room (Nat.le_of_ble_eq_true rfl)) dX13_putName_16 ⟨Nat.le_of_ble_eq_true rfl, Nat.le_of_ble_eq_true rfl⟩) hP hD hS hA (fun τ6 H locs hN hf hq hP hD hS => ?_)
      replace hw := hw τ6 hN hf hq
      have hF : f_r [39] [59] [] σ τ6 := f_t hF hf (by decide) (by decide) (by decide)
      have hB := hN
      refine lv_iinc (v := I (u3 + 1)) (lv' := [(3, .int (I (u3 + 1))), (0, .ref (q 0)), (1, .int (I u1)), (2, .int (I u2))]) hx hb dX13_putName_19 hl (k := 3) rfl (I_add _ _) (by decide) rfl (fun ls hl => ?_)
      refine lv_goto (tgt := 2) hx hb dX13_putName_22 (by decide) ?_
      obtain ⟨c7, hw⟩ := hw
      exact (hP2 _ _ _ _).mp hw r_u1 r_u2 c7 hN hF H locs ls hP hD hS (lv_sub hl [1, 2, 3, 0] rfl)
def W_X13_putSymbol (n1 : Int) (σ : S0) (Q : S0 → Prop) : Prop :=
  ∃ (Q1 : S0 → Prop), W_X13_putBlank σ Q1 ∧ ∀ (τ3 : S0), n_m τ3 → f_r [39] [59] [] σ τ3 → Q1 τ3 → ((0 ≤ n1 ∧ n1 < 1001) ∧ (∀ (x5 : Int), rg x5 → x5 = τ3.2.1 2 n1 → (∀ (x6 : Int), rg x6 → x6 = τ3.2.1 3 n1 → (∃ (Q7 : S0 → Prop), W_X13_putName x5 x6 τ3 Q7 ∧ ∀ (τ9 : S0), n_m τ9 → f_r [39] [59] [] τ3 τ9 → Q7 τ9 → (Q τ9)))))
set_option maxRecDepth 100000 in
set_option maxHeartbeats 4000000 in
theorem L_X13_putSymbol (l : Launch) (g : gG) (q : Nat → Nat) (lb : Nat) (hlb : lb < 2 ^ 31) {n1 : Int} {σ : S0} {Q : S0 → Prop} (r_n1 : rg n1) (hN : n_m σ) (hw : W_X13_putSymbol n1 σ Q) (sz : Nat) : MetV l yX13_putSymbol cX13_putSymbol 2 { frames := 2, cells := 0, slots := 0, locals := 44 } g [.ref (q 0), .int (I n1)] (MX g q lb σ) sz xT (p_V (MX g q lb) [39] [59] [] σ Q) 0 0 := by
  refine mkMet (Qc := fun A => QV g A (p_V (MX g q lb) [39] [59] [] σ Q)) (by decide) (Nat.le_of_ble_eq_true rfl) ?_
  intro p e s m below meth c A H ls hx hb hr hml hown hts hlk hnm hsz hP hK hNb hD hA hAe hS hX hl
  have hl : lv_has ls 2 [(0, .ref (q 0)), (1, .int (I n1))] := hl
  have hB := hN
  have hF : f_r [39] [59] [] σ σ := f_0
  obtain ⟨locs, hlocs⟩ : ∃ z : List Loc, z = [] := ⟨_, rfl⟩
  rw [← hlocs] at hS ⊢
  refine lv_aload_n hx hb dX13_putSymbol_0 rfl (lv_at hl 0 rfl) ?_
  obtain ⟨Q1, hc, hw⟩ := hw
  refine wc_V (X := MX g q lb) (va_runV (As := []) (rest := []) ⟨hx, hb, hml, hown, hts⟩ (L_X13_putBlank l g q lb hlb  hN hc H.size) (cwV 0 hts (TB_V tw_3063 tw_3065 ts_207 tw_15 co_X13_putBlank) rfl rfl rfl (by decide +kernel) ⟨Nat.le_of_ble_eq_true rfl, Nat.le_of_ble_eq_true rfl⟩) (preV (q0 := 0) (ci := 13) rfl xT_bl hP hK hNb hD rfl rfl xT_at) rfl rfl hl.1 rfl (lv_room (Nat.le_of_ble_eq_true rfl)) dX13_putSymbol_1 ⟨Nat.le_of_ble_eq_true rfl, Nat.le_of_ble_eq_true rfl⟩) hP hD hS hA (fun τ3 H locs hN hf hq hP hD hS => ?_)
  replace hw := hw τ3 hN hf hq
  have hF : f_r [39] [59] [] σ τ3 := f_t hF hf (by decide) (by decide) (by decide)
  have hB := hN
  refine lv_aload_n hx hb dX13_putSymbol_4 rfl (lv_at hl 0 rfl) ?_
  refine lv_aload_n hx hb dX13_putSymbol_5 rfl (lv_at hl 0 rfl) ?_
  refine gfX13_symbolAt hx hb hts hK hP hown (hts _ tw_2011) dX13_putSymbol_6 ?_
  refine lv_iload_n hx hb dX13_putSymbol_9 rfl (lv_at hl 1 rfl) ?_
  obtain ⟨c4, hw⟩ := hw
  refine ldMX13_symbolAt hx hb hK hP hN c4 dX13_putSymbol_10 (fun x5 r_x5 e_x5 => ?_)
  replace hw := hw x5 r_x5 e_x5
  refine lv_aload_n hx hb dX13_putSymbol_11 rfl (lv_at hl 0 rfl) ?_
  refine gfX13_symbolSize hx hb hts hK hP hown (hts _ tw_2012) dX13_putSymbol_12 ?_
  refine lv_iload_n hx hb dX13_putSymbol_15 rfl (lv_at hl 1 rfl) ?_
  refine ldMX13_symbolSize hx hb hK hP hN c4 dX13_putSymbol_16 (fun x6 r_x6 e_x6 => ?_)
  replace hw := hw x6 r_x6 e_x6
  obtain ⟨Q7, hc, hw⟩ := hw
  refine wc_V (X := MX g q lb) (va_runV (As := [.int (I x5), .int (I x6)]) (rest := []) ⟨hx, hb, hml, hown, hts⟩ (L_X13_putName l g q lb hlb r_x5 r_x6 hN hc H.size) (cwV 2 hts (TB_V tw_3071 tw_3073 ts_209 tw_15 co_X13_putName) rfl rfl rfl (by decide +kernel) ⟨Nat.le_of_ble_eq_true rfl, Nat.le_of_ble_eq_true rfl⟩) (preV (q0 := 0) (ci := 13) rfl xT_bl hP hK hNb hD rfl rfl xT_at) rfl rfl hl.1 rfl (lv_room (Nat.le_of_ble_eq_true rfl)) dX13_putSymbol_17 ⟨Nat.le_of_ble_eq_true rfl, Nat.le_of_ble_eq_true rfl⟩) hP hD hS hA (fun τ9 H locs hN hf hq hP hD hS => ?_)
  replace hw := hw τ9 hN hf hq
  have hF : f_r [39] [59] [] σ τ9 := f_t hF hf (by decide) (by decide) (by decide)
  have hB := hN
  exact xrv hx hb hr hlk hP hK hD hS ⟨_, hN, hF, rfl, hw⟩ (Nat.le_of_ble_eq_true rfl) (Nat.le_of_ble_eq_true rfl) dX13_putSymbol_20
def W_X13_putLabel (n1 : Int) (σ : S0) (Q : S0 → Prop) : Prop :=
  ∃ (Q1 : S0 → Prop), W_X13_putBlank σ Q1 ∧ ∀ (τ3 : S0), n_m τ3 → f_r [39] [59] [] σ τ3 → Q1 τ3 → ((0 ≤ n1 ∧ n1 < 1501) ∧ (∀ (x5 : Int), rg x5 → x5 = τ3.2.1 4 n1 → (∀ (x6 : Int), rg x6 → x6 = τ3.2.1 5 n1 → (∃ (Q7 : S0 → Prop), W_X13_putName x5 x6 τ3 Q7 ∧ ∀ (τ9 : S0), n_m τ9 → f_r [39] [59] [] τ3 τ9 → Q7 τ9 → (Q τ9)))))
set_option maxRecDepth 100000 in
set_option maxHeartbeats 4000000 in
theorem L_X13_putLabel (l : Launch) (g : gG) (q : Nat → Nat) (lb : Nat) (hlb : lb < 2 ^ 31) {n1 : Int} {σ : S0} {Q : S0 → Prop} (r_n1 : rg n1) (hN : n_m σ) (hw : W_X13_putLabel n1 σ Q) (sz : Nat) : MetV l yX13_putLabel cX13_putLabel 2 { frames := 2, cells := 0, slots := 0, locals := 44 } g [.ref (q 0), .int (I n1)] (MX g q lb σ) sz xT (p_V (MX g q lb) [39] [59] [] σ Q) 0 0 := by
  refine mkMet (Qc := fun A => QV g A (p_V (MX g q lb) [39] [59] [] σ Q)) (by decide) (Nat.le_of_ble_eq_true rfl) ?_
  intro p e s m below meth c A H ls hx hb hr hml hown hts hlk hnm hsz hP hK hNb hD hA hAe hS hX hl
  have hl : lv_has ls 2 [(0, .ref (q 0)), (1, .int (I n1))] := hl
  have hB := hN
  have hF : f_r [39] [59] [] σ σ := f_0
  obtain ⟨locs, hlocs⟩ : ∃ z : List Loc, z = [] := ⟨_, rfl⟩
  rw [← hlocs] at hS ⊢
  refine lv_aload_n hx hb dX13_putLabel_0 rfl (lv_at hl 0 rfl) ?_
  obtain ⟨Q1, hc, hw⟩ := hw
  refine wc_V (X := MX g q lb) (va_runV (As := []) (rest := []) ⟨hx, hb, hml, hown, hts⟩ (L_X13_putBlank l g q lb hlb  hN hc H.size) (cwV 0 hts (TB_V tw_3063 tw_3065 ts_207 tw_15 co_X13_putBlank) rfl rfl rfl (by decide +kernel) ⟨Nat.le_of_ble_eq_true rfl, Nat.le_of_ble_eq_true rfl⟩) (preV (q0 := 0) (ci := 13) rfl xT_bl hP hK hNb hD rfl rfl xT_at) rfl rfl hl.1 rfl (lv_room (Nat.le_of_ble_eq_true rfl)) dX13_putLabel_1 ⟨Nat.le_of_ble_eq_true rfl, Nat.le_of_ble_eq_true rfl⟩) hP hD hS hA (fun τ3 H locs hN hf hq hP hD hS => ?_)
  replace hw := hw τ3 hN hf hq
  have hF : f_r [39] [59] [] σ τ3 := f_t hF hf (by decide) (by decide) (by decide)
  have hB := hN
  refine lv_aload_n hx hb dX13_putLabel_4 rfl (lv_at hl 0 rfl) ?_
  refine lv_aload_n hx hb dX13_putLabel_5 rfl (lv_at hl 0 rfl) ?_
  refine gfX13_labelAt hx hb hts hK hP hown (hts _ tw_2014) dX13_putLabel_6 ?_
  refine lv_iload_n hx hb dX13_putLabel_9 rfl (lv_at hl 1 rfl) ?_
  obtain ⟨c4, hw⟩ := hw
  refine ldMX13_labelAt hx hb hK hP hN c4 dX13_putLabel_10 (fun x5 r_x5 e_x5 => ?_)
  replace hw := hw x5 r_x5 e_x5
  refine lv_aload_n hx hb dX13_putLabel_11 rfl (lv_at hl 0 rfl) ?_
  refine gfX13_labelSize hx hb hts hK hP hown (hts _ tw_2015) dX13_putLabel_12 ?_
  refine lv_iload_n hx hb dX13_putLabel_15 rfl (lv_at hl 1 rfl) ?_
  refine ldMX13_labelSize hx hb hK hP hN c4 dX13_putLabel_16 (fun x6 r_x6 e_x6 => ?_)
  replace hw := hw x6 r_x6 e_x6
  obtain ⟨Q7, hc, hw⟩ := hw
  refine wc_V (X := MX g q lb) (va_runV (As := [.int (I x5), .int (I x6)]) (rest := []) ⟨hx, hb, hml, hown, hts⟩ (L_X13_putName l g q lb hlb r_x5 r_x6 hN hc H.size) (cwV 2 hts (TB_V tw_3071 tw_3073 ts_209 tw_15 co_X13_putName) rfl rfl rfl (by decide +kernel) ⟨Nat.le_of_ble_eq_true rfl, Nat.le_of_ble_eq_true rfl⟩) (preV (q0 := 0) (ci := 13) rfl xT_bl hP hK hNb hD rfl rfl xT_at) rfl rfl hl.1 rfl (lv_room (Nat.le_of_ble_eq_true rfl)) dX13_putLabel_17 ⟨Nat.le_of_ble_eq_true rfl, Nat.le_of_ble_eq_true rfl⟩) hP hD hS hA (fun τ9 H locs hN hf hq hP hD hS => ?_)
  replace hw := hw τ9 hN hf hq
  have hF : f_r [39] [59] [] σ τ9 := f_t hF hf (by decide) (by decide) (by decide)
  have hB := hN
  exact xrv hx hb hr hlk hP hK hD hS ⟨_, hN, hF, rfl, hw⟩ (Nat.le_of_ble_eq_true rfl) (Nat.le_of_ble_eq_true rfl) dX13_putLabel_20
def W_X13_keepDraft (σ : S0) (Q : Int → S0 → Prop) : Prop :=
  ∀ (P15 : Int → S0 → Prop),
  (∀ (u1 : Int) (τ : S0), ((τ.1 39 ≤ u1 → Q (τ.1 39) (s_v τ 40 (τ.1 39))) ∧ (u1 < τ.1 39 → (0 ≤ u1 ∧ u1 < 24002) ∧ (∀ (x4 : Int), rg x4 → x4 = τ.2.1 59 u1 → ((0 ≤ u1 ∧ u1 < 24000) ∧ (rg (u1 + 1) ∧ P15 (u1 + 1) (s_a τ 60 u1 x4)))))) → P15 u1 τ) →
  (σ.1 39 ≤ 24000 → P15 0 σ) ∧ (24000 < σ.1 39 → Q (-2) σ)
set_option maxRecDepth 100000 in
set_option maxHeartbeats 4000000 in
theorem L_X13_keepDraft (l : Launch) (g : gG) (q : Nat → Nat) (lb : Nat) (hlb : lb < 2 ^ 31) {σ : S0} {Q : Int → S0 → Prop} (hN : n_m σ) (hw : W_X13_keepDraft σ Q) (sz : Nat) : MetI l yX13_keepDraft cX13_keepDraft 2 (some .int) { frames := 0, cells := 0, slots := 0, locals := 0 } g [.ref (q 0)] (MX g q lb σ) sz xT (p_I (MX g q lb) [40] [60] [] σ Q) 0 0 := by
  refine mkMet (Qc := fun A => QI g A (p_I (MX g q lb) [40] [60] [] σ Q)) (by decide) (Nat.le_of_ble_eq_true rfl) ?_
  intro p e s m below meth c A H ls hx hb hr hml hown hts hlk hnm hsz hP hK hNb hD hA hAe hS hX hl
  have hl : lv_has ls 2 [(0, .ref (q 0))] := hl
  have hB := hN
  have hF : f_r [40] [60] [] σ σ := f_0
  obtain ⟨locs, hlocs⟩ : ∃ z : List Loc, z = [] := ⟨_, rfl⟩
  rw [← hlocs] at hS ⊢
  obtain ⟨P15, hP15⟩ : ∃ P : Int → S0 → Prop, ∀ (u1 : Int) (τ : S0), (P u1 τ ↔ (rg u1 → n_m τ → f_r [40] [60] [] σ τ → ∀ (H : Heap) (locs : List Loc) (ls : Array Slot), KP g (MX g q lb τ) H → va_D A (MX g q lb τ) → va_S A s.heap H locs → lv_has ls 2 [(0, .ref (q 0)), (1, .int (I u1))] → W p l e ({ frames := 0, cells := 0, slots := 0, locals := 0 }) s m [.ref (q 0)].toArray below meth c H locs 0 0 (MQ below (QI g A (p_I (MX g q lb) [40] [60] [] σ Q)) [.ref (q 0)].toArray s 0 0 A) (F0 m 15 ls []))) := ⟨_, fun _ _ => Iff.rfl⟩
  refine (fun hw => ?_) (hw P15 ?_)
  ·
    refine lv_aload_n hx hb dX13_keepDraft_0 rfl (lv_at hl 0 rfl) ?_
    refine gfX13_draftSize hx hb hts hK hP hown (hts _ tw_2108) (x := σ.1 39) rfl dX13_keepDraft_1 ?_
    refine lv_sipush (v := I 24000) hx hb dX13_keepDraft_4 (by decide) ?_
    refine bi_icmp_le (tgt := 13) hx hb (hB.1 39) (by decide) dX13_keepDraft_7 (by decide) (fun c1 => ?_) (fun c1 => ?_)
    ·
      replace hw := hw.1 c1
      refine lv_iconst (v := I 0) hx hb dX13_keepDraft_13 rfl ?_
      refine lv_istore_n (lv' := [(1, .int (I 0)), (0, .ref (q 0))]) hx hb dX13_keepDraft_14 rfl hl (by decide) rfl (fun ls hl => ?_)
      exact (hP15 _ _).mp hw (by decide) hN hF H locs ls hP hD hS (lv_sub hl [1, 0] rfl)
    ·
      replace hw := hw.2 c1
      refine lv_bipush (v := I (-2)) hx hb dX13_keepDraft_10 (by decide) ?_
      exact xri hx hb hr hlk hP hK hD hS ⟨_, _, (by decide), rfl, hN, hF, rfl, hw⟩ (Nat.le_of_ble_eq_true rfl) (Nat.le_of_ble_eq_true rfl) dX13_keepDraft_12
  ·
    intro u1 τ hw
    refine (hP15 _ _).mpr ?_
    intro r_u1 hN hF H locs ls hP hD hS hl
    have hB := hN
    refine lv_iload_n hx hb dX13_keepDraft_15 rfl (lv_at hl 1 rfl) ?_
    refine lv_aload_n hx hb dX13_keepDraft_16 rfl (lv_at hl 0 rfl) ?_
    refine gfX13_draftSize hx hb hts hK hP hown (hts _ tw_2108) (x := τ.1 39) rfl dX13_keepDraft_17 ?_
    refine bi_icmp_ge (tgt := 41) hx hb r_u1 (hB.1 39) dX13_keepDraft_20 (by decide) (fun c2 => ?_) (fun c2 => ?_)
    ·
      replace hw := hw.1 c2
      refine lv_aload_n hx hb dX13_keepDraft_41 rfl (lv_at hl 0 rfl) ?_
      refine lv_aload_n hx hb dX13_keepDraft_42 rfl (lv_at hl 0 rfl) ?_
      refine gfX13_draftSize hx hb hts hK hP hown (hts _ tw_2108) (x := τ.1 39) rfl dX13_keepDraft_43 ?_
      refine pfX13_printedSize hx hb hts hK hP hD hS hown (hts _ tw_2110) dX13_keepDraft_46 (fun H locs hP hD hS => ?_)
      have hN : n_m (s_v τ 40 (τ.1 39)) := n_v (i := 40) hN ((hB.1 39) : rg (τ.1 39))
      have hF : f_r [40] [60] [] σ (s_v τ 40 (τ.1 39)) := f_v hF (by decide)
      refine lv_aload_n hx hb dX13_keepDraft_49 rfl (lv_at hl 0 rfl) ?_
      refine gfX13_printedSize hx hb hts hK hP hown (hts _ tw_2110) (x := τ.1 39) rfl dX13_keepDraft_50 ?_
      exact xri hx hb hr hlk hP hK hD hS ⟨_, _, (hB.1 39), rfl, hN, hF, rfl, hw⟩ (Nat.le_of_ble_eq_true rfl) (Nat.le_of_ble_eq_true rfl) dX13_keepDraft_53
    ·
      replace hw := hw.2 c2
      refine lv_aload_n hx hb dX13_keepDraft_23 rfl (lv_at hl 0 rfl) ?_
      refine gfX13_printed hx hb hts hK hP hown (hts _ tw_2109) dX13_keepDraft_24 ?_
      refine lv_iload_n hx hb dX13_keepDraft_27 rfl (lv_at hl 1 rfl) ?_
      refine lv_aload_n hx hb dX13_keepDraft_28 rfl (lv_at hl 0 rfl) ?_
      refine gfX13_draft hx hb hts hK hP hown (hts _ tw_2107) dX13_keepDraft_29 ?_
      refine lv_iload_n hx hb dX13_keepDraft_32 rfl (lv_at hl 1 rfl) ?_
      obtain ⟨c3, hw⟩ := hw
      refine ldMX13_draft hx hb hK hP hN c3 dX13_keepDraft_33 (fun x4 r_x4 e_x4 => ?_)
      replace hw := hw x4 r_x4 e_x4
      obtain ⟨c5, hw⟩ := hw
      refine sdMX13_printed hx hb hK hP hD hS c5 dX13_keepDraft_34 (fun H locs hP hD hS => ?_)
      have hN : n_m (s_a τ 60 u1 x4) := n_a (k := 60) (j := u1) hN (r_x4 : rg x4)
      have hF : f_r [40] [60] [] σ (s_a τ 60 u1 x4) := f_a hF (by decide)
      refine lv_iinc (v := I (u1 + 1)) (lv' := [(1, .int (I (u1 + 1))), (0, .ref (q 0))]) hx hb dX13_keepDraft_35 hl (k := 1) rfl (I_add _ _) (by decide) rfl (fun ls hl => ?_)
      refine lv_goto (tgt := 15) hx hb dX13_keepDraft_38 (by decide) ?_
      obtain ⟨c6, hw⟩ := hw
      exact (hP15 _ _).mp hw c6 hN hF H locs ls hP hD hS (lv_sub hl [1, 0] rfl)
def W_X13_character (n1 : Int) (σ : S0) (Q : Int → Prop) : Prop :=
  rg (σ.1 40 - 1) ∧ ∃ (Q2 : Int → Prop), W_X13_isIn (j_of n1) 0 (j_of (σ.1 40 - 1)) σ Q2 ∧ ∀ (x3 : Int), rg x3 → Q2 x3 → ((x3 = 0 → Q (-1)) ∧ (¬ x3 = 0 → (0 ≤ n1 ∧ n1 < 24000) ∧ (∀ (x7 : Int), rg x7 → x7 = σ.2.1 60 n1 → (Q x7))))
set_option maxRecDepth 100000 in
set_option maxHeartbeats 4000000 in
theorem L_X13_character (l : Launch) (g : gG) (q : Nat → Nat) (lb : Nat) (hlb : lb < 2 ^ 31) {n1 : Int} {σ : S0} {Q : Int → Prop} (r_n1 : rg n1) (hN : n_m σ) (hw : W_X13_character n1 σ Q) (sz : Nat) : MetI l yX13_character cX13_character 2 (some .int) { frames := 1, cells := 0, slots := 0, locals := 25 } g [.ref (q 0), .int (I n1)] (MX g q lb σ) sz xT (p_i (MX g q lb) σ Q) 0 0 := by
  refine mkMet (Qc := fun A => QI g A (p_i (MX g q lb) σ Q)) (by decide) (Nat.le_of_ble_eq_true rfl) ?_
  intro p e s m below meth c A H ls hx hb hr hml hown hts hlk hnm hsz hP hK hNb hD hA hAe hS hX hl
  have hl : lv_has ls 2 [(0, .ref (q 0)), (1, .int (I n1))] := hl
  have hB := hN
  obtain ⟨locs, hlocs⟩ : ∃ z : List Loc, z = [] := ⟨_, rfl⟩
  rw [← hlocs] at hS ⊢
  refine lv_iload_n hx hb dX13_character_0 rfl (lv_at hl 1 rfl) ?_
  refine bi_i2l hx hb r_n1 dX13_character_1 ?_
  refine lv_lconst (v := 0) hx hb dX13_character_2 (by decide) ?_
  refine lv_aload_n hx hb dX13_character_3 rfl (lv_at hl 0 rfl) ?_
  refine gfX13_printedSize hx hb hts hK hP hown (hts _ tw_2110) (x := σ.1 40) rfl dX13_character_4 ?_
  refine lv_iconst (v := I 1) hx hb dX13_character_7 rfl ?_
  refine bi_isub hx hb dX13_character_8 ?_
  obtain ⟨c1, hw⟩ := hw
  refine bi_i2l hx hb c1 dX13_character_9 ?_
  obtain ⟨Q2, hc, hw⟩ := hw
  refine wc_i (X := MX g q lb) (va_runS (As := [.long (j_of n1), .long 0, .long (j_of (σ.1 40 - 1))]) (rest := []) ⟨hx, hb, hml, hown, hts⟩ (L_X13_isIn l g q lb hlb  hN hc H.size) (cwS 3 hts (TB_S tw_2525 tw_2526 tw_15 co_X13_isIn) rfl rfl rfl (by decide +kernel) ⟨Nat.le_of_ble_eq_true rfl, Nat.le_of_ble_eq_true rfl⟩) (preS xT_bl hP hK hNb hD xT_at) rfl rfl hl.1 rfl (lv_room (Nat.le_of_ble_eq_true rfl)) dX13_character_10 ⟨Nat.le_of_ble_eq_true rfl, Nat.le_of_ble_eq_true rfl⟩) hP hD hS hA (fun x3 H locs r_x3 hq hP hD hS => ?_)
  replace hw := hw x3 r_x3 hq
  refine bi_if_eq (tgt := 25) hx hb r_x3 dX13_character_13 (by decide) (fun c5 => ?_) (fun c5 => ?_)
  ·
    replace hw := hw.1 c5
    refine lv_iconst (v := I (-1)) hx hb dX13_character_25 rfl ?_
    exact xri hx hb hr hlk hP hK hD hS ⟨_, (by decide), rfl, rfl, hw⟩ (Nat.le_of_ble_eq_true rfl) (Nat.le_of_ble_eq_true rfl) dX13_character_26
  ·
    replace hw := hw.2 c5
    refine lv_aload_n hx hb dX13_character_16 rfl (lv_at hl 0 rfl) ?_
    refine gfX13_printed hx hb hts hK hP hown (hts _ tw_2109) dX13_character_17 ?_
    refine lv_iload_n hx hb dX13_character_20 rfl (lv_at hl 1 rfl) ?_
    obtain ⟨c6, hw⟩ := hw
    refine ldMX13_printed hx hb hK hP hN c6 dX13_character_21 (fun x7 r_x7 e_x7 => ?_)
    replace hw := hw x7 r_x7 e_x7
    refine lv_goto (tgt := 26) hx hb dX13_character_22 (by decide) ?_
    exact xri hx hb hr hlk hP hK hD hS ⟨_, r_x7, rfl, rfl, hw⟩ (Nat.le_of_ble_eq_true rfl) (Nat.le_of_ble_eq_true rfl) dX13_character_26
def W_X13_printTexts (n1 : Int) (σ : S0) (Q : Int → S0 → Prop) : Prop :=
  ∀ (P7 : Int → Int → S0 → Prop),
  (∀ (u1 : Int) (u2 : Int) (τ : S0), ((0 ≤ u1 ∧ u1 < 1501) ∧ (∀ (x4 : Int), rg x4 → x4 = τ.2.1 14 u1 → (∀ (x5 : Int), rg x5 → x5 = τ.2.1 15 u1 → (rg (x4 + x5) ∧ ((x4 + x5) ≤ u2 → ∃ (Q8 : Int → S0 → Prop), W_X13_keepDraft τ Q8 ∧ ∀ (x9 : Int) (τ10 : S0), rg x9 → n_m τ10 → f_r [40] [60] [] τ τ10 → Q8 x9 τ10 → (Q x9 τ10)) ∧ (u2 < (x4 + x5) → (0 ≤ u2 ∧ u2 < 30400) ∧ (∀ (x12 : Int), rg x12 → x12 = τ.2.1 16 u2 → (∃ (Q13 : S0 → Prop), W_X13_putSymbol x12 τ Q13 ∧ ∀ (τ15 : S0), n_m τ15 → f_r [39] [59] [] τ τ15 → Q13 τ15 → (rg (u2 + 1) ∧ P7 u1 (u2 + 1) τ15)))))))) → P7 u1 u2 τ) →
  (0 ≤ n1 ∧ n1 < 1501) ∧ (∀ (x2 : Int), rg x2 → x2 = σ.2.1 14 n1 → (P7 n1 x2 σ))
set_option maxRecDepth 100000 in
set_option maxHeartbeats 4000000 in
theorem L_X13_printTexts (l : Launch) (g : gG) (q : Nat → Nat) (lb : Nat) (hlb : lb < 2 ^ 31) {n1 : Int} {σ : S0} {Q : Int → S0 → Prop} (r_n1 : rg n1) (hN : n_m σ) (hw : W_X13_printTexts n1 σ Q) (sz : Nat) : MetI l yX13_printTexts cX13_printTexts 3 (some .int) { frames := 3, cells := 0, slots := 0, locals := 65 } g [.ref (q 0), .int (I n1)] (MX g q lb σ) sz xT (p_I (MX g q lb) [39, 40] [59, 60] [] σ Q) 0 0 := by
  refine mkMet (Qc := fun A => QI g A (p_I (MX g q lb) [39, 40] [59, 60] [] σ Q)) (by decide) (Nat.le_of_ble_eq_true rfl) ?_
  intro p e s m below meth c A H ls hx hb hr hml hown hts hlk hnm hsz hP hK hNb hD hA hAe hS hX hl
  have hl : lv_has ls 3 [(0, .ref (q 0)), (1, .int (I n1))] := hl
  have hB := hN
  have hF : f_r [39, 40] [59, 60] [] σ σ := f_0
  obtain ⟨locs, hlocs⟩ : ∃ z : List Loc, z = [] := ⟨_, rfl⟩
  rw [← hlocs] at hS ⊢
  obtain ⟨P7, hP7⟩ : ∃ P : Int → Int → S0 → Prop, ∀ (u1 : Int) (u2 : Int) (τ : S0), (P u1 u2 τ ↔ (rg u1 → rg u2 → n_m τ → f_r [39, 40] [59, 60] [] σ τ → ∀ (H : Heap) (locs : List Loc) (ls : Array Slot), KP g (MX g q lb τ) H → va_D A (MX g q lb τ) → va_S A s.heap H locs → lv_has ls 3 [(0, .ref (q 0)), (1, .int (I u1)), (2, .int (I u2))] → W p l e ({ frames := 3, cells := 0, slots := 0, locals := 65 }) s m [.ref (q 0), .int (I n1)].toArray below meth c H locs 0 0 (MQ below (QI g A (p_I (MX g q lb) [39, 40] [59, 60] [] σ Q)) [.ref (q 0), .int (I n1)].toArray s 0 0 A) (F0 m 7 ls []))) := ⟨_, fun _ _ _ => Iff.rfl⟩
  refine (fun hw => ?_) (hw P7 ?_)
  ·
    refine lv_aload_n hx hb dX13_printTexts_0 rfl (lv_at hl 0 rfl) ?_
    refine gfX13_textAt hx hb hts hK hP hown (hts _ tw_2026) dX13_printTexts_1 ?_
    refine lv_iload_n hx hb dX13_printTexts_4 rfl (lv_at hl 1 rfl) ?_
    obtain ⟨c1, hw⟩ := hw
    refine ldMX13_textAt hx hb hK hP hN c1 dX13_printTexts_5 (fun x2 r_x2 e_x2 => ?_)
    replace hw := hw x2 r_x2 e_x2
    refine lv_istore_n (lv' := [(2, .int (I x2)), (0, .ref (q 0)), (1, .int (I n1))]) hx hb dX13_printTexts_6 rfl hl (by decide) rfl (fun ls hl => ?_)
    exact (hP7 _ _ _).mp hw r_n1 r_x2 hN hF H locs ls hP hD hS (lv_sub hl [1, 2, 0] rfl)
  ·
    intro u1 u2 τ hw
    refine (hP7 _ _ _).mpr ?_
    intro r_u1 r_u2 hN hF H locs ls hP hD hS hl
    have hB := hN
    refine lv_iload_n hx hb dX13_printTexts_7 rfl (lv_at hl 2 rfl) ?_
    refine lv_aload_n hx hb dX13_printTexts_8 rfl (lv_at hl 0 rfl) ?_
    refine gfX13_textAt hx hb hts hK hP hown (hts _ tw_2026) dX13_printTexts_9 ?_
    refine lv_iload_n hx hb dX13_printTexts_12 rfl (lv_at hl 1 rfl) ?_
    obtain ⟨c3, hw⟩ := hw
    refine ldMX13_textAt hx hb hK hP hN c3 dX13_printTexts_13 (fun x4 r_x4 e_x4 => ?_)
    replace hw := hw x4 r_x4 e_x4
    refine lv_aload_n hx hb dX13_printTexts_14 rfl (lv_at hl 0 rfl) ?_
    refine gfX13_textSize hx hb hts hK hP hown (hts _ tw_2027) dX13_printTexts_15 ?_
    refine lv_iload_n hx hb dX13_printTexts_18 rfl (lv_at hl 1 rfl) ?_
    refine ldMX13_textSize hx hb hK hP hN c3 dX13_printTexts_19 (fun x5 r_x5 e_x5 => ?_)
    replace hw := hw x5 r_x5 e_x5
    refine bi_iadd hx hb dX13_printTexts_20 ?_
    obtain ⟨c6, hw⟩ := hw
    refine bi_icmp_ge (tgt := 40) hx hb r_u2 c6 dX13_printTexts_21 (by decide) (fun c7 => ?_) (fun c7 => ?_)
    ·
      replace hw := hw.1 c7
      refine lv_aload_n hx hb dX13_printTexts_40 rfl (lv_at hl 0 rfl) ?_
      obtain ⟨Q8, hc, hw⟩ := hw
      refine wc_I (X := MX g q lb) (va_runV (As := []) (rest := []) ⟨hx, hb, hml, hown, hts⟩ (L_X13_keepDraft l g q lb hlb  hN hc H.size) (cwV 0 hts (TB_V tw_3075 tw_3077 ts_210 tw_15 co_X13_keepDraft) rfl rfl rfl (by decide +kernel) ⟨Nat.le_of_ble_eq_true rfl, Nat.le_of_ble_eq_true rfl⟩) (preV (q0 := 0) (ci := 13) rfl xT_bl hP hK hNb hD rfl rfl xT_at) rfl rfl hl.1 rfl (lv_room (Nat.le_of_ble_eq_true rfl)) dX13_printTexts_41 ⟨Nat.le_of_ble_eq_true rfl, Nat.le_of_ble_eq_true rfl⟩) hP hD hS hA (fun x9 τ10 H locs r_x9 hN hf hq hP hD hS => ?_)
      replace hw := hw x9 τ10 r_x9 hN hf hq
      have hF : f_r [39, 40] [59, 60] [] σ τ10 := f_t hF hf (by decide) (by decide) (by decide)
      have hB := hN
      exact xri hx hb hr hlk hP hK hD hS ⟨_, _, r_x9, rfl, hN, hF, rfl, hw⟩ (Nat.le_of_ble_eq_true rfl) (Nat.le_of_ble_eq_true rfl) dX13_printTexts_44
    ·
      replace hw := hw.2 c7
      refine lv_aload_n hx hb dX13_printTexts_24 rfl (lv_at hl 0 rfl) ?_
      refine lv_aload_n hx hb dX13_printTexts_25 rfl (lv_at hl 0 rfl) ?_
      refine gfX13_texts hx hb hts hK hP hown (hts _ tw_2028) dX13_printTexts_26 ?_
      refine lv_iload_n hx hb dX13_printTexts_29 rfl (lv_at hl 2 rfl) ?_
      obtain ⟨c11, hw⟩ := hw
      refine ldMX13_texts hx hb hK hP hN c11 dX13_printTexts_30 (fun x12 r_x12 e_x12 => ?_)
      replace hw := hw x12 r_x12 e_x12
      obtain ⟨Q13, hc, hw⟩ := hw
      refine wc_V (X := MX g q lb) (va_runV (As := [.int (I x12)]) (rest := []) ⟨hx, hb, hml, hown, hts⟩ (L_X13_putSymbol l g q lb hlb r_x12 hN hc H.size) (cwV 1 hts (TB_V tw_3079 tw_3081 ts_211 tw_15 co_X13_putSymbol) rfl rfl rfl (by decide +kernel) ⟨Nat.le_of_ble_eq_true rfl, Nat.le_of_ble_eq_true rfl⟩) (preV (q0 := 0) (ci := 13) rfl xT_bl hP hK hNb hD rfl rfl xT_at) rfl rfl hl.1 rfl (lv_room (Nat.le_of_ble_eq_true rfl)) dX13_printTexts_31 ⟨Nat.le_of_ble_eq_true rfl, Nat.le_of_ble_eq_true rfl⟩) hP hD hS hA (fun τ15 H locs hN hf hq hP hD hS => ?_)
      replace hw := hw τ15 hN hf hq
      have hF : f_r [39, 40] [59, 60] [] σ τ15 := f_t hF hf (by decide) (by decide) (by decide)
      have hB := hN
      refine lv_iinc (v := I (u2 + 1)) (lv' := [(2, .int (I (u2 + 1))), (0, .ref (q 0)), (1, .int (I u1))]) hx hb dX13_printTexts_34 hl (k := 2) rfl (I_add _ _) (by decide) rfl (fun ls hl => ?_)
      refine lv_goto (tgt := 7) hx hb dX13_printTexts_37 (by decide) ?_
      obtain ⟨c16, hw⟩ := hw
      exact (hP7 _ _ _).mp hw r_u1 c16 hN hF H locs ls hP hD hS (lv_sub hl [1, 2, 0] rfl)
def W_X13_printRow (n1 : Int) (n2 : Int) (σ : S0) (Q : Int → S0 → Prop) : Prop :=
  ∀ (P14 : Int → Int → Int → S0 → Prop) (P35 : Int → Int → Int → Int → S0 → Prop) (P53 : Int → Int → Int → Int → S0 → Prop),
  (∀ (u2 : Int) (u3 : Int) (u4 : Int) (τ : S0), ((u2 ≤ u3 → ∃ (Q7 : Int → S0 → Prop), W_X13_keepDraft τ Q7 ∧ ∀ (x8 : Int) (τ9 : S0), rg x8 → n_m τ9 → f_r [40] [60] [] τ τ9 → Q7 x8 τ9 → (Q x8 τ9)) ∧ (u3 < u2 → (0 ≤ u4 ∧ u4 < 20001) ∧ (∀ (x11 : Int), rg x11 → x11 = τ.2.1 27 u4 → ((x11 < 0 → P35 u2 u4 u3 0 τ) ∧ (0 ≤ x11 → P35 u2 u4 u3 1 τ))))) → P14 u2 u3 u4 τ) →
  (∀ (u2 : Int) (u4 : Int) (k0 : Int) (k1 : Int) (τ : S0), (∃ (Q13 : S0 → Prop), W_X13_doStep u4 0 0 τ Q13 ∧ ∀ (τ15 : S0), n_m τ15 → f_r [30, 31, 32, 33, 34, 35] [40, 41, 42, 43, 44, 45, 46, 47, 48, 49, 50] [] τ τ15 → Q13 τ15 → (rg (k0 + k1) ∧ (¬ (k0 + k1) = u2 → rg (u4 + 1) ∧ P14 u2 (k0 + k1) (u4 + 1) τ15) ∧ ((k0 + k1) = u2 → P53 u2 (k0 + k1) u4 0 τ15))) → P35 u2 u4 k0 k1 τ) →
  (∀ (u2 : Int) (u3 : Int) (u4 : Int) (u5 : Int) (τ : S0), ((0 ≤ (τ.1 30 - 1) ∧ (τ.1 30 - 1) < 202) ∧ (∀ (x20 : Int), rg x20 → x20 = τ.2.1 41 (τ.1 30 - 1) → ((x20 ≤ u5 → rg (u4 + 1) ∧ P14 u2 u3 (u4 + 1) τ) ∧ (u5 < x20 → ∀ (x23 : Int), rg x23 → x23 = τ.2.1 40 (τ.1 30 - 1) → ((0 ≤ (x23 + u5) ∧ (x23 + u5) < 42000) ∧ (∀ (x25 : Int), rg x25 → x25 = τ.2.1 43 (x23 + u5) → (∃ (Q26 : S0 → Prop), W_X13_putSymbol x25 τ Q26 ∧ ∀ (τ28 : S0), n_m τ28 → f_r [39] [59] [] τ τ28 → Q26 τ28 → (rg (u5 + 1) ∧ P53 u2 u3 u4 (u5 + 1) τ28)))))))) → P53 u2 u3 u4 u5 τ) →
  ∃ (Q1 : S0 → Prop), W_X13_beginSteps σ Q1 ∧ ∀ (τ3 : S0), n_m τ3 → f_r [30, 31, 32, 33, 35] [] [] σ τ3 → Q1 τ3 → ((0 ≤ n1 ∧ n1 < 1501) ∧ (∀ (x5 : Int), rg x5 → x5 = τ3.2.1 25 n1 → (P14 n2 (-1) x5 τ3)))
set_option maxRecDepth 100000 in
set_option maxHeartbeats 4000000 in
theorem L_X13_printRow (l : Launch) (g : gG) (q : Nat → Nat) (lb : Nat) (hlb : lb < 2 ^ 31) {n1 : Int} {n2 : Int} {σ : S0} {Q : Int → S0 → Prop} (r_n1 : rg n1) (r_n2 : rg n2) (hN : n_m σ) (hw : W_X13_printRow n1 n2 σ Q) (sz : Nat) : MetI l yX13_printRow cX13_printRow 6 (some .int) { frames := 4, cells := 0, slots := 0, locals := 100 } g [.ref (q 0), .int (I n1), .int (I n2)] (MX g q lb σ) sz xT (p_I (MX g q lb) [30, 31, 32, 33, 34, 35, 39, 40] [40, 41, 42, 43, 44, 45, 46, 47, 48, 49, 50, 59, 60] [] σ Q) 0 0 := by
  refine mkMet (Qc := fun A => QI g A (p_I (MX g q lb) [30, 31, 32, 33, 34, 35, 39, 40] [40, 41, 42, 43, 44, 45, 46, 47, 48, 49, 50, 59, 60] [] σ Q)) (by decide) (Nat.le_of_ble_eq_true rfl) ?_
  intro p e s m below meth c A H ls hx hb hr hml hown hts hlk hnm hsz hP hK hNb hD hA hAe hS hX hl
  have hl : lv_has ls 6 [(0, .ref (q 0)), (1, .int (I n1)), (2, .int (I n2))] := hl
  have hB := hN
  have hF : f_r [30, 31, 32, 33, 34, 35, 39, 40] [40, 41, 42, 43, 44, 45, 46, 47, 48, 49, 50, 59, 60] [] σ σ := f_0
  obtain ⟨locs, hlocs⟩ : ∃ z : List Loc, z = [] := ⟨_, rfl⟩
  rw [← hlocs] at hS ⊢
  obtain ⟨P14, hP14⟩ : ∃ P : Int → Int → Int → S0 → Prop, ∀ (u2 : Int) (u3 : Int) (u4 : Int) (τ : S0), (P u2 u3 u4 τ ↔ (rg u2 → rg u3 → rg u4 → n_m τ → f_r [30, 31, 32, 33, 34, 35, 39, 40] [40, 41, 42, 43, 44, 45, 46, 47, 48, 49, 50, 59, 60] [] σ τ → ∀ (H : Heap) (locs : List Loc) (ls : Array Slot), KP g (MX g q lb τ) H → va_D A (MX g q lb τ) → va_S A s.heap H locs → lv_has ls 6 [(0, .ref (q 0)), (2, .int (I u2)), (3, .int (I u3)), (4, .int (I u4))] → W p l e ({ frames := 4, cells := 0, slots := 0, locals := 100 }) s m [.ref (q 0), .int (I n1), .int (I n2)].toArray below meth c H locs 0 0 (MQ below (QI g A (p_I (MX g q lb) [30, 31, 32, 33, 34, 35, 39, 40] [40, 41, 42, 43, 44, 45, 46, 47, 48, 49, 50, 59, 60] [] σ Q)) [.ref (q 0), .int (I n1), .int (I n2)].toArray s 0 0 A) (F0 m 14 ls []))) := ⟨_, fun _ _ _ _ => Iff.rfl⟩
  obtain ⟨P35, hP35⟩ : ∃ P : Int → Int → Int → Int → S0 → Prop, ∀ (u2 : Int) (u4 : Int) (k0 : Int) (k1 : Int) (τ : S0), (P u2 u4 k0 k1 τ ↔ (rg u2 → rg u4 → rg k0 → rg k1 → n_m τ → f_r [30, 31, 32, 33, 34, 35, 39, 40] [40, 41, 42, 43, 44, 45, 46, 47, 48, 49, 50, 59, 60] [] σ τ → ∀ (H : Heap) (locs : List Loc) (ls : Array Slot), KP g (MX g q lb τ) H → va_D A (MX g q lb τ) → va_S A s.heap H locs → lv_has ls 6 [(0, .ref (q 0)), (2, .int (I u2)), (4, .int (I u4))] → W p l e ({ frames := 4, cells := 0, slots := 0, locals := 100 }) s m [.ref (q 0), .int (I n1), .int (I n2)].toArray below meth c H locs 0 0 (MQ below (QI g A (p_I (MX g q lb) [30, 31, 32, 33, 34, 35, 39, 40] [40, 41, 42, 43, 44, 45, 46, 47, 48, 49, 50, 59, 60] [] σ Q)) [.ref (q 0), .int (I n1), .int (I n2)].toArray s 0 0 A) (F0 m 35 ls [.int (I k1), .int (I k0)]))) := ⟨_, fun _ _ _ _ _ => Iff.rfl⟩
  obtain ⟨P53, hP53⟩ : ∃ P : Int → Int → Int → Int → S0 → Prop, ∀ (u2 : Int) (u3 : Int) (u4 : Int) (u5 : Int) (τ : S0), (P u2 u3 u4 u5 τ ↔ (rg u2 → rg u3 → rg u4 → rg u5 → n_m τ → f_r [30, 31, 32, 33, 34, 35, 39, 40] [40, 41, 42, 43, 44, 45, 46, 47, 48, 49, 50, 59, 60] [] σ τ → ∀ (H : Heap) (locs : List Loc) (ls : Array Slot), KP g (MX g q lb τ) H → va_D A (MX g q lb τ) → va_S A s.heap H locs → lv_has ls 6 [(0, .ref (q 0)), (2, .int (I u2)), (3, .int (I u3)), (4, .int (I u4)), (5, .int (I u5))] → W p l e ({ frames := 4, cells := 0, slots := 0, locals := 100 }) s m [.ref (q 0), .int (I n1), .int (I n2)].toArray below meth c H locs 0 0 (MQ below (QI g A (p_I (MX g q lb) [30, 31, 32, 33, 34, 35, 39, 40] [40, 41, 42, 43, 44, 45, 46, 47, 48, 49, 50, 59, 60] [] σ Q)) [.ref (q 0), .int (I n1), .int (I n2)].toArray s 0 0 A) (F0 m 53 ls []))) := ⟨_, fun _ _ _ _ _ => Iff.rfl⟩
  refine (fun hw => ?_) (hw P14 P35 P53 ?_ ?_ ?_)
  ·
    refine lv_aload_n hx hb dX13_printRow_0 rfl (lv_at hl 0 rfl) ?_
    obtain ⟨Q1, hc, hw⟩ := hw
    refine wc_V (X := MX g q lb) (va_runV (As := []) (rest := []) ⟨hx, hb, hml, hown, hts⟩ (L_X13_beginSteps l g q lb hlb  hN hc H.size) (cwV 0 hts (TB_V tw_2705 tw_2707 ts_140 tw_15 co_X13_beginSteps) rfl rfl rfl (by decide +kernel) ⟨Nat.le_of_ble_eq_true rfl, Nat.le_of_ble_eq_true rfl⟩) (preV (q0 := 0) (ci := 13) rfl xT_bl hP hK hNb hD rfl rfl xT_at) rfl rfl hl.1 rfl (lv_room (Nat.le_of_ble_eq_true rfl)) dX13_printRow_1 ⟨Nat.le_of_ble_eq_true rfl, Nat.le_of_ble_eq_true rfl⟩) hP hD hS hA (fun τ3 H locs hN hf hq hP hD hS => ?_)
    replace hw := hw τ3 hN hf hq
    have hF : f_r [30, 31, 32, 33, 34, 35, 39, 40] [40, 41, 42, 43, 44, 45, 46, 47, 48, 49, 50, 59, 60] [] σ τ3 := f_t hF hf (by decide) (by decide) (by decide)
    have hB := hN
    refine lv_iconst (v := I (-1)) hx hb dX13_printRow_4 rfl ?_
    refine lv_istore_n (lv' := [(3, .int (I (-1))), (0, .ref (q 0)), (1, .int (I n1)), (2, .int (I n2))]) hx hb dX13_printRow_5 rfl hl (by decide) rfl (fun ls hl => ?_)
    refine lv_aload_n hx hb dX13_printRow_6 rfl (lv_at hl 1 rfl) ?_
    refine gfX13_stepAt hx hb hts hK hP hown (hts _ tw_2040) dX13_printRow_7 ?_
    refine lv_iload_n hx hb dX13_printRow_10 rfl (lv_at hl 2 rfl) ?_
    obtain ⟨c4, hw⟩ := hw
    refine ldMX13_stepAt hx hb hK hP hN c4 dX13_printRow_11 (fun x5 r_x5 e_x5 => ?_)
    replace hw := hw x5 r_x5 e_x5
    refine lv_istore (lv' := [(4, .int (I x5)), (3, .int (I (-1))), (0, .ref (q 0)), (1, .int (I n1)), (2, .int (I n2))]) hx hb dX13_printRow_12 hl (by decide) rfl (fun ls hl => ?_)
    exact (hP14 _ _ _ _).mp hw r_n2 (by decide) r_x5 hN hF H locs ls hP hD hS (lv_sub hl [2, 4, 1, 0] rfl)
  ·
    intro u2 u3 u4 τ hw
    refine (hP14 _ _ _ _).mpr ?_
    intro r_u2 r_u3 r_u4 hN hF H locs ls hP hD hS hl
    have hB := hN
    refine lv_iload_n hx hb dX13_printRow_14 rfl (lv_at hl 2 rfl) ?_
    refine lv_iload_n hx hb dX13_printRow_15 rfl (lv_at hl 1 rfl) ?_
    refine bi_icmp_ge (tgt := 104) hx hb r_u3 r_u2 dX13_printRow_16 (by decide) (fun c6 => ?_) (fun c6 => ?_)
    ·
      replace hw := hw.1 c6
      refine lv_aload_n hx hb dX13_printRow_104 rfl (lv_at hl 0 rfl) ?_
      obtain ⟨Q7, hc, hw⟩ := hw
      refine wc_I (X := MX g q lb) (va_runV (As := []) (rest := []) ⟨hx, hb, hml, hown, hts⟩ (L_X13_keepDraft l g q lb hlb  hN hc H.size) (cwV 0 hts (TB_V tw_3075 tw_3077 ts_210 tw_15 co_X13_keepDraft) rfl rfl rfl (by decide +kernel) ⟨Nat.le_of_ble_eq_true rfl, Nat.le_of_ble_eq_true rfl⟩) (preV (q0 := 0) (ci := 13) rfl xT_bl hP hK hNb hD rfl rfl xT_at) rfl rfl hl.1 rfl (lv_room (Nat.le_of_ble_eq_true rfl)) dX13_printRow_105 ⟨Nat.le_of_ble_eq_true rfl, Nat.le_of_ble_eq_true rfl⟩) hP hD hS hA (fun x8 τ9 H locs r_x8 hN hf hq hP hD hS => ?_)
      replace hw := hw x8 τ9 r_x8 hN hf hq
      have hF : f_r [30, 31, 32, 33, 34, 35, 39, 40] [40, 41, 42, 43, 44, 45, 46, 47, 48, 49, 50, 59, 60] [] σ τ9 := f_t hF hf (by decide) (by decide) (by decide)
      have hB := hN
      exact xri hx hb hr hlk hP hK hD hS ⟨_, _, r_x8, rfl, hN, hF, rfl, hw⟩ (Nat.le_of_ble_eq_true rfl) (Nat.le_of_ble_eq_true rfl) dX13_printRow_108
    ·
      replace hw := hw.2 c6
      refine lv_iload_n hx hb dX13_printRow_19 rfl (lv_at hl 2 rfl) ?_
      refine lv_aload_n hx hb dX13_printRow_20 rfl (lv_at hl 0 rfl) ?_
      refine gfX13_steps hx hb hts hK hP hown (hts _ tw_2042) dX13_printRow_21 ?_
      refine lv_iload hx hb dX13_printRow_24 (lv_at hl 3 rfl) ?_
      obtain ⟨c10, hw⟩ := hw
      refine ldMX13_steps hx hb hK hP hN c10 dX13_printRow_26 (fun x11 r_x11 e_x11 => ?_)
      replace hw := hw x11 r_x11 e_x11
      refine bi_if_lt (tgt := 34) hx hb r_x11 dX13_printRow_27 (by decide) (fun c12 => ?_) (fun c12 => ?_)
      ·
        replace hw := hw.1 c12
        refine lv_iconst (v := I 0) hx hb dX13_printRow_34 rfl ?_
        exact (hP35 _ _ _ _ _).mp hw r_u2 r_u4 r_u3 (by decide) hN hF H locs ls hP hD hS (lv_sub hl [0, 1, 3] rfl)
      ·
        replace hw := hw.2 c12
        refine lv_iconst (v := I 1) hx hb dX13_printRow_30 rfl ?_
        refine lv_goto (tgt := 35) hx hb dX13_printRow_31 (by decide) ?_
        exact (hP35 _ _ _ _ _).mp hw r_u2 r_u4 r_u3 (by decide) hN hF H locs ls hP hD hS (lv_sub hl [0, 1, 3] rfl)
  ·
    intro u2 u4 k0 k1 τ hw
    refine (hP35 _ _ _ _ _).mpr ?_
    intro r_u2 r_u4 r_k0 r_k1 hN hF H locs ls hP hD hS hl
    have hB := hN
    refine bi_iadd hx hb dX13_printRow_35 ?_
    refine lv_istore_n (lv' := [(3, .int (I (k0 + k1))), (0, .ref (q 0)), (2, .int (I u2)), (4, .int (I u4))]) hx hb dX13_printRow_36 rfl hl (by decide) rfl (fun ls hl => ?_)
    refine lv_aload_n hx hb dX13_printRow_37 rfl (lv_at hl 1 rfl) ?_
    refine lv_iload hx hb dX13_printRow_38 (lv_at hl 3 rfl) ?_
    refine lv_iconst (v := I 0) hx hb dX13_printRow_40 rfl ?_
    refine lv_iconst (v := I 0) hx hb dX13_printRow_41 rfl ?_
    obtain ⟨Q13, hc, hw⟩ := hw
    refine wc_V (X := MX g q lb) (va_runV (As := [.int (I u4), .int (I 0), .int (I 0)]) (rest := []) ⟨hx, hb, hml, hown, hts⟩ (L_X13_doStep l g q lb hlb r_u4 (by decide) (by decide) hN hc H.size) (cwV 3 hts (TB_V tw_2709 tw_2711 ts_141 tw_15 co_X13_doStep) rfl rfl rfl (by decide +kernel) ⟨Nat.le_of_ble_eq_true rfl, Nat.le_of_ble_eq_true rfl⟩) (preV (q0 := 0) (ci := 13) rfl xT_bl hP hK hNb hD rfl rfl xT_at) rfl rfl hl.1 rfl (lv_room (Nat.le_of_ble_eq_true rfl)) dX13_printRow_42 ⟨Nat.le_of_ble_eq_true rfl, Nat.le_of_ble_eq_true rfl⟩) hP hD hS hA (fun τ15 H locs hN hf hq hP hD hS => ?_)
    replace hw := hw τ15 hN hf hq
    have hF : f_r [30, 31, 32, 33, 34, 35, 39, 40] [40, 41, 42, 43, 44, 45, 46, 47, 48, 49, 50, 59, 60] [] σ τ15 := f_t hF hf (by decide) (by decide) (by decide)
    have hB := hN
    refine lv_iload_n hx hb dX13_printRow_45 rfl (lv_at hl 0 rfl) ?_
    refine lv_iload_n hx hb dX13_printRow_46 rfl (lv_at hl 2 rfl) ?_
    obtain ⟨c16, hw⟩ := hw
    refine bi_icmp_ne (tgt := 98) hx hb c16 r_u2 dX13_printRow_47 (by decide) (fun c17 => ?_) (fun c17 => ?_)
    ·
      replace hw := hw.1 c17
      refine lv_iinc (v := I (u4 + 1)) (lv' := [(4, .int (I (u4 + 1))), (3, .int (I (k0 + k1))), (0, .ref (q 0)), (2, .int (I u2))]) hx hb dX13_printRow_98 hl (k := 3) rfl (I_add _ _) (by decide) rfl (fun ls hl => ?_)
      refine lv_goto (tgt := 14) hx hb dX13_printRow_101 (by decide) ?_
      obtain ⟨c18, hw⟩ := hw
      exact (hP14 _ _ _ _).mp hw r_u2 c16 c18 hN hF H locs ls hP hD hS (lv_sub hl [2, 3, 1, 0] rfl)
    ·
      replace hw := hw.2 c17
      refine lv_iconst (v := I 0) hx hb dX13_printRow_50 rfl ?_
      refine lv_istore (lv' := [(5, .int (I 0)), (3, .int (I (k0 + k1))), (0, .ref (q 0)), (2, .int (I u2)), (4, .int (I u4))]) hx hb dX13_printRow_51 hl (by decide) rfl (fun ls hl => ?_)
      exact (hP53 _ _ _ _ _).mp hw r_u2 c16 r_u4 (by decide) hN hF H locs ls hP hD hS (lv_sub hl [2, 3, 1, 4, 0] rfl)
  ·
    intro u2 u3 u4 u5 τ hw
    refine (hP53 _ _ _ _ _).mpr ?_
    intro r_u2 r_u3 r_u4 r_u5 hN hF H locs ls hP hD hS hl
    have hB := hN
    refine lv_iload hx hb dX13_printRow_53 (lv_at hl 4 rfl) ?_
    refine lv_aload_n hx hb dX13_printRow_55 rfl (lv_at hl 0 rfl) ?_
    refine gfX13_pileSize hx hb hts hK hP hown (hts _ tw_2079) dX13_printRow_56 ?_
    refine lv_aload_n hx hb dX13_printRow_59 rfl (lv_at hl 0 rfl) ?_
    refine gfX13_piled hx hb hts hK hP hown (hts _ tw_2081) (x := τ.1 30) rfl dX13_printRow_60 ?_
    refine lv_iconst (v := I 1) hx hb dX13_printRow_63 rfl ?_
    refine bi_isub hx hb dX13_printRow_64 ?_
    obtain ⟨c19, hw⟩ := hw
    refine ldMX13_pileSize hx hb hK hP hN c19 dX13_printRow_65 (fun x20 r_x20 e_x20 => ?_)
    replace hw := hw x20 r_x20 e_x20
    refine bi_icmp_ge (tgt := 98) hx hb r_u5 r_x20 dX13_printRow_66 (by decide) (fun c21 => ?_) (fun c21 => ?_)
    ·
      replace hw := hw.1 c21
      refine lv_iinc (v := I (u4 + 1)) (lv' := [(4, .int (I (u4 + 1))), (0, .ref (q 0)), (2, .int (I u2)), (3, .int (I u3)), (5, .int (I u5))]) hx hb dX13_printRow_98 hl (k := 3) rfl (I_add _ _) (by decide) rfl (fun ls hl => ?_)
      refine lv_goto (tgt := 14) hx hb dX13_printRow_101 (by decide) ?_
      obtain ⟨c22, hw⟩ := hw
      exact (hP14 _ _ _ _).mp hw r_u2 r_u3 c22 hN hF H locs ls hP hD hS (lv_sub hl [1, 2, 3, 0] rfl)
    ·
      replace hw := hw.2 c21
      refine lv_aload_n hx hb dX13_printRow_69 rfl (lv_at hl 0 rfl) ?_
      refine lv_aload_n hx hb dX13_printRow_70 rfl (lv_at hl 0 rfl) ?_
      refine gfX13_pileSymbols hx hb hts hK hP hown (hts _ tw_2082) dX13_printRow_71 ?_
      refine lv_aload_n hx hb dX13_printRow_74 rfl (lv_at hl 0 rfl) ?_
      refine gfX13_pileAt hx hb hts hK hP hown (hts _ tw_2078) dX13_printRow_75 ?_
      refine lv_aload_n hx hb dX13_printRow_78 rfl (lv_at hl 0 rfl) ?_
      refine gfX13_piled hx hb hts hK hP hown (hts _ tw_2081) (x := τ.1 30) rfl dX13_printRow_79 ?_
      refine lv_iconst (v := I 1) hx hb dX13_printRow_82 rfl ?_
      refine bi_isub hx hb dX13_printRow_83 ?_
      refine ldMX13_pileAt hx hb hK hP hN c19 dX13_printRow_84 (fun x23 r_x23 e_x23 => ?_)
      replace hw := hw x23 r_x23 e_x23
      refine lv_iload hx hb dX13_printRow_85 (lv_at hl 4 rfl) ?_
      refine bi_iadd hx hb dX13_printRow_87 ?_
      obtain ⟨c24, hw⟩ := hw
      refine ldMX13_pileSymbols hx hb hK hP hN c24 dX13_printRow_88 (fun x25 r_x25 e_x25 => ?_)
      replace hw := hw x25 r_x25 e_x25
      obtain ⟨Q26, hc, hw⟩ := hw
      refine wc_V (X := MX g q lb) (va_runV (As := [.int (I x25)]) (rest := []) ⟨hx, hb, hml, hown, hts⟩ (L_X13_putSymbol l g q lb hlb r_x25 hN hc H.size) (cwV 1 hts (TB_V tw_3079 tw_3081 ts_211 tw_15 co_X13_putSymbol) rfl rfl rfl (by decide +kernel) ⟨Nat.le_of_ble_eq_true rfl, Nat.le_of_ble_eq_true rfl⟩) (preV (q0 := 0) (ci := 13) rfl xT_bl hP hK hNb hD rfl rfl xT_at) rfl rfl hl.1 rfl (lv_room (Nat.le_of_ble_eq_true rfl)) dX13_printRow_89 ⟨Nat.le_of_ble_eq_true rfl, Nat.le_of_ble_eq_true rfl⟩) hP hD hS hA (fun τ28 H locs hN hf hq hP hD hS => ?_)
      replace hw := hw τ28 hN hf hq
      have hF : f_r [30, 31, 32, 33, 34, 35, 39, 40] [40, 41, 42, 43, 44, 45, 46, 47, 48, 49, 50, 59, 60] [] σ τ28 := f_t hF hf (by decide) (by decide) (by decide)
      have hB := hN
      refine lv_iinc (v := I (u5 + 1)) (lv' := [(5, .int (I (u5 + 1))), (0, .ref (q 0)), (2, .int (I u2)), (3, .int (I u3)), (4, .int (I u4))]) hx hb dX13_printRow_92 hl (k := 4) rfl (I_add _ _) (by decide) rfl (fun ls hl => ?_)
      refine lv_goto (tgt := 53) hx hb dX13_printRow_95 (by decide) ?_
      obtain ⟨c29, hw⟩ := hw
      exact (hP53 _ _ _ _ _).mp hw r_u2 r_u3 r_u4 c29 hN hF H locs ls hP hD hS (lv_sub hl [1, 2, 3, 4, 0] rfl)
def W_X13_areSame (n1 : Int) (n2 : Int) (σ : S0) (Q : Int → Prop) : Prop :=
  ∀ (P19 : Int → Int → Int → Prop),
  (∀ (u1 : Int) (u2 : Int) (u3 : Int), (∃ (Q6 : Int → Prop), W_X13_rowWidth u1 σ Q6 ∧ ∀ (x7 : Int), rg x7 → Q6 x7 → ((x7 ≤ u3 → Q 1) ∧ (u3 < x7 → (0 ≤ u1 ∧ u1 < 20001) ∧ (∀ (x11 : Int), rg x11 → x11 = σ.2.1 57 u1 → ((0 ≤ (x11 + u3) ∧ (x11 + u3) < 120000) ∧ (∀ (x13 : Int), rg x13 → x13 = σ.2.1 58 (x11 + u3) → ((0 ≤ x13 ∧ x13 < 20001) ∧ (∀ (x15 : Int), rg x15 → x15 = σ.2.1 61 x13 → ((0 ≤ u2 ∧ u2 < 20001) ∧ (∀ (x17 : Int), rg x17 → x17 = σ.2.1 57 u2 → ((0 ≤ (x17 + u3) ∧ (x17 + u3) < 120000) ∧ (∀ (x19 : Int), rg x19 → x19 = σ.2.1 58 (x17 + u3) → ((0 ≤ x19 ∧ x19 < 20001) ∧ (∀ (x21 : Int), rg x21 → x21 = σ.2.1 61 x19 → ((x15 = x21 → rg (u3 + 1) ∧ P19 u1 u2 (u3 + 1)) ∧ (¬ x15 = x21 → Q 0)))))))))))))))) → P19 u1 u2 u3) →
  (0 ≤ n1 ∧ n1 < 20001) ∧ (∀ (x2 : Int), rg x2 → x2 = σ.2.1 56 n1 → ((0 ≤ n2 ∧ n2 < 20001) ∧ (∀ (x4 : Int), rg x4 → x4 = σ.2.1 56 n2 → ((x2 = x4 → P19 n1 n2 0) ∧ (¬ x2 = x4 → Q 0)))))
set_option maxRecDepth 100000 in
set_option maxHeartbeats 4000000 in
theorem L_X13_areSame (l : Launch) (g : gG) (q : Nat → Nat) (lb : Nat) (hlb : lb < 2 ^ 31) {n1 : Int} {n2 : Int} {σ : S0} {Q : Int → Prop} (r_n1 : rg n1) (r_n2 : rg n2) (hN : n_m σ) (hw : W_X13_areSame n1 n2 σ Q) (sz : Nat) : MetI l yX13_areSame cX13_areSame 4 (some .boolean) { frames := 1, cells := 0, slots := 0, locals := 22 } g [.ref (q 0), .int (I n1), .int (I n2)] (MX g q lb σ) sz xT (p_i (MX g q lb) σ Q) 0 0 := by
  refine mkMet (Qc := fun A => QI g A (p_i (MX g q lb) σ Q)) (by decide) (Nat.le_of_ble_eq_true rfl) ?_
  intro p e s m below meth c A H ls hx hb hr hml hown hts hlk hnm hsz hP hK hNb hD hA hAe hS hX hl
  have hl : lv_has ls 4 [(0, .ref (q 0)), (1, .int (I n1)), (2, .int (I n2))] := hl
  have hB := hN
  obtain ⟨locs, hlocs⟩ : ∃ z : List Loc, z = [] := ⟨_, rfl⟩
  rw [← hlocs] at hS ⊢
  obtain ⟨P19, hP19⟩ : ∃ P : Int → Int → Int → Prop, ∀ (u1 : Int) (u2 : Int) (u3 : Int), (P u1 u2 u3 ↔ (rg u1 → rg u2 → rg u3 → ∀ (H : Heap) (locs : List Loc) (ls : Array Slot), KP g (MX g q lb σ) H → va_D A (MX g q lb σ) → va_S A s.heap H locs → lv_has ls 4 [(0, .ref (q 0)), (1, .int (I u1)), (2, .int (I u2)), (3, .int (I u3))] → W p l e ({ frames := 1, cells := 0, slots := 0, locals := 22 }) s m [.ref (q 0), .int (I n1), .int (I n2)].toArray below meth c H locs 0 0 (MQ below (QI g A (p_i (MX g q lb) σ Q)) [.ref (q 0), .int (I n1), .int (I n2)].toArray s 0 0 A) (F0 m 19 ls []))) := ⟨_, fun _ _ _ => Iff.rfl⟩
  refine (fun hw => ?_) (hw P19 ?_)
  ·
    refine lv_aload_n hx hb dX13_areSame_0 rfl (lv_at hl 0 rfl) ?_
    refine gfX13_rowOf hx hb hts hK hP hown (hts _ tw_2100) dX13_areSame_1 ?_
    refine lv_iload_n hx hb dX13_areSame_4 rfl (lv_at hl 1 rfl) ?_
    obtain ⟨c1, hw⟩ := hw
    refine ldMX13_rowOf hx hb hK hP hN c1 dX13_areSame_5 (fun x2 r_x2 e_x2 => ?_)
    replace hw := hw x2 r_x2 e_x2
    refine lv_aload_n hx hb dX13_areSame_6 rfl (lv_at hl 0 rfl) ?_
    refine gfX13_rowOf hx hb hts hK hP hown (hts _ tw_2100) dX13_areSame_7 ?_
    refine lv_iload_n hx hb dX13_areSame_10 rfl (lv_at hl 2 rfl) ?_
    obtain ⟨c3, hw⟩ := hw
    refine ldMX13_rowOf hx hb hK hP hN c3 dX13_areSame_11 (fun x4 r_x4 e_x4 => ?_)
    replace hw := hw x4 r_x4 e_x4
    refine bi_icmp_eq (tgt := 17) hx hb r_x2 r_x4 dX13_areSame_12 (by decide) (fun c5 => ?_) (fun c5 => ?_)
    ·
      replace hw := hw.1 c5
      refine lv_iconst (v := I 0) hx hb dX13_areSame_17 rfl ?_
      refine lv_istore_n (lv' := [(3, .int (I 0)), (0, .ref (q 0)), (1, .int (I n1)), (2, .int (I n2))]) hx hb dX13_areSame_18 rfl hl (by decide) rfl (fun ls hl => ?_)
      exact (hP19 _ _ _).mp hw r_n1 r_n2 (by decide)  H locs ls hP hD hS (lv_sub hl [1, 2, 3, 0] rfl)
    ·
      replace hw := hw.2 c5
      refine lv_iconst (v := I 0) hx hb dX13_areSame_15 rfl ?_
      exact xrz hx hb hr (by decide) hlk hP hK hD hS ⟨_, (by decide), rfl, rfl, hw⟩ (Nat.le_of_ble_eq_true rfl) (Nat.le_of_ble_eq_true rfl) dX13_areSame_16
  ·
    intro u1 u2 u3 hw
    refine (hP19 _ _ _).mpr ?_
    intro r_u1 r_u2 r_u3 H locs ls hP hD hS hl
    refine lv_iload_n hx hb dX13_areSame_19 rfl (lv_at hl 3 rfl) ?_
    refine lv_aload_n hx hb dX13_areSame_20 rfl (lv_at hl 0 rfl) ?_
    refine lv_iload_n hx hb dX13_areSame_21 rfl (lv_at hl 1 rfl) ?_
    obtain ⟨Q6, hc, hw⟩ := hw
    refine wc_i (X := MX g q lb) (va_runV (As := [.int (I u1)]) (rest := [.int (I u3)]) ⟨hx, hb, hml, hown, hts⟩ (L_X13_rowWidth l g q lb hlb r_u1 hN hc H.size) (cwV 1 hts (TB_V tw_2877 tw_2879 ts_169 tw_15 co_X13_rowWidth) rfl rfl rfl (by decide +kernel) ⟨Nat.le_of_ble_eq_true rfl, Nat.le_of_ble_eq_true rfl⟩) (preV (q0 := 0) (ci := 13) rfl xT_bl hP hK hNb hD rfl rfl xT_at) rfl rfl hl.1 rfl (lv_room (Nat.le_of_ble_eq_true rfl)) dX13_areSame_22 ⟨Nat.le_of_ble_eq_true rfl, Nat.le_of_ble_eq_true rfl⟩) hP hD hS hA (fun x7 H locs r_x7 hq hP hD hS => ?_)
    replace hw := hw x7 r_x7 hq
    refine bi_icmp_ge (tgt := 75) hx hb r_u3 r_x7 dX13_areSame_25 (by decide) (fun c9 => ?_) (fun c9 => ?_)
    ·
      replace hw := hw.1 c9
      refine lv_iconst (v := I 1) hx hb dX13_areSame_75 rfl ?_
      exact xrz hx hb hr (by decide) hlk hP hK hD hS ⟨_, (by decide), rfl, rfl, hw⟩ (Nat.le_of_ble_eq_true rfl) (Nat.le_of_ble_eq_true rfl) dX13_areSame_76
    ·
      replace hw := hw.2 c9
      refine lv_aload_n hx hb dX13_areSame_28 rfl (lv_at hl 0 rfl) ?_
      refine gfX13_sameAs hx hb hts hK hP hown (hts _ tw_2111) dX13_areSame_29 ?_
      refine lv_aload_n hx hb dX13_areSame_32 rfl (lv_at hl 0 rfl) ?_
      refine gfX13_rowFroms hx hb hts hK hP hown (hts _ tw_2102) dX13_areSame_33 ?_
      refine lv_aload_n hx hb dX13_areSame_36 rfl (lv_at hl 0 rfl) ?_
      refine gfX13_rowFromAt hx hb hts hK hP hown (hts _ tw_2101) dX13_areSame_37 ?_
      refine lv_iload_n hx hb dX13_areSame_40 rfl (lv_at hl 1 rfl) ?_
      obtain ⟨c10, hw⟩ := hw
      refine ldMX13_rowFromAt hx hb hK hP hN c10 dX13_areSame_41 (fun x11 r_x11 e_x11 => ?_)
      replace hw := hw x11 r_x11 e_x11
      refine lv_iload_n hx hb dX13_areSame_42 rfl (lv_at hl 3 rfl) ?_
      refine bi_iadd hx hb dX13_areSame_43 ?_
      obtain ⟨c12, hw⟩ := hw
      refine ldMX13_rowFroms hx hb hK hP hN c12 dX13_areSame_44 (fun x13 r_x13 e_x13 => ?_)
      replace hw := hw x13 r_x13 e_x13
      obtain ⟨c14, hw⟩ := hw
      refine ldMX13_sameAs hx hb hK hP hN c14 dX13_areSame_45 (fun x15 r_x15 e_x15 => ?_)
      replace hw := hw x15 r_x15 e_x15
      refine lv_aload_n hx hb dX13_areSame_46 rfl (lv_at hl 0 rfl) ?_
      refine gfX13_sameAs hx hb hts hK hP hown (hts _ tw_2111) dX13_areSame_47 ?_
      refine lv_aload_n hx hb dX13_areSame_50 rfl (lv_at hl 0 rfl) ?_
      refine gfX13_rowFroms hx hb hts hK hP hown (hts _ tw_2102) dX13_areSame_51 ?_
      refine lv_aload_n hx hb dX13_areSame_54 rfl (lv_at hl 0 rfl) ?_
      refine gfX13_rowFromAt hx hb hts hK hP hown (hts _ tw_2101) dX13_areSame_55 ?_
      refine lv_iload_n hx hb dX13_areSame_58 rfl (lv_at hl 2 rfl) ?_
      obtain ⟨c16, hw⟩ := hw
      refine ldMX13_rowFromAt hx hb hK hP hN c16 dX13_areSame_59 (fun x17 r_x17 e_x17 => ?_)
      replace hw := hw x17 r_x17 e_x17
      refine lv_iload_n hx hb dX13_areSame_60 rfl (lv_at hl 3 rfl) ?_
      refine bi_iadd hx hb dX13_areSame_61 ?_
      obtain ⟨c18, hw⟩ := hw
      refine ldMX13_rowFroms hx hb hK hP hN c18 dX13_areSame_62 (fun x19 r_x19 e_x19 => ?_)
      replace hw := hw x19 r_x19 e_x19
      obtain ⟨c20, hw⟩ := hw
      refine ldMX13_sameAs hx hb hK hP hN c20 dX13_areSame_63 (fun x21 r_x21 e_x21 => ?_)
      replace hw := hw x21 r_x21 e_x21
      refine bi_icmp_eq (tgt := 69) hx hb r_x15 r_x21 dX13_areSame_64 (by decide) (fun c22 => ?_) (fun c22 => ?_)
      ·
        replace hw := hw.1 c22
        refine lv_iinc (v := I (u3 + 1)) (lv' := [(3, .int (I (u3 + 1))), (0, .ref (q 0)), (1, .int (I u1)), (2, .int (I u2))]) hx hb dX13_areSame_69 hl (k := 3) rfl (I_add _ _) (by decide) rfl (fun ls hl => ?_)
        refine lv_goto (tgt := 19) hx hb dX13_areSame_72 (by decide) ?_
        obtain ⟨c23, hw⟩ := hw
        exact (hP19 _ _ _).mp hw r_u1 r_u2 c23  H locs ls hP hD hS (lv_sub hl [1, 2, 3, 0] rfl)
      ·
        replace hw := hw.2 c22
        refine lv_iconst (v := I 0) hx hb dX13_areSame_67 rfl ?_
        exact xrz hx hb hr (by decide) hlk hP hK hD hS ⟨_, (by decide), rfl, rfl, hw⟩ (Nat.le_of_ble_eq_true rfl) (Nat.le_of_ble_eq_true rfl) dX13_areSame_68
def W_X13_findSame (σ : S0) (Q : S0 → Prop) : Prop :=
  ∀ (P2 : Int → S0 → Prop) (P23 : Int → S0 → Prop) (P40 : Int → Int → Int → S0 → Prop) (P90 : Int → Int → S0 → Prop) (P125 : Int → Int → S0 → Prop) (P142 : Int → Int → S0 → Prop),
  (∀ (u1 : Int) (τ : S0), ((65536 ≤ u1 → P23 0 τ) ∧ (u1 < 65536 → (0 ≤ u1 ∧ u1 < 65536) ∧ (rg (u1 + 1) ∧ P2 (u1 + 1) (s_a τ 69 u1 (-1))))) → P2 u1 τ) →
  (∀ (u1 : Int) (τ : S0), ((τ.1 36 ≤ u1 → Q τ) ∧ (u1 < τ.1 36 → (0 ≤ u1 ∧ u1 < 20001) ∧ (∀ (x6 : Int), rg x6 → x6 = τ.2.1 56 u1 → (P40 u1 x6 0 τ)))) → P23 u1 τ) →
  (∀ (u1 : Int) (u2 : Int) (u3 : Int) (τ : S0), (∃ (Q7 : Int → Prop), W_X13_rowWidth u1 τ Q7 ∧ ∀ (x8 : Int), rg x8 → Q7 x8 → ((x8 ≤ u3 → ∀ (x11 : Int), rg x11 → (∀ (x12 : Int), rg x12 → (P90 u1 (x12 % 65536) τ))) ∧ (u3 < x8 → (0 ≤ u1 ∧ u1 < 20001) ∧ (∀ (x14 : Int), rg x14 → x14 = τ.2.1 57 u1 → ((0 ≤ (x14 + u3) ∧ (x14 + u3) < 120000) ∧ (∀ (x16 : Int), rg x16 → x16 = τ.2.1 58 (x14 + u3) → ((0 ≤ x16 ∧ x16 < 20001) ∧ (∀ (x18 : Int), rg x18 → x18 = τ.2.1 61 x16 → (∀ (x19 : Int), rg x19 → (rg (u3 + 1) ∧ P40 u1 x19 (u3 + 1) τ)))))))))) → P40 u1 u2 u3 τ) →
  (∀ (u1 : Int) (u2 : Int) (τ : S0), ((0 ≤ u2 ∧ u2 < 65536) ∧ (∀ (x22 : Int), rg x22 → x22 = τ.2.1 69 u2 → ((x22 = (-1) → P125 u1 u2 τ) ∧ (¬ x22 = (-1) → ∀ (x24 : Int), rg x24 → x24 = τ.2.1 69 u2 → (∃ (Q25 : Int → Prop), W_X13_areSame x24 u1 τ Q25 ∧ ∀ (x26 : Int), rg x26 → Q25 x26 → ((¬ x26 = 0 → P125 u1 u2 τ) ∧ (x26 = 0 → P90 u1 ((u2 + 1) % 65536) τ))))))) → P90 u1 u2 τ) →
  (∀ (u1 : Int) (u2 : Int) (τ : S0), ((0 ≤ u2 ∧ u2 < 65536) ∧ (∀ (x30 : Int), rg x30 → x30 = τ.2.1 69 u2 → ((¬ x30 = (-1) → P142 u1 u2 τ) ∧ (x30 = (-1) → P142 u1 u2 (s_a τ 69 u2 u1))))) → P125 u1 u2 τ) →
  (∀ (u1 : Int) (u2 : Int) (τ : S0), ((0 ≤ u2 ∧ u2 < 65536) ∧ (∀ (x33 : Int), rg x33 → x33 = τ.2.1 69 u2 → ((0 ≤ u1 ∧ u1 < 20001) ∧ (rg (u1 + 1) ∧ P23 (u1 + 1) (s_a (s_a τ 61 u1 x33) 62 u1 0))))) → P142 u1 u2 τ) →
  P2 0 σ
set_option maxRecDepth 100000 in
set_option maxHeartbeats 4000000 in
theorem L_X13_findSame (l : Launch) (g : gG) (q : Nat → Nat) (lb : Nat) (hlb : lb < 2 ^ 31) {σ : S0} {Q : S0 → Prop} (hN : n_m σ) (hw : W_X13_findSame σ Q) (sz : Nat) : MetV l yX13_findSame cX13_findSame 4 { frames := 2, cells := 0, slots := 0, locals := 45 } g [.ref (q 0)] (MX g q lb σ) sz xT (p_V (MX g q lb) [] [61, 62, 69] [] σ Q) 0 0 := by
  refine mkMet (Qc := fun A => QV g A (p_V (MX g q lb) [] [61, 62, 69] [] σ Q)) (by decide) (Nat.le_of_ble_eq_true rfl) ?_
  intro p e s m below meth c A H ls hx hb hr hml hown hts hlk hnm hsz hP hK hNb hD hA hAe hS hX hl
  have hl : lv_has ls 4 [(0, .ref (q 0))] := hl
  have hB := hN
  have hF : f_r [] [61, 62, 69] [] σ σ := f_0
  obtain ⟨locs, hlocs⟩ : ∃ z : List Loc, z = [] := ⟨_, rfl⟩
  rw [← hlocs] at hS ⊢
  obtain ⟨P2, hP2⟩ : ∃ P : Int → S0 → Prop, ∀ (u1 : Int) (τ : S0), (P u1 τ ↔ (rg u1 → n_m τ → f_r [] [61, 62, 69] [] σ τ → ∀ (H : Heap) (locs : List Loc) (ls : Array Slot), KP g (MX g q lb τ) H → va_D A (MX g q lb τ) → va_S A s.heap H locs → lv_has ls 4 [(0, .ref (q 0)), (1, .int (I u1))] → W p l e ({ frames := 2, cells := 0, slots := 0, locals := 45 }) s m [.ref (q 0)].toArray below meth c H locs 0 0 (MQ below (QV g A (p_V (MX g q lb) [] [61, 62, 69] [] σ Q)) [.ref (q 0)].toArray s 0 0 A) (F0 m 2 ls []))) := ⟨_, fun _ _ => Iff.rfl⟩
  obtain ⟨P23, hP23⟩ : ∃ P : Int → S0 → Prop, ∀ (u1 : Int) (τ : S0), (P u1 τ ↔ (rg u1 → n_m τ → f_r [] [61, 62, 69] [] σ τ → ∀ (H : Heap) (locs : List Loc) (ls : Array Slot), KP g (MX g q lb τ) H → va_D A (MX g q lb τ) → va_S A s.heap H locs → lv_has ls 4 [(0, .ref (q 0)), (1, .int (I u1))] → W p l e ({ frames := 2, cells := 0, slots := 0, locals := 45 }) s m [.ref (q 0)].toArray below meth c H locs 0 0 (MQ below (QV g A (p_V (MX g q lb) [] [61, 62, 69] [] σ Q)) [.ref (q 0)].toArray s 0 0 A) (F0 m 23 ls []))) := ⟨_, fun _ _ => Iff.rfl⟩
  obtain ⟨P40, hP40⟩ : ∃ P : Int → Int → Int → S0 → Prop, ∀ (u1 : Int) (u2 : Int) (u3 : Int) (τ : S0), (P u1 u2 u3 τ ↔ (rg u1 → rg u2 → rg u3 → n_m τ → f_r [] [61, 62, 69] [] σ τ → ∀ (H : Heap) (locs : List Loc) (ls : Array Slot), KP g (MX g q lb τ) H → va_D A (MX g q lb τ) → va_S A s.heap H locs → lv_has ls 4 [(0, .ref (q 0)), (1, .int (I u1)), (2, .int (I u2)), (3, .int (I u3))] → W p l e ({ frames := 2, cells := 0, slots := 0, locals := 45 }) s m [.ref (q 0)].toArray below meth c H locs 0 0 (MQ below (QV g A (p_V (MX g q lb) [] [61, 62, 69] [] σ Q)) [.ref (q 0)].toArray s 0 0 A) (F0 m 40 ls []))) := ⟨_, fun _ _ _ _ => Iff.rfl⟩
  obtain ⟨P90, hP90⟩ : ∃ P : Int → Int → S0 → Prop, ∀ (u1 : Int) (u2 : Int) (τ : S0), (P u1 u2 τ ↔ (rg u1 → rg u2 → n_m τ → f_r [] [61, 62, 69] [] σ τ → ∀ (H : Heap) (locs : List Loc) (ls : Array Slot), KP g (MX g q lb τ) H → va_D A (MX g q lb τ) → va_S A s.heap H locs → lv_has ls 4 [(0, .ref (q 0)), (1, .int (I u1)), (2, .int (I u2))] → W p l e ({ frames := 2, cells := 0, slots := 0, locals := 45 }) s m [.ref (q 0)].toArray below meth c H locs 0 0 (MQ below (QV g A (p_V (MX g q lb) [] [61, 62, 69] [] σ Q)) [.ref (q 0)].toArray s 0 0 A) (F0 m 90 ls []))) := ⟨_, fun _ _ _ => Iff.rfl⟩
  obtain ⟨P125, hP125⟩ : ∃ P : Int → Int → S0 → Prop, ∀ (u1 : Int) (u2 : Int) (τ : S0), (P u1 u2 τ ↔ (rg u1 → rg u2 → n_m τ → f_r [] [61, 62, 69] [] σ τ → ∀ (H : Heap) (locs : List Loc) (ls : Array Slot), KP g (MX g q lb τ) H → va_D A (MX g q lb τ) → va_S A s.heap H locs → lv_has ls 4 [(0, .ref (q 0)), (1, .int (I u1)), (2, .int (I u2))] → W p l e ({ frames := 2, cells := 0, slots := 0, locals := 45 }) s m [.ref (q 0)].toArray below meth c H locs 0 0 (MQ below (QV g A (p_V (MX g q lb) [] [61, 62, 69] [] σ Q)) [.ref (q 0)].toArray s 0 0 A) (F0 m 125 ls []))) := ⟨_, fun _ _ _ => Iff.rfl⟩
  obtain ⟨P142, hP142⟩ : ∃ P : Int → Int → S0 → Prop, ∀ (u1 : Int) (u2 : Int) (τ : S0), (P u1 u2 τ ↔ (rg u1 → rg u2 → n_m τ → f_r [] [61, 62, 69] [] σ τ → ∀ (H : Heap) (locs : List Loc) (ls : Array Slot), KP g (MX g q lb τ) H → va_D A (MX g q lb τ) → va_S A s.heap H locs → lv_has ls 4 [(0, .ref (q 0)), (1, .int (I u1)), (2, .int (I u2))] → W p l e ({ frames := 2, cells := 0, slots := 0, locals := 45 }) s m [.ref (q 0)].toArray below meth c H locs 0 0 (MQ below (QV g A (p_V (MX g q lb) [] [61, 62, 69] [] σ Q)) [.ref (q 0)].toArray s 0 0 A) (F0 m 142 ls []))) := ⟨_, fun _ _ _ => Iff.rfl⟩
  refine (fun hw => ?_) (hw P2 P23 P40 P90 P125 P142 ?_ ?_ ?_ ?_ ?_ ?_)
  ·
    refine lv_iconst (v := I 0) hx hb dX13_findSame_0 rfl ?_
    refine lv_istore_n (lv' := [(1, .int (I 0)), (0, .ref (q 0))]) hx hb dX13_findSame_1 rfl hl (by decide) rfl (fun ls hl => ?_)
    exact (hP2 _ _).mp hw (by decide) hN hF H locs ls hP hD hS (lv_sub hl [1, 0] rfl)
  ·
    intro u1 τ hw
    refine (hP2 _ _).mpr ?_
    intro r_u1 hN hF H locs ls hP hD hS hl
    have hB := hN
    refine lv_iload_n hx hb dX13_findSame_2 rfl (lv_at hl 1 rfl) ?_
    refine lv_ldc (own := RX13) (v := 65536) hx hb hown (hts _ tw_1999) dX13_findSame_3 ?_
    refine xtop (y := I 65536) (by decide) ?_
    refine bi_icmp_ge (tgt := 21) hx hb r_u1 (by decide) dX13_findSame_5 (by decide) (fun c1 => ?_) (fun c1 => ?_)
    ·
      replace hw := hw.1 c1
      refine lv_iconst (v := I 0) hx hb dX13_findSame_21 rfl ?_
      refine lv_istore_n (lv' := [(1, .int (I 0)), (0, .ref (q 0))]) hx hb dX13_findSame_22 rfl hl (by decide) rfl (fun ls hl => ?_)
      exact (hP23 _ _).mp hw (by decide) hN hF H locs ls hP hD hS (lv_sub hl [1, 0] rfl)
    ·
      replace hw := hw.2 c1
      refine lv_aload_n hx hb dX13_findSame_8 rfl (lv_at hl 0 rfl) ?_
      refine gfX13_sameTable hx hb hts hK hP hown (hts _ tw_2121) dX13_findSame_9 ?_
      refine lv_iload_n hx hb dX13_findSame_12 rfl (lv_at hl 1 rfl) ?_
      refine lv_iconst (v := I (-1)) hx hb dX13_findSame_13 rfl ?_
      obtain ⟨c2, hw⟩ := hw
      refine sdMX13_sameTable hx hb hK hP hD hS c2 dX13_findSame_14 (fun H locs hP hD hS => ?_)
      have hN : n_m (s_a τ 69 u1 (-1)) := n_a (k := 69) (j := u1) hN ((by decide) : rg (-1))
      have hF : f_r [] [61, 62, 69] [] σ (s_a τ 69 u1 (-1)) := f_a hF (by decide)
      refine lv_iinc (v := I (u1 + 1)) (lv' := [(1, .int (I (u1 + 1))), (0, .ref (q 0))]) hx hb dX13_findSame_15 hl (k := 1) rfl (I_add _ _) (by decide) rfl (fun ls hl => ?_)
      refine lv_goto (tgt := 2) hx hb dX13_findSame_18 (by decide) ?_
      obtain ⟨c3, hw⟩ := hw
      exact (hP2 _ _).mp hw c3 hN hF H locs ls hP hD hS (lv_sub hl [1, 0] rfl)
  ·
    intro u1 τ hw
    refine (hP23 _ _).mpr ?_
    intro r_u1 hN hF H locs ls hP hD hS hl
    have hB := hN
    refine lv_iload_n hx hb dX13_findSame_23 rfl (lv_at hl 1 rfl) ?_
    refine lv_aload_n hx hb dX13_findSame_24 rfl (lv_at hl 0 rfl) ?_
    refine gfX13_rowCount hx hb hts hK hP hown (hts _ tw_2103) (x := τ.1 36) rfl dX13_findSame_25 ?_
    refine bi_icmp_ge (tgt := 167) hx hb r_u1 (hB.1 36) dX13_findSame_28 (by decide) (fun c4 => ?_) (fun c4 => ?_)
    ·
      replace hw := hw.1 c4
      exact xrv hx hb hr hlk hP hK hD hS ⟨_, hN, hF, rfl, hw⟩ (Nat.le_of_ble_eq_true rfl) (Nat.le_of_ble_eq_true rfl) dX13_findSame_167
    ·
      replace hw := hw.2 c4
      refine lv_aload_n hx hb dX13_findSame_31 rfl (lv_at hl 0 rfl) ?_
      refine gfX13_rowOf hx hb hts hK hP hown (hts _ tw_2100) dX13_findSame_32 ?_
      refine lv_iload_n hx hb dX13_findSame_35 rfl (lv_at hl 1 rfl) ?_
      obtain ⟨c5, hw⟩ := hw
      refine ldMX13_rowOf hx hb hK hP hN c5 dX13_findSame_36 (fun x6 r_x6 e_x6 => ?_)
      replace hw := hw x6 r_x6 e_x6
      refine lv_istore_n (lv' := [(2, .int (I x6)), (0, .ref (q 0)), (1, .int (I u1))]) hx hb dX13_findSame_37 rfl hl (by decide) rfl (fun ls hl => ?_)
      refine lv_iconst (v := I 0) hx hb dX13_findSame_38 rfl ?_
      refine lv_istore_n (lv' := [(3, .int (I 0)), (2, .int (I x6)), (0, .ref (q 0)), (1, .int (I u1))]) hx hb dX13_findSame_39 rfl hl (by decide) rfl (fun ls hl => ?_)
      exact (hP40 _ _ _ _).mp hw r_u1 r_x6 (by decide) hN hF H locs ls hP hD hS (lv_sub hl [2, 3, 1, 0] rfl)
  ·
    intro u1 u2 u3 τ hw
    refine (hP40 _ _ _ _).mpr ?_
    intro r_u1 r_u2 r_u3 hN hF H locs ls hP hD hS hl
    have hB := hN
    refine lv_iload_n hx hb dX13_findSame_40 rfl (lv_at hl 3 rfl) ?_
    refine lv_aload_n hx hb dX13_findSame_41 rfl (lv_at hl 0 rfl) ?_
    refine lv_iload_n hx hb dX13_findSame_42 rfl (lv_at hl 1 rfl) ?_
    obtain ⟨Q7, hc, hw⟩ := hw
    refine wc_i (X := MX g q lb) (va_runV (As := [.int (I u1)]) (rest := [.int (I u3)]) ⟨hx, hb, hml, hown, hts⟩ (L_X13_rowWidth l g q lb hlb r_u1 hN hc H.size) (cwV 1 hts (TB_V tw_2877 tw_2879 ts_169 tw_15 co_X13_rowWidth) rfl rfl rfl (by decide +kernel) ⟨Nat.le_of_ble_eq_true rfl, Nat.le_of_ble_eq_true rfl⟩) (preV (q0 := 0) (ci := 13) rfl xT_bl hP hK hNb hD rfl rfl xT_at) rfl rfl hl.1 rfl (lv_room (Nat.le_of_ble_eq_true rfl)) dX13_findSame_43 ⟨Nat.le_of_ble_eq_true rfl, Nat.le_of_ble_eq_true rfl⟩) hP hD hS hA (fun x8 H locs r_x8 hq hP hD hS => ?_)
    replace hw := hw x8 r_x8 hq
    refine bi_icmp_ge (tgt := 79) hx hb r_u3 r_x8 dX13_findSame_46 (by decide) (fun c10 => ?_) (fun c10 => ?_)
    ·
      replace hw := hw.1 c10
      refine lv_iload_n hx hb dX13_findSame_79 rfl (lv_at hl 2 rfl) ?_
      refine lv_iload_n hx hb dX13_findSame_80 rfl (lv_at hl 2 rfl) ?_
      refine lv_bipush (v := I 16) hx hb dX13_findSame_81 (by decide) ?_
      refine lv_iushr (v := _) hx hb dX13_findSame_83 rfl ?_
      refine bi_hav (fun x11 r_x11 => ?_)
      replace hw := hw x11 r_x11
      refine lv_ixor hx hb dX13_findSame_84 ?_
      refine bi_hav (fun x12 r_x12 => ?_)
      replace hw := hw x12 r_x12
      refine lv_ldcw (own := RX13) (v := 65535) hx hb hown (hts _ tw_3099) dX13_findSame_85 ?_
      refine xtop (y := I 65535) (by decide) ?_
      refine bi_iandm hx hb 65535 16 65536 (by decide) (by decide) (by omega) dX13_findSame_88 ?_
      refine lv_istore_n (lv' := [(2, .int (I (x12 % 65536))), (0, .ref (q 0)), (1, .int (I u1)), (3, .int (I u3))]) hx hb dX13_findSame_89 rfl hl (by decide) rfl (fun ls hl => ?_)
      exact (hP90 _ _ _).mp hw r_u1 (⟨by omega, by omega⟩ : rg (x12 % 65536)) hN hF H locs ls hP hD hS (lv_sub hl [1, 2, 0] rfl)
    ·
      replace hw := hw.2 c10
      refine lv_bipush (v := I 31) hx hb dX13_findSame_49 (by decide) ?_
      refine lv_iload_n hx hb dX13_findSame_51 rfl (lv_at hl 2 rfl) ?_
      refine bi_imul hx hb dX13_findSame_52 ?_
      refine lv_aload_n hx hb dX13_findSame_53 rfl (lv_at hl 0 rfl) ?_
      refine gfX13_sameAs hx hb hts hK hP hown (hts _ tw_2111) dX13_findSame_54 ?_
      refine lv_aload_n hx hb dX13_findSame_57 rfl (lv_at hl 0 rfl) ?_
      refine gfX13_rowFroms hx hb hts hK hP hown (hts _ tw_2102) dX13_findSame_58 ?_
      refine lv_aload_n hx hb dX13_findSame_61 rfl (lv_at hl 0 rfl) ?_
      refine gfX13_rowFromAt hx hb hts hK hP hown (hts _ tw_2101) dX13_findSame_62 ?_
      refine lv_iload_n hx hb dX13_findSame_65 rfl (lv_at hl 1 rfl) ?_
      obtain ⟨c13, hw⟩ := hw
      refine ldMX13_rowFromAt hx hb hK hP hN c13 dX13_findSame_66 (fun x14 r_x14 e_x14 => ?_)
      replace hw := hw x14 r_x14 e_x14
      refine lv_iload_n hx hb dX13_findSame_67 rfl (lv_at hl 3 rfl) ?_
      refine bi_iadd hx hb dX13_findSame_68 ?_
      obtain ⟨c15, hw⟩ := hw
      refine ldMX13_rowFroms hx hb hK hP hN c15 dX13_findSame_69 (fun x16 r_x16 e_x16 => ?_)
      replace hw := hw x16 r_x16 e_x16
      obtain ⟨c17, hw⟩ := hw
      refine ldMX13_sameAs hx hb hK hP hN c17 dX13_findSame_70 (fun x18 r_x18 e_x18 => ?_)
      replace hw := hw x18 r_x18 e_x18
      refine bi_iadd hx hb dX13_findSame_71 ?_
      refine bi_hav (fun x19 r_x19 => ?_)
      replace hw := hw x19 r_x19
      refine lv_istore_n (lv' := [(2, .int (I x19)), (0, .ref (q 0)), (1, .int (I u1)), (3, .int (I u3))]) hx hb dX13_findSame_72 rfl hl (by decide) rfl (fun ls hl => ?_)
      refine lv_iinc (v := I (u3 + 1)) (lv' := [(3, .int (I (u3 + 1))), (2, .int (I x19)), (0, .ref (q 0)), (1, .int (I u1))]) hx hb dX13_findSame_73 hl (k := 3) rfl (I_add _ _) (by decide) rfl (fun ls hl => ?_)
      refine lv_goto (tgt := 40) hx hb dX13_findSame_76 (by decide) ?_
      obtain ⟨c20, hw⟩ := hw
      exact (hP40 _ _ _ _).mp hw r_u1 r_x19 c20 hN hF H locs ls hP hD hS (lv_sub hl [2, 3, 1, 0] rfl)
  ·
    intro u1 u2 τ hw
    refine (hP90 _ _ _).mpr ?_
    intro r_u1 r_u2 hN hF H locs ls hP hD hS hl
    have hB := hN
    refine lv_aload_n hx hb dX13_findSame_90 rfl (lv_at hl 0 rfl) ?_
    refine gfX13_sameTable hx hb hts hK hP hown (hts _ tw_2121) dX13_findSame_91 ?_
    refine lv_iload_n hx hb dX13_findSame_94 rfl (lv_at hl 2 rfl) ?_
    obtain ⟨c21, hw⟩ := hw
    refine ldMX13_sameTable hx hb hK hP hN c21 dX13_findSame_95 (fun x22 r_x22 e_x22 => ?_)
    replace hw := hw x22 r_x22 e_x22
    refine lv_iconst (v := I (-1)) hx hb dX13_findSame_96 rfl ?_
    refine bi_icmp_eq (tgt := 125) hx hb r_x22 (by decide) dX13_findSame_97 (by decide) (fun c23 => ?_) (fun c23 => ?_)
    ·
      replace hw := hw.1 c23
      exact (hP125 _ _ _).mp hw r_u1 r_u2 hN hF H locs ls hP hD hS (lv_sub hl [0, 1, 2] rfl)
    ·
      replace hw := hw.2 c23
      refine lv_aload_n hx hb dX13_findSame_100 rfl (lv_at hl 0 rfl) ?_
      refine lv_aload_n hx hb dX13_findSame_101 rfl (lv_at hl 0 rfl) ?_
      refine gfX13_sameTable hx hb hts hK hP hown (hts _ tw_2121) dX13_findSame_102 ?_
      refine lv_iload_n hx hb dX13_findSame_105 rfl (lv_at hl 2 rfl) ?_
      refine ldMX13_sameTable hx hb hK hP hN c21 dX13_findSame_106 (fun x24 r_x24 e_x24 => ?_)
      replace hw := hw x24 r_x24 e_x24
      refine lv_iload_n hx hb dX13_findSame_107 rfl (lv_at hl 1 rfl) ?_
      obtain ⟨Q25, hc, hw⟩ := hw
      refine wc_i (X := MX g q lb) (va_runV (As := [.int (I x24), .int (I u1)]) (rest := []) ⟨hx, hb, hml, hown, hts⟩ (L_X13_areSame l g q lb hlb r_x24 r_u1 hN hc H.size) (cwV 2 hts (TB_V tw_3100 tw_3102 ts_216 tw_15 co_X13_areSame) rfl rfl rfl (by decide +kernel) ⟨Nat.le_of_ble_eq_true rfl, Nat.le_of_ble_eq_true rfl⟩) (preV (q0 := 0) (ci := 13) rfl xT_bl hP hK hNb hD rfl rfl xT_at) rfl rfl hl.1 rfl (lv_room (Nat.le_of_ble_eq_true rfl)) dX13_findSame_108 ⟨Nat.le_of_ble_eq_true rfl, Nat.le_of_ble_eq_true rfl⟩) hP hD hS hA (fun x26 H locs r_x26 hq hP hD hS => ?_)
      replace hw := hw x26 r_x26 hq
      refine bi_if_ne (tgt := 125) hx hb r_x26 dX13_findSame_111 (by decide) (fun c28 => ?_) (fun c28 => ?_)
      ·
        replace hw := hw.1 c28
        exact (hP125 _ _ _).mp hw r_u1 r_u2 hN hF H locs ls hP hD hS (lv_sub hl [0, 1, 2] rfl)
      ·
        replace hw := hw.2 c28
        refine lv_iload_n hx hb dX13_findSame_114 rfl (lv_at hl 2 rfl) ?_
        refine lv_iconst (v := I 1) hx hb dX13_findSame_115 rfl ?_
        refine bi_iadd hx hb dX13_findSame_116 ?_
        refine lv_ldcw (own := RX13) (v := 65535) hx hb hown (hts _ tw_3099) dX13_findSame_117 ?_
        refine xtop (y := I 65535) (by decide) ?_
        refine bi_iandm hx hb 65535 16 65536 (by decide) (by decide) (by omega) dX13_findSame_120 ?_
        refine lv_istore_n (lv' := [(2, .int (I ((u2 + 1) % 65536))), (0, .ref (q 0)), (1, .int (I u1))]) hx hb dX13_findSame_121 rfl hl (by decide) rfl (fun ls hl => ?_)
        refine lv_goto (tgt := 90) hx hb dX13_findSame_122 (by decide) ?_
        exact (hP90 _ _ _).mp hw r_u1 (⟨by omega, by omega⟩ : rg ((u2 + 1) % 65536)) hN hF H locs ls hP hD hS (lv_sub hl [1, 2, 0] rfl)
  ·
    intro u1 u2 τ hw
    refine (hP125 _ _ _).mpr ?_
    intro r_u1 r_u2 hN hF H locs ls hP hD hS hl
    have hB := hN
    refine lv_aload_n hx hb dX13_findSame_125 rfl (lv_at hl 0 rfl) ?_
    refine gfX13_sameTable hx hb hts hK hP hown (hts _ tw_2121) dX13_findSame_126 ?_
    refine lv_iload_n hx hb dX13_findSame_129 rfl (lv_at hl 2 rfl) ?_
    obtain ⟨c29, hw⟩ := hw
    refine ldMX13_sameTable hx hb hK hP hN c29 dX13_findSame_130 (fun x30 r_x30 e_x30 => ?_)
    replace hw := hw x30 r_x30 e_x30
    refine lv_iconst (v := I (-1)) hx hb dX13_findSame_131 rfl ?_
    refine bi_icmp_ne (tgt := 142) hx hb r_x30 (by decide) dX13_findSame_132 (by decide) (fun c31 => ?_) (fun c31 => ?_)
    ·
      replace hw := hw.1 c31
      exact (hP142 _ _ _).mp hw r_u1 r_u2 hN hF H locs ls hP hD hS (lv_sub hl [0, 1, 2] rfl)
    ·
      replace hw := hw.2 c31
      refine lv_aload_n hx hb dX13_findSame_135 rfl (lv_at hl 0 rfl) ?_
      refine gfX13_sameTable hx hb hts hK hP hown (hts _ tw_2121) dX13_findSame_136 ?_
      refine lv_iload_n hx hb dX13_findSame_139 rfl (lv_at hl 2 rfl) ?_
      refine lv_iload_n hx hb dX13_findSame_140 rfl (lv_at hl 1 rfl) ?_
      refine sdMX13_sameTable hx hb hK hP hD hS c29 dX13_findSame_141 (fun H locs hP hD hS => ?_)
      have hN : n_m (s_a τ 69 u2 u1) := n_a (k := 69) (j := u2) hN (r_u1 : rg u1)
      have hF : f_r [] [61, 62, 69] [] σ (s_a τ 69 u2 u1) := f_a hF (by decide)
      exact (hP142 _ _ _).mp hw r_u1 r_u2 hN hF H locs ls hP hD hS (lv_sub hl [0, 1, 2] rfl)
  ·
    intro u1 u2 τ hw
    refine (hP142 _ _ _).mpr ?_
    intro r_u1 r_u2 hN hF H locs ls hP hD hS hl
    have hB := hN
    refine lv_aload_n hx hb dX13_findSame_142 rfl (lv_at hl 0 rfl) ?_
    refine gfX13_sameAs hx hb hts hK hP hown (hts _ tw_2111) dX13_findSame_143 ?_
    refine lv_iload_n hx hb dX13_findSame_146 rfl (lv_at hl 1 rfl) ?_
    refine lv_aload_n hx hb dX13_findSame_147 rfl (lv_at hl 0 rfl) ?_
    refine gfX13_sameTable hx hb hts hK hP hown (hts _ tw_2121) dX13_findSame_148 ?_
    refine lv_iload_n hx hb dX13_findSame_151 rfl (lv_at hl 2 rfl) ?_
    obtain ⟨c32, hw⟩ := hw
    refine ldMX13_sameTable hx hb hK hP hN c32 dX13_findSame_152 (fun x33 r_x33 e_x33 => ?_)
    replace hw := hw x33 r_x33 e_x33
    obtain ⟨c34, hw⟩ := hw
    refine sdMX13_sameAs hx hb hK hP hD hS c34 dX13_findSame_153 (fun H locs hP hD hS => ?_)
    have hN : n_m (s_a τ 61 u1 x33) := n_a (k := 61) (j := u1) hN (r_x33 : rg x33)
    have hF : f_r [] [61, 62, 69] [] σ (s_a τ 61 u1 x33) := f_a hF (by decide)
    refine lv_aload_n hx hb dX13_findSame_154 rfl (lv_at hl 0 rfl) ?_
    refine gfX13_uses hx hb hts hK hP hown (hts _ tw_2112) dX13_findSame_155 ?_
    refine lv_iload_n hx hb dX13_findSame_158 rfl (lv_at hl 1 rfl) ?_
    refine lv_iconst (v := I 0) hx hb dX13_findSame_159 rfl ?_
    refine sdMX13_uses hx hb hK hP hD hS c34 dX13_findSame_160 (fun H locs hP hD hS => ?_)
    have hN : n_m (s_a (s_a τ 61 u1 x33) 62 u1 0) := n_a (k := 62) (j := u1) hN ((by decide) : rg 0)
    have hF : f_r [] [61, 62, 69] [] σ (s_a (s_a τ 61 u1 x33) 62 u1 0) := f_a hF (by decide)
    refine lv_iinc (v := I (u1 + 1)) (lv' := [(1, .int (I (u1 + 1))), (0, .ref (q 0)), (2, .int (I u2))]) hx hb dX13_findSame_161 hl (k := 1) rfl (I_add _ _) (by decide) rfl (fun ls hl => ?_)
    refine lv_goto (tgt := 23) hx hb dX13_findSame_164 (by decide) ?_
    obtain ⟨c35, hw⟩ := hw
    exact (hP23 _ _).mp hw c35 hN hF H locs ls hP hD hS (lv_sub hl [1, 0] rfl)
def W_X13_enter (n1 : Int) (σ : S0) (Q : S0 → Prop) : Prop :=
  (0 ≤ σ.1 42 ∧ σ.1 42 < 40002) ∧ (rg (σ.1 42 + 1) ∧ Q (s_v (s_a (s_a σ 65 (σ.1 42) n1) 66 (σ.1 42) 0) 42 (σ.1 42 + 1)))
set_option maxRecDepth 100000 in
set_option maxHeartbeats 4000000 in
theorem L_X13_enter (l : Launch) (g : gG) (q : Nat → Nat) (lb : Nat) (hlb : lb < 2 ^ 31) {n1 : Int} {σ : S0} {Q : S0 → Prop} (r_n1 : rg n1) (hN : n_m σ) (hw : W_X13_enter n1 σ Q) (sz : Nat) : MetV l yX13_enter cX13_enter 2 { frames := 0, cells := 0, slots := 0, locals := 0 } g [.ref (q 0), .int (I n1)] (MX g q lb σ) sz xT (p_V (MX g q lb) [42] [65, 66] [] σ Q) 0 0 := by
  refine mkMet (Qc := fun A => QV g A (p_V (MX g q lb) [42] [65, 66] [] σ Q)) (by decide) (Nat.le_of_ble_eq_true rfl) ?_
  intro p e s m below meth c A H ls hx hb hr hml hown hts hlk hnm hsz hP hK hNb hD hA hAe hS hX hl
  have hl : lv_has ls 2 [(0, .ref (q 0)), (1, .int (I n1))] := hl
  have hB := hN
  have hF : f_r [42] [65, 66] [] σ σ := f_0
  obtain ⟨locs, hlocs⟩ : ∃ z : List Loc, z = [] := ⟨_, rfl⟩
  rw [← hlocs] at hS ⊢
  refine lv_aload_n hx hb dX13_enter_0 rfl (lv_at hl 0 rfl) ?_
  refine gfX13_walk hx hb hts hK hP hown (hts _ tw_2115) dX13_enter_1 ?_
  refine lv_aload_n hx hb dX13_enter_4 rfl (lv_at hl 0 rfl) ?_
  refine gfX13_walked hx hb hts hK hP hown (hts _ tw_2117) (x := σ.1 42) rfl dX13_enter_5 ?_
  refine lv_iload_n hx hb dX13_enter_8 rfl (lv_at hl 1 rfl) ?_
  obtain ⟨c1, hw⟩ := hw
  refine sdMX13_walk hx hb hK hP hD hS c1 dX13_enter_9 (fun H locs hP hD hS => ?_)
  have hN : n_m (s_a σ 65 (σ.1 42) n1) := n_a (k := 65) (j := σ.1 42) hN (r_n1 : rg n1)
  have hF : f_r [42] [65, 66] [] σ (s_a σ 65 (σ.1 42) n1) := f_a hF (by decide)
  refine lv_aload_n hx hb dX13_enter_10 rfl (lv_at hl 0 rfl) ?_
  refine gfX13_walkKid hx hb hts hK hP hown (hts _ tw_2116) dX13_enter_11 ?_
  refine lv_aload_n hx hb dX13_enter_14 rfl (lv_at hl 0 rfl) ?_
  refine gfX13_walked hx hb hts hK hP hown (hts _ tw_2117) (x := σ.1 42) rfl dX13_enter_15 ?_
  refine lv_iconst (v := I 0) hx hb dX13_enter_18 rfl ?_
  refine sdMX13_walkKid hx hb hK hP hD hS c1 dX13_enter_19 (fun H locs hP hD hS => ?_)
  have hN : n_m (s_a (s_a σ 65 (σ.1 42) n1) 66 (σ.1 42) 0) := n_a (k := 66) (j := σ.1 42) hN ((by decide) : rg 0)
  have hF : f_r [42] [65, 66] [] σ (s_a (s_a σ 65 (σ.1 42) n1) 66 (σ.1 42) 0) := f_a hF (by decide)
  refine lv_aload_n hx hb dX13_enter_20 rfl (lv_at hl 0 rfl) ?_
  refine lv_dup hx hb dX13_enter_21 rfl ?_
  refine gfX13_walked hx hb hts hK hP hown (hts _ tw_2117) (x := σ.1 42) rfl dX13_enter_22 ?_
  refine lv_iconst (v := I 1) hx hb dX13_enter_25 rfl ?_
  refine bi_iadd hx hb dX13_enter_26 ?_
  obtain ⟨c2, hw⟩ := hw
  refine pfX13_walked hx hb hts hK hP hD hS hown (hts _ tw_2117) dX13_enter_27 (fun H locs hP hD hS => ?_)
  have hN : n_m (s_v (s_a (s_a σ 65 (σ.1 42) n1) 66 (σ.1 42) 0) 42 (σ.1 42 + 1)) := n_v (i := 42) hN (c2 : rg (σ.1 42 + 1))
  have hF : f_r [42] [65, 66] [] σ (s_v (s_a (s_a σ 65 (σ.1 42) n1) 66 (σ.1 42) 0) 42 (σ.1 42 + 1)) := f_v hF (by decide)
  exact xrv hx hb hr hlk hP hK hD hS ⟨_, hN, hF, rfl, hw⟩ (Nat.le_of_ble_eq_true rfl) (Nat.le_of_ble_eq_true rfl) dX13_enter_30
def W_X13_tellSteps (σ : S0) (Q : S0 → Prop) : Prop :=
  ∀ (P42 : S0 → Prop) (P202 : Int → S0 → Prop),
  (∀ (τ : S0), ((τ.1 42 ≤ 0 → Q τ) ∧ (0 < τ.1 42 → (0 ≤ (τ.1 42 - 1) ∧ (τ.1 42 - 1) < 40002) ∧ (∀ (x11 : Int), rg x11 → x11 = τ.2.1 65 (τ.1 42 - 1) → (∀ (x12 : Int), rg x12 → x12 = τ.2.1 66 (τ.1 42 - 1) → (∃ (Q13 : Int → Prop), W_X13_rowWidth x11 τ Q13 ∧ ∀ (x14 : Int), rg x14 → Q13 x14 → ((¬ x12 = x14 → ∀ (x17 : Int), rg x17 → x17 = τ.2.1 66 (τ.1 42 - 1) → (rg (x17 + 1) ∧ (0 ≤ x11 ∧ x11 < 20001) ∧ (∀ (x20 : Int), rg x20 → x20 = τ.2.1 57 x11 → ((0 ≤ (x20 + x12) ∧ (x20 + x12) < 120000) ∧ (∀ (x22 : Int), rg x22 → x22 = τ.2.1 58 (x20 + x12) → ((0 ≤ x22 ∧ x22 < 20001) ∧ (∀ (x24 : Int), rg x24 → x24 = τ.2.1 61 x22 → ((0 ≤ x24 ∧ x24 < 20001) ∧ (∀ (x26 : Int), rg x26 → x26 = τ.2.1 62 x24 → (rg (x26 + 1) ∧ ∀ (x28 : Int), rg x28 → x28 = (st (τ.2.1 62) x24 (x26 + 1)) x24 → ((x28 ≤ 1 → P202 x24 (s_a (s_a τ 66 (τ.1 42 - 1) (x17 + 1)) 62 x24 (x26 + 1))) ∧ (1 < x28 → ∃ (Q30 : Int → Prop), W_X13_rowWidth x24 (s_a (s_a τ 66 (τ.1 42 - 1) (x17 + 1)) 62 x24 (x26 + 1)) Q30 ∧ ∀ (x31 : Int), rg x31 → Q30 x31 → ((x31 ≤ 0 → P202 x24 (s_a (s_a τ 66 (τ.1 42 - 1) (x17 + 1)) 62 x24 (x26 + 1))) ∧ (0 < x31 → (0 ≤ τ.1 44 ∧ τ.1 44 < 40002) ∧ (rg ((-1) - x24) ∧ rg (τ.1 44 + 1) ∧ P42 (s_v (s_a (s_a (s_a τ 66 (τ.1 42 - 1) (x17 + 1)) 62 x24 (x26 + 1)) 70 (τ.1 44) ((-1) - x24)) 44 (τ.1 44 + 1))))))))))))))))) ∧ (x12 = x14 → (0 ≤ τ.1 44 ∧ τ.1 44 < 40002) ∧ (rg (τ.1 44 + 1) ∧ P42 (s_v (s_a (s_v τ 42 (τ.1 42 - 1)) 70 (τ.1 44) x11) 44 (τ.1 44 + 1)))))))))) → P42 τ) →
  (∀ (u3 : Int) (τ : S0), (∃ (Q39 : S0 → Prop), W_X13_enter u3 τ Q39 ∧ ∀ (τ41 : S0), n_m τ41 → f_r [42] [65, 66] [] τ τ41 → Q39 τ41 → (P42 τ41)) → P202 u3 τ) →
  (0 ≤ (σ.1 36 - 1) ∧ (σ.1 36 - 1) < 20001) ∧ (∀ (x2 : Int), rg x2 → x2 = σ.2.1 61 (σ.1 36 - 1) → (∃ (Q3 : S0 → Prop), W_X13_enter x2 (s_v (s_v σ 44 0) 42 0) Q3 ∧ ∀ (τ5 : S0), n_m τ5 → f_r [42] [65, 66] [] (s_v (s_v σ 44 0) 42 0) τ5 → Q3 τ5 → ((0 ≤ (τ5.1 36 - 1) ∧ (τ5.1 36 - 1) < 20001) ∧ (∀ (x7 : Int), rg x7 → x7 = τ5.2.1 61 (τ5.1 36 - 1) → ((0 ≤ x7 ∧ x7 < 20001) ∧ (P42 (s_a τ5 62 x7 1)))))))
set_option maxRecDepth 100000 in
set_option maxHeartbeats 4000000 in
theorem L_X13_tellSteps (l : Launch) (g : gG) (q : Nat → Nat) (lb : Nat) (hlb : lb < 2 ^ 31) {σ : S0} {Q : S0 → Prop} (hN : n_m σ) (hw : W_X13_tellSteps σ Q) (sz : Nat) : MetV l yX13_tellSteps cX13_tellSteps 4 { frames := 1, cells := 0, slots := 0, locals := 22 } g [.ref (q 0)] (MX g q lb σ) sz xT (p_V (MX g q lb) [42, 44] [62, 65, 66, 70] [] σ Q) 0 0 := by
  refine mkMet (Qc := fun A => QV g A (p_V (MX g q lb) [42, 44] [62, 65, 66, 70] [] σ Q)) (by decide) (Nat.le_of_ble_eq_true rfl) ?_
  intro p e s m below meth c A H ls hx hb hr hml hown hts hlk hnm hsz hP hK hNb hD hA hAe hS hX hl
  have hl : lv_has ls 4 [(0, .ref (q 0))] := hl
  have hB := hN
  have hF : f_r [42, 44] [62, 65, 66, 70] [] σ σ := f_0
  obtain ⟨locs, hlocs⟩ : ∃ z : List Loc, z = [] := ⟨_, rfl⟩
  rw [← hlocs] at hS ⊢
  obtain ⟨P42, hP42⟩ : ∃ P : S0 → Prop, ∀ (τ : S0), (P τ ↔ (n_m τ → f_r [42, 44] [62, 65, 66, 70] [] σ τ → ∀ (H : Heap) (locs : List Loc) (ls : Array Slot), KP g (MX g q lb τ) H → va_D A (MX g q lb τ) → va_S A s.heap H locs → lv_has ls 4 [(0, .ref (q 0))] → W p l e ({ frames := 1, cells := 0, slots := 0, locals := 22 }) s m [.ref (q 0)].toArray below meth c H locs 0 0 (MQ below (QV g A (p_V (MX g q lb) [42, 44] [62, 65, 66, 70] [] σ Q)) [.ref (q 0)].toArray s 0 0 A) (F0 m 42 ls []))) := ⟨_, fun _ => Iff.rfl⟩
  obtain ⟨P202, hP202⟩ : ∃ P : Int → S0 → Prop, ∀ (u3 : Int) (τ : S0), (P u3 τ ↔ (rg u3 → n_m τ → f_r [42, 44] [62, 65, 66, 70] [] σ τ → ∀ (H : Heap) (locs : List Loc) (ls : Array Slot), KP g (MX g q lb τ) H → va_D A (MX g q lb τ) → va_S A s.heap H locs → lv_has ls 4 [(0, .ref (q 0)), (3, .int (I u3))] → W p l e ({ frames := 1, cells := 0, slots := 0, locals := 22 }) s m [.ref (q 0)].toArray below meth c H locs 0 0 (MQ below (QV g A (p_V (MX g q lb) [42, 44] [62, 65, 66, 70] [] σ Q)) [.ref (q 0)].toArray s 0 0 A) (F0 m 202 ls []))) := ⟨_, fun _ _ => Iff.rfl⟩
  refine (fun hw => ?_) (hw P42 P202 ?_ ?_)
  ·
    refine lv_aload_n hx hb dX13_tellSteps_0 rfl (lv_at hl 0 rfl) ?_
    refine lv_iconst (v := I 0) hx hb dX13_tellSteps_1 rfl ?_
    refine pfX13_tolds hx hb hts hK hP hD hS hown (hts _ tw_2123) dX13_tellSteps_2 (fun H locs hP hD hS => ?_)
    have hN : n_m (s_v σ 44 0) := n_v (i := 44) hN ((by decide) : rg 0)
    have hF : f_r [42, 44] [62, 65, 66, 70] [] σ (s_v σ 44 0) := f_v hF (by decide)
    refine lv_aload_n hx hb dX13_tellSteps_5 rfl (lv_at hl 0 rfl) ?_
    refine lv_iconst (v := I 0) hx hb dX13_tellSteps_6 rfl ?_
    refine pfX13_walked hx hb hts hK hP hD hS hown (hts _ tw_2117) dX13_tellSteps_7 (fun H locs hP hD hS => ?_)
    have hN : n_m (s_v (s_v σ 44 0) 42 0) := n_v (i := 42) hN ((by decide) : rg 0)
    have hF : f_r [42, 44] [62, 65, 66, 70] [] σ (s_v (s_v σ 44 0) 42 0) := f_v hF (by decide)
    refine lv_aload_n hx hb dX13_tellSteps_10 rfl (lv_at hl 0 rfl) ?_
    refine lv_aload_n hx hb dX13_tellSteps_11 rfl (lv_at hl 0 rfl) ?_
    refine gfX13_sameAs hx hb hts hK hP hown (hts _ tw_2111) dX13_tellSteps_12 ?_
    refine lv_aload_n hx hb dX13_tellSteps_15 rfl (lv_at hl 0 rfl) ?_
    refine gfX13_rowCount hx hb hts hK hP hown (hts _ tw_2103) (x := σ.1 36) rfl dX13_tellSteps_16 ?_
    refine lv_iconst (v := I 1) hx hb dX13_tellSteps_19 rfl ?_
    refine bi_isub hx hb dX13_tellSteps_20 ?_
    obtain ⟨c1, hw⟩ := hw
    refine ldMX13_sameAs hx hb hK hP hN c1 dX13_tellSteps_21 (fun x2 r_x2 e_x2 => ?_)
    replace hw := hw x2 r_x2 e_x2
    obtain ⟨Q3, hc, hw⟩ := hw
    refine wc_V (X := MX g q lb) (va_runV (As := [.int (I x2)]) (rest := []) ⟨hx, hb, hml, hown, hts⟩ (L_X13_enter l g q lb hlb r_x2 hN hc H.size) (cwV 1 hts (TB_V tw_3039 tw_3041 ts_202 tw_15 co_X13_enter) rfl rfl rfl (by decide +kernel) ⟨Nat.le_of_ble_eq_true rfl, Nat.le_of_ble_eq_true rfl⟩) (preV (q0 := 0) (ci := 13) rfl xT_bl hP hK hNb hD rfl rfl xT_at) rfl rfl hl.1 rfl (lv_room (Nat.le_of_ble_eq_true rfl)) dX13_tellSteps_22 ⟨Nat.le_of_ble_eq_true rfl, Nat.le_of_ble_eq_true rfl⟩) hP hD hS hA (fun τ5 H locs hN hf hq hP hD hS => ?_)
    replace hw := hw τ5 hN hf hq
    have hF : f_r [42, 44] [62, 65, 66, 70] [] σ τ5 := f_t hF hf (by decide) (by decide) (by decide)
    have hB := hN
    refine lv_aload_n hx hb dX13_tellSteps_25 rfl (lv_at hl 0 rfl) ?_
    refine gfX13_uses hx hb hts hK hP hown (hts _ tw_2112) dX13_tellSteps_26 ?_
    refine lv_aload_n hx hb dX13_tellSteps_29 rfl (lv_at hl 0 rfl) ?_
    refine gfX13_sameAs hx hb hts hK hP hown (hts _ tw_2111) dX13_tellSteps_30 ?_
    refine lv_aload_n hx hb dX13_tellSteps_33 rfl (lv_at hl 0 rfl) ?_
    refine gfX13_rowCount hx hb hts hK hP hown (hts _ tw_2103) (x := τ5.1 36) rfl dX13_tellSteps_34 ?_
    refine lv_iconst (v := I 1) hx hb dX13_tellSteps_37 rfl ?_
    refine bi_isub hx hb dX13_tellSteps_38 ?_
    obtain ⟨c6, hw⟩ := hw
    refine ldMX13_sameAs hx hb hK hP hN c6 dX13_tellSteps_39 (fun x7 r_x7 e_x7 => ?_)
    replace hw := hw x7 r_x7 e_x7
    refine lv_iconst (v := I 1) hx hb dX13_tellSteps_40 rfl ?_
    obtain ⟨c8, hw⟩ := hw
    refine sdMX13_uses hx hb hK hP hD hS c8 dX13_tellSteps_41 (fun H locs hP hD hS => ?_)
    have hN : n_m (s_a τ5 62 x7 1) := n_a (k := 62) (j := x7) hN ((by decide) : rg 1)
    have hF : f_r [42, 44] [62, 65, 66, 70] [] σ (s_a τ5 62 x7 1) := f_a hF (by decide)
    exact (hP42 _).mp hw hN hF H locs ls hP hD hS (lv_sub hl [0] rfl)
  ·
    intro τ hw
    refine (hP42 _).mpr ?_
    intro hN hF H locs ls hP hD hS hl
    have hB := hN
    refine lv_aload_n hx hb dX13_tellSteps_42 rfl (lv_at hl 0 rfl) ?_
    refine gfX13_walked hx hb hts hK hP hown (hts _ tw_2117) (x := τ.1 42) rfl dX13_tellSteps_43 ?_
    refine bi_if_le (tgt := 210) hx hb (hB.1 42) dX13_tellSteps_46 (by decide) (fun c9 => ?_) (fun c9 => ?_)
    ·
      replace hw := hw.1 c9
      exact xrv hx hb hr hlk hP hK hD hS ⟨_, hN, hF, rfl, hw⟩ (Nat.le_of_ble_eq_true rfl) (Nat.le_of_ble_eq_true rfl) dX13_tellSteps_210
    ·
      replace hw := hw.2 c9
      refine lv_aload_n hx hb dX13_tellSteps_49 rfl (lv_at hl 0 rfl) ?_
      refine gfX13_walk hx hb hts hK hP hown (hts _ tw_2115) dX13_tellSteps_50 ?_
      refine lv_aload_n hx hb dX13_tellSteps_53 rfl (lv_at hl 0 rfl) ?_
      refine gfX13_walked hx hb hts hK hP hown (hts _ tw_2117) (x := τ.1 42) rfl dX13_tellSteps_54 ?_
      refine lv_iconst (v := I 1) hx hb dX13_tellSteps_57 rfl ?_
      refine bi_isub hx hb dX13_tellSteps_58 ?_
      obtain ⟨c10, hw⟩ := hw
      refine ldMX13_walk hx hb hK hP hN c10 dX13_tellSteps_59 (fun x11 r_x11 e_x11 => ?_)
      replace hw := hw x11 r_x11 e_x11
      refine lv_istore_n (lv' := [(1, .int (I x11)), (0, .ref (q 0))]) hx hb dX13_tellSteps_60 rfl hl (by decide) rfl (fun ls hl => ?_)
      refine lv_aload_n hx hb dX13_tellSteps_61 rfl (lv_at hl 1 rfl) ?_
      refine gfX13_walkKid hx hb hts hK hP hown (hts _ tw_2116) dX13_tellSteps_62 ?_
      refine lv_aload_n hx hb dX13_tellSteps_65 rfl (lv_at hl 1 rfl) ?_
      refine gfX13_walked hx hb hts hK hP hown (hts _ tw_2117) (x := τ.1 42) rfl dX13_tellSteps_66 ?_
      refine lv_iconst (v := I 1) hx hb dX13_tellSteps_69 rfl ?_
      refine bi_isub hx hb dX13_tellSteps_70 ?_
      refine ldMX13_walkKid hx hb hK hP hN c10 dX13_tellSteps_71 (fun x12 r_x12 e_x12 => ?_)
      replace hw := hw x12 r_x12 e_x12
      refine lv_istore_n (lv' := [(2, .int (I x12)), (1, .int (I x11)), (0, .ref (q 0))]) hx hb dX13_tellSteps_72 rfl hl (by decide) rfl (fun ls hl => ?_)
      refine lv_iload_n hx hb dX13_tellSteps_73 rfl (lv_at hl 0 rfl) ?_
      refine lv_aload_n hx hb dX13_tellSteps_74 rfl (lv_at hl 2 rfl) ?_
      refine lv_iload_n hx hb dX13_tellSteps_75 rfl (lv_at hl 1 rfl) ?_
      obtain ⟨Q13, hc, hw⟩ := hw
      refine wc_i (X := MX g q lb) (va_runV (As := [.int (I x11)]) (rest := [.int (I x12)]) ⟨hx, hb, hml, hown, hts⟩ (L_X13_rowWidth l g q lb hlb r_x11 hN hc H.size) (cwV 1 hts (TB_V tw_2877 tw_2879 ts_169 tw_15 co_X13_rowWidth) rfl rfl rfl (by decide +kernel) ⟨Nat.le_of_ble_eq_true rfl, Nat.le_of_ble_eq_true rfl⟩) (preV (q0 := 0) (ci := 13) rfl xT_bl hP hK hNb hD rfl rfl xT_at) rfl rfl hl.1 rfl (lv_room (Nat.le_of_ble_eq_true rfl)) dX13_tellSteps_76 ⟨Nat.le_of_ble_eq_true rfl, Nat.le_of_ble_eq_true rfl⟩) hP hD hS hA (fun x14 H locs r_x14 hq hP hD hS => ?_)
      replace hw := hw x14 r_x14 hq
      refine bi_icmp_ne (tgt := 115) hx hb r_x12 r_x14 dX13_tellSteps_79 (by decide) (fun c16 => ?_) (fun c16 => ?_)
      ·
        replace hw := hw.1 c16
        refine lv_aload_n hx hb dX13_tellSteps_115 rfl (lv_at hl 2 rfl) ?_
        refine gfX13_walkKid hx hb hts hK hP hown (hts _ tw_2116) dX13_tellSteps_116 ?_
        refine lv_aload_n hx hb dX13_tellSteps_119 rfl (lv_at hl 2 rfl) ?_
        refine gfX13_walked hx hb hts hK hP hown (hts _ tw_2117) (x := τ.1 42) rfl dX13_tellSteps_120 ?_
        refine lv_iconst (v := I 1) hx hb dX13_tellSteps_123 rfl ?_
        refine bi_isub hx hb dX13_tellSteps_124 ?_
        refine lv_dup2_11 hx hb dX13_tellSteps_125 rfl rfl ?_
        refine ldMX13_walkKid hx hb hK hP hN c10 dX13_tellSteps_126 (fun x17 r_x17 e_x17 => ?_)
        replace hw := hw x17 r_x17 e_x17
        refine lv_iconst (v := I 1) hx hb dX13_tellSteps_127 rfl ?_
        refine bi_iadd hx hb dX13_tellSteps_128 ?_
        obtain ⟨c18, hw⟩ := hw
        refine sdMX13_walkKid hx hb hK hP hD hS c10 dX13_tellSteps_129 (fun H locs hP hD hS => ?_)
        have hN : n_m (s_a τ 66 (τ.1 42 - 1) (x17 + 1)) := n_a (k := 66) (j := (τ.1 42 - 1)) hN (c18 : rg (x17 + 1))
        have hF : f_r [42, 44] [62, 65, 66, 70] [] σ (s_a τ 66 (τ.1 42 - 1) (x17 + 1)) := f_a hF (by decide)
        refine lv_aload_n hx hb dX13_tellSteps_130 rfl (lv_at hl 2 rfl) ?_
        refine gfX13_sameAs hx hb hts hK hP hown (hts _ tw_2111) dX13_tellSteps_131 ?_
        refine lv_aload_n hx hb dX13_tellSteps_134 rfl (lv_at hl 2 rfl) ?_
        refine gfX13_rowFroms hx hb hts hK hP hown (hts _ tw_2102) dX13_tellSteps_135 ?_
        refine lv_aload_n hx hb dX13_tellSteps_138 rfl (lv_at hl 2 rfl) ?_
        refine gfX13_rowFromAt hx hb hts hK hP hown (hts _ tw_2101) dX13_tellSteps_139 ?_
        refine lv_iload_n hx hb dX13_tellSteps_142 rfl (lv_at hl 1 rfl) ?_
        obtain ⟨c19, hw⟩ := hw
        refine ldMX13_rowFromAt hx hb hK hP hN c19 dX13_tellSteps_143 (fun x20 r_x20 e_x20 => ?_)
        replace hw := hw x20 r_x20 e_x20
        refine lv_iload_n hx hb dX13_tellSteps_144 rfl (lv_at hl 0 rfl) ?_
        refine bi_iadd hx hb dX13_tellSteps_145 ?_
        obtain ⟨c21, hw⟩ := hw
        refine ldMX13_rowFroms hx hb hK hP hN c21 dX13_tellSteps_146 (fun x22 r_x22 e_x22 => ?_)
        replace hw := hw x22 r_x22 e_x22
        obtain ⟨c23, hw⟩ := hw
        refine ldMX13_sameAs hx hb hK hP hN c23 dX13_tellSteps_147 (fun x24 r_x24 e_x24 => ?_)
        replace hw := hw x24 r_x24 e_x24
        refine lv_istore_n (lv' := [(3, .int (I x24)), (2, .int (I x12)), (1, .int (I x11)), (0, .ref (q 0))]) hx hb dX13_tellSteps_148 rfl hl (by decide) rfl (fun ls hl => ?_)
        refine lv_aload_n hx hb dX13_tellSteps_149 rfl (lv_at hl 3 rfl) ?_
        refine gfX13_uses hx hb hts hK hP hown (hts _ tw_2112) dX13_tellSteps_150 ?_
        refine lv_iload_n hx hb dX13_tellSteps_153 rfl (lv_at hl 0 rfl) ?_
        refine lv_dup2_11 hx hb dX13_tellSteps_154 rfl rfl ?_
        obtain ⟨c25, hw⟩ := hw
        refine ldMX13_uses hx hb hK hP hN c25 dX13_tellSteps_155 (fun x26 r_x26 e_x26 => ?_)
        replace hw := hw x26 r_x26 e_x26
        refine lv_iconst (v := I 1) hx hb dX13_tellSteps_156 rfl ?_
        refine bi_iadd hx hb dX13_tellSteps_157 ?_
        obtain ⟨c27, hw⟩ := hw
        refine sdMX13_uses hx hb hK hP hD hS c25 dX13_tellSteps_158 (fun H locs hP hD hS => ?_)
        have hN : n_m (s_a (s_a τ 66 (τ.1 42 - 1) (x17 + 1)) 62 x24 (x26 + 1)) := n_a (k := 62) (j := x24) hN (c27 : rg (x26 + 1))
        have hF : f_r [42, 44] [62, 65, 66, 70] [] σ (s_a (s_a τ 66 (τ.1 42 - 1) (x17 + 1)) 62 x24 (x26 + 1)) := f_a hF (by decide)
        refine lv_aload_n hx hb dX13_tellSteps_159 rfl (lv_at hl 3 rfl) ?_
        refine gfX13_uses hx hb hts hK hP hown (hts _ tw_2112) dX13_tellSteps_160 ?_
        refine lv_iload_n hx hb dX13_tellSteps_163 rfl (lv_at hl 0 rfl) ?_
        refine ldMX13_uses hx hb hK hP hN c25 dX13_tellSteps_164 (fun x28 r_x28 e_x28 => ?_)
        replace hw := hw x28 r_x28 e_x28
        refine lv_iconst (v := I 1) hx hb dX13_tellSteps_165 rfl ?_
        refine bi_icmp_le (tgt := 202) hx hb r_x28 (by decide) dX13_tellSteps_166 (by decide) (fun c29 => ?_) (fun c29 => ?_)
        ·
          replace hw := hw.1 c29
          exact (hP202 _ _).mp hw r_x24 hN hF H locs ls hP hD hS (lv_sub hl [3, 0] rfl)
        ·
          replace hw := hw.2 c29
          refine lv_aload_n hx hb dX13_tellSteps_169 rfl (lv_at hl 3 rfl) ?_
          refine lv_iload_n hx hb dX13_tellSteps_170 rfl (lv_at hl 0 rfl) ?_
          obtain ⟨Q30, hc, hw⟩ := hw
          refine wc_i (X := MX g q lb) (va_runV (As := [.int (I x24)]) (rest := []) ⟨hx, hb, hml, hown, hts⟩ (L_X13_rowWidth l g q lb hlb r_x24 hN hc H.size) (cwV 1 hts (TB_V tw_2877 tw_2879 ts_169 tw_15 co_X13_rowWidth) rfl rfl rfl (by decide +kernel) ⟨Nat.le_of_ble_eq_true rfl, Nat.le_of_ble_eq_true rfl⟩) (preV (q0 := 0) (ci := 13) rfl xT_bl hP hK hNb hD rfl rfl xT_at) rfl rfl hl.1 rfl (lv_room (Nat.le_of_ble_eq_true rfl)) dX13_tellSteps_171 ⟨Nat.le_of_ble_eq_true rfl, Nat.le_of_ble_eq_true rfl⟩) hP hD hS hA (fun x31 H locs r_x31 hq hP hD hS => ?_)
          replace hw := hw x31 r_x31 hq
          refine bi_if_le (tgt := 202) hx hb r_x31 dX13_tellSteps_174 (by decide) (fun c33 => ?_) (fun c33 => ?_)
          ·
            replace hw := hw.1 c33
            exact (hP202 _ _).mp hw r_x24 hN hF H locs ls hP hD hS (lv_sub hl [3, 0] rfl)
          ·
            replace hw := hw.2 c33
            refine lv_aload_n hx hb dX13_tellSteps_177 rfl (lv_at hl 3 rfl) ?_
            refine gfX13_told hx hb hts hK hP hown (hts _ tw_2122) dX13_tellSteps_178 ?_
            refine lv_aload_n hx hb dX13_tellSteps_181 rfl (lv_at hl 3 rfl) ?_
            refine gfX13_tolds hx hb hts hK hP hown (hts _ tw_2123) (x := τ.1 44) rfl dX13_tellSteps_182 ?_
            refine lv_iconst (v := I (-1)) hx hb dX13_tellSteps_185 rfl ?_
            refine lv_iload_n hx hb dX13_tellSteps_186 rfl (lv_at hl 0 rfl) ?_
            refine bi_isub hx hb dX13_tellSteps_187 ?_
            obtain ⟨c34, hw⟩ := hw
            obtain ⟨c35, hw⟩ := hw
            refine sdMX13_told hx hb hK hP hD hS c34 dX13_tellSteps_188 (fun H locs hP hD hS => ?_)
            have hN : n_m (s_a (s_a (s_a τ 66 (τ.1 42 - 1) (x17 + 1)) 62 x24 (x26 + 1)) 70 (τ.1 44) ((-1) - x24)) := n_a (k := 70) (j := τ.1 44) hN (c35 : rg ((-1) - x24))
            have hF : f_r [42, 44] [62, 65, 66, 70] [] σ (s_a (s_a (s_a τ 66 (τ.1 42 - 1) (x17 + 1)) 62 x24 (x26 + 1)) 70 (τ.1 44) ((-1) - x24)) := f_a hF (by decide)
            refine lv_aload_n hx hb dX13_tellSteps_189 rfl (lv_at hl 3 rfl) ?_
            refine lv_dup hx hb dX13_tellSteps_190 rfl ?_
            refine gfX13_tolds hx hb hts hK hP hown (hts _ tw_2123) (x := τ.1 44) rfl dX13_tellSteps_191 ?_
            refine lv_iconst (v := I 1) hx hb dX13_tellSteps_194 rfl ?_
            refine bi_iadd hx hb dX13_tellSteps_195 ?_
            obtain ⟨c36, hw⟩ := hw
            refine pfX13_tolds hx hb hts hK hP hD hS hown (hts _ tw_2123) dX13_tellSteps_196 (fun H locs hP hD hS => ?_)
            have hN : n_m (s_v (s_a (s_a (s_a τ 66 (τ.1 42 - 1) (x17 + 1)) 62 x24 (x26 + 1)) 70 (τ.1 44) ((-1) - x24)) 44 (τ.1 44 + 1)) := n_v (i := 44) hN (c36 : rg (τ.1 44 + 1))
            have hF : f_r [42, 44] [62, 65, 66, 70] [] σ (s_v (s_a (s_a (s_a τ 66 (τ.1 42 - 1) (x17 + 1)) 62 x24 (x26 + 1)) 70 (τ.1 44) ((-1) - x24)) 44 (τ.1 44 + 1)) := f_v hF (by decide)
            refine lv_goto (tgt := 207) hx hb dX13_tellSteps_199 (by decide) ?_
            refine lv_goto (tgt := 42) hx hb dX13_tellSteps_207 (by decide) ?_
            exact (hP42 _).mp hw hN hF H locs ls hP hD hS (lv_sub hl [3] rfl)
      ·
        replace hw := hw.2 c16
        refine lv_aload_n hx hb dX13_tellSteps_82 rfl (lv_at hl 2 rfl) ?_
        refine lv_dup hx hb dX13_tellSteps_83 rfl ?_
        refine gfX13_walked hx hb hts hK hP hown (hts _ tw_2117) (x := τ.1 42) rfl dX13_tellSteps_84 ?_
        refine lv_iconst (v := I 1) hx hb dX13_tellSteps_87 rfl ?_
        refine bi_isub hx hb dX13_tellSteps_88 ?_
        refine pfX13_walked hx hb hts hK hP hD hS hown (hts _ tw_2117) dX13_tellSteps_89 (fun H locs hP hD hS => ?_)
        have hN : n_m (s_v τ 42 (τ.1 42 - 1)) := n_v (i := 42) hN ((rg_ix c10.1 c10.2 (by decide)) : rg (τ.1 42 - 1))
        have hF : f_r [42, 44] [62, 65, 66, 70] [] σ (s_v τ 42 (τ.1 42 - 1)) := f_v hF (by decide)
        refine lv_aload_n hx hb dX13_tellSteps_92 rfl (lv_at hl 2 rfl) ?_
        refine gfX13_told hx hb hts hK hP hown (hts _ tw_2122) dX13_tellSteps_93 ?_
        refine lv_aload_n hx hb dX13_tellSteps_96 rfl (lv_at hl 2 rfl) ?_
        refine gfX13_tolds hx hb hts hK hP hown (hts _ tw_2123) (x := τ.1 44) rfl dX13_tellSteps_97 ?_
        refine lv_iload_n hx hb dX13_tellSteps_100 rfl (lv_at hl 1 rfl) ?_
        obtain ⟨c37, hw⟩ := hw
        refine sdMX13_told hx hb hK hP hD hS c37 dX13_tellSteps_101 (fun H locs hP hD hS => ?_)
        have hN : n_m (s_a (s_v τ 42 (τ.1 42 - 1)) 70 (τ.1 44) x11) := n_a (k := 70) (j := τ.1 44) hN (r_x11 : rg x11)
        have hF : f_r [42, 44] [62, 65, 66, 70] [] σ (s_a (s_v τ 42 (τ.1 42 - 1)) 70 (τ.1 44) x11) := f_a hF (by decide)
        refine lv_aload_n hx hb dX13_tellSteps_102 rfl (lv_at hl 2 rfl) ?_
        refine lv_dup hx hb dX13_tellSteps_103 rfl ?_
        refine gfX13_tolds hx hb hts hK hP hown (hts _ tw_2123) (x := τ.1 44) rfl dX13_tellSteps_104 ?_
        refine lv_iconst (v := I 1) hx hb dX13_tellSteps_107 rfl ?_
        refine bi_iadd hx hb dX13_tellSteps_108 ?_
        obtain ⟨c38, hw⟩ := hw
        refine pfX13_tolds hx hb hts hK hP hD hS hown (hts _ tw_2123) dX13_tellSteps_109 (fun H locs hP hD hS => ?_)
        have hN : n_m (s_v (s_a (s_v τ 42 (τ.1 42 - 1)) 70 (τ.1 44) x11) 44 (τ.1 44 + 1)) := n_v (i := 44) hN (c38 : rg (τ.1 44 + 1))
        have hF : f_r [42, 44] [62, 65, 66, 70] [] σ (s_v (s_a (s_v τ 42 (τ.1 42 - 1)) 70 (τ.1 44) x11) 44 (τ.1 44 + 1)) := f_v hF (by decide)
        refine lv_goto (tgt := 42) hx hb dX13_tellSteps_112 (by decide) ?_
        exact (hP42 _).mp hw hN hF H locs ls hP hD hS (lv_sub hl [2] rfl)
  ·
    intro u3 τ hw
    refine (hP202 _ _).mpr ?_
    intro r_u3 hN hF H locs ls hP hD hS hl
    have hB := hN
    refine lv_aload_n hx hb dX13_tellSteps_202 rfl (lv_at hl 0 rfl) ?_
    refine lv_iload_n hx hb dX13_tellSteps_203 rfl (lv_at hl 1 rfl) ?_
    obtain ⟨Q39, hc, hw⟩ := hw
    refine wc_V (X := MX g q lb) (va_runV (As := [.int (I u3)]) (rest := []) ⟨hx, hb, hml, hown, hts⟩ (L_X13_enter l g q lb hlb r_u3 hN hc H.size) (cwV 1 hts (TB_V tw_3039 tw_3041 ts_202 tw_15 co_X13_enter) rfl rfl rfl (by decide +kernel) ⟨Nat.le_of_ble_eq_true rfl, Nat.le_of_ble_eq_true rfl⟩) (preV (q0 := 0) (ci := 13) rfl xT_bl hP hK hNb hD rfl rfl xT_at) rfl rfl hl.1 rfl (lv_room (Nat.le_of_ble_eq_true rfl)) dX13_tellSteps_204 ⟨Nat.le_of_ble_eq_true rfl, Nat.le_of_ble_eq_true rfl⟩) hP hD hS hA (fun τ41 H locs hN hf hq hP hD hS => ?_)
    replace hw := hw τ41 hN hf hq
    have hF : f_r [42, 44] [62, 65, 66, 70] [] σ τ41 := f_t hF hf (by decide) (by decide) (by decide)
    have hB := hN
    refine lv_goto (tgt := 42) hx hb dX13_tellSteps_207 (by decide) ?_
    exact (hP42 _).mp hw hN hF H locs ls hP hD hS (lv_sub hl [0] rfl)
def W_X13_putNumber (n1 : Int) (σ : S0) (Q : S0 → Prop) : Prop :=
  ∀ (P15 : Int → Int → Int → Int → Int → S0 → Prop) (P40 : Int → Int → Int → Int → S0 → Prop) (P51 : Int → Int → Int → Int → Int → Int → S0 → Prop),
  (∀ (u1 : Int) (u2 : Int) (u3 : Int) (u4 : Int) (u5 : Int) (τ : S0), ((u5 ≤ 0 → rg (u4 - 1) ∧ P40 u1 u2 u3 (u4 - 1) τ) ∧ (0 < u5 → rg (u5 - 1) ∧ ∀ (x6 : Int), rg x6 → (0 ≤ (u5 - 1) → x6 = (u5 - 1) / 5) → ((u5 - 1) < 0 → x6 = -((-(u5 - 1)) / 5)) → (rg (u4 + 1) ∧ P15 u1 u2 u3 (u4 + 1) x6 τ))) → P15 u1 u2 u3 u4 u5 τ) →
  (∀ (u1 : Int) (u2 : Int) (u3 : Int) (u5 : Int) (τ : S0), ((u5 < 0 → rg (u1 - 1) ∧ ∀ (x10 : Int), rg x10 → (0 ≤ (u1 - 1) → x10 = (u1 - 1) % 20) → ((u1 - 1) < 0 → x10 = -((-(u1 - 1)) % 20)) → (rg ((64 + u3) + x10) ∧ ∃ (Q12 : S0 → Prop), W_X13_put ((64 + u3) + x10) τ Q12 ∧ ∀ (τ14 : S0), n_m τ14 → f_r [39] [59] [] τ τ14 → Q12 τ14 → (Q τ14))) ∧ (0 ≤ u5 → P51 u1 u2 u3 u5 u2 0 τ)) → P40 u1 u2 u3 u5 τ) →
  (∀ (u1 : Int) (u2 : Int) (u3 : Int) (u5 : Int) (u6 : Int) (u7 : Int) (τ : S0), ((u5 ≤ u7 → rg (u6 - 1) ∧ ∀ (x17 : Int), rg x17 → (0 ≤ (u6 - 1) → x17 = (u6 - 1) % 5) → ((u6 - 1) < 0 → x17 = -((-(u6 - 1)) % 5)) → (rg (85 + x17) ∧ ∃ (Q19 : S0 → Prop), W_X13_put (85 + x17) τ Q19 ∧ ∀ (τ21 : S0), n_m τ21 → f_r [39] [59] [] τ τ21 → Q19 τ21 → (rg (u5 + (-1)) ∧ P40 u1 u2 u3 (u5 + (-1)) τ21))) ∧ (u7 < u5 → rg (u6 - 1) ∧ ∀ (x24 : Int), rg x24 → (0 ≤ (u6 - 1) → x24 = (u6 - 1) / 5) → ((u6 - 1) < 0 → x24 = -((-(u6 - 1)) / 5)) → (rg (u7 + 1) ∧ P51 u1 u2 u3 u5 x24 (u7 + 1) τ))) → P51 u1 u2 u3 u5 u6 u7 τ) →
  rg (n1 - 1) ∧ ∀ (x2 : Int), rg x2 → (0 ≤ (n1 - 1) → x2 = (n1 - 1) / 20) → ((n1 - 1) < 0 → x2 = -((-(n1 - 1)) / 20)) → (P15 n1 x2 1 0 x2 σ)
set_option maxRecDepth 100000 in
set_option maxHeartbeats 4000000 in
theorem L_X13_putNumber (l : Launch) (g : gG) (q : Nat → Nat) (lb : Nat) (hlb : lb < 2 ^ 31) {n1 : Int} {σ : S0} {Q : S0 → Prop} (r_n1 : rg n1) (hN : n_m σ) (hw : W_X13_putNumber n1 σ Q) (sz : Nat) : MetV l yX13_putNumber cX13_putNumber 8 { frames := 1, cells := 0, slots := 0, locals := 21 } g [.ref (q 0), .int (I n1)] (MX g q lb σ) sz xT (p_V (MX g q lb) [39] [59] [] σ Q) 0 0 := by
  refine mkMet (Qc := fun A => QV g A (p_V (MX g q lb) [39] [59] [] σ Q)) (by decide) (Nat.le_of_ble_eq_true rfl) ?_
  intro p e s m below meth c A H ls hx hb hr hml hown hts hlk hnm hsz hP hK hNb hD hA hAe hS hX hl
  have hl : lv_has ls 8 [(0, .ref (q 0)), (1, .int (I n1))] := hl
  have hB := hN
  have hF : f_r [39] [59] [] σ σ := f_0
  obtain ⟨locs, hlocs⟩ : ∃ z : List Loc, z = [] := ⟨_, rfl⟩
  rw [← hlocs] at hS ⊢
  obtain ⟨P15, hP15⟩ : ∃ P : Int → Int → Int → Int → Int → S0 → Prop, ∀ (u1 : Int) (u2 : Int) (u3 : Int) (u4 : Int) (u5 : Int) (τ : S0), (P u1 u2 u3 u4 u5 τ ↔ (rg u1 → rg u2 → rg u3 → rg u4 → rg u5 → n_m τ → f_r [39] [59] [] σ τ → ∀ (H : Heap) (locs : List Loc) (ls : Array Slot), KP g (MX g q lb τ) H → va_D A (MX g q lb τ) → va_S A s.heap H locs → lv_has ls 8 [(0, .ref (q 0)), (1, .int (I u1)), (2, .int (I u2)), (3, .int (I u3)), (4, .int (I u4)), (5, .int (I u5))] → W p l e ({ frames := 1, cells := 0, slots := 0, locals := 21 }) s m [.ref (q 0), .int (I n1)].toArray below meth c H locs 0 0 (MQ below (QV g A (p_V (MX g q lb) [39] [59] [] σ Q)) [.ref (q 0), .int (I n1)].toArray s 0 0 A) (F0 m 15 ls []))) := ⟨_, fun _ _ _ _ _ _ => Iff.rfl⟩
  obtain ⟨P40, hP40⟩ : ∃ P : Int → Int → Int → Int → S0 → Prop, ∀ (u1 : Int) (u2 : Int) (u3 : Int) (u5 : Int) (τ : S0), (P u1 u2 u3 u5 τ ↔ (rg u1 → rg u2 → rg u3 → rg u5 → n_m τ → f_r [39] [59] [] σ τ → ∀ (H : Heap) (locs : List Loc) (ls : Array Slot), KP g (MX g q lb τ) H → va_D A (MX g q lb τ) → va_S A s.heap H locs → lv_has ls 8 [(0, .ref (q 0)), (1, .int (I u1)), (2, .int (I u2)), (3, .int (I u3)), (5, .int (I u5))] → W p l e ({ frames := 1, cells := 0, slots := 0, locals := 21 }) s m [.ref (q 0), .int (I n1)].toArray below meth c H locs 0 0 (MQ below (QV g A (p_V (MX g q lb) [39] [59] [] σ Q)) [.ref (q 0), .int (I n1)].toArray s 0 0 A) (F0 m 40 ls []))) := ⟨_, fun _ _ _ _ _ => Iff.rfl⟩
  obtain ⟨P51, hP51⟩ : ∃ P : Int → Int → Int → Int → Int → Int → S0 → Prop, ∀ (u1 : Int) (u2 : Int) (u3 : Int) (u5 : Int) (u6 : Int) (u7 : Int) (τ : S0), (P u1 u2 u3 u5 u6 u7 τ ↔ (rg u1 → rg u2 → rg u3 → rg u5 → rg u6 → rg u7 → n_m τ → f_r [39] [59] [] σ τ → ∀ (H : Heap) (locs : List Loc) (ls : Array Slot), KP g (MX g q lb τ) H → va_D A (MX g q lb τ) → va_S A s.heap H locs → lv_has ls 8 [(0, .ref (q 0)), (1, .int (I u1)), (2, .int (I u2)), (3, .int (I u3)), (5, .int (I u5)), (6, .int (I u6)), (7, .int (I u7))] → W p l e ({ frames := 1, cells := 0, slots := 0, locals := 21 }) s m [.ref (q 0), .int (I n1)].toArray below meth c H locs 0 0 (MQ below (QV g A (p_V (MX g q lb) [39] [59] [] σ Q)) [.ref (q 0), .int (I n1)].toArray s 0 0 A) (F0 m 51 ls []))) := ⟨_, fun _ _ _ _ _ _ _ => Iff.rfl⟩
  refine (fun hw => ?_) (hw P15 P40 P51 ?_ ?_ ?_)
  ·
    refine lv_iload_n hx hb dX13_putNumber_0 rfl (lv_at hl 1 rfl) ?_
    refine lv_iconst (v := I 1) hx hb dX13_putNumber_1 rfl ?_
    refine bi_isub hx hb dX13_putNumber_2 ?_
    refine lv_bipush (v := I 20) hx hb dX13_putNumber_3 (by decide) ?_
    obtain ⟨c1, hw⟩ := hw
    refine bi_idiv hx hb c1 (by decide) (by decide) dX13_putNumber_5 (fun x2 r_x2 p_x2 m_x2 => ?_)
    replace hw := hw x2 r_x2 p_x2 m_x2
    refine lv_istore_n (lv' := [(2, .int (I x2)), (0, .ref (q 0)), (1, .int (I n1))]) hx hb dX13_putNumber_6 rfl hl (by decide) rfl (fun ls hl => ?_)
    refine lv_iconst (v := I 1) hx hb dX13_putNumber_7 rfl ?_
    refine lv_istore_n (lv' := [(3, .int (I 1)), (2, .int (I x2)), (0, .ref (q 0)), (1, .int (I n1))]) hx hb dX13_putNumber_8 rfl hl (by decide) rfl (fun ls hl => ?_)
    refine lv_iconst (v := I 0) hx hb dX13_putNumber_9 rfl ?_
    refine lv_istore (lv' := [(4, .int (I 0)), (3, .int (I 1)), (2, .int (I x2)), (0, .ref (q 0)), (1, .int (I n1))]) hx hb dX13_putNumber_10 hl (by decide) rfl (fun ls hl => ?_)
    refine lv_iload_n hx hb dX13_putNumber_12 rfl (lv_at hl 2 rfl) ?_
    refine lv_istore (lv' := [(5, .int (I x2)), (4, .int (I 0)), (3, .int (I 1)), (2, .int (I x2)), (0, .ref (q 0)), (1, .int (I n1))]) hx hb dX13_putNumber_13 hl (by decide) rfl (fun ls hl => ?_)
    exact (hP15 _ _ _ _ _ _).mp hw r_n1 r_x2 (by decide) (by decide) r_x2 hN hF H locs ls hP hD hS (lv_sub hl [4, 5, 3, 2, 1, 0] rfl)
  ·
    intro u1 u2 u3 u4 u5 τ hw
    refine (hP15 _ _ _ _ _ _).mpr ?_
    intro r_u1 r_u2 r_u3 r_u4 r_u5 hN hF H locs ls hP hD hS hl
    have hB := hN
    refine lv_iload hx hb dX13_putNumber_15 (lv_at hl 5 rfl) ?_
    refine bi_if_le (tgt := 34) hx hb r_u5 dX13_putNumber_17 (by decide) (fun c3 => ?_) (fun c3 => ?_)
    ·
      replace hw := hw.1 c3
      refine lv_iload hx hb dX13_putNumber_34 (lv_at hl 4 rfl) ?_
      refine lv_iconst (v := I 1) hx hb dX13_putNumber_36 rfl ?_
      refine bi_isub hx hb dX13_putNumber_37 ?_
      refine lv_istore (lv' := [(5, .int (I (u4 - 1))), (0, .ref (q 0)), (1, .int (I u1)), (2, .int (I u2)), (3, .int (I u3)), (4, .int (I u4))]) hx hb dX13_putNumber_38 hl (by decide) rfl (fun ls hl => ?_)
      obtain ⟨c4, hw⟩ := hw
      exact (hP40 _ _ _ _ _).mp hw r_u1 r_u2 r_u3 c4 hN hF H locs ls hP hD hS (lv_sub hl [1, 2, 3, 4, 0] rfl)
    ·
      replace hw := hw.2 c3
      refine lv_iinc (v := I (u4 + 1)) (lv' := [(4, .int (I (u4 + 1))), (0, .ref (q 0)), (1, .int (I u1)), (2, .int (I u2)), (3, .int (I u3)), (5, .int (I u5))]) hx hb dX13_putNumber_20 hl (k := 4) rfl (I_add _ _) (by decide) rfl (fun ls hl => ?_)
      refine lv_iload hx hb dX13_putNumber_23 (lv_at hl 5 rfl) ?_
      refine lv_iconst (v := I 1) hx hb dX13_putNumber_25 rfl ?_
      refine bi_isub hx hb dX13_putNumber_26 ?_
      refine lv_iconst (v := I 5) hx hb dX13_putNumber_27 rfl ?_
      obtain ⟨c5, hw⟩ := hw
      refine bi_idiv hx hb c5 (by decide) (by decide) dX13_putNumber_28 (fun x6 r_x6 p_x6 m_x6 => ?_)
      replace hw := hw x6 r_x6 p_x6 m_x6
      refine lv_istore (lv' := [(5, .int (I x6)), (4, .int (I (u4 + 1))), (0, .ref (q 0)), (1, .int (I u1)), (2, .int (I u2)), (3, .int (I u3))]) hx hb dX13_putNumber_29 hl (by decide) rfl (fun ls hl => ?_)
      refine lv_goto (tgt := 15) hx hb dX13_putNumber_31 (by decide) ?_
      obtain ⟨c7, hw⟩ := hw
      exact (hP15 _ _ _ _ _ _).mp hw r_u1 r_u2 r_u3 c7 r_x6 hN hF H locs ls hP hD hS (lv_sub hl [2, 3, 4, 5, 1, 0] rfl)
  ·
    intro u1 u2 u3 u5 τ hw
    refine (hP40 _ _ _ _ _).mpr ?_
    intro r_u1 r_u2 r_u3 r_u5 hN hF H locs ls hP hD hS hl
    have hB := hN
    refine lv_iload hx hb dX13_putNumber_40 (lv_at hl 4 rfl) ?_
    refine bi_if_lt (tgt := 91) hx hb r_u5 dX13_putNumber_42 (by decide) (fun c8 => ?_) (fun c8 => ?_)
    ·
      replace hw := hw.1 c8
      refine lv_aload_n hx hb dX13_putNumber_91 rfl (lv_at hl 0 rfl) ?_
      refine lv_bipush (v := I 64) hx hb dX13_putNumber_92 (by decide) ?_
      refine lv_iload_n hx hb dX13_putNumber_94 rfl (lv_at hl 3 rfl) ?_
      refine bi_iadd hx hb dX13_putNumber_95 ?_
      refine lv_iload_n hx hb dX13_putNumber_96 rfl (lv_at hl 1 rfl) ?_
      refine lv_iconst (v := I 1) hx hb dX13_putNumber_97 rfl ?_
      refine bi_isub hx hb dX13_putNumber_98 ?_
      refine lv_bipush (v := I 20) hx hb dX13_putNumber_99 (by decide) ?_
      obtain ⟨c9, hw⟩ := hw
      refine bi_irem hx hb c9 (by decide) (by decide) dX13_putNumber_101 (fun x10 r_x10 p_x10 m_x10 => ?_)
      replace hw := hw x10 r_x10 p_x10 m_x10
      refine bi_iadd hx hb dX13_putNumber_102 ?_
      obtain ⟨c11, hw⟩ := hw
      obtain ⟨Q12, hc, hw⟩ := hw
      refine wc_V (X := MX g q lb) (va_runV (As := [.int (I ((64 + u3) + x10))]) (rest := []) ⟨hx, hb, hml, hown, hts⟩ (L_X13_put l g q lb hlb c11 hN hc H.size) (cwV 1 hts (TB_V tw_3067 tw_3069 ts_208 tw_15 co_X13_put) rfl rfl rfl (by decide +kernel) ⟨Nat.le_of_ble_eq_true rfl, Nat.le_of_ble_eq_true rfl⟩) (preV (q0 := 0) (ci := 13) rfl xT_bl hP hK hNb hD rfl rfl xT_at) rfl rfl hl.1 rfl (lv_room (Nat.le_of_ble_eq_true rfl)) dX13_putNumber_103 ⟨Nat.le_of_ble_eq_true rfl, Nat.le_of_ble_eq_true rfl⟩) hP hD hS hA (fun τ14 H locs hN hf hq hP hD hS => ?_)
      replace hw := hw τ14 hN hf hq
      have hF : f_r [39] [59] [] σ τ14 := f_t hF hf (by decide) (by decide) (by decide)
      have hB := hN
      exact xrv hx hb hr hlk hP hK hD hS ⟨_, hN, hF, rfl, hw⟩ (Nat.le_of_ble_eq_true rfl) (Nat.le_of_ble_eq_true rfl) dX13_putNumber_106
    ·
      replace hw := hw.2 c8
      refine lv_iload_n hx hb dX13_putNumber_45 rfl (lv_at hl 2 rfl) ?_
      refine lv_istore (lv' := [(6, .int (I u2)), (0, .ref (q 0)), (1, .int (I u1)), (2, .int (I u2)), (3, .int (I u3)), (5, .int (I u5))]) hx hb dX13_putNumber_46 hl (by decide) rfl (fun ls hl => ?_)
      refine lv_iconst (v := I 0) hx hb dX13_putNumber_48 rfl ?_
      refine lv_istore (lv' := [(7, .int (I 0)), (6, .int (I u2)), (0, .ref (q 0)), (1, .int (I u1)), (2, .int (I u2)), (3, .int (I u3)), (5, .int (I u5))]) hx hb dX13_putNumber_49 hl (by decide) rfl (fun ls hl => ?_)
      exact (hP51 _ _ _ _ _ _ _).mp hw r_u1 r_u2 r_u3 r_u5 r_u2 (by decide) hN hF H locs ls hP hD hS (lv_sub hl [2, 3, 4, 5, 6, 1, 0] rfl)
  ·
    intro u1 u2 u3 u5 u6 u7 τ hw
    refine (hP51 _ _ _ _ _ _ _).mpr ?_
    intro r_u1 r_u2 r_u3 r_u5 r_u6 r_u7 hN hF H locs ls hP hD hS hl
    have hB := hN
    refine lv_iload hx hb dX13_putNumber_51 (lv_at hl 6 rfl) ?_
    refine lv_iload hx hb dX13_putNumber_53 (lv_at hl 4 rfl) ?_
    refine bi_icmp_ge (tgt := 72) hx hb r_u7 r_u5 dX13_putNumber_55 (by decide) (fun c15 => ?_) (fun c15 => ?_)
    ·
      replace hw := hw.1 c15
      refine lv_aload_n hx hb dX13_putNumber_72 rfl (lv_at hl 0 rfl) ?_
      refine lv_bipush (v := I 85) hx hb dX13_putNumber_73 (by decide) ?_
      refine lv_iload hx hb dX13_putNumber_75 (lv_at hl 5 rfl) ?_
      refine lv_iconst (v := I 1) hx hb dX13_putNumber_77 rfl ?_
      refine bi_isub hx hb dX13_putNumber_78 ?_
      refine lv_iconst (v := I 5) hx hb dX13_putNumber_79 rfl ?_
      obtain ⟨c16, hw⟩ := hw
      refine bi_irem hx hb c16 (by decide) (by decide) dX13_putNumber_80 (fun x17 r_x17 p_x17 m_x17 => ?_)
      replace hw := hw x17 r_x17 p_x17 m_x17
      refine bi_iadd hx hb dX13_putNumber_81 ?_
      obtain ⟨c18, hw⟩ := hw
      obtain ⟨Q19, hc, hw⟩ := hw
      refine wc_V (X := MX g q lb) (va_runV (As := [.int (I (85 + x17))]) (rest := []) ⟨hx, hb, hml, hown, hts⟩ (L_X13_put l g q lb hlb c18 hN hc H.size) (cwV 1 hts (TB_V tw_3067 tw_3069 ts_208 tw_15 co_X13_put) rfl rfl rfl (by decide +kernel) ⟨Nat.le_of_ble_eq_true rfl, Nat.le_of_ble_eq_true rfl⟩) (preV (q0 := 0) (ci := 13) rfl xT_bl hP hK hNb hD rfl rfl xT_at) rfl rfl hl.1 rfl (lv_room (Nat.le_of_ble_eq_true rfl)) dX13_putNumber_82 ⟨Nat.le_of_ble_eq_true rfl, Nat.le_of_ble_eq_true rfl⟩) hP hD hS hA (fun τ21 H locs hN hf hq hP hD hS => ?_)
      replace hw := hw τ21 hN hf hq
      have hF : f_r [39] [59] [] σ τ21 := f_t hF hf (by decide) (by decide) (by decide)
      have hB := hN
      refine lv_iinc (v := I (u5 + (-1))) (lv' := [(5, .int (I (u5 + (-1)))), (0, .ref (q 0)), (1, .int (I u1)), (2, .int (I u2)), (3, .int (I u3)), (6, .int (I u6)), (7, .int (I u7))]) hx hb dX13_putNumber_85 hl (k := 4) rfl (I_add _ _) (by decide) rfl (fun ls hl => ?_)
      refine lv_goto (tgt := 40) hx hb dX13_putNumber_88 (by decide) ?_
      obtain ⟨c22, hw⟩ := hw
      exact (hP40 _ _ _ _ _).mp hw r_u1 r_u2 r_u3 c22 hN hF H locs ls hP hD hS (lv_sub hl [1, 2, 3, 4, 0] rfl)
    ·
      replace hw := hw.2 c15
      refine lv_iload hx hb dX13_putNumber_58 (lv_at hl 5 rfl) ?_
      refine lv_iconst (v := I 1) hx hb dX13_putNumber_60 rfl ?_
      refine bi_isub hx hb dX13_putNumber_61 ?_
      refine lv_iconst (v := I 5) hx hb dX13_putNumber_62 rfl ?_
      obtain ⟨c23, hw⟩ := hw
      refine bi_idiv hx hb c23 (by decide) (by decide) dX13_putNumber_63 (fun x24 r_x24 p_x24 m_x24 => ?_)
      replace hw := hw x24 r_x24 p_x24 m_x24
      refine lv_istore (lv' := [(6, .int (I x24)), (0, .ref (q 0)), (1, .int (I u1)), (2, .int (I u2)), (3, .int (I u3)), (5, .int (I u5)), (7, .int (I u7))]) hx hb dX13_putNumber_64 hl (by decide) rfl (fun ls hl => ?_)
      refine lv_iinc (v := I (u7 + 1)) (lv' := [(7, .int (I (u7 + 1))), (6, .int (I x24)), (0, .ref (q 0)), (1, .int (I u1)), (2, .int (I u2)), (3, .int (I u3)), (5, .int (I u5))]) hx hb dX13_putNumber_66 hl (k := 6) rfl (I_add _ _) (by decide) rfl (fun ls hl => ?_)
      refine lv_goto (tgt := 51) hx hb dX13_putNumber_69 (by decide) ?_
      obtain ⟨c25, hw⟩ := hw
      exact (hP51 _ _ _ _ _ _ _).mp hw r_u1 r_u2 r_u3 r_u5 r_x24 c25 hN hF H locs ls hP hD hS (lv_sub hl [2, 3, 4, 5, 6, 1, 0] rfl)
def W_X13_printPacked (n1 : Int) (σ : S0) (Q : Int → S0 → Prop) : Prop :=
  ∀ (P20 : Int → Int → S0 → Prop) (P43 : Int → Int → S0 → Prop) (P82 : Int → Int → S0 → Prop) (P114 : Int → Int → Int → S0 → Prop) (P180 : Int → Int → S0 → Prop) (P226 : Int → Int → Int → S0 → Prop),
  (∀ (u1 : Int) (u2 : Int) (τ : S0), ((τ.1 5 ≤ u2 → P43 u1 0 τ) ∧ (u2 < τ.1 5 → (0 ≤ u2 ∧ u2 < 1501) ∧ (rg (u2 + 1) ∧ P20 u1 (u2 + 1) (s_a τ 68 u2 0)))) → P20 u1 u2 τ) →
  (∀ (u1 : Int) (u2 : Int) (τ : S0), ((0 ≤ u1 ∧ u1 < 1501) ∧ (∀ (x14 : Int), rg x14 → x14 = τ.2.1 19 u1 → ((x14 ≤ u2 → P82 u1 0 τ) ∧ (u2 < x14 → ∀ (x16 : Int), rg x16 → x16 = τ.2.1 18 u1 → ((0 ≤ (x16 + u2) ∧ (x16 + u2) < 90100) ∧ (∀ (x18 : Int), rg x18 → x18 = τ.2.1 20 (x16 + u2) → ((0 ≤ x18 ∧ x18 < 1501) ∧ (rg (u2 + 1) ∧ P43 u1 (u2 + 1) (s_a τ 68 x18 (u2 + 1)))))))))) → P43 u1 u2 τ) →
  (∀ (u1 : Int) (u2 : Int) (τ : S0), ((τ.1 44 ≤ u2 → ∃ (Q22 : S0 → Prop), W_X13_put 40 τ Q22 ∧ ∀ (τ24 : S0), n_m τ24 → f_r [39] [59] [] τ τ24 → Q22 τ24 → (P180 u1 0 τ24)) ∧ (u2 < τ.1 44 → (0 ≤ u2 ∧ u2 < 40002) ∧ (∀ (x26 : Int), rg x26 → x26 = τ.2.1 70 u2 → ((0 ≤ x26 → ∀ (x28 : Int), rg x28 → x28 = τ.2.1 70 u2 → ((0 ≤ x28 ∧ x28 < 20001) ∧ (∀ (x30 : Int), rg x30 → x30 = τ.2.1 56 x28 → (P114 u1 u2 x30 τ)))) ∧ (x26 < 0 → P114 u1 u2 (-1) τ))))) → P82 u1 u2 τ) →
  (∀ (u1 : Int) (u2 : Int) (k0 : Int) (τ : S0), ((k0 = (-1) → rg (u2 + 1) ∧ P82 u1 (u2 + 1) τ) ∧ (¬ k0 = (-1) → (0 ≤ k0 ∧ k0 < 1501) ∧ (∀ (x50 : Int), rg x50 → x50 = τ.2.1 68 k0 → ((¬ x50 = 0 → rg (u2 + 1) ∧ P82 u1 (u2 + 1) τ) ∧ (x50 = 0 → (0 ≤ τ.1 43 ∧ τ.1 43 < 1501) ∧ (rg (τ.1 43 + 1) ∧ (0 ≤ u1 ∧ u1 < 1501) ∧ (∀ (x56 : Int), rg x56 → x56 = τ.2.1 19 u1 → (rg (x56 + (τ.1 43 + 1)) ∧ rg (u2 + 1) ∧ P82 u1 (u2 + 1) (s_a (s_v (s_a τ 67 (τ.1 43) k0) 43 (τ.1 43 + 1)) 68 k0 (x56 + (τ.1 43 + 1))))))))))) → P114 u1 u2 k0 τ) →
  (∀ (u1 : Int) (u2 : Int) (τ : S0), ((τ.1 43 ≤ u2 → ∃ (Q32 : S0 → Prop), W_X13_put 32 τ Q32 ∧ ∀ (τ34 : S0), n_m τ34 → f_r [39] [59] [] τ τ34 → Q32 τ34 → (∃ (Q35 : S0 → Prop), W_X13_put 41 τ34 Q35 ∧ ∀ (τ37 : S0), n_m τ37 → f_r [39] [59] [] τ34 τ37 → Q35 τ37 → (∃ (Q38 : S0 → Prop), W_X13_put 32 τ37 Q38 ∧ ∀ (τ40 : S0), n_m τ40 → f_r [39] [59] [] τ37 τ40 → Q38 τ40 → (P226 u1 0 0 τ40)))) ∧ (u2 < τ.1 43 → (0 ≤ u2 ∧ u2 < 1501) ∧ (∀ (x42 : Int), rg x42 → x42 = τ.2.1 67 u2 → (∃ (Q43 : S0 → Prop), W_X13_putLabel x42 τ Q43 ∧ ∀ (τ45 : S0), n_m τ45 → f_r [39] [59] [] τ τ45 → Q43 τ45 → (rg (u2 + 1) ∧ P180 u1 (u2 + 1) τ45))))) → P180 u1 u2 τ) →
  (∀ (u1 : Int) (u2 : Int) (u3 : Int) (τ : S0), ((τ.1 44 ≤ u3 → ∃ (Q60 : Int → S0 → Prop), W_X13_keepDraft τ Q60 ∧ ∀ (x61 : Int) (τ62 : S0), rg x61 → n_m τ62 → f_r [40] [60] [] τ τ62 → Q60 x61 τ62 → (Q x61 τ62)) ∧ (u3 < τ.1 44 → (0 ≤ u3 ∧ u3 < 40002) ∧ (∀ (x64 : Int), rg x64 → x64 = τ.2.1 70 u3 → ((0 ≤ x64 → (0 ≤ x64 ∧ x64 < 20001) ∧ (∀ (x67 : Int), rg x67 → x67 = τ.2.1 56 x64 → ((0 ≤ x67 ∧ x67 < 1501) ∧ (∀ (x69 : Int), rg x69 → x69 = τ.2.1 68 x67 → (∃ (Q70 : S0 → Prop), W_X13_putNumber x69 τ Q70 ∧ ∀ (τ72 : S0), n_m τ72 → f_r [39] [59] [] τ τ72 → Q70 τ72 → (∀ (x73 : Int), rg x73 → x73 = τ72.2.1 62 x64 → ((x73 ≤ 1 → rg (u3 + 1) ∧ P226 u1 u2 (u3 + 1) τ72) ∧ (1 < x73 → ∃ (Q76 : Int → Prop), W_X13_rowWidth x64 τ72 Q76 ∧ ∀ (x77 : Int), rg x77 → Q76 x77 → ((x77 ≤ 0 → rg (u3 + 1) ∧ P226 u1 u2 (u3 + 1) τ72) ∧ (0 < x77 → (0 ≤ u1 ∧ u1 < 1501) ∧ (∀ (x82 : Int), rg x82 → x82 = τ72.2.1 19 u1 → (rg ((x82 + τ72.1 43) + (u2 + 1)) ∧ ∃ (Q84 : S0 → Prop), W_X13_put 90 (s_a τ72 63 x64 ((x82 + τ72.1 43) + (u2 + 1))) Q84 ∧ ∀ (τ86 : S0), n_m τ86 → f_r [39] [59] [] (s_a τ72 63 x64 ((x82 + τ72.1 43) + (u2 + 1))) τ86 → Q84 τ86 → (rg (u2 + 1) ∧ rg (u3 + 1) ∧ P226 u1 (u2 + 1) (u3 + 1) τ86))))))))))))) ∧ (x64 < 0 → (0 ≤ ((-1) - x64) ∧ ((-1) - x64) < 20001) ∧ (∀ (x90 : Int), rg x90 → x90 = τ.2.1 63 ((-1) - x64) → (∃ (Q91 : S0 → Prop), W_X13_putNumber x90 τ Q91 ∧ ∀ (τ93 : S0), n_m τ93 → f_r [39] [59] [] τ τ93 → Q91 τ93 → (rg (u3 + 1) ∧ P226 u1 u2 (u3 + 1) τ93)))))))) → P226 u1 u2 u3 τ) →
  ∃ (Q1 : S0 → Prop), W_X13_makeRows n1 σ Q1 ∧ ∀ (τ3 : S0), n_m τ3 → f_r [30, 32, 36, 37, 38] [42, 46, 56, 57, 58] [] σ τ3 → Q1 τ3 → (∃ (Q4 : S0 → Prop), W_X13_findSame τ3 Q4 ∧ ∀ (τ6 : S0), n_m τ6 → f_r [] [61, 62, 69] [] τ3 τ6 → Q4 τ6 → (∃ (Q7 : S0 → Prop), W_X13_tellSteps τ6 Q7 ∧ ∀ (τ9 : S0), n_m τ9 → f_r [42, 44] [62, 65, 66, 70] [] τ6 τ9 → Q7 τ9 → (P20 n1 0 (s_v τ9 43 0))))
set_option maxRecDepth 100000 in
set_option maxHeartbeats 4000000 in
theorem L_X13_printPacked (l : Launch) (g : gG) (q : Nat → Nat) (lb : Nat) (hlb : lb < 2 ^ 31) {n1 : Int} {σ : S0} {Q : Int → S0 → Prop} (r_n1 : rg n1) (hN : n_m σ) (hw : W_X13_printPacked n1 σ Q) (sz : Nat) : MetI l yX13_printPacked cX13_printPacked 5 (some .int) { frames := 3, cells := 0, slots := 0, locals := 68 } g [.ref (q 0), .int (I n1)] (MX g q lb σ) sz xT (p_I (MX g q lb) [30, 32, 36, 37, 38, 39, 40, 42, 43, 44] [42, 46, 56, 57, 58, 59, 60, 61, 62, 63, 65, 66, 67, 68, 69, 70] [] σ Q) 0 0 := by
  refine mkMet (Qc := fun A => QI g A (p_I (MX g q lb) [30, 32, 36, 37, 38, 39, 40, 42, 43, 44] [42, 46, 56, 57, 58, 59, 60, 61, 62, 63, 65, 66, 67, 68, 69, 70] [] σ Q)) (by decide) (Nat.le_of_ble_eq_true rfl) ?_
  intro p e s m below meth c A H ls hx hb hr hml hown hts hlk hnm hsz hP hK hNb hD hA hAe hS hX hl
  have hl : lv_has ls 5 [(0, .ref (q 0)), (1, .int (I n1))] := hl
  have hB := hN
  have hF : f_r [30, 32, 36, 37, 38, 39, 40, 42, 43, 44] [42, 46, 56, 57, 58, 59, 60, 61, 62, 63, 65, 66, 67, 68, 69, 70] [] σ σ := f_0
  obtain ⟨locs, hlocs⟩ : ∃ z : List Loc, z = [] := ⟨_, rfl⟩
  rw [← hlocs] at hS ⊢
  obtain ⟨P20, hP20⟩ : ∃ P : Int → Int → S0 → Prop, ∀ (u1 : Int) (u2 : Int) (τ : S0), (P u1 u2 τ ↔ (rg u1 → rg u2 → n_m τ → f_r [30, 32, 36, 37, 38, 39, 40, 42, 43, 44] [42, 46, 56, 57, 58, 59, 60, 61, 62, 63, 65, 66, 67, 68, 69, 70] [] σ τ → ∀ (H : Heap) (locs : List Loc) (ls : Array Slot), KP g (MX g q lb τ) H → va_D A (MX g q lb τ) → va_S A s.heap H locs → lv_has ls 5 [(0, .ref (q 0)), (1, .int (I u1)), (2, .int (I u2))] → W p l e ({ frames := 3, cells := 0, slots := 0, locals := 68 }) s m [.ref (q 0), .int (I n1)].toArray below meth c H locs 0 0 (MQ below (QI g A (p_I (MX g q lb) [30, 32, 36, 37, 38, 39, 40, 42, 43, 44] [42, 46, 56, 57, 58, 59, 60, 61, 62, 63, 65, 66, 67, 68, 69, 70] [] σ Q)) [.ref (q 0), .int (I n1)].toArray s 0 0 A) (F0 m 20 ls []))) := ⟨_, fun _ _ _ => Iff.rfl⟩
  obtain ⟨P43, hP43⟩ : ∃ P : Int → Int → S0 → Prop, ∀ (u1 : Int) (u2 : Int) (τ : S0), (P u1 u2 τ ↔ (rg u1 → rg u2 → n_m τ → f_r [30, 32, 36, 37, 38, 39, 40, 42, 43, 44] [42, 46, 56, 57, 58, 59, 60, 61, 62, 63, 65, 66, 67, 68, 69, 70] [] σ τ → ∀ (H : Heap) (locs : List Loc) (ls : Array Slot), KP g (MX g q lb τ) H → va_D A (MX g q lb τ) → va_S A s.heap H locs → lv_has ls 5 [(0, .ref (q 0)), (1, .int (I u1)), (2, .int (I u2))] → W p l e ({ frames := 3, cells := 0, slots := 0, locals := 68 }) s m [.ref (q 0), .int (I n1)].toArray below meth c H locs 0 0 (MQ below (QI g A (p_I (MX g q lb) [30, 32, 36, 37, 38, 39, 40, 42, 43, 44] [42, 46, 56, 57, 58, 59, 60, 61, 62, 63, 65, 66, 67, 68, 69, 70] [] σ Q)) [.ref (q 0), .int (I n1)].toArray s 0 0 A) (F0 m 43 ls []))) := ⟨_, fun _ _ _ => Iff.rfl⟩
  obtain ⟨P82, hP82⟩ : ∃ P : Int → Int → S0 → Prop, ∀ (u1 : Int) (u2 : Int) (τ : S0), (P u1 u2 τ ↔ (rg u1 → rg u2 → n_m τ → f_r [30, 32, 36, 37, 38, 39, 40, 42, 43, 44] [42, 46, 56, 57, 58, 59, 60, 61, 62, 63, 65, 66, 67, 68, 69, 70] [] σ τ → ∀ (H : Heap) (locs : List Loc) (ls : Array Slot), KP g (MX g q lb τ) H → va_D A (MX g q lb τ) → va_S A s.heap H locs → lv_has ls 5 [(0, .ref (q 0)), (1, .int (I u1)), (2, .int (I u2))] → W p l e ({ frames := 3, cells := 0, slots := 0, locals := 68 }) s m [.ref (q 0), .int (I n1)].toArray below meth c H locs 0 0 (MQ below (QI g A (p_I (MX g q lb) [30, 32, 36, 37, 38, 39, 40, 42, 43, 44] [42, 46, 56, 57, 58, 59, 60, 61, 62, 63, 65, 66, 67, 68, 69, 70] [] σ Q)) [.ref (q 0), .int (I n1)].toArray s 0 0 A) (F0 m 82 ls []))) := ⟨_, fun _ _ _ => Iff.rfl⟩
  obtain ⟨P114, hP114⟩ : ∃ P : Int → Int → Int → S0 → Prop, ∀ (u1 : Int) (u2 : Int) (k0 : Int) (τ : S0), (P u1 u2 k0 τ ↔ (rg u1 → rg u2 → rg k0 → n_m τ → f_r [30, 32, 36, 37, 38, 39, 40, 42, 43, 44] [42, 46, 56, 57, 58, 59, 60, 61, 62, 63, 65, 66, 67, 68, 69, 70] [] σ τ → ∀ (H : Heap) (locs : List Loc) (ls : Array Slot), KP g (MX g q lb τ) H → va_D A (MX g q lb τ) → va_S A s.heap H locs → lv_has ls 5 [(0, .ref (q 0)), (1, .int (I u1)), (2, .int (I u2))] → W p l e ({ frames := 3, cells := 0, slots := 0, locals := 68 }) s m [.ref (q 0), .int (I n1)].toArray below meth c H locs 0 0 (MQ below (QI g A (p_I (MX g q lb) [30, 32, 36, 37, 38, 39, 40, 42, 43, 44] [42, 46, 56, 57, 58, 59, 60, 61, 62, 63, 65, 66, 67, 68, 69, 70] [] σ Q)) [.ref (q 0), .int (I n1)].toArray s 0 0 A) (F0 m 114 ls [.int (I k0)]))) := ⟨_, fun _ _ _ _ => Iff.rfl⟩
  obtain ⟨P180, hP180⟩ : ∃ P : Int → Int → S0 → Prop, ∀ (u1 : Int) (u2 : Int) (τ : S0), (P u1 u2 τ ↔ (rg u1 → rg u2 → n_m τ → f_r [30, 32, 36, 37, 38, 39, 40, 42, 43, 44] [42, 46, 56, 57, 58, 59, 60, 61, 62, 63, 65, 66, 67, 68, 69, 70] [] σ τ → ∀ (H : Heap) (locs : List Loc) (ls : Array Slot), KP g (MX g q lb τ) H → va_D A (MX g q lb τ) → va_S A s.heap H locs → lv_has ls 5 [(0, .ref (q 0)), (1, .int (I u1)), (2, .int (I u2))] → W p l e ({ frames := 3, cells := 0, slots := 0, locals := 68 }) s m [.ref (q 0), .int (I n1)].toArray below meth c H locs 0 0 (MQ below (QI g A (p_I (MX g q lb) [30, 32, 36, 37, 38, 39, 40, 42, 43, 44] [42, 46, 56, 57, 58, 59, 60, 61, 62, 63, 65, 66, 67, 68, 69, 70] [] σ Q)) [.ref (q 0), .int (I n1)].toArray s 0 0 A) (F0 m 180 ls []))) := ⟨_, fun _ _ _ => Iff.rfl⟩
  obtain ⟨P226, hP226⟩ : ∃ P : Int → Int → Int → S0 → Prop, ∀ (u1 : Int) (u2 : Int) (u3 : Int) (τ : S0), (P u1 u2 u3 τ ↔ (rg u1 → rg u2 → rg u3 → n_m τ → f_r [30, 32, 36, 37, 38, 39, 40, 42, 43, 44] [42, 46, 56, 57, 58, 59, 60, 61, 62, 63, 65, 66, 67, 68, 69, 70] [] σ τ → ∀ (H : Heap) (locs : List Loc) (ls : Array Slot), KP g (MX g q lb τ) H → va_D A (MX g q lb τ) → va_S A s.heap H locs → lv_has ls 5 [(0, .ref (q 0)), (1, .int (I u1)), (2, .int (I u2)), (3, .int (I u3))] → W p l e ({ frames := 3, cells := 0, slots := 0, locals := 68 }) s m [.ref (q 0), .int (I n1)].toArray below meth c H locs 0 0 (MQ below (QI g A (p_I (MX g q lb) [30, 32, 36, 37, 38, 39, 40, 42, 43, 44] [42, 46, 56, 57, 58, 59, 60, 61, 62, 63, 65, 66, 67, 68, 69, 70] [] σ Q)) [.ref (q 0), .int (I n1)].toArray s 0 0 A) (F0 m 226 ls []))) := ⟨_, fun _ _ _ _ => Iff.rfl⟩
  refine (fun hw => ?_) (hw P20 P43 P82 P114 P180 P226 ?_ ?_ ?_ ?_ ?_ ?_)
  ·
    refine lv_aload_n hx hb dX13_printPacked_0 rfl (lv_at hl 0 rfl) ?_
    refine lv_iload_n hx hb dX13_printPacked_1 rfl (lv_at hl 1 rfl) ?_
    obtain ⟨Q1, hc, hw⟩ := hw
    refine wc_V (X := MX g q lb) (va_runV (As := [.int (I n1)]) (rest := []) ⟨hx, hb, hml, hown, hts⟩ (L_X13_makeRows l g q lb hlb r_n1 hN hc H.size) (cwV 1 hts (TB_V tw_2860 tw_2862 ts_167 tw_15 co_X13_makeRows) rfl rfl rfl (by decide +kernel) ⟨Nat.le_of_ble_eq_true rfl, Nat.le_of_ble_eq_true rfl⟩) (preV (q0 := 0) (ci := 13) rfl xT_bl hP hK hNb hD rfl rfl xT_at) rfl rfl hl.1 rfl (lv_room (Nat.le_of_ble_eq_true rfl)) dX13_printPacked_2 ⟨Nat.le_of_ble_eq_true rfl, Nat.le_of_ble_eq_true rfl⟩) hP hD hS hA (fun τ3 H locs hN hf hq hP hD hS => ?_)
    replace hw := hw τ3 hN hf hq
    have hF : f_r [30, 32, 36, 37, 38, 39, 40, 42, 43, 44] [42, 46, 56, 57, 58, 59, 60, 61, 62, 63, 65, 66, 67, 68, 69, 70] [] σ τ3 := f_t hF hf (by decide) (by decide) (by decide)
    have hB := hN
    refine lv_aload_n hx hb dX13_printPacked_5 rfl (lv_at hl 0 rfl) ?_
    obtain ⟨Q4, hc, hw⟩ := hw
    refine wc_V (X := MX g q lb) (va_runV (As := []) (rest := []) ⟨hx, hb, hml, hown, hts⟩ (L_X13_findSame l g q lb hlb  hN hc H.size) (cwV 0 hts (TB_V tw_3095 tw_3097 ts_215 tw_15 co_X13_findSame) rfl rfl rfl (by decide +kernel) ⟨Nat.le_of_ble_eq_true rfl, Nat.le_of_ble_eq_true rfl⟩) (preV (q0 := 0) (ci := 13) rfl xT_bl hP hK hNb hD rfl rfl xT_at) rfl rfl hl.1 rfl (lv_room (Nat.le_of_ble_eq_true rfl)) dX13_printPacked_6 ⟨Nat.le_of_ble_eq_true rfl, Nat.le_of_ble_eq_true rfl⟩) hP hD hS hA (fun τ6 H locs hN hf hq hP hD hS => ?_)
    replace hw := hw τ6 hN hf hq
    have hF : f_r [30, 32, 36, 37, 38, 39, 40, 42, 43, 44] [42, 46, 56, 57, 58, 59, 60, 61, 62, 63, 65, 66, 67, 68, 69, 70] [] σ τ6 := f_t hF hf (by decide) (by decide) (by decide)
    have hB := hN
    refine lv_aload_n hx hb dX13_printPacked_9 rfl (lv_at hl 0 rfl) ?_
    obtain ⟨Q7, hc, hw⟩ := hw
    refine wc_V (X := MX g q lb) (va_runV (As := []) (rest := []) ⟨hx, hb, hml, hown, hts⟩ (L_X13_tellSteps l g q lb hlb  hN hc H.size) (cwV 0 hts (TB_V tw_3104 tw_3106 ts_217 tw_15 co_X13_tellSteps) rfl rfl rfl (by decide +kernel) ⟨Nat.le_of_ble_eq_true rfl, Nat.le_of_ble_eq_true rfl⟩) (preV (q0 := 0) (ci := 13) rfl xT_bl hP hK hNb hD rfl rfl xT_at) rfl rfl hl.1 rfl (lv_room (Nat.le_of_ble_eq_true rfl)) dX13_printPacked_10 ⟨Nat.le_of_ble_eq_true rfl, Nat.le_of_ble_eq_true rfl⟩) hP hD hS hA (fun τ9 H locs hN hf hq hP hD hS => ?_)
    replace hw := hw τ9 hN hf hq
    have hF : f_r [30, 32, 36, 37, 38, 39, 40, 42, 43, 44] [42, 46, 56, 57, 58, 59, 60, 61, 62, 63, 65, 66, 67, 68, 69, 70] [] σ τ9 := f_t hF hf (by decide) (by decide) (by decide)
    have hB := hN
    refine lv_aload_n hx hb dX13_printPacked_13 rfl (lv_at hl 0 rfl) ?_
    refine lv_iconst (v := I 0) hx hb dX13_printPacked_14 rfl ?_
    refine pfX13_newLabelCount hx hb hts hK hP hD hS hown (hts _ tw_2120) dX13_printPacked_15 (fun H locs hP hD hS => ?_)
    have hN : n_m (s_v τ9 43 0) := n_v (i := 43) hN ((by decide) : rg 0)
    have hF : f_r [30, 32, 36, 37, 38, 39, 40, 42, 43, 44] [42, 46, 56, 57, 58, 59, 60, 61, 62, 63, 65, 66, 67, 68, 69, 70] [] σ (s_v τ9 43 0) := f_v hF (by decide)
    refine lv_iconst (v := I 0) hx hb dX13_printPacked_18 rfl ?_
    refine lv_istore_n (lv' := [(2, .int (I 0)), (0, .ref (q 0)), (1, .int (I n1))]) hx hb dX13_printPacked_19 rfl hl (by decide) rfl (fun ls hl => ?_)
    exact (hP20 _ _ _).mp hw r_n1 (by decide) hN hF H locs ls hP hD hS (lv_sub hl [1, 2, 0] rfl)
  ·
    intro u1 u2 τ hw
    refine (hP20 _ _ _).mpr ?_
    intro r_u1 r_u2 hN hF H locs ls hP hD hS hl
    have hB := hN
    refine lv_iload_n hx hb dX13_printPacked_20 rfl (lv_at hl 2 rfl) ?_
    refine lv_aload_n hx hb dX13_printPacked_21 rfl (lv_at hl 0 rfl) ?_
    refine gfX13_statements hx hb hts hK hP hown (hts _ tw_2024) (x := τ.1 5) rfl dX13_printPacked_22 ?_
    refine bi_icmp_ge (tgt := 41) hx hb r_u2 (hB.1 5) dX13_printPacked_25 (by decide) (fun c10 => ?_) (fun c10 => ?_)
    ·
      replace hw := hw.1 c10
      refine lv_iconst (v := I 0) hx hb dX13_printPacked_41 rfl ?_
      refine lv_istore_n (lv' := [(2, .int (I 0)), (0, .ref (q 0)), (1, .int (I u1))]) hx hb dX13_printPacked_42 rfl hl (by decide) rfl (fun ls hl => ?_)
      exact (hP43 _ _ _).mp hw r_u1 (by decide) hN hF H locs ls hP hD hS (lv_sub hl [1, 2, 0] rfl)
    ·
      replace hw := hw.2 c10
      refine lv_aload_n hx hb dX13_printPacked_28 rfl (lv_at hl 0 rfl) ?_
      refine gfX13_labelNumber hx hb hts hK hP hown (hts _ tw_2119) dX13_printPacked_29 ?_
      refine lv_iload_n hx hb dX13_printPacked_32 rfl (lv_at hl 2 rfl) ?_
      refine lv_iconst (v := I 0) hx hb dX13_printPacked_33 rfl ?_
      obtain ⟨c11, hw⟩ := hw
      refine sdMX13_labelNumber hx hb hK hP hD hS c11 dX13_printPacked_34 (fun H locs hP hD hS => ?_)
      have hN : n_m (s_a τ 68 u2 0) := n_a (k := 68) (j := u2) hN ((by decide) : rg 0)
      have hF : f_r [30, 32, 36, 37, 38, 39, 40, 42, 43, 44] [42, 46, 56, 57, 58, 59, 60, 61, 62, 63, 65, 66, 67, 68, 69, 70] [] σ (s_a τ 68 u2 0) := f_a hF (by decide)
      refine lv_iinc (v := I (u2 + 1)) (lv' := [(2, .int (I (u2 + 1))), (0, .ref (q 0)), (1, .int (I u1))]) hx hb dX13_printPacked_35 hl (k := 2) rfl (I_add _ _) (by decide) rfl (fun ls hl => ?_)
      refine lv_goto (tgt := 20) hx hb dX13_printPacked_38 (by decide) ?_
      obtain ⟨c12, hw⟩ := hw
      exact (hP20 _ _ _).mp hw r_u1 c12 hN hF H locs ls hP hD hS (lv_sub hl [1, 2, 0] rfl)
  ·
    intro u1 u2 τ hw
    refine (hP43 _ _ _).mpr ?_
    intro r_u1 r_u2 hN hF H locs ls hP hD hS hl
    have hB := hN
    refine lv_iload_n hx hb dX13_printPacked_43 rfl (lv_at hl 2 rfl) ?_
    refine lv_aload_n hx hb dX13_printPacked_44 rfl (lv_at hl 0 rfl) ?_
    refine gfX13_hypSize hx hb hts hK hP hown (hts _ tw_2032) dX13_printPacked_45 ?_
    refine lv_iload_n hx hb dX13_printPacked_48 rfl (lv_at hl 1 rfl) ?_
    obtain ⟨c13, hw⟩ := hw
    refine ldMX13_hypSize hx hb hK hP hN c13 dX13_printPacked_49 (fun x14 r_x14 e_x14 => ?_)
    replace hw := hw x14 r_x14 e_x14
    refine bi_icmp_ge (tgt := 80) hx hb r_u2 r_x14 dX13_printPacked_50 (by decide) (fun c15 => ?_) (fun c15 => ?_)
    ·
      replace hw := hw.1 c15
      refine lv_iconst (v := I 0) hx hb dX13_printPacked_80 rfl ?_
      refine lv_istore_n (lv' := [(2, .int (I 0)), (0, .ref (q 0)), (1, .int (I u1))]) hx hb dX13_printPacked_81 rfl hl (by decide) rfl (fun ls hl => ?_)
      exact (hP82 _ _ _).mp hw r_u1 (by decide) hN hF H locs ls hP hD hS (lv_sub hl [1, 2, 0] rfl)
    ·
      replace hw := hw.2 c15
      refine lv_aload_n hx hb dX13_printPacked_53 rfl (lv_at hl 0 rfl) ?_
      refine gfX13_labelNumber hx hb hts hK hP hown (hts _ tw_2119) dX13_printPacked_54 ?_
      refine lv_aload_n hx hb dX13_printPacked_57 rfl (lv_at hl 0 rfl) ?_
      refine gfX13_hyps hx hb hts hK hP hown (hts _ tw_2033) dX13_printPacked_58 ?_
      refine lv_aload_n hx hb dX13_printPacked_61 rfl (lv_at hl 0 rfl) ?_
      refine gfX13_hypAt hx hb hts hK hP hown (hts _ tw_2031) dX13_printPacked_62 ?_
      refine lv_iload_n hx hb dX13_printPacked_65 rfl (lv_at hl 1 rfl) ?_
      refine ldMX13_hypAt hx hb hK hP hN c13 dX13_printPacked_66 (fun x16 r_x16 e_x16 => ?_)
      replace hw := hw x16 r_x16 e_x16
      refine lv_iload_n hx hb dX13_printPacked_67 rfl (lv_at hl 2 rfl) ?_
      refine bi_iadd hx hb dX13_printPacked_68 ?_
      obtain ⟨c17, hw⟩ := hw
      refine ldMX13_hyps hx hb hK hP hN c17 dX13_printPacked_69 (fun x18 r_x18 e_x18 => ?_)
      replace hw := hw x18 r_x18 e_x18
      refine lv_iload_n hx hb dX13_printPacked_70 rfl (lv_at hl 2 rfl) ?_
      refine lv_iconst (v := I 1) hx hb dX13_printPacked_71 rfl ?_
      refine bi_iadd hx hb dX13_printPacked_72 ?_
      obtain ⟨c19, hw⟩ := hw
      obtain ⟨c20, hw⟩ := hw
      refine sdMX13_labelNumber hx hb hK hP hD hS c19 dX13_printPacked_73 (fun H locs hP hD hS => ?_)
      have hN : n_m (s_a τ 68 x18 (u2 + 1)) := n_a (k := 68) (j := x18) hN (c20 : rg (u2 + 1))
      have hF : f_r [30, 32, 36, 37, 38, 39, 40, 42, 43, 44] [42, 46, 56, 57, 58, 59, 60, 61, 62, 63, 65, 66, 67, 68, 69, 70] [] σ (s_a τ 68 x18 (u2 + 1)) := f_a hF (by decide)
      refine lv_iinc (v := I (u2 + 1)) (lv' := [(2, .int (I (u2 + 1))), (0, .ref (q 0)), (1, .int (I u1))]) hx hb dX13_printPacked_74 hl (k := 2) rfl (I_add _ _) (by decide) rfl (fun ls hl => ?_)
      refine lv_goto (tgt := 43) hx hb dX13_printPacked_77 (by decide) ?_
      exact (hP43 _ _ _).mp hw r_u1 c20 hN hF H locs ls hP hD hS (lv_sub hl [1, 2, 0] rfl)
  ·
    intro u1 u2 τ hw
    refine (hP82 _ _ _).mpr ?_
    intro r_u1 r_u2 hN hF H locs ls hP hD hS hl
    have hB := hN
    refine lv_iload_n hx hb dX13_printPacked_82 rfl (lv_at hl 2 rfl) ?_
    refine lv_aload_n hx hb dX13_printPacked_83 rfl (lv_at hl 0 rfl) ?_
    refine gfX13_tolds hx hb hts hK hP hown (hts _ tw_2123) (x := τ.1 44) rfl dX13_printPacked_84 ?_
    refine bi_icmp_ge (tgt := 172) hx hb r_u2 (hB.1 44) dX13_printPacked_87 (by decide) (fun c21 => ?_) (fun c21 => ?_)
    ·
      replace hw := hw.1 c21
      refine lv_aload_n hx hb dX13_printPacked_172 rfl (lv_at hl 0 rfl) ?_
      refine lv_bipush (v := I 40) hx hb dX13_printPacked_173 (by decide) ?_
      obtain ⟨Q22, hc, hw⟩ := hw
      refine wc_V (X := MX g q lb) (va_runV (As := [.int (I 40)]) (rest := []) ⟨hx, hb, hml, hown, hts⟩ (L_X13_put l g q lb hlb (by decide) hN hc H.size) (cwV 1 hts (TB_V tw_3067 tw_3069 ts_208 tw_15 co_X13_put) rfl rfl rfl (by decide +kernel) ⟨Nat.le_of_ble_eq_true rfl, Nat.le_of_ble_eq_true rfl⟩) (preV (q0 := 0) (ci := 13) rfl xT_bl hP hK hNb hD rfl rfl xT_at) rfl rfl hl.1 rfl (lv_room (Nat.le_of_ble_eq_true rfl)) dX13_printPacked_175 ⟨Nat.le_of_ble_eq_true rfl, Nat.le_of_ble_eq_true rfl⟩) hP hD hS hA (fun τ24 H locs hN hf hq hP hD hS => ?_)
      replace hw := hw τ24 hN hf hq
      have hF : f_r [30, 32, 36, 37, 38, 39, 40, 42, 43, 44] [42, 46, 56, 57, 58, 59, 60, 61, 62, 63, 65, 66, 67, 68, 69, 70] [] σ τ24 := f_t hF hf (by decide) (by decide) (by decide)
      have hB := hN
      refine lv_iconst (v := I 0) hx hb dX13_printPacked_178 rfl ?_
      refine lv_istore_n (lv' := [(2, .int (I 0)), (0, .ref (q 0)), (1, .int (I u1))]) hx hb dX13_printPacked_179 rfl hl (by decide) rfl (fun ls hl => ?_)
      exact (hP180 _ _ _).mp hw r_u1 (by decide) hN hF H locs ls hP hD hS (lv_sub hl [1, 2, 0] rfl)
    ·
      replace hw := hw.2 c21
      refine lv_aload_n hx hb dX13_printPacked_90 rfl (lv_at hl 0 rfl) ?_
      refine gfX13_told hx hb hts hK hP hown (hts _ tw_2122) dX13_printPacked_91 ?_
      refine lv_iload_n hx hb dX13_printPacked_94 rfl (lv_at hl 2 rfl) ?_
      obtain ⟨c25, hw⟩ := hw
      refine ldMX13_told hx hb hK hP hN c25 dX13_printPacked_95 (fun x26 r_x26 e_x26 => ?_)
      replace hw := hw x26 r_x26 e_x26
      refine bi_if_ge (tgt := 103) hx hb r_x26 dX13_printPacked_96 (by decide) (fun c27 => ?_) (fun c27 => ?_)
      ·
        replace hw := hw.1 c27
        refine lv_aload_n hx hb dX13_printPacked_103 rfl (lv_at hl 0 rfl) ?_
        refine gfX13_rowOf hx hb hts hK hP hown (hts _ tw_2100) dX13_printPacked_104 ?_
        refine lv_aload_n hx hb dX13_printPacked_107 rfl (lv_at hl 0 rfl) ?_
        refine gfX13_told hx hb hts hK hP hown (hts _ tw_2122) dX13_printPacked_108 ?_
        refine lv_iload_n hx hb dX13_printPacked_111 rfl (lv_at hl 2 rfl) ?_
        refine ldMX13_told hx hb hK hP hN c25 dX13_printPacked_112 (fun x28 r_x28 e_x28 => ?_)
        replace hw := hw x28 r_x28 e_x28
        obtain ⟨c29, hw⟩ := hw
        refine ldMX13_rowOf hx hb hK hP hN c29 dX13_printPacked_113 (fun x30 r_x30 e_x30 => ?_)
        replace hw := hw x30 r_x30 e_x30
        exact (hP114 _ _ _ _).mp hw r_u1 r_u2 r_x30 hN hF H locs ls hP hD hS (lv_sub hl [0, 1, 2] rfl)
      ·
        replace hw := hw.2 c27
        refine lv_iconst (v := I (-1)) hx hb dX13_printPacked_99 rfl ?_
        refine lv_goto (tgt := 114) hx hb dX13_printPacked_100 (by decide) ?_
        exact (hP114 _ _ _ _).mp hw r_u1 r_u2 (by decide) hN hF H locs ls hP hD hS (lv_sub hl [0, 1, 2] rfl)
  ·
    intro u1 u2 k0 τ hw
    refine (hP114 _ _ _ _).mpr ?_
    intro r_u1 r_u2 r_k0 hN hF H locs ls hP hD hS hl
    have hB := hN
    refine lv_istore_n (lv' := [(3, .int (I k0)), (0, .ref (q 0)), (1, .int (I u1)), (2, .int (I u2))]) hx hb dX13_printPacked_114 rfl hl (by decide) rfl (fun ls hl => ?_)
    refine lv_iload_n hx hb dX13_printPacked_115 rfl (lv_at hl 0 rfl) ?_
    refine lv_iconst (v := I (-1)) hx hb dX13_printPacked_116 rfl ?_
    refine bi_icmp_eq (tgt := 166) hx hb r_k0 (by decide) dX13_printPacked_117 (by decide) (fun c47 => ?_) (fun c47 => ?_)
    ·
      replace hw := hw.1 c47
      refine lv_iinc (v := I (u2 + 1)) (lv' := [(2, .int (I (u2 + 1))), (3, .int (I k0)), (0, .ref (q 0)), (1, .int (I u1))]) hx hb dX13_printPacked_166 hl (k := 3) rfl (I_add _ _) (by decide) rfl (fun ls hl => ?_)
      refine lv_goto (tgt := 82) hx hb dX13_printPacked_169 (by decide) ?_
      obtain ⟨c48, hw⟩ := hw
      exact (hP82 _ _ _).mp hw r_u1 c48 hN hF H locs ls hP hD hS (lv_sub hl [2, 3, 0] rfl)
    ·
      replace hw := hw.2 c47
      refine lv_aload_n hx hb dX13_printPacked_120 rfl (lv_at hl 1 rfl) ?_
      refine gfX13_labelNumber hx hb hts hK hP hown (hts _ tw_2119) dX13_printPacked_121 ?_
      refine lv_iload_n hx hb dX13_printPacked_124 rfl (lv_at hl 0 rfl) ?_
      obtain ⟨c49, hw⟩ := hw
      refine ldMX13_labelNumber hx hb hK hP hN c49 dX13_printPacked_125 (fun x50 r_x50 e_x50 => ?_)
      replace hw := hw x50 r_x50 e_x50
      refine bi_if_ne (tgt := 166) hx hb r_x50 dX13_printPacked_126 (by decide) (fun c51 => ?_) (fun c51 => ?_)
      ·
        replace hw := hw.1 c51
        refine lv_iinc (v := I (u2 + 1)) (lv' := [(2, .int (I (u2 + 1))), (3, .int (I k0)), (0, .ref (q 0)), (1, .int (I u1))]) hx hb dX13_printPacked_166 hl (k := 3) rfl (I_add _ _) (by decide) rfl (fun ls hl => ?_)
        refine lv_goto (tgt := 82) hx hb dX13_printPacked_169 (by decide) ?_
        obtain ⟨c52, hw⟩ := hw
        exact (hP82 _ _ _).mp hw r_u1 c52 hN hF H locs ls hP hD hS (lv_sub hl [2, 3, 0] rfl)
      ·
        replace hw := hw.2 c51
        refine lv_aload_n hx hb dX13_printPacked_129 rfl (lv_at hl 1 rfl) ?_
        refine gfX13_newLabels hx hb hts hK hP hown (hts _ tw_2118) dX13_printPacked_130 ?_
        refine lv_aload_n hx hb dX13_printPacked_133 rfl (lv_at hl 1 rfl) ?_
        refine gfX13_newLabelCount hx hb hts hK hP hown (hts _ tw_2120) (x := τ.1 43) rfl dX13_printPacked_134 ?_
        refine lv_iload_n hx hb dX13_printPacked_137 rfl (lv_at hl 0 rfl) ?_
        obtain ⟨c53, hw⟩ := hw
        refine sdMX13_newLabels hx hb hK hP hD hS c53 dX13_printPacked_138 (fun H locs hP hD hS => ?_)
        have hN : n_m (s_a τ 67 (τ.1 43) k0) := n_a (k := 67) (j := τ.1 43) hN (r_k0 : rg k0)
        have hF : f_r [30, 32, 36, 37, 38, 39, 40, 42, 43, 44] [42, 46, 56, 57, 58, 59, 60, 61, 62, 63, 65, 66, 67, 68, 69, 70] [] σ (s_a τ 67 (τ.1 43) k0) := f_a hF (by decide)
        refine lv_aload_n hx hb dX13_printPacked_139 rfl (lv_at hl 1 rfl) ?_
        refine lv_dup hx hb dX13_printPacked_140 rfl ?_
        refine gfX13_newLabelCount hx hb hts hK hP hown (hts _ tw_2120) (x := τ.1 43) rfl dX13_printPacked_141 ?_
        refine lv_iconst (v := I 1) hx hb dX13_printPacked_144 rfl ?_
        refine bi_iadd hx hb dX13_printPacked_145 ?_
        obtain ⟨c54, hw⟩ := hw
        refine pfX13_newLabelCount hx hb hts hK hP hD hS hown (hts _ tw_2120) dX13_printPacked_146 (fun H locs hP hD hS => ?_)
        have hN : n_m (s_v (s_a τ 67 (τ.1 43) k0) 43 (τ.1 43 + 1)) := n_v (i := 43) hN (c54 : rg (τ.1 43 + 1))
        have hF : f_r [30, 32, 36, 37, 38, 39, 40, 42, 43, 44] [42, 46, 56, 57, 58, 59, 60, 61, 62, 63, 65, 66, 67, 68, 69, 70] [] σ (s_v (s_a τ 67 (τ.1 43) k0) 43 (τ.1 43 + 1)) := f_v hF (by decide)
        refine lv_aload_n hx hb dX13_printPacked_149 rfl (lv_at hl 1 rfl) ?_
        refine gfX13_labelNumber hx hb hts hK hP hown (hts _ tw_2119) dX13_printPacked_150 ?_
        refine lv_iload_n hx hb dX13_printPacked_153 rfl (lv_at hl 0 rfl) ?_
        refine lv_aload_n hx hb dX13_printPacked_154 rfl (lv_at hl 1 rfl) ?_
        refine gfX13_hypSize hx hb hts hK hP hown (hts _ tw_2032) dX13_printPacked_155 ?_
        refine lv_iload_n hx hb dX13_printPacked_158 rfl (lv_at hl 2 rfl) ?_
        obtain ⟨c55, hw⟩ := hw
        refine ldMX13_hypSize hx hb hK hP hN c55 dX13_printPacked_159 (fun x56 r_x56 e_x56 => ?_)
        replace hw := hw x56 r_x56 e_x56
        refine lv_aload_n hx hb dX13_printPacked_160 rfl (lv_at hl 1 rfl) ?_
        refine gfX13_newLabelCount hx hb hts hK hP hown (hts _ tw_2120) (x := (τ.1 43 + 1)) rfl dX13_printPacked_161 ?_
        refine bi_iadd hx hb dX13_printPacked_164 ?_
        obtain ⟨c57, hw⟩ := hw
        refine sdMX13_labelNumber hx hb hK hP hD hS c49 dX13_printPacked_165 (fun H locs hP hD hS => ?_)
        have hN : n_m (s_a (s_v (s_a τ 67 (τ.1 43) k0) 43 (τ.1 43 + 1)) 68 k0 (x56 + (τ.1 43 + 1))) := n_a (k := 68) (j := k0) hN (c57 : rg (x56 + (τ.1 43 + 1)))
        have hF : f_r [30, 32, 36, 37, 38, 39, 40, 42, 43, 44] [42, 46, 56, 57, 58, 59, 60, 61, 62, 63, 65, 66, 67, 68, 69, 70] [] σ (s_a (s_v (s_a τ 67 (τ.1 43) k0) 43 (τ.1 43 + 1)) 68 k0 (x56 + (τ.1 43 + 1))) := f_a hF (by decide)
        refine lv_iinc (v := I (u2 + 1)) (lv' := [(2, .int (I (u2 + 1))), (3, .int (I k0)), (0, .ref (q 0)), (1, .int (I u1))]) hx hb dX13_printPacked_166 hl (k := 3) rfl (I_add _ _) (by decide) rfl (fun ls hl => ?_)
        refine lv_goto (tgt := 82) hx hb dX13_printPacked_169 (by decide) ?_
        obtain ⟨c58, hw⟩ := hw
        exact (hP82 _ _ _).mp hw r_u1 c58 hN hF H locs ls hP hD hS (lv_sub hl [2, 3, 0] rfl)
  ·
    intro u1 u2 τ hw
    refine (hP180 _ _ _).mpr ?_
    intro r_u1 r_u2 hN hF H locs ls hP hD hS hl
    have hB := hN
    refine lv_iload_n hx hb dX13_printPacked_180 rfl (lv_at hl 2 rfl) ?_
    refine lv_aload_n hx hb dX13_printPacked_181 rfl (lv_at hl 0 rfl) ?_
    refine gfX13_newLabelCount hx hb hts hK hP hown (hts _ tw_2120) (x := τ.1 43) rfl dX13_printPacked_182 ?_
    refine bi_icmp_ge (tgt := 204) hx hb r_u2 (hB.1 43) dX13_printPacked_185 (by decide) (fun c31 => ?_) (fun c31 => ?_)
    ·
      replace hw := hw.1 c31
      refine lv_aload_n hx hb dX13_printPacked_204 rfl (lv_at hl 0 rfl) ?_
      refine lv_bipush (v := I 32) hx hb dX13_printPacked_205 (by decide) ?_
      obtain ⟨Q32, hc, hw⟩ := hw
      refine wc_V (X := MX g q lb) (va_runV (As := [.int (I 32)]) (rest := []) ⟨hx, hb, hml, hown, hts⟩ (L_X13_put l g q lb hlb (by decide) hN hc H.size) (cwV 1 hts (TB_V tw_3067 tw_3069 ts_208 tw_15 co_X13_put) rfl rfl rfl (by decide +kernel) ⟨Nat.le_of_ble_eq_true rfl, Nat.le_of_ble_eq_true rfl⟩) (preV (q0 := 0) (ci := 13) rfl xT_bl hP hK hNb hD rfl rfl xT_at) rfl rfl hl.1 rfl (lv_room (Nat.le_of_ble_eq_true rfl)) dX13_printPacked_207 ⟨Nat.le_of_ble_eq_true rfl, Nat.le_of_ble_eq_true rfl⟩) hP hD hS hA (fun τ34 H locs hN hf hq hP hD hS => ?_)
      replace hw := hw τ34 hN hf hq
      have hF : f_r [30, 32, 36, 37, 38, 39, 40, 42, 43, 44] [42, 46, 56, 57, 58, 59, 60, 61, 62, 63, 65, 66, 67, 68, 69, 70] [] σ τ34 := f_t hF hf (by decide) (by decide) (by decide)
      have hB := hN
      refine lv_aload_n hx hb dX13_printPacked_210 rfl (lv_at hl 0 rfl) ?_
      refine lv_bipush (v := I 41) hx hb dX13_printPacked_211 (by decide) ?_
      obtain ⟨Q35, hc, hw⟩ := hw
      refine wc_V (X := MX g q lb) (va_runV (As := [.int (I 41)]) (rest := []) ⟨hx, hb, hml, hown, hts⟩ (L_X13_put l g q lb hlb (by decide) hN hc H.size) (cwV 1 hts (TB_V tw_3067 tw_3069 ts_208 tw_15 co_X13_put) rfl rfl rfl (by decide +kernel) ⟨Nat.le_of_ble_eq_true rfl, Nat.le_of_ble_eq_true rfl⟩) (preV (q0 := 0) (ci := 13) rfl xT_bl hP hK hNb hD rfl rfl xT_at) rfl rfl hl.1 rfl (lv_room (Nat.le_of_ble_eq_true rfl)) dX13_printPacked_213 ⟨Nat.le_of_ble_eq_true rfl, Nat.le_of_ble_eq_true rfl⟩) hP hD hS hA (fun τ37 H locs hN hf hq hP hD hS => ?_)
      replace hw := hw τ37 hN hf hq
      have hF : f_r [30, 32, 36, 37, 38, 39, 40, 42, 43, 44] [42, 46, 56, 57, 58, 59, 60, 61, 62, 63, 65, 66, 67, 68, 69, 70] [] σ τ37 := f_t hF hf (by decide) (by decide) (by decide)
      have hB := hN
      refine lv_aload_n hx hb dX13_printPacked_216 rfl (lv_at hl 0 rfl) ?_
      refine lv_bipush (v := I 32) hx hb dX13_printPacked_217 (by decide) ?_
      obtain ⟨Q38, hc, hw⟩ := hw
      refine wc_V (X := MX g q lb) (va_runV (As := [.int (I 32)]) (rest := []) ⟨hx, hb, hml, hown, hts⟩ (L_X13_put l g q lb hlb (by decide) hN hc H.size) (cwV 1 hts (TB_V tw_3067 tw_3069 ts_208 tw_15 co_X13_put) rfl rfl rfl (by decide +kernel) ⟨Nat.le_of_ble_eq_true rfl, Nat.le_of_ble_eq_true rfl⟩) (preV (q0 := 0) (ci := 13) rfl xT_bl hP hK hNb hD rfl rfl xT_at) rfl rfl hl.1 rfl (lv_room (Nat.le_of_ble_eq_true rfl)) dX13_printPacked_219 ⟨Nat.le_of_ble_eq_true rfl, Nat.le_of_ble_eq_true rfl⟩) hP hD hS hA (fun τ40 H locs hN hf hq hP hD hS => ?_)
      replace hw := hw τ40 hN hf hq
      have hF : f_r [30, 32, 36, 37, 38, 39, 40, 42, 43, 44] [42, 46, 56, 57, 58, 59, 60, 61, 62, 63, 65, 66, 67, 68, 69, 70] [] σ τ40 := f_t hF hf (by decide) (by decide) (by decide)
      have hB := hN
      refine lv_iconst (v := I 0) hx hb dX13_printPacked_222 rfl ?_
      refine lv_istore_n (lv' := [(2, .int (I 0)), (0, .ref (q 0)), (1, .int (I u1))]) hx hb dX13_printPacked_223 rfl hl (by decide) rfl (fun ls hl => ?_)
      refine lv_iconst (v := I 0) hx hb dX13_printPacked_224 rfl ?_
      refine lv_istore_n (lv' := [(3, .int (I 0)), (2, .int (I 0)), (0, .ref (q 0)), (1, .int (I u1))]) hx hb dX13_printPacked_225 rfl hl (by decide) rfl (fun ls hl => ?_)
      exact (hP226 _ _ _ _).mp hw r_u1 (by decide) (by decide) hN hF H locs ls hP hD hS (lv_sub hl [2, 3, 1, 0] rfl)
    ·
      replace hw := hw.2 c31
      refine lv_aload_n hx hb dX13_printPacked_188 rfl (lv_at hl 0 rfl) ?_
      refine lv_aload_n hx hb dX13_printPacked_189 rfl (lv_at hl 0 rfl) ?_
      refine gfX13_newLabels hx hb hts hK hP hown (hts _ tw_2118) dX13_printPacked_190 ?_
      refine lv_iload_n hx hb dX13_printPacked_193 rfl (lv_at hl 2 rfl) ?_
      obtain ⟨c41, hw⟩ := hw
      refine ldMX13_newLabels hx hb hK hP hN c41 dX13_printPacked_194 (fun x42 r_x42 e_x42 => ?_)
      replace hw := hw x42 r_x42 e_x42
      obtain ⟨Q43, hc, hw⟩ := hw
      refine wc_V (X := MX g q lb) (va_runV (As := [.int (I x42)]) (rest := []) ⟨hx, hb, hml, hown, hts⟩ (L_X13_putLabel l g q lb hlb r_x42 hN hc H.size) (cwV 1 hts (TB_V tw_3059 tw_3061 ts_206 tw_15 co_X13_putLabel) rfl rfl rfl (by decide +kernel) ⟨Nat.le_of_ble_eq_true rfl, Nat.le_of_ble_eq_true rfl⟩) (preV (q0 := 0) (ci := 13) rfl xT_bl hP hK hNb hD rfl rfl xT_at) rfl rfl hl.1 rfl (lv_room (Nat.le_of_ble_eq_true rfl)) dX13_printPacked_195 ⟨Nat.le_of_ble_eq_true rfl, Nat.le_of_ble_eq_true rfl⟩) hP hD hS hA (fun τ45 H locs hN hf hq hP hD hS => ?_)
      replace hw := hw τ45 hN hf hq
      have hF : f_r [30, 32, 36, 37, 38, 39, 40, 42, 43, 44] [42, 46, 56, 57, 58, 59, 60, 61, 62, 63, 65, 66, 67, 68, 69, 70] [] σ τ45 := f_t hF hf (by decide) (by decide) (by decide)
      have hB := hN
      refine lv_iinc (v := I (u2 + 1)) (lv' := [(2, .int (I (u2 + 1))), (0, .ref (q 0)), (1, .int (I u1))]) hx hb dX13_printPacked_198 hl (k := 2) rfl (I_add _ _) (by decide) rfl (fun ls hl => ?_)
      refine lv_goto (tgt := 180) hx hb dX13_printPacked_201 (by decide) ?_
      obtain ⟨c46, hw⟩ := hw
      exact (hP180 _ _ _).mp hw r_u1 c46 hN hF H locs ls hP hD hS (lv_sub hl [1, 2, 0] rfl)
  ·
    intro u1 u2 u3 τ hw
    refine (hP226 _ _ _ _).mpr ?_
    intro r_u1 r_u2 r_u3 hN hF H locs ls hP hD hS hl
    have hB := hN
    refine lv_iload_n hx hb dX13_printPacked_226 rfl (lv_at hl 3 rfl) ?_
    refine lv_aload_n hx hb dX13_printPacked_227 rfl (lv_at hl 0 rfl) ?_
    refine gfX13_tolds hx hb hts hK hP hown (hts _ tw_2123) (x := τ.1 44) rfl dX13_printPacked_228 ?_
    refine bi_icmp_ge (tgt := 334) hx hb r_u3 (hB.1 44) dX13_printPacked_231 (by decide) (fun c59 => ?_) (fun c59 => ?_)
    ·
      replace hw := hw.1 c59
      refine lv_aload_n hx hb dX13_printPacked_334 rfl (lv_at hl 0 rfl) ?_
      obtain ⟨Q60, hc, hw⟩ := hw
      refine wc_I (X := MX g q lb) (va_runV (As := []) (rest := []) ⟨hx, hb, hml, hown, hts⟩ (L_X13_keepDraft l g q lb hlb  hN hc H.size) (cwV 0 hts (TB_V tw_3075 tw_3077 ts_210 tw_15 co_X13_keepDraft) rfl rfl rfl (by decide +kernel) ⟨Nat.le_of_ble_eq_true rfl, Nat.le_of_ble_eq_true rfl⟩) (preV (q0 := 0) (ci := 13) rfl xT_bl hP hK hNb hD rfl rfl xT_at) rfl rfl hl.1 rfl (lv_room (Nat.le_of_ble_eq_true rfl)) dX13_printPacked_335 ⟨Nat.le_of_ble_eq_true rfl, Nat.le_of_ble_eq_true rfl⟩) hP hD hS hA (fun x61 τ62 H locs r_x61 hN hf hq hP hD hS => ?_)
      replace hw := hw x61 τ62 r_x61 hN hf hq
      have hF : f_r [30, 32, 36, 37, 38, 39, 40, 42, 43, 44] [42, 46, 56, 57, 58, 59, 60, 61, 62, 63, 65, 66, 67, 68, 69, 70] [] σ τ62 := f_t hF hf (by decide) (by decide) (by decide)
      have hB := hN
      exact xri hx hb hr hlk hP hK hD hS ⟨_, _, r_x61, rfl, hN, hF, rfl, hw⟩ (Nat.le_of_ble_eq_true rfl) (Nat.le_of_ble_eq_true rfl) dX13_printPacked_338
    ·
      replace hw := hw.2 c59
      refine lv_aload_n hx hb dX13_printPacked_234 rfl (lv_at hl 0 rfl) ?_
      refine gfX13_told hx hb hts hK hP hown (hts _ tw_2122) dX13_printPacked_235 ?_
      refine lv_iload_n hx hb dX13_printPacked_238 rfl (lv_at hl 3 rfl) ?_
      obtain ⟨c63, hw⟩ := hw
      refine ldMX13_told hx hb hK hP hN c63 dX13_printPacked_239 (fun x64 r_x64 e_x64 => ?_)
      replace hw := hw x64 r_x64 e_x64
      refine lv_istore (lv' := [(4, .int (I x64)), (0, .ref (q 0)), (1, .int (I u1)), (2, .int (I u2)), (3, .int (I u3))]) hx hb dX13_printPacked_240 hl (by decide) rfl (fun ls hl => ?_)
      refine lv_iload hx hb dX13_printPacked_242 (lv_at hl 0 rfl) ?_
      refine bi_if_ge (tgt := 263) hx hb r_x64 dX13_printPacked_244 (by decide) (fun c65 => ?_) (fun c65 => ?_)
      ·
        replace hw := hw.1 c65
        refine lv_aload_n hx hb dX13_printPacked_263 rfl (lv_at hl 1 rfl) ?_
        refine lv_aload_n hx hb dX13_printPacked_264 rfl (lv_at hl 1 rfl) ?_
        refine gfX13_labelNumber hx hb hts hK hP hown (hts _ tw_2119) dX13_printPacked_265 ?_
        refine lv_aload_n hx hb dX13_printPacked_268 rfl (lv_at hl 1 rfl) ?_
        refine gfX13_rowOf hx hb hts hK hP hown (hts _ tw_2100) dX13_printPacked_269 ?_
        refine lv_iload hx hb dX13_printPacked_272 (lv_at hl 0 rfl) ?_
        obtain ⟨c66, hw⟩ := hw
        refine ldMX13_rowOf hx hb hK hP hN c66 dX13_printPacked_274 (fun x67 r_x67 e_x67 => ?_)
        replace hw := hw x67 r_x67 e_x67
        obtain ⟨c68, hw⟩ := hw
        refine ldMX13_labelNumber hx hb hK hP hN c68 dX13_printPacked_275 (fun x69 r_x69 e_x69 => ?_)
        replace hw := hw x69 r_x69 e_x69
        obtain ⟨Q70, hc, hw⟩ := hw
        refine wc_V (X := MX g q lb) (va_runV (As := [.int (I x69)]) (rest := []) ⟨hx, hb, hml, hown, hts⟩ (L_X13_putNumber l g q lb hlb r_x69 hN hc H.size) (cwV 1 hts (TB_V tw_3108 tw_3110 ts_218 tw_15 co_X13_putNumber) rfl rfl rfl (by decide +kernel) ⟨Nat.le_of_ble_eq_true rfl, Nat.le_of_ble_eq_true rfl⟩) (preV (q0 := 0) (ci := 13) rfl xT_bl hP hK hNb hD rfl rfl xT_at) rfl rfl hl.1 rfl (lv_room (Nat.le_of_ble_eq_true rfl)) dX13_printPacked_276 ⟨Nat.le_of_ble_eq_true rfl, Nat.le_of_ble_eq_true rfl⟩) hP hD hS hA (fun τ72 H locs hN hf hq hP hD hS => ?_)
        replace hw := hw τ72 hN hf hq
        have hF : f_r [30, 32, 36, 37, 38, 39, 40, 42, 43, 44] [42, 46, 56, 57, 58, 59, 60, 61, 62, 63, 65, 66, 67, 68, 69, 70] [] σ τ72 := f_t hF hf (by decide) (by decide) (by decide)
        have hB := hN
        refine lv_aload_n hx hb dX13_printPacked_279 rfl (lv_at hl 1 rfl) ?_
        refine gfX13_uses hx hb hts hK hP hown (hts _ tw_2112) dX13_printPacked_280 ?_
        refine lv_iload hx hb dX13_printPacked_283 (lv_at hl 0 rfl) ?_
        refine ldMX13_uses hx hb hK hP hN c66 dX13_printPacked_285 (fun x73 r_x73 e_x73 => ?_)
        replace hw := hw x73 r_x73 e_x73
        refine lv_iconst (v := I 1) hx hb dX13_printPacked_286 rfl ?_
        refine bi_icmp_le (tgt := 328) hx hb r_x73 (by decide) dX13_printPacked_287 (by decide) (fun c74 => ?_) (fun c74 => ?_)
        ·
          replace hw := hw.1 c74
          refine lv_iinc (v := I (u3 + 1)) (lv' := [(3, .int (I (u3 + 1))), (4, .int (I x64)), (0, .ref (q 0)), (1, .int (I u1)), (2, .int (I u2))]) hx hb dX13_printPacked_328 hl (k := 4) rfl (I_add _ _) (by decide) rfl (fun ls hl => ?_)
          refine lv_goto (tgt := 226) hx hb dX13_printPacked_331 (by decide) ?_
          obtain ⟨c75, hw⟩ := hw
          exact (hP226 _ _ _ _).mp hw r_u1 r_u2 c75 hN hF H locs ls hP hD hS (lv_sub hl [2, 3, 4, 0] rfl)
        ·
          replace hw := hw.2 c74
          refine lv_aload_n hx hb dX13_printPacked_290 rfl (lv_at hl 1 rfl) ?_
          refine lv_iload hx hb dX13_printPacked_291 (lv_at hl 0 rfl) ?_
          obtain ⟨Q76, hc, hw⟩ := hw
          refine wc_i (X := MX g q lb) (va_runV (As := [.int (I x64)]) (rest := []) ⟨hx, hb, hml, hown, hts⟩ (L_X13_rowWidth l g q lb hlb r_x64 hN hc H.size) (cwV 1 hts (TB_V tw_2877 tw_2879 ts_169 tw_15 co_X13_rowWidth) rfl rfl rfl (by decide +kernel) ⟨Nat.le_of_ble_eq_true rfl, Nat.le_of_ble_eq_true rfl⟩) (preV (q0 := 0) (ci := 13) rfl xT_bl hP hK hNb hD rfl rfl xT_at) rfl rfl hl.1 rfl (lv_room (Nat.le_of_ble_eq_true rfl)) dX13_printPacked_293 ⟨Nat.le_of_ble_eq_true rfl, Nat.le_of_ble_eq_true rfl⟩) hP hD hS hA (fun x77 H locs r_x77 hq hP hD hS => ?_)
          replace hw := hw x77 r_x77 hq
          refine bi_if_le (tgt := 328) hx hb r_x77 dX13_printPacked_296 (by decide) (fun c79 => ?_) (fun c79 => ?_)
          ·
            replace hw := hw.1 c79
            refine lv_iinc (v := I (u3 + 1)) (lv' := [(3, .int (I (u3 + 1))), (4, .int (I x64)), (0, .ref (q 0)), (1, .int (I u1)), (2, .int (I u2))]) hx hb dX13_printPacked_328 hl (k := 4) rfl (I_add _ _) (by decide) rfl (fun ls hl => ?_)
            refine lv_goto (tgt := 226) hx hb dX13_printPacked_331 (by decide) ?_
            obtain ⟨c80, hw⟩ := hw
            exact (hP226 _ _ _ _).mp hw r_u1 r_u2 c80 hN hF H locs ls hP hD hS (lv_sub hl [2, 3, 4, 0] rfl)
          ·
            replace hw := hw.2 c79
            refine lv_iinc (v := I (u2 + 1)) (lv' := [(2, .int (I (u2 + 1))), (4, .int (I x64)), (0, .ref (q 0)), (1, .int (I u1)), (3, .int (I u3))]) hx hb dX13_printPacked_299 hl (k := 3) rfl (I_add _ _) (by decide) rfl (fun ls hl => ?_)
            refine lv_aload_n hx hb dX13_printPacked_302 rfl (lv_at hl 2 rfl) ?_
            refine gfX13_numberOf hx hb hts hK hP hown (hts _ tw_2113) dX13_printPacked_303 ?_
            refine lv_iload hx hb dX13_printPacked_306 (lv_at hl 1 rfl) ?_
            refine lv_aload_n hx hb dX13_printPacked_308 rfl (lv_at hl 2 rfl) ?_
            refine gfX13_hypSize hx hb hts hK hP hown (hts _ tw_2032) dX13_printPacked_309 ?_
            refine lv_iload_n hx hb dX13_printPacked_312 rfl (lv_at hl 3 rfl) ?_
            obtain ⟨c81, hw⟩ := hw
            refine ldMX13_hypSize hx hb hK hP hN c81 dX13_printPacked_313 (fun x82 r_x82 e_x82 => ?_)
            replace hw := hw x82 r_x82 e_x82
            refine lv_aload_n hx hb dX13_printPacked_314 rfl (lv_at hl 2 rfl) ?_
            refine gfX13_newLabelCount hx hb hts hK hP hown (hts _ tw_2120) (x := τ72.1 43) rfl dX13_printPacked_315 ?_
            refine bi_iadd hx hb dX13_printPacked_318 ?_
            refine lv_iload_n hx hb dX13_printPacked_319 rfl (lv_at hl 0 rfl) ?_
            refine bi_iadd hx hb dX13_printPacked_320 ?_
            obtain ⟨c83, hw⟩ := hw
            refine sdMX13_numberOf hx hb hK hP hD hS c66 dX13_printPacked_321 (fun H locs hP hD hS => ?_)
            have hN : n_m (s_a τ72 63 x64 ((x82 + τ72.1 43) + (u2 + 1))) := n_a (k := 63) (j := x64) hN (c83 : rg ((x82 + τ72.1 43) + (u2 + 1)))
            have hF : f_r [30, 32, 36, 37, 38, 39, 40, 42, 43, 44] [42, 46, 56, 57, 58, 59, 60, 61, 62, 63, 65, 66, 67, 68, 69, 70] [] σ (s_a τ72 63 x64 ((x82 + τ72.1 43) + (u2 + 1))) := f_a hF (by decide)
            refine lv_aload_n hx hb dX13_printPacked_322 rfl (lv_at hl 2 rfl) ?_
            refine lv_bipush (v := I 90) hx hb dX13_printPacked_323 (by decide) ?_
            obtain ⟨Q84, hc, hw⟩ := hw
            refine wc_V (X := MX g q lb) (va_runV (As := [.int (I 90)]) (rest := []) ⟨hx, hb, hml, hown, hts⟩ (L_X13_put l g q lb hlb (by decide) hN hc H.size) (cwV 1 hts (TB_V tw_3067 tw_3069 ts_208 tw_15 co_X13_put) rfl rfl rfl (by decide +kernel) ⟨Nat.le_of_ble_eq_true rfl, Nat.le_of_ble_eq_true rfl⟩) (preV (q0 := 0) (ci := 13) rfl xT_bl hP hK hNb hD rfl rfl xT_at) rfl rfl hl.1 rfl (lv_room (Nat.le_of_ble_eq_true rfl)) dX13_printPacked_325 ⟨Nat.le_of_ble_eq_true rfl, Nat.le_of_ble_eq_true rfl⟩) hP hD hS hA (fun τ86 H locs hN hf hq hP hD hS => ?_)
            replace hw := hw τ86 hN hf hq
            have hF : f_r [30, 32, 36, 37, 38, 39, 40, 42, 43, 44] [42, 46, 56, 57, 58, 59, 60, 61, 62, 63, 65, 66, 67, 68, 69, 70] [] σ τ86 := f_t hF hf (by decide) (by decide) (by decide)
            have hB := hN
            refine lv_iinc (v := I (u3 + 1)) (lv' := [(3, .int (I (u3 + 1))), (2, .int (I (u2 + 1))), (4, .int (I x64)), (0, .ref (q 0)), (1, .int (I u1))]) hx hb dX13_printPacked_328 hl (k := 4) rfl (I_add _ _) (by decide) rfl (fun ls hl => ?_)
            refine lv_goto (tgt := 226) hx hb dX13_printPacked_331 (by decide) ?_
            obtain ⟨c87, hw⟩ := hw
            obtain ⟨c88, hw⟩ := hw
            exact (hP226 _ _ _ _).mp hw r_u1 c87 c88 hN hF H locs ls hP hD hS (lv_sub hl [3, 4, 1, 0] rfl)
      ·
        replace hw := hw.2 c65
        refine lv_aload_n hx hb dX13_printPacked_247 rfl (lv_at hl 1 rfl) ?_
        refine lv_aload_n hx hb dX13_printPacked_248 rfl (lv_at hl 1 rfl) ?_
        refine gfX13_numberOf hx hb hts hK hP hown (hts _ tw_2113) dX13_printPacked_249 ?_
        refine lv_iconst (v := I (-1)) hx hb dX13_printPacked_252 rfl ?_
        refine lv_iload hx hb dX13_printPacked_253 (lv_at hl 0 rfl) ?_
        refine bi_isub hx hb dX13_printPacked_255 ?_
        obtain ⟨c89, hw⟩ := hw
        refine ldMX13_numberOf hx hb hK hP hN c89 dX13_printPacked_256 (fun x90 r_x90 e_x90 => ?_)
        replace hw := hw x90 r_x90 e_x90
        obtain ⟨Q91, hc, hw⟩ := hw
        refine wc_V (X := MX g q lb) (va_runV (As := [.int (I x90)]) (rest := []) ⟨hx, hb, hml, hown, hts⟩ (L_X13_putNumber l g q lb hlb r_x90 hN hc H.size) (cwV 1 hts (TB_V tw_3108 tw_3110 ts_218 tw_15 co_X13_putNumber) rfl rfl rfl (by decide +kernel) ⟨Nat.le_of_ble_eq_true rfl, Nat.le_of_ble_eq_true rfl⟩) (preV (q0 := 0) (ci := 13) rfl xT_bl hP hK hNb hD rfl rfl xT_at) rfl rfl hl.1 rfl (lv_room (Nat.le_of_ble_eq_true rfl)) dX13_printPacked_257 ⟨Nat.le_of_ble_eq_true rfl, Nat.le_of_ble_eq_true rfl⟩) hP hD hS hA (fun τ93 H locs hN hf hq hP hD hS => ?_)
        replace hw := hw τ93 hN hf hq
        have hF : f_r [30, 32, 36, 37, 38, 39, 40, 42, 43, 44] [42, 46, 56, 57, 58, 59, 60, 61, 62, 63, 65, 66, 67, 68, 69, 70] [] σ τ93 := f_t hF hf (by decide) (by decide) (by decide)
        have hB := hN
        refine lv_goto (tgt := 328) hx hb dX13_printPacked_260 (by decide) ?_
        refine lv_iinc (v := I (u3 + 1)) (lv' := [(3, .int (I (u3 + 1))), (4, .int (I x64)), (0, .ref (q 0)), (1, .int (I u1)), (2, .int (I u2))]) hx hb dX13_printPacked_328 hl (k := 4) rfl (I_add _ _) (by decide) rfl (fun ls hl => ?_)
        refine lv_goto (tgt := 226) hx hb dX13_printPacked_331 (by decide) ?_
        obtain ⟨c94, hw⟩ := hw
        exact (hP226 _ _ _ _).mp hw r_u1 r_u2 c94 hN hF H locs ls hP hD hS (lv_sub hl [2, 3, 4, 0] rfl)
def W_X13_printPlain (n1 : Int) (σ : S0) (Q : Int → S0 → Prop) : Prop :=
  ∀ (P41 : S0 → Prop),
  (∀ (τ : S0), ((τ.1 42 ≤ 0 → ∃ (Q11 : Int → S0 → Prop), W_X13_keepDraft τ Q11 ∧ ∀ (x12 : Int) (τ13 : S0), rg x12 → n_m τ13 → f_r [40] [60] [] τ τ13 → Q11 x12 τ13 → (Q x12 τ13)) ∧ (0 < τ.1 42 → (0 ≤ (τ.1 42 - 1) ∧ (τ.1 42 - 1) < 40002) ∧ (∀ (x15 : Int), rg x15 → x15 = τ.2.1 65 (τ.1 42 - 1) → (∀ (x16 : Int), rg x16 → x16 = τ.2.1 66 (τ.1 42 - 1) → (∃ (Q17 : Int → Prop), W_X13_rowWidth x15 τ Q17 ∧ ∀ (x18 : Int), rg x18 → Q17 x18 → ((¬ x16 = x18 → ∀ (x21 : Int), rg x21 → x21 = τ.2.1 66 (τ.1 42 - 1) → (rg (x21 + 1) ∧ (0 ≤ x15 ∧ x15 < 20001) ∧ (∀ (x24 : Int), rg x24 → x24 = τ.2.1 57 x15 → ((0 ≤ (x24 + x16) ∧ (x24 + x16) < 120000) ∧ (∀ (x26 : Int), rg x26 → x26 = τ.2.1 58 (x24 + x16) → (∃ (Q27 : S0 → Prop), W_X13_enter x26 (s_a τ 66 (τ.1 42 - 1) (x21 + 1)) Q27 ∧ ∀ (τ29 : S0), n_m τ29 → f_r [42] [65, 66] [] (s_a τ 66 (τ.1 42 - 1) (x21 + 1)) τ29 → Q27 τ29 → (P41 τ29))))))) ∧ (x16 = x18 → (0 ≤ x15 ∧ x15 < 20001) ∧ (∀ (x31 : Int), rg x31 → x31 = τ.2.1 56 x15 → (∃ (Q32 : S0 → Prop), W_X13_putLabel x31 (s_v τ 42 (τ.1 42 - 1)) Q32 ∧ ∀ (τ34 : S0), n_m τ34 → f_r [39] [59] [] (s_v τ 42 (τ.1 42 - 1)) τ34 → Q32 τ34 → (P41 τ34)))))))))) → P41 τ) →
  ∃ (Q1 : S0 → Prop), W_X13_makeSizes n1 σ Q1 ∧ ∀ (τ3 : S0), n_m τ3 → f_r [30, 32, 36, 37, 38] [42, 46, 56, 57, 58] [2] σ τ3 → Q1 τ3 → ((0 ≤ (τ3.1 36 - 1) ∧ (τ3.1 36 - 1) < 20001) ∧ (∀ (x5 : Int64), x5 = τ3.2.2 2 (τ3.1 36 - 1) → ((x5 ≤ 4000 → ∃ (Q7 : S0 → Prop), W_X13_enter (τ3.1 36 - 1) (s_v τ3 42 0) Q7 ∧ ∀ (τ9 : S0), n_m τ9 → f_r [42] [65, 66] [] (s_v τ3 42 0) τ9 → Q7 τ9 → (P41 τ9)) ∧ (4000 < x5 → Q (-2) τ3))))
set_option maxRecDepth 100000 in
set_option maxHeartbeats 4000000 in
theorem L_X13_printPlain (l : Launch) (g : gG) (q : Nat → Nat) (lb : Nat) (hlb : lb < 2 ^ 31) {n1 : Int} {σ : S0} {Q : Int → S0 → Prop} (r_n1 : rg n1) (hN : n_m σ) (hw : W_X13_printPlain n1 σ Q) (sz : Nat) : MetI l yX13_printPlain cX13_printPlain 4 (some .int) { frames := 3, cells := 0, slots := 0, locals := 65 } g [.ref (q 0), .int (I n1)] (MX g q lb σ) sz xT (p_I (MX g q lb) [30, 32, 36, 37, 38, 39, 40, 42] [42, 46, 56, 57, 58, 59, 60, 65, 66] [2] σ Q) 0 0 := by
  refine mkMet (Qc := fun A => QI g A (p_I (MX g q lb) [30, 32, 36, 37, 38, 39, 40, 42] [42, 46, 56, 57, 58, 59, 60, 65, 66] [2] σ Q)) (by decide) (Nat.le_of_ble_eq_true rfl) ?_
  intro p e s m below meth c A H ls hx hb hr hml hown hts hlk hnm hsz hP hK hNb hD hA hAe hS hX hl
  have hl : lv_has ls 4 [(0, .ref (q 0)), (1, .int (I n1))] := hl
  have hB := hN
  have hF : f_r [30, 32, 36, 37, 38, 39, 40, 42] [42, 46, 56, 57, 58, 59, 60, 65, 66] [2] σ σ := f_0
  obtain ⟨locs, hlocs⟩ : ∃ z : List Loc, z = [] := ⟨_, rfl⟩
  rw [← hlocs] at hS ⊢
  obtain ⟨P41, hP41⟩ : ∃ P : S0 → Prop, ∀ (τ : S0), (P τ ↔ (n_m τ → f_r [30, 32, 36, 37, 38, 39, 40, 42] [42, 46, 56, 57, 58, 59, 60, 65, 66] [2] σ τ → ∀ (H : Heap) (locs : List Loc) (ls : Array Slot), KP g (MX g q lb τ) H → va_D A (MX g q lb τ) → va_S A s.heap H locs → lv_has ls 4 [(0, .ref (q 0))] → W p l e ({ frames := 3, cells := 0, slots := 0, locals := 65 }) s m [.ref (q 0), .int (I n1)].toArray below meth c H locs 0 0 (MQ below (QI g A (p_I (MX g q lb) [30, 32, 36, 37, 38, 39, 40, 42] [42, 46, 56, 57, 58, 59, 60, 65, 66] [2] σ Q)) [.ref (q 0), .int (I n1)].toArray s 0 0 A) (F0 m 41 ls []))) := ⟨_, fun _ => Iff.rfl⟩
  refine (fun hw => ?_) (hw P41 ?_)
  ·
    refine lv_aload_n hx hb dX13_printPlain_0 rfl (lv_at hl 0 rfl) ?_
    refine lv_iload_n hx hb dX13_printPlain_1 rfl (lv_at hl 1 rfl) ?_
    obtain ⟨Q1, hc, hw⟩ := hw
    refine wc_V (X := MX g q lb) (va_runV (As := [.int (I n1)]) (rest := []) ⟨hx, hb, hml, hown, hts⟩ (L_X13_makeSizes l g q lb hlb r_n1 hN hc H.size) (cwV 1 hts (TB_V tw_2889 tw_2891 ts_170 tw_15 co_X13_makeSizes) rfl rfl rfl (by decide +kernel) ⟨Nat.le_of_ble_eq_true rfl, Nat.le_of_ble_eq_true rfl⟩) (preV (q0 := 0) (ci := 13) rfl xT_bl hP hK hNb hD rfl rfl xT_at) rfl rfl hl.1 rfl (lv_room (Nat.le_of_ble_eq_true rfl)) dX13_printPlain_2 ⟨Nat.le_of_ble_eq_true rfl, Nat.le_of_ble_eq_true rfl⟩) hP hD hS hA (fun τ3 H locs hN hf hq hP hD hS => ?_)
    replace hw := hw τ3 hN hf hq
    have hF : f_r [30, 32, 36, 37, 38, 39, 40, 42] [42, 46, 56, 57, 58, 59, 60, 65, 66] [2] σ τ3 := f_t hF hf (by decide) (by decide) (by decide)
    have hB := hN
    refine lv_aload_n hx hb dX13_printPlain_5 rfl (lv_at hl 0 rfl) ?_
    refine gfX13_sizes hx hb hts hK hP hown (hts _ tw_2106) dX13_printPlain_6 ?_
    refine lv_aload_n hx hb dX13_printPlain_9 rfl (lv_at hl 0 rfl) ?_
    refine gfX13_rowCount hx hb hts hK hP hown (hts _ tw_2103) (x := τ3.1 36) rfl dX13_printPlain_10 ?_
    refine lv_iconst (v := I 1) hx hb dX13_printPlain_13 rfl ?_
    refine bi_isub hx hb dX13_printPlain_14 ?_
    obtain ⟨c4, hw⟩ := hw
    refine ldMX13_sizes hx hb hK hP hN c4 dX13_printPlain_15 (fun x5 e_x5 => ?_)
    replace hw := hw x5 e_x5
    refine lv_ldc2 (own := RX13) (v := 4000) hx hb hown (hts _ tw_3116) dX13_printPlain_16 ?_
    refine bi_lcmp_le (tgt := 26) hx hb dX13_printPlain_19 dX13_printPlain_20 (by decide) (fun c6 => ?_) (fun c6 => ?_)
    ·
      replace hw := hw.1 c6
      refine lv_aload_n hx hb dX13_printPlain_26 rfl (lv_at hl 0 rfl) ?_
      refine lv_iconst (v := I 0) hx hb dX13_printPlain_27 rfl ?_
      refine pfX13_walked hx hb hts hK hP hD hS hown (hts _ tw_2117) dX13_printPlain_28 (fun H locs hP hD hS => ?_)
      have hN : n_m (s_v τ3 42 0) := n_v (i := 42) hN ((by decide) : rg 0)
      have hF : f_r [30, 32, 36, 37, 38, 39, 40, 42] [42, 46, 56, 57, 58, 59, 60, 65, 66] [2] σ (s_v τ3 42 0) := f_v hF (by decide)
      refine lv_aload_n hx hb dX13_printPlain_31 rfl (lv_at hl 0 rfl) ?_
      refine lv_aload_n hx hb dX13_printPlain_32 rfl (lv_at hl 0 rfl) ?_
      refine gfX13_rowCount hx hb hts hK hP hown (hts _ tw_2103) (x := τ3.1 36) rfl dX13_printPlain_33 ?_
      refine lv_iconst (v := I 1) hx hb dX13_printPlain_36 rfl ?_
      refine bi_isub hx hb dX13_printPlain_37 ?_
      obtain ⟨Q7, hc, hw⟩ := hw
      refine wc_V (X := MX g q lb) (va_runV (As := [.int (I (τ3.1 36 - 1))]) (rest := []) ⟨hx, hb, hml, hown, hts⟩ (L_X13_enter l g q lb hlb (rg_ix c4.1 c4.2 (by decide)) hN hc H.size) (cwV 1 hts (TB_V tw_3039 tw_3041 ts_202 tw_15 co_X13_enter) rfl rfl rfl (by decide +kernel) ⟨Nat.le_of_ble_eq_true rfl, Nat.le_of_ble_eq_true rfl⟩) (preV (q0 := 0) (ci := 13) rfl xT_bl hP hK hNb hD rfl rfl xT_at) rfl rfl hl.1 rfl (lv_room (Nat.le_of_ble_eq_true rfl)) dX13_printPlain_38 ⟨Nat.le_of_ble_eq_true rfl, Nat.le_of_ble_eq_true rfl⟩) hP hD hS hA (fun τ9 H locs hN hf hq hP hD hS => ?_)
      replace hw := hw τ9 hN hf hq
      have hF : f_r [30, 32, 36, 37, 38, 39, 40, 42] [42, 46, 56, 57, 58, 59, 60, 65, 66] [2] σ τ9 := f_t hF hf (by decide) (by decide) (by decide)
      have hB := hN
      exact (hP41 _).mp hw hN hF H locs ls hP hD hS (lv_sub hl [0] rfl)
    ·
      replace hw := hw.2 c6
      refine lv_bipush (v := I (-2)) hx hb dX13_printPlain_23 (by decide) ?_
      exact xri hx hb hr hlk hP hK hD hS ⟨_, _, (by decide), rfl, hN, hF, rfl, hw⟩ (Nat.le_of_ble_eq_true rfl) (Nat.le_of_ble_eq_true rfl) dX13_printPlain_25
  ·
    intro τ hw
    refine (hP41 _).mpr ?_
    intro hN hF H locs ls hP hD hS hl
    have hB := hN
    refine lv_aload_n hx hb dX13_printPlain_41 rfl (lv_at hl 0 rfl) ?_
    refine gfX13_walked hx hb hts hK hP hown (hts _ tw_2117) (x := τ.1 42) rfl dX13_printPlain_42 ?_
    refine bi_if_le (tgt := 139) hx hb (hB.1 42) dX13_printPlain_45 (by decide) (fun c10 => ?_) (fun c10 => ?_)
    ·
      replace hw := hw.1 c10
      refine lv_aload_n hx hb dX13_printPlain_139 rfl (lv_at hl 0 rfl) ?_
      obtain ⟨Q11, hc, hw⟩ := hw
      refine wc_I (X := MX g q lb) (va_runV (As := []) (rest := []) ⟨hx, hb, hml, hown, hts⟩ (L_X13_keepDraft l g q lb hlb  hN hc H.size) (cwV 0 hts (TB_V tw_3075 tw_3077 ts_210 tw_15 co_X13_keepDraft) rfl rfl rfl (by decide +kernel) ⟨Nat.le_of_ble_eq_true rfl, Nat.le_of_ble_eq_true rfl⟩) (preV (q0 := 0) (ci := 13) rfl xT_bl hP hK hNb hD rfl rfl xT_at) rfl rfl hl.1 rfl (lv_room (Nat.le_of_ble_eq_true rfl)) dX13_printPlain_140 ⟨Nat.le_of_ble_eq_true rfl, Nat.le_of_ble_eq_true rfl⟩) hP hD hS hA (fun x12 τ13 H locs r_x12 hN hf hq hP hD hS => ?_)
      replace hw := hw x12 τ13 r_x12 hN hf hq
      have hF : f_r [30, 32, 36, 37, 38, 39, 40, 42] [42, 46, 56, 57, 58, 59, 60, 65, 66] [2] σ τ13 := f_t hF hf (by decide) (by decide) (by decide)
      have hB := hN
      exact xri hx hb hr hlk hP hK hD hS ⟨_, _, r_x12, rfl, hN, hF, rfl, hw⟩ (Nat.le_of_ble_eq_true rfl) (Nat.le_of_ble_eq_true rfl) dX13_printPlain_143
    ·
      replace hw := hw.2 c10
      refine lv_aload_n hx hb dX13_printPlain_48 rfl (lv_at hl 0 rfl) ?_
      refine gfX13_walk hx hb hts hK hP hown (hts _ tw_2115) dX13_printPlain_49 ?_
      refine lv_aload_n hx hb dX13_printPlain_52 rfl (lv_at hl 0 rfl) ?_
      refine gfX13_walked hx hb hts hK hP hown (hts _ tw_2117) (x := τ.1 42) rfl dX13_printPlain_53 ?_
      refine lv_iconst (v := I 1) hx hb dX13_printPlain_56 rfl ?_
      refine bi_isub hx hb dX13_printPlain_57 ?_
      obtain ⟨c14, hw⟩ := hw
      refine ldMX13_walk hx hb hK hP hN c14 dX13_printPlain_58 (fun x15 r_x15 e_x15 => ?_)
      replace hw := hw x15 r_x15 e_x15
      refine lv_istore_n (lv' := [(2, .int (I x15)), (0, .ref (q 0))]) hx hb dX13_printPlain_59 rfl hl (by decide) rfl (fun ls hl => ?_)
      refine lv_aload_n hx hb dX13_printPlain_60 rfl (lv_at hl 1 rfl) ?_
      refine gfX13_walkKid hx hb hts hK hP hown (hts _ tw_2116) dX13_printPlain_61 ?_
      refine lv_aload_n hx hb dX13_printPlain_64 rfl (lv_at hl 1 rfl) ?_
      refine gfX13_walked hx hb hts hK hP hown (hts _ tw_2117) (x := τ.1 42) rfl dX13_printPlain_65 ?_
      refine lv_iconst (v := I 1) hx hb dX13_printPlain_68 rfl ?_
      refine bi_isub hx hb dX13_printPlain_69 ?_
      refine ldMX13_walkKid hx hb hK hP hN c14 dX13_printPlain_70 (fun x16 r_x16 e_x16 => ?_)
      replace hw := hw x16 r_x16 e_x16
      refine lv_istore_n (lv' := [(3, .int (I x16)), (2, .int (I x15)), (0, .ref (q 0))]) hx hb dX13_printPlain_71 rfl hl (by decide) rfl (fun ls hl => ?_)
      refine lv_iload_n hx hb dX13_printPlain_72 rfl (lv_at hl 0 rfl) ?_
      refine lv_aload_n hx hb dX13_printPlain_73 rfl (lv_at hl 2 rfl) ?_
      refine lv_iload_n hx hb dX13_printPlain_74 rfl (lv_at hl 1 rfl) ?_
      obtain ⟨Q17, hc, hw⟩ := hw
      refine wc_i (X := MX g q lb) (va_runV (As := [.int (I x15)]) (rest := [.int (I x16)]) ⟨hx, hb, hml, hown, hts⟩ (L_X13_rowWidth l g q lb hlb r_x15 hN hc H.size) (cwV 1 hts (TB_V tw_2877 tw_2879 ts_169 tw_15 co_X13_rowWidth) rfl rfl rfl (by decide +kernel) ⟨Nat.le_of_ble_eq_true rfl, Nat.le_of_ble_eq_true rfl⟩) (preV (q0 := 0) (ci := 13) rfl xT_bl hP hK hNb hD rfl rfl xT_at) rfl rfl hl.1 rfl (lv_room (Nat.le_of_ble_eq_true rfl)) dX13_printPlain_75 ⟨Nat.le_of_ble_eq_true rfl, Nat.le_of_ble_eq_true rfl⟩) hP hD hS hA (fun x18 H locs r_x18 hq hP hD hS => ?_)
      replace hw := hw x18 r_x18 hq
      refine bi_icmp_ne (tgt := 104) hx hb r_x16 r_x18 dX13_printPlain_78 (by decide) (fun c20 => ?_) (fun c20 => ?_)
      ·
        replace hw := hw.1 c20
        refine lv_aload_n hx hb dX13_printPlain_104 rfl (lv_at hl 2 rfl) ?_
        refine gfX13_walkKid hx hb hts hK hP hown (hts _ tw_2116) dX13_printPlain_105 ?_
        refine lv_aload_n hx hb dX13_printPlain_108 rfl (lv_at hl 2 rfl) ?_
        refine gfX13_walked hx hb hts hK hP hown (hts _ tw_2117) (x := τ.1 42) rfl dX13_printPlain_109 ?_
        refine lv_iconst (v := I 1) hx hb dX13_printPlain_112 rfl ?_
        refine bi_isub hx hb dX13_printPlain_113 ?_
        refine lv_dup2_11 hx hb dX13_printPlain_114 rfl rfl ?_
        refine ldMX13_walkKid hx hb hK hP hN c14 dX13_printPlain_115 (fun x21 r_x21 e_x21 => ?_)
        replace hw := hw x21 r_x21 e_x21
        refine lv_iconst (v := I 1) hx hb dX13_printPlain_116 rfl ?_
        refine bi_iadd hx hb dX13_printPlain_117 ?_
        obtain ⟨c22, hw⟩ := hw
        refine sdMX13_walkKid hx hb hK hP hD hS c14 dX13_printPlain_118 (fun H locs hP hD hS => ?_)
        have hN : n_m (s_a τ 66 (τ.1 42 - 1) (x21 + 1)) := n_a (k := 66) (j := (τ.1 42 - 1)) hN (c22 : rg (x21 + 1))
        have hF : f_r [30, 32, 36, 37, 38, 39, 40, 42] [42, 46, 56, 57, 58, 59, 60, 65, 66] [2] σ (s_a τ 66 (τ.1 42 - 1) (x21 + 1)) := f_a hF (by decide)
        refine lv_aload_n hx hb dX13_printPlain_119 rfl (lv_at hl 2 rfl) ?_
        refine lv_aload_n hx hb dX13_printPlain_120 rfl (lv_at hl 2 rfl) ?_
        refine gfX13_rowFroms hx hb hts hK hP hown (hts _ tw_2102) dX13_printPlain_121 ?_
        refine lv_aload_n hx hb dX13_printPlain_124 rfl (lv_at hl 2 rfl) ?_
        refine gfX13_rowFromAt hx hb hts hK hP hown (hts _ tw_2101) dX13_printPlain_125 ?_
        refine lv_iload_n hx hb dX13_printPlain_128 rfl (lv_at hl 1 rfl) ?_
        obtain ⟨c23, hw⟩ := hw
        refine ldMX13_rowFromAt hx hb hK hP hN c23 dX13_printPlain_129 (fun x24 r_x24 e_x24 => ?_)
        replace hw := hw x24 r_x24 e_x24
        refine lv_iload_n hx hb dX13_printPlain_130 rfl (lv_at hl 0 rfl) ?_
        refine bi_iadd hx hb dX13_printPlain_131 ?_
        obtain ⟨c25, hw⟩ := hw
        refine ldMX13_rowFroms hx hb hK hP hN c25 dX13_printPlain_132 (fun x26 r_x26 e_x26 => ?_)
        replace hw := hw x26 r_x26 e_x26
        obtain ⟨Q27, hc, hw⟩ := hw
        refine wc_V (X := MX g q lb) (va_runV (As := [.int (I x26)]) (rest := []) ⟨hx, hb, hml, hown, hts⟩ (L_X13_enter l g q lb hlb r_x26 hN hc H.size) (cwV 1 hts (TB_V tw_3039 tw_3041 ts_202 tw_15 co_X13_enter) rfl rfl rfl (by decide +kernel) ⟨Nat.le_of_ble_eq_true rfl, Nat.le_of_ble_eq_true rfl⟩) (preV (q0 := 0) (ci := 13) rfl xT_bl hP hK hNb hD rfl rfl xT_at) rfl rfl hl.1 rfl (lv_room (Nat.le_of_ble_eq_true rfl)) dX13_printPlain_133 ⟨Nat.le_of_ble_eq_true rfl, Nat.le_of_ble_eq_true rfl⟩) hP hD hS hA (fun τ29 H locs hN hf hq hP hD hS => ?_)
        replace hw := hw τ29 hN hf hq
        have hF : f_r [30, 32, 36, 37, 38, 39, 40, 42] [42, 46, 56, 57, 58, 59, 60, 65, 66] [2] σ τ29 := f_t hF hf (by decide) (by decide) (by decide)
        have hB := hN
        refine lv_goto (tgt := 41) hx hb dX13_printPlain_136 (by decide) ?_
        exact (hP41 _).mp hw hN hF H locs ls hP hD hS (lv_sub hl [2] rfl)
      ·
        replace hw := hw.2 c20
        refine lv_aload_n hx hb dX13_printPlain_81 rfl (lv_at hl 2 rfl) ?_
        refine lv_dup hx hb dX13_printPlain_82 rfl ?_
        refine gfX13_walked hx hb hts hK hP hown (hts _ tw_2117) (x := τ.1 42) rfl dX13_printPlain_83 ?_
        refine lv_iconst (v := I 1) hx hb dX13_printPlain_86 rfl ?_
        refine bi_isub hx hb dX13_printPlain_87 ?_
        refine pfX13_walked hx hb hts hK hP hD hS hown (hts _ tw_2117) dX13_printPlain_88 (fun H locs hP hD hS => ?_)
        have hN : n_m (s_v τ 42 (τ.1 42 - 1)) := n_v (i := 42) hN ((rg_ix c14.1 c14.2 (by decide)) : rg (τ.1 42 - 1))
        have hF : f_r [30, 32, 36, 37, 38, 39, 40, 42] [42, 46, 56, 57, 58, 59, 60, 65, 66] [2] σ (s_v τ 42 (τ.1 42 - 1)) := f_v hF (by decide)
        refine lv_aload_n hx hb dX13_printPlain_91 rfl (lv_at hl 2 rfl) ?_
        refine lv_aload_n hx hb dX13_printPlain_92 rfl (lv_at hl 2 rfl) ?_
        refine gfX13_rowOf hx hb hts hK hP hown (hts _ tw_2100) dX13_printPlain_93 ?_
        refine lv_iload_n hx hb dX13_printPlain_96 rfl (lv_at hl 1 rfl) ?_
        obtain ⟨c30, hw⟩ := hw
        refine ldMX13_rowOf hx hb hK hP hN c30 dX13_printPlain_97 (fun x31 r_x31 e_x31 => ?_)
        replace hw := hw x31 r_x31 e_x31
        obtain ⟨Q32, hc, hw⟩ := hw
        refine wc_V (X := MX g q lb) (va_runV (As := [.int (I x31)]) (rest := []) ⟨hx, hb, hml, hown, hts⟩ (L_X13_putLabel l g q lb hlb r_x31 hN hc H.size) (cwV 1 hts (TB_V tw_3059 tw_3061 ts_206 tw_15 co_X13_putLabel) rfl rfl rfl (by decide +kernel) ⟨Nat.le_of_ble_eq_true rfl, Nat.le_of_ble_eq_true rfl⟩) (preV (q0 := 0) (ci := 13) rfl xT_bl hP hK hNb hD rfl rfl xT_at) rfl rfl hl.1 rfl (lv_room (Nat.le_of_ble_eq_true rfl)) dX13_printPlain_98 ⟨Nat.le_of_ble_eq_true rfl, Nat.le_of_ble_eq_true rfl⟩) hP hD hS hA (fun τ34 H locs hN hf hq hP hD hS => ?_)
        replace hw := hw τ34 hN hf hq
        have hF : f_r [30, 32, 36, 37, 38, 39, 40, 42] [42, 46, 56, 57, 58, 59, 60, 65, 66] [2] σ τ34 := f_t hF hf (by decide) (by decide) (by decide)
        have hB := hN
        refine lv_goto (tgt := 136) hx hb dX13_printPlain_101 (by decide) ?_
        refine lv_goto (tgt := 41) hx hb dX13_printPlain_136 (by decide) ?_
        exact (hP41 _).mp hw hN hF H locs ls hP hD hS (lv_sub hl [2] rfl)
def W_X13_isSort (n1 : Int) (σ : S0) (Q : Int → Prop) : Prop :=
  (n1 = (-1) → Q 0) ∧ (¬ n1 = (-1) → (0 ≤ n1 ∧ n1 < 1001) ∧ (∀ (x3 : Int), rg x3 → x3 = σ.2.1 8 n1 → ((¬ x3 = 0 → Q 0) ∧ (x3 = 0 → (n1 = σ.1 11 → Q 0) ∧ (¬ n1 = σ.1 11 → Q 1)))))
set_option maxRecDepth 100000 in
set_option maxHeartbeats 4000000 in
theorem L_X13_isSort (l : Launch) (g : gG) (q : Nat → Nat) (lb : Nat) (hlb : lb < 2 ^ 31) {n1 : Int} {σ : S0} {Q : Int → Prop} (r_n1 : rg n1) (hN : n_m σ) (hw : W_X13_isSort n1 σ Q) (sz : Nat) : MetI l yX13_isSort cX13_isSort 2 (some .boolean) { frames := 0, cells := 0, slots := 0, locals := 0 } g [.ref (q 0), .int (I n1)] (MX g q lb σ) sz xT (p_i (MX g q lb) σ Q) 0 0 := by
  refine mkMet (Qc := fun A => QI g A (p_i (MX g q lb) σ Q)) (by decide) (Nat.le_of_ble_eq_true rfl) ?_
  intro p e s m below meth c A H ls hx hb hr hml hown hts hlk hnm hsz hP hK hNb hD hA hAe hS hX hl
  have hl : lv_has ls 2 [(0, .ref (q 0)), (1, .int (I n1))] := hl
  have hB := hN
  obtain ⟨locs, hlocs⟩ : ∃ z : List Loc, z = [] := ⟨_, rfl⟩
  rw [← hlocs] at hS ⊢
  refine lv_iload_n hx hb dX13_isSort_0 rfl (lv_at hl 1 rfl) ?_
  refine lv_iconst (v := I (-1)) hx hb dX13_isSort_1 rfl ?_
  refine bi_icmp_eq (tgt := 26) hx hb r_n1 (by decide) dX13_isSort_2 (by decide) (fun c1 => ?_) (fun c1 => ?_)
  ·
    replace hw := hw.1 c1
    refine lv_iconst (v := I 0) hx hb dX13_isSort_26 rfl ?_
    exact xrz hx hb hr (by decide) hlk hP hK hD hS ⟨_, (by decide), rfl, rfl, hw⟩ (Nat.le_of_ble_eq_true rfl) (Nat.le_of_ble_eq_true rfl) dX13_isSort_27
  ·
    replace hw := hw.2 c1
    refine lv_aload_n hx hb dX13_isSort_5 rfl (lv_at hl 0 rfl) ?_
    refine gfX13_isVariable hx hb hts hK hP hown (hts _ tw_2018) dX13_isSort_6 ?_
    refine lv_iload_n hx hb dX13_isSort_9 rfl (lv_at hl 1 rfl) ?_
    obtain ⟨c2, hw⟩ := hw
    refine ldMX13_isVariable hx hb hK hP hN c2 dX13_isSort_10 (fun x3 r_x3 e_x3 => ?_)
    replace hw := hw x3 r_x3 e_x3
    refine bi_if_ne (tgt := 26) hx hb r_x3 dX13_isSort_11 (by decide) (fun c4 => ?_) (fun c4 => ?_)
    ·
      replace hw := hw.1 c4
      refine lv_iconst (v := I 0) hx hb dX13_isSort_26 rfl ?_
      exact xrz hx hb hr (by decide) hlk hP hK hD hS ⟨_, (by decide), rfl, rfl, hw⟩ (Nat.le_of_ble_eq_true rfl) (Nat.le_of_ble_eq_true rfl) dX13_isSort_27
    ·
      replace hw := hw.2 c4
      refine lv_iload_n hx hb dX13_isSort_14 rfl (lv_at hl 1 rfl) ?_
      refine lv_aload_n hx hb dX13_isSort_15 rfl (lv_at hl 0 rfl) ?_
      refine gfX13_turnstile hx hb hts hK hP hown (hts _ tw_2048) (x := σ.1 11) rfl dX13_isSort_16 ?_
      refine bi_icmp_eq (tgt := 26) hx hb r_n1 (hB.1 11) dX13_isSort_19 (by decide) (fun c5 => ?_) (fun c5 => ?_)
      ·
        replace hw := hw.1 c5
        refine lv_iconst (v := I 0) hx hb dX13_isSort_26 rfl ?_
        exact xrz hx hb hr (by decide) hlk hP hK hD hS ⟨_, (by decide), rfl, rfl, hw⟩ (Nat.le_of_ble_eq_true rfl) (Nat.le_of_ble_eq_true rfl) dX13_isSort_27
      ·
        replace hw := hw.2 c5
        refine lv_iconst (v := I 1) hx hb dX13_isSort_22 rfl ?_
        refine lv_goto (tgt := 27) hx hb dX13_isSort_23 (by decide) ?_
        exact xrz hx hb hr (by decide) hlk hP hK hD hS ⟨_, (by decide), rfl, rfl, hw⟩ (Nat.le_of_ble_eq_true rfl) (Nat.le_of_ble_eq_true rfl) dX13_isSort_27
def W_X13_isRule (n1 : Int) (σ : S0) (Q : Int → Prop) : Prop :=
  ∀ (P49 : Int → Int → Int → Prop) (P128 : Int → Int → Int → Prop) (P159 : Int → Int → Int → Int → Prop),
  (∀ (u1 : Int) (u2 : Int) (u3 : Int), ((0 ≤ u1 ∧ u1 < 1501) ∧ (∀ (x15 : Int), rg x15 → x15 = σ.2.1 18 u1 → (∀ (x16 : Int), rg x16 → x16 = σ.2.1 19 u1 → (rg (x15 + x16) ∧ ((x15 + x16) ≤ u3 → ∀ (x19 : Int), rg x19 → x19 = σ.2.1 14 u1 → (rg (x19 + 1) ∧ P128 u1 u2 (x19 + 1))) ∧ (u3 < (x15 + x16) → (u2 = 0 → rg (u3 + 1) ∧ P49 u1 0 (u3 + 1)) ∧ (¬ u2 = 0 → (0 ≤ u3 ∧ u3 < 90100) ∧ (∀ (x24 : Int), rg x24 → x24 = σ.2.1 20 u3 → ((0 ≤ x24 ∧ x24 < 1501) ∧ (∀ (x26 : Int), rg x26 → x26 = σ.2.1 13 x24 → ((¬ x26 = 0 → rg (u3 + 1) ∧ P49 u1 0 (u3 + 1)) ∧ (x26 = 0 → ∀ (x29 : Int), rg x29 → x29 = σ.2.1 20 u3 → ((0 ≤ x29 ∧ x29 < 1501) ∧ (∀ (x31 : Int), rg x31 → x31 = σ.2.1 14 x29 → ((0 ≤ x31 ∧ x31 < 30400) ∧ (∀ (x33 : Int), rg x33 → x33 = σ.2.1 16 x31 → ((x33 = σ.1 11 → rg (u3 + 1) ∧ P49 u1 0 (u3 + 1)) ∧ (¬ x33 = σ.1 11 → rg (u3 + 1) ∧ P49 u1 1 (u3 + 1)))))))))))))))))) → P49 u1 u2 u3) →
  (∀ (u1 : Int) (u2 : Int) (u3 : Int), ((0 ≤ u1 ∧ u1 < 1501) ∧ (∀ (x38 : Int), rg x38 → x38 = σ.2.1 14 u1 → (∀ (x39 : Int), rg x39 → x39 = σ.2.1 15 u1 → (rg (x38 + x39) ∧ ((x38 + x39) ≤ u3 → (0 ≤ u2 ∧ u2 ≤ 1) ∧ Q u2) ∧ (u3 < (x38 + x39) → (u2 = 0 → (0 ≤ u2 ∧ u2 ≤ 1) ∧ Q u2) ∧ (¬ u2 = 0 → ∀ (x45 : Int), rg x45 → x45 = σ.2.1 14 u1 → (rg (x45 + 1) ∧ P159 u1 u2 u3 (x45 + 1)))))))) → P128 u1 u2 u3) →
  (∀ (u1 : Int) (u2 : Int) (u3 : Int) (u4 : Int), ((u3 ≤ u4 → rg (u3 + 1) ∧ P128 u1 u2 (u3 + 1)) ∧ (u4 < u3 → (u2 = 0 → rg (u3 + 1) ∧ P128 u1 u2 (u3 + 1)) ∧ (¬ u2 = 0 → (0 ≤ u3 ∧ u3 < 30400) ∧ (∀ (x52 : Int), rg x52 → x52 = σ.2.1 16 u3 → ((0 ≤ x52 ∧ x52 < 1001) ∧ (∀ (x54 : Int), rg x54 → x54 = σ.2.1 8 x52 → ((x54 = 0 → rg (u4 + 1) ∧ P159 u1 1 u3 (u4 + 1)) ∧ (¬ x54 = 0 → (0 ≤ u4 ∧ u4 < 30400) ∧ (∀ (x58 : Int), rg x58 → x58 = σ.2.1 16 u4 → (∀ (x59 : Int), rg x59 → x59 = σ.2.1 16 u3 → ((x58 = x59 → rg (u4 + 1) ∧ P159 u1 0 u3 (u4 + 1)) ∧ (¬ x58 = x59 → rg (u4 + 1) ∧ P159 u1 1 u3 (u4 + 1))))))))))))) → P159 u1 u2 u3 u4) →
  (0 ≤ n1 ∧ n1 < 1501) ∧ (∀ (x2 : Int), rg x2 → x2 = σ.2.1 13 n1 → ((¬ x2 = 2 → Q 0) ∧ (x2 = 2 → ∀ (x4 : Int), rg x4 → x4 = σ.2.1 15 n1 → ((x4 < 2 → Q 0) ∧ (2 ≤ x4 → ∀ (x6 : Int), rg x6 → x6 = σ.2.1 14 n1 → ((0 ≤ x6 ∧ x6 < 30400) ∧ (∀ (x8 : Int), rg x8 → x8 = σ.2.1 16 x6 → (∃ (Q9 : Int → Prop), W_X13_isSort x8 σ Q9 ∧ ∀ (x10 : Int), rg x10 → Q9 x10 → ((¬ x10 = 0 → ∀ (x13 : Int), rg x13 → x13 = σ.2.1 18 n1 → (P49 n1 1 x13)) ∧ (x10 = 0 → Q 0))))))))))
set_option maxRecDepth 100000 in
set_option maxHeartbeats 4000000 in
theorem L_X13_isRule (l : Launch) (g : gG) (q : Nat → Nat) (lb : Nat) (hlb : lb < 2 ^ 31) {n1 : Int} {σ : S0} {Q : Int → Prop} (r_n1 : rg n1) (hN : n_m σ) (hw : W_X13_isRule n1 σ Q) (sz : Nat) : MetI l yX13_isRule cX13_isRule 5 (some .boolean) { frames := 1, cells := 0, slots := 0, locals := 21 } g [.ref (q 0), .int (I n1)] (MX g q lb σ) sz xT (p_i (MX g q lb) σ Q) 0 0 := by
  refine mkMet (Qc := fun A => QI g A (p_i (MX g q lb) σ Q)) (by decide) (Nat.le_of_ble_eq_true rfl) ?_
  intro p e s m below meth c A H ls hx hb hr hml hown hts hlk hnm hsz hP hK hNb hD hA hAe hS hX hl
  have hl : lv_has ls 5 [(0, .ref (q 0)), (1, .int (I n1))] := hl
  have hB := hN
  obtain ⟨locs, hlocs⟩ : ∃ z : List Loc, z = [] := ⟨_, rfl⟩
  rw [← hlocs] at hS ⊢
  obtain ⟨P49, hP49⟩ : ∃ P : Int → Int → Int → Prop, ∀ (u1 : Int) (u2 : Int) (u3 : Int), (P u1 u2 u3 ↔ (rg u1 → rg u2 → rg u3 → ∀ (H : Heap) (locs : List Loc) (ls : Array Slot), KP g (MX g q lb σ) H → va_D A (MX g q lb σ) → va_S A s.heap H locs → lv_has ls 5 [(0, .ref (q 0)), (1, .int (I u1)), (2, .int (I u2)), (3, .int (I u3))] → W p l e ({ frames := 1, cells := 0, slots := 0, locals := 21 }) s m [.ref (q 0), .int (I n1)].toArray below meth c H locs 0 0 (MQ below (QI g A (p_i (MX g q lb) σ Q)) [.ref (q 0), .int (I n1)].toArray s 0 0 A) (F0 m 49 ls []))) := ⟨_, fun _ _ _ => Iff.rfl⟩
  obtain ⟨P128, hP128⟩ : ∃ P : Int → Int → Int → Prop, ∀ (u1 : Int) (u2 : Int) (u3 : Int), (P u1 u2 u3 ↔ (rg u1 → rg u2 → rg u3 → ∀ (H : Heap) (locs : List Loc) (ls : Array Slot), KP g (MX g q lb σ) H → va_D A (MX g q lb σ) → va_S A s.heap H locs → lv_has ls 5 [(0, .ref (q 0)), (1, .int (I u1)), (2, .int (I u2)), (3, .int (I u3))] → W p l e ({ frames := 1, cells := 0, slots := 0, locals := 21 }) s m [.ref (q 0), .int (I n1)].toArray below meth c H locs 0 0 (MQ below (QI g A (p_i (MX g q lb) σ Q)) [.ref (q 0), .int (I n1)].toArray s 0 0 A) (F0 m 128 ls []))) := ⟨_, fun _ _ _ => Iff.rfl⟩
  obtain ⟨P159, hP159⟩ : ∃ P : Int → Int → Int → Int → Prop, ∀ (u1 : Int) (u2 : Int) (u3 : Int) (u4 : Int), (P u1 u2 u3 u4 ↔ (rg u1 → rg u2 → rg u3 → rg u4 → ∀ (H : Heap) (locs : List Loc) (ls : Array Slot), KP g (MX g q lb σ) H → va_D A (MX g q lb σ) → va_S A s.heap H locs → lv_has ls 5 [(0, .ref (q 0)), (1, .int (I u1)), (2, .int (I u2)), (3, .int (I u3)), (4, .int (I u4))] → W p l e ({ frames := 1, cells := 0, slots := 0, locals := 21 }) s m [.ref (q 0), .int (I n1)].toArray below meth c H locs 0 0 (MQ below (QI g A (p_i (MX g q lb) σ Q)) [.ref (q 0), .int (I n1)].toArray s 0 0 A) (F0 m 159 ls []))) := ⟨_, fun _ _ _ _ => Iff.rfl⟩
  refine (fun hw => ?_) (hw P49 P128 P159 ?_ ?_ ?_)
  ·
    refine lv_aload_n hx hb dX13_isRule_0 rfl (lv_at hl 0 rfl) ?_
    refine gfX13_kindOf hx hb hts hK hP hown (hts _ tw_2025) dX13_isRule_1 ?_
    refine lv_iload_n hx hb dX13_isRule_4 rfl (lv_at hl 1 rfl) ?_
    obtain ⟨c1, hw⟩ := hw
    refine ldMX13_kindOf hx hb hK hP hN c1 dX13_isRule_5 (fun x2 r_x2 e_x2 => ?_)
    replace hw := hw x2 r_x2 e_x2
    refine lv_iconst (v := I 2) hx hb dX13_isRule_6 rfl ?_
    refine bi_icmp_ne (tgt := 38) hx hb r_x2 (by decide) dX13_isRule_7 (by decide) (fun c3 => ?_) (fun c3 => ?_)
    ·
      replace hw := hw.1 c3
      refine lv_iconst (v := I 0) hx hb dX13_isRule_38 rfl ?_
      exact xrz hx hb hr (by decide) hlk hP hK hD hS ⟨_, (by decide), rfl, rfl, hw⟩ (Nat.le_of_ble_eq_true rfl) (Nat.le_of_ble_eq_true rfl) dX13_isRule_39
    ·
      replace hw := hw.2 c3
      refine lv_aload_n hx hb dX13_isRule_10 rfl (lv_at hl 0 rfl) ?_
      refine gfX13_textSize hx hb hts hK hP hown (hts _ tw_2027) dX13_isRule_11 ?_
      refine lv_iload_n hx hb dX13_isRule_14 rfl (lv_at hl 1 rfl) ?_
      refine ldMX13_textSize hx hb hK hP hN c1 dX13_isRule_15 (fun x4 r_x4 e_x4 => ?_)
      replace hw := hw x4 r_x4 e_x4
      refine lv_iconst (v := I 2) hx hb dX13_isRule_16 rfl ?_
      refine bi_icmp_lt (tgt := 38) hx hb r_x4 (by decide) dX13_isRule_17 (by decide) (fun c5 => ?_) (fun c5 => ?_)
      ·
        replace hw := hw.1 c5
        refine lv_iconst (v := I 0) hx hb dX13_isRule_38 rfl ?_
        exact xrz hx hb hr (by decide) hlk hP hK hD hS ⟨_, (by decide), rfl, rfl, hw⟩ (Nat.le_of_ble_eq_true rfl) (Nat.le_of_ble_eq_true rfl) dX13_isRule_39
      ·
        replace hw := hw.2 c5
        refine lv_aload_n hx hb dX13_isRule_20 rfl (lv_at hl 0 rfl) ?_
        refine lv_aload_n hx hb dX13_isRule_21 rfl (lv_at hl 0 rfl) ?_
        refine gfX13_texts hx hb hts hK hP hown (hts _ tw_2028) dX13_isRule_22 ?_
        refine lv_aload_n hx hb dX13_isRule_25 rfl (lv_at hl 0 rfl) ?_
        refine gfX13_textAt hx hb hts hK hP hown (hts _ tw_2026) dX13_isRule_26 ?_
        refine lv_iload_n hx hb dX13_isRule_29 rfl (lv_at hl 1 rfl) ?_
        refine ldMX13_textAt hx hb hK hP hN c1 dX13_isRule_30 (fun x6 r_x6 e_x6 => ?_)
        replace hw := hw x6 r_x6 e_x6
        obtain ⟨c7, hw⟩ := hw
        refine ldMX13_texts hx hb hK hP hN c7 dX13_isRule_31 (fun x8 r_x8 e_x8 => ?_)
        replace hw := hw x8 r_x8 e_x8
        obtain ⟨Q9, hc, hw⟩ := hw
        refine wc_i (X := MX g q lb) (va_runV (As := [.int (I x8)]) (rest := []) ⟨hx, hb, hml, hown, hts⟩ (L_X13_isSort l g q lb hlb r_x8 hN hc H.size) (cwV 1 hts (TB_V tw_2920 tw_2922 ts_175 tw_15 co_X13_isSort) rfl rfl rfl (by decide +kernel) ⟨Nat.le_of_ble_eq_true rfl, Nat.le_of_ble_eq_true rfl⟩) (preV (q0 := 0) (ci := 13) rfl xT_bl hP hK hNb hD rfl rfl xT_at) rfl rfl hl.1 rfl (lv_room (Nat.le_of_ble_eq_true rfl)) dX13_isRule_32 ⟨Nat.le_of_ble_eq_true rfl, Nat.le_of_ble_eq_true rfl⟩) hP hD hS hA (fun x10 H locs r_x10 hq hP hD hS => ?_)
        replace hw := hw x10 r_x10 hq
        refine bi_if_ne (tgt := 40) hx hb r_x10 dX13_isRule_35 (by decide) (fun c12 => ?_) (fun c12 => ?_)
        ·
          replace hw := hw.1 c12
          refine lv_iconst (v := I 1) hx hb dX13_isRule_40 rfl ?_
          refine lv_istore_n (lv' := [(2, .int (I 1)), (0, .ref (q 0)), (1, .int (I n1))]) hx hb dX13_isRule_41 rfl hl (by decide) rfl (fun ls hl => ?_)
          refine lv_aload_n hx hb dX13_isRule_42 rfl (lv_at hl 1 rfl) ?_
          refine gfX13_hypAt hx hb hts hK hP hown (hts _ tw_2031) dX13_isRule_43 ?_
          refine lv_iload_n hx hb dX13_isRule_46 rfl (lv_at hl 2 rfl) ?_
          refine ldMX13_hypAt hx hb hK hP hN c1 dX13_isRule_47 (fun x13 r_x13 e_x13 => ?_)
          replace hw := hw x13 r_x13 e_x13
          refine lv_istore_n (lv' := [(3, .int (I x13)), (2, .int (I 1)), (0, .ref (q 0)), (1, .int (I n1))]) hx hb dX13_isRule_48 rfl hl (by decide) rfl (fun ls hl => ?_)
          exact (hP49 _ _ _).mp hw r_n1 (by decide) r_x13  H locs ls hP hD hS (lv_sub hl [2, 3, 1, 0] rfl)
        ·
          replace hw := hw.2 c12
          refine lv_iconst (v := I 0) hx hb dX13_isRule_38 rfl ?_
          exact xrz hx hb hr (by decide) hlk hP hK hD hS ⟨_, (by decide), rfl, rfl, hw⟩ (Nat.le_of_ble_eq_true rfl) (Nat.le_of_ble_eq_true rfl) dX13_isRule_39
  ·
    intro u1 u2 u3 hw
    refine (hP49 _ _ _).mpr ?_
    intro r_u1 r_u2 r_u3 H locs ls hP hD hS hl
    refine lv_iload_n hx hb dX13_isRule_49 rfl (lv_at hl 3 rfl) ?_
    refine lv_aload_n hx hb dX13_isRule_50 rfl (lv_at hl 0 rfl) ?_
    refine gfX13_hypAt hx hb hts hK hP hown (hts _ tw_2031) dX13_isRule_51 ?_
    refine lv_iload_n hx hb dX13_isRule_54 rfl (lv_at hl 1 rfl) ?_
    obtain ⟨c14, hw⟩ := hw
    refine ldMX13_hypAt hx hb hK hP hN c14 dX13_isRule_55 (fun x15 r_x15 e_x15 => ?_)
    replace hw := hw x15 r_x15 e_x15
    refine lv_aload_n hx hb dX13_isRule_56 rfl (lv_at hl 0 rfl) ?_
    refine gfX13_hypSize hx hb hts hK hP hown (hts _ tw_2032) dX13_isRule_57 ?_
    refine lv_iload_n hx hb dX13_isRule_60 rfl (lv_at hl 1 rfl) ?_
    refine ldMX13_hypSize hx hb hK hP hN c14 dX13_isRule_61 (fun x16 r_x16 e_x16 => ?_)
    replace hw := hw x16 r_x16 e_x16
    refine bi_iadd hx hb dX13_isRule_62 ?_
    obtain ⟨c17, hw⟩ := hw
    refine bi_icmp_ge (tgt := 119) hx hb r_u3 c17 dX13_isRule_63 (by decide) (fun c18 => ?_) (fun c18 => ?_)
    ·
      replace hw := hw.1 c18
      refine lv_aload_n hx hb dX13_isRule_119 rfl (lv_at hl 0 rfl) ?_
      refine gfX13_textAt hx hb hts hK hP hown (hts _ tw_2026) dX13_isRule_120 ?_
      refine lv_iload_n hx hb dX13_isRule_123 rfl (lv_at hl 1 rfl) ?_
      refine ldMX13_textAt hx hb hK hP hN c14 dX13_isRule_124 (fun x19 r_x19 e_x19 => ?_)
      replace hw := hw x19 r_x19 e_x19
      refine lv_iconst (v := I 1) hx hb dX13_isRule_125 rfl ?_
      refine bi_iadd hx hb dX13_isRule_126 ?_
      refine lv_istore_n (lv' := [(3, .int (I (x19 + 1))), (0, .ref (q 0)), (1, .int (I u1)), (2, .int (I u2))]) hx hb dX13_isRule_127 rfl hl (by decide) rfl (fun ls hl => ?_)
      obtain ⟨c20, hw⟩ := hw
      exact (hP128 _ _ _).mp hw r_u1 r_u2 c20  H locs ls hP hD hS (lv_sub hl [1, 2, 3, 0] rfl)
    ·
      replace hw := hw.2 c18
      refine lv_iload_n hx hb dX13_isRule_66 rfl (lv_at hl 2 rfl) ?_
      refine bi_if_eq (tgt := 111) hx hb r_u2 dX13_isRule_67 (by decide) (fun c21 => ?_) (fun c21 => ?_)
      ·
        replace hw := hw.1 c21
        refine lv_iconst (v := I 0) hx hb dX13_isRule_111 rfl ?_
        refine lv_istore_n (lv' := [(2, .int (I 0)), (0, .ref (q 0)), (1, .int (I u1)), (3, .int (I u3))]) hx hb dX13_isRule_112 rfl hl (by decide) rfl (fun ls hl => ?_)
        refine lv_iinc (v := I (u3 + 1)) (lv' := [(3, .int (I (u3 + 1))), (2, .int (I 0)), (0, .ref (q 0)), (1, .int (I u1))]) hx hb dX13_isRule_113 hl (k := 3) rfl (I_add _ _) (by decide) rfl (fun ls hl => ?_)
        refine lv_goto (tgt := 49) hx hb dX13_isRule_116 (by decide) ?_
        obtain ⟨c22, hw⟩ := hw
        exact (hP49 _ _ _).mp hw r_u1 (by decide) c22  H locs ls hP hD hS (lv_sub hl [2, 3, 1, 0] rfl)
      ·
        replace hw := hw.2 c21
        refine lv_aload_n hx hb dX13_isRule_70 rfl (lv_at hl 0 rfl) ?_
        refine gfX13_kindOf hx hb hts hK hP hown (hts _ tw_2025) dX13_isRule_71 ?_
        refine lv_aload_n hx hb dX13_isRule_74 rfl (lv_at hl 0 rfl) ?_
        refine gfX13_hyps hx hb hts hK hP hown (hts _ tw_2033) dX13_isRule_75 ?_
        refine lv_iload_n hx hb dX13_isRule_78 rfl (lv_at hl 3 rfl) ?_
        obtain ⟨c23, hw⟩ := hw
        refine ldMX13_hyps hx hb hK hP hN c23 dX13_isRule_79 (fun x24 r_x24 e_x24 => ?_)
        replace hw := hw x24 r_x24 e_x24
        obtain ⟨c25, hw⟩ := hw
        refine ldMX13_kindOf hx hb hK hP hN c25 dX13_isRule_80 (fun x26 r_x26 e_x26 => ?_)
        replace hw := hw x26 r_x26 e_x26
        refine bi_if_ne (tgt := 111) hx hb r_x26 dX13_isRule_81 (by decide) (fun c27 => ?_) (fun c27 => ?_)
        ·
          replace hw := hw.1 c27
          refine lv_iconst (v := I 0) hx hb dX13_isRule_111 rfl ?_
          refine lv_istore_n (lv' := [(2, .int (I 0)), (0, .ref (q 0)), (1, .int (I u1)), (3, .int (I u3))]) hx hb dX13_isRule_112 rfl hl (by decide) rfl (fun ls hl => ?_)
          refine lv_iinc (v := I (u3 + 1)) (lv' := [(3, .int (I (u3 + 1))), (2, .int (I 0)), (0, .ref (q 0)), (1, .int (I u1))]) hx hb dX13_isRule_113 hl (k := 3) rfl (I_add _ _) (by decide) rfl (fun ls hl => ?_)
          refine lv_goto (tgt := 49) hx hb dX13_isRule_116 (by decide) ?_
          obtain ⟨c28, hw⟩ := hw
          exact (hP49 _ _ _).mp hw r_u1 (by decide) c28  H locs ls hP hD hS (lv_sub hl [2, 3, 1, 0] rfl)
        ·
          replace hw := hw.2 c27
          refine lv_aload_n hx hb dX13_isRule_84 rfl (lv_at hl 0 rfl) ?_
          refine gfX13_texts hx hb hts hK hP hown (hts _ tw_2028) dX13_isRule_85 ?_
          refine lv_aload_n hx hb dX13_isRule_88 rfl (lv_at hl 0 rfl) ?_
          refine gfX13_textAt hx hb hts hK hP hown (hts _ tw_2026) dX13_isRule_89 ?_
          refine lv_aload_n hx hb dX13_isRule_92 rfl (lv_at hl 0 rfl) ?_
          refine gfX13_hyps hx hb hts hK hP hown (hts _ tw_2033) dX13_isRule_93 ?_
          refine lv_iload_n hx hb dX13_isRule_96 rfl (lv_at hl 3 rfl) ?_
          refine ldMX13_hyps hx hb hK hP hN c23 dX13_isRule_97 (fun x29 r_x29 e_x29 => ?_)
          replace hw := hw x29 r_x29 e_x29
          obtain ⟨c30, hw⟩ := hw
          refine ldMX13_textAt hx hb hK hP hN c30 dX13_isRule_98 (fun x31 r_x31 e_x31 => ?_)
          replace hw := hw x31 r_x31 e_x31
          obtain ⟨c32, hw⟩ := hw
          refine ldMX13_texts hx hb hK hP hN c32 dX13_isRule_99 (fun x33 r_x33 e_x33 => ?_)
          replace hw := hw x33 r_x33 e_x33
          refine lv_aload_n hx hb dX13_isRule_100 rfl (lv_at hl 0 rfl) ?_
          refine gfX13_turnstile hx hb hts hK hP hown (hts _ tw_2048) (x := σ.1 11) rfl dX13_isRule_101 ?_
          refine bi_icmp_eq (tgt := 111) hx hb r_x33 (hB.1 11) dX13_isRule_104 (by decide) (fun c34 => ?_) (fun c34 => ?_)
          ·
            replace hw := hw.1 c34
            refine lv_iconst (v := I 0) hx hb dX13_isRule_111 rfl ?_
            refine lv_istore_n (lv' := [(2, .int (I 0)), (0, .ref (q 0)), (1, .int (I u1)), (3, .int (I u3))]) hx hb dX13_isRule_112 rfl hl (by decide) rfl (fun ls hl => ?_)
            refine lv_iinc (v := I (u3 + 1)) (lv' := [(3, .int (I (u3 + 1))), (2, .int (I 0)), (0, .ref (q 0)), (1, .int (I u1))]) hx hb dX13_isRule_113 hl (k := 3) rfl (I_add _ _) (by decide) rfl (fun ls hl => ?_)
            refine lv_goto (tgt := 49) hx hb dX13_isRule_116 (by decide) ?_
            obtain ⟨c35, hw⟩ := hw
            exact (hP49 _ _ _).mp hw r_u1 (by decide) c35  H locs ls hP hD hS (lv_sub hl [2, 3, 1, 0] rfl)
          ·
            replace hw := hw.2 c34
            refine lv_iconst (v := I 1) hx hb dX13_isRule_107 rfl ?_
            refine lv_goto (tgt := 112) hx hb dX13_isRule_108 (by decide) ?_
            refine lv_istore_n (lv' := [(2, .int (I 1)), (0, .ref (q 0)), (1, .int (I u1)), (3, .int (I u3))]) hx hb dX13_isRule_112 rfl hl (by decide) rfl (fun ls hl => ?_)
            refine lv_iinc (v := I (u3 + 1)) (lv' := [(3, .int (I (u3 + 1))), (2, .int (I 1)), (0, .ref (q 0)), (1, .int (I u1))]) hx hb dX13_isRule_113 hl (k := 3) rfl (I_add _ _) (by decide) rfl (fun ls hl => ?_)
            refine lv_goto (tgt := 49) hx hb dX13_isRule_116 (by decide) ?_
            obtain ⟨c36, hw⟩ := hw
            exact (hP49 _ _ _).mp hw r_u1 (by decide) c36  H locs ls hP hD hS (lv_sub hl [2, 3, 1, 0] rfl)
  ·
    intro u1 u2 u3 hw
    refine (hP128 _ _ _).mpr ?_
    intro r_u1 r_u2 r_u3 H locs ls hP hD hS hl
    refine lv_iload_n hx hb dX13_isRule_128 rfl (lv_at hl 3 rfl) ?_
    refine lv_aload_n hx hb dX13_isRule_129 rfl (lv_at hl 0 rfl) ?_
    refine gfX13_textAt hx hb hts hK hP hown (hts _ tw_2026) dX13_isRule_130 ?_
    refine lv_iload_n hx hb dX13_isRule_133 rfl (lv_at hl 1 rfl) ?_
    obtain ⟨c37, hw⟩ := hw
    refine ldMX13_textAt hx hb hK hP hN c37 dX13_isRule_134 (fun x38 r_x38 e_x38 => ?_)
    replace hw := hw x38 r_x38 e_x38
    refine lv_aload_n hx hb dX13_isRule_135 rfl (lv_at hl 0 rfl) ?_
    refine gfX13_textSize hx hb hts hK hP hown (hts _ tw_2027) dX13_isRule_136 ?_
    refine lv_iload_n hx hb dX13_isRule_139 rfl (lv_at hl 1 rfl) ?_
    refine ldMX13_textSize hx hb hK hP hN c37 dX13_isRule_140 (fun x39 r_x39 e_x39 => ?_)
    replace hw := hw x39 r_x39 e_x39
    refine bi_iadd hx hb dX13_isRule_141 ?_
    obtain ⟨c40, hw⟩ := hw
    refine bi_icmp_ge (tgt := 217) hx hb r_u3 c40 dX13_isRule_142 (by decide) (fun c41 => ?_) (fun c41 => ?_)
    ·
      replace hw := hw.1 c41
      refine lv_iload_n hx hb dX13_isRule_217 rfl (lv_at hl 2 rfl) ?_
      obtain ⟨c42, hw⟩ := hw
      exact xrz hx hb hr (nzI c42.1 c42.2) hlk hP hK hD hS ⟨_, r_u2, rfl, rfl, hw⟩ (Nat.le_of_ble_eq_true rfl) (Nat.le_of_ble_eq_true rfl) dX13_isRule_218
    ·
      replace hw := hw.2 c41
      refine lv_iload_n hx hb dX13_isRule_145 rfl (lv_at hl 2 rfl) ?_
      refine bi_if_eq (tgt := 217) hx hb r_u2 dX13_isRule_146 (by decide) (fun c43 => ?_) (fun c43 => ?_)
      ·
        replace hw := hw.1 c43
        refine lv_iload_n hx hb dX13_isRule_217 rfl (lv_at hl 2 rfl) ?_
        obtain ⟨c44, hw⟩ := hw
        exact xrz hx hb hr (nzI c44.1 c44.2) hlk hP hK hD hS ⟨_, r_u2, rfl, rfl, hw⟩ (Nat.le_of_ble_eq_true rfl) (Nat.le_of_ble_eq_true rfl) dX13_isRule_218
      ·
        replace hw := hw.2 c43
        refine lv_aload_n hx hb dX13_isRule_149 rfl (lv_at hl 0 rfl) ?_
        refine gfX13_textAt hx hb hts hK hP hown (hts _ tw_2026) dX13_isRule_150 ?_
        refine lv_iload_n hx hb dX13_isRule_153 rfl (lv_at hl 1 rfl) ?_
        refine ldMX13_textAt hx hb hK hP hN c37 dX13_isRule_154 (fun x45 r_x45 e_x45 => ?_)
        replace hw := hw x45 r_x45 e_x45
        refine lv_iconst (v := I 1) hx hb dX13_isRule_155 rfl ?_
        refine bi_iadd hx hb dX13_isRule_156 ?_
        refine lv_istore (lv' := [(4, .int (I (x45 + 1))), (0, .ref (q 0)), (1, .int (I u1)), (2, .int (I u2)), (3, .int (I u3))]) hx hb dX13_isRule_157 hl (by decide) rfl (fun ls hl => ?_)
        obtain ⟨c46, hw⟩ := hw
        exact (hP159 _ _ _ _).mp hw r_u1 r_u2 r_u3 c46  H locs ls hP hD hS (lv_sub hl [1, 2, 3, 4, 0] rfl)
  ·
    intro u1 u2 u3 u4 hw
    refine (hP159 _ _ _ _).mpr ?_
    intro r_u1 r_u2 r_u3 r_u4 H locs ls hP hD hS hl
    refine lv_iload hx hb dX13_isRule_159 (lv_at hl 4 rfl) ?_
    refine lv_iload_n hx hb dX13_isRule_161 rfl (lv_at hl 3 rfl) ?_
    refine bi_icmp_ge (tgt := 211) hx hb r_u4 r_u3 dX13_isRule_162 (by decide) (fun c47 => ?_) (fun c47 => ?_)
    ·
      replace hw := hw.1 c47
      refine lv_iinc (v := I (u3 + 1)) (lv' := [(3, .int (I (u3 + 1))), (0, .ref (q 0)), (1, .int (I u1)), (2, .int (I u2)), (4, .int (I u4))]) hx hb dX13_isRule_211 hl (k := 3) rfl (I_add _ _) (by decide) rfl (fun ls hl => ?_)
      refine lv_goto (tgt := 128) hx hb dX13_isRule_214 (by decide) ?_
      obtain ⟨c48, hw⟩ := hw
      exact (hP128 _ _ _).mp hw r_u1 r_u2 c48  H locs ls hP hD hS (lv_sub hl [1, 2, 3, 0] rfl)
    ·
      replace hw := hw.2 c47
      refine lv_iload_n hx hb dX13_isRule_165 rfl (lv_at hl 2 rfl) ?_
      refine bi_if_eq (tgt := 211) hx hb r_u2 dX13_isRule_166 (by decide) (fun c49 => ?_) (fun c49 => ?_)
      ·
        replace hw := hw.1 c49
        refine lv_iinc (v := I (u3 + 1)) (lv' := [(3, .int (I (u3 + 1))), (0, .ref (q 0)), (1, .int (I u1)), (2, .int (I u2)), (4, .int (I u4))]) hx hb dX13_isRule_211 hl (k := 3) rfl (I_add _ _) (by decide) rfl (fun ls hl => ?_)
        refine lv_goto (tgt := 128) hx hb dX13_isRule_214 (by decide) ?_
        obtain ⟨c50, hw⟩ := hw
        exact (hP128 _ _ _).mp hw r_u1 r_u2 c50  H locs ls hP hD hS (lv_sub hl [1, 2, 3, 0] rfl)
      ·
        replace hw := hw.2 c49
        refine lv_aload_n hx hb dX13_isRule_169 rfl (lv_at hl 0 rfl) ?_
        refine gfX13_isVariable hx hb hts hK hP hown (hts _ tw_2018) dX13_isRule_170 ?_
        refine lv_aload_n hx hb dX13_isRule_173 rfl (lv_at hl 0 rfl) ?_
        refine gfX13_texts hx hb hts hK hP hown (hts _ tw_2028) dX13_isRule_174 ?_
        refine lv_iload_n hx hb dX13_isRule_177 rfl (lv_at hl 3 rfl) ?_
        obtain ⟨c51, hw⟩ := hw
        refine ldMX13_texts hx hb hK hP hN c51 dX13_isRule_178 (fun x52 r_x52 e_x52 => ?_)
        replace hw := hw x52 r_x52 e_x52
        obtain ⟨c53, hw⟩ := hw
        refine ldMX13_isVariable hx hb hK hP hN c53 dX13_isRule_179 (fun x54 r_x54 e_x54 => ?_)
        replace hw := hw x54 r_x54 e_x54
        refine bi_if_eq (tgt := 199) hx hb r_x54 dX13_isRule_180 (by decide) (fun c55 => ?_) (fun c55 => ?_)
        ·
          replace hw := hw.1 c55
          refine lv_iconst (v := I 1) hx hb dX13_isRule_199 rfl ?_
          refine lv_goto (tgt := 204) hx hb dX13_isRule_200 (by decide) ?_
          refine lv_istore_n (lv' := [(2, .int (I 1)), (0, .ref (q 0)), (1, .int (I u1)), (3, .int (I u3)), (4, .int (I u4))]) hx hb dX13_isRule_204 rfl hl (by decide) rfl (fun ls hl => ?_)
          refine lv_iinc (v := I (u4 + 1)) (lv' := [(4, .int (I (u4 + 1))), (2, .int (I 1)), (0, .ref (q 0)), (1, .int (I u1)), (3, .int (I u3))]) hx hb dX13_isRule_205 hl (k := 4) rfl (I_add _ _) (by decide) rfl (fun ls hl => ?_)
          refine lv_goto (tgt := 159) hx hb dX13_isRule_208 (by decide) ?_
          obtain ⟨c56, hw⟩ := hw
          exact (hP159 _ _ _ _).mp hw r_u1 (by decide) r_u3 c56  H locs ls hP hD hS (lv_sub hl [2, 3, 1, 4, 0] rfl)
        ·
          replace hw := hw.2 c55
          refine lv_aload_n hx hb dX13_isRule_183 rfl (lv_at hl 0 rfl) ?_
          refine gfX13_texts hx hb hts hK hP hown (hts _ tw_2028) dX13_isRule_184 ?_
          refine lv_iload hx hb dX13_isRule_187 (lv_at hl 4 rfl) ?_
          obtain ⟨c57, hw⟩ := hw
          refine ldMX13_texts hx hb hK hP hN c57 dX13_isRule_189 (fun x58 r_x58 e_x58 => ?_)
          replace hw := hw x58 r_x58 e_x58
          refine lv_aload_n hx hb dX13_isRule_190 rfl (lv_at hl 0 rfl) ?_
          refine gfX13_texts hx hb hts hK hP hown (hts _ tw_2028) dX13_isRule_191 ?_
          refine lv_iload_n hx hb dX13_isRule_194 rfl (lv_at hl 3 rfl) ?_
          refine ldMX13_texts hx hb hK hP hN c51 dX13_isRule_195 (fun x59 r_x59 e_x59 => ?_)
          replace hw := hw x59 r_x59 e_x59
          refine bi_icmp_eq (tgt := 203) hx hb r_x58 r_x59 dX13_isRule_196 (by decide) (fun c60 => ?_) (fun c60 => ?_)
          ·
            replace hw := hw.1 c60
            refine lv_iconst (v := I 0) hx hb dX13_isRule_203 rfl ?_
            refine lv_istore_n (lv' := [(2, .int (I 0)), (0, .ref (q 0)), (1, .int (I u1)), (3, .int (I u3)), (4, .int (I u4))]) hx hb dX13_isRule_204 rfl hl (by decide) rfl (fun ls hl => ?_)
            refine lv_iinc (v := I (u4 + 1)) (lv' := [(4, .int (I (u4 + 1))), (2, .int (I 0)), (0, .ref (q 0)), (1, .int (I u1)), (3, .int (I u3))]) hx hb dX13_isRule_205 hl (k := 4) rfl (I_add _ _) (by decide) rfl (fun ls hl => ?_)
            refine lv_goto (tgt := 159) hx hb dX13_isRule_208 (by decide) ?_
            obtain ⟨c61, hw⟩ := hw
            exact (hP159 _ _ _ _).mp hw r_u1 (by decide) r_u3 c61  H locs ls hP hD hS (lv_sub hl [2, 3, 1, 4, 0] rfl)
          ·
            replace hw := hw.2 c60
            refine lv_iconst (v := I 1) hx hb dX13_isRule_199 rfl ?_
            refine lv_goto (tgt := 204) hx hb dX13_isRule_200 (by decide) ?_
            refine lv_istore_n (lv' := [(2, .int (I 1)), (0, .ref (q 0)), (1, .int (I u1)), (3, .int (I u3)), (4, .int (I u4))]) hx hb dX13_isRule_204 rfl hl (by decide) rfl (fun ls hl => ?_)
            refine lv_iinc (v := I (u4 + 1)) (lv' := [(4, .int (I (u4 + 1))), (2, .int (I 1)), (0, .ref (q 0)), (1, .int (I u1)), (3, .int (I u3))]) hx hb dX13_isRule_205 hl (k := 4) rfl (I_add _ _) (by decide) rfl (fun ls hl => ?_)
            refine lv_goto (tgt := 159) hx hb dX13_isRule_208 (by decide) ?_
            obtain ⟨c62, hw⟩ := hw
            exact (hP159 _ _ _ _).mp hw r_u1 (by decide) r_u3 c62  H locs ls hP hD hS (lv_sub hl [2, 3, 1, 4, 0] rfl)
def W_X13_findSorts (σ : S0) (Q : S0 → Prop) : Prop :=
  ∀ (P7 : Int → S0 → Prop),
  (∀ (u1 : Int) (τ : S0), ((τ.1 3 ≤ u1 → Q τ) ∧ (u1 < τ.1 3 → (0 ≤ u1 ∧ u1 < 1001) ∧ (∀ (x3 : Int), rg x3 → x3 = τ.2.1 12 u1 → ((x3 = 0 → rg (u1 + 1) ∧ P7 (u1 + 1) (s_a τ 71 u1 (-1))) ∧ (¬ x3 = 0 → ∃ (Q6 : Int → Prop), W_X13_isSort u1 (s_a τ 71 u1 (-1)) Q6 ∧ ∀ (x7 : Int), rg x7 → Q6 x7 → ((x7 = 0 → rg (u1 + 1) ∧ P7 (u1 + 1) (s_a τ 71 u1 (-1))) ∧ (¬ x7 = 0 → rg (τ.1 46 + 1) ∧ rg (u1 + 1) ∧ P7 (u1 + 1) (s_v (s_a (s_a τ 71 u1 (-1)) 71 u1 (τ.1 46)) 46 (τ.1 46 + 1))))))))) → P7 u1 τ) →
  P7 0 (s_v σ 46 0)
set_option maxRecDepth 100000 in
set_option maxHeartbeats 4000000 in
theorem L_X13_findSorts (l : Launch) (g : gG) (q : Nat → Nat) (lb : Nat) (hlb : lb < 2 ^ 31) {σ : S0} {Q : S0 → Prop} (hN : n_m σ) (hw : W_X13_findSorts σ Q) (sz : Nat) : MetV l yX13_findSorts cX13_findSorts 2 { frames := 1, cells := 0, slots := 0, locals := 21 } g [.ref (q 0)] (MX g q lb σ) sz xT (p_V (MX g q lb) [46] [71] [] σ Q) 0 0 := by
  refine mkMet (Qc := fun A => QV g A (p_V (MX g q lb) [46] [71] [] σ Q)) (by decide) (Nat.le_of_ble_eq_true rfl) ?_
  intro p e s m below meth c A H ls hx hb hr hml hown hts hlk hnm hsz hP hK hNb hD hA hAe hS hX hl
  have hl : lv_has ls 2 [(0, .ref (q 0))] := hl
  have hB := hN
  have hF : f_r [46] [71] [] σ σ := f_0
  obtain ⟨locs, hlocs⟩ : ∃ z : List Loc, z = [] := ⟨_, rfl⟩
  rw [← hlocs] at hS ⊢
  obtain ⟨P7, hP7⟩ : ∃ P : Int → S0 → Prop, ∀ (u1 : Int) (τ : S0), (P u1 τ ↔ (rg u1 → n_m τ → f_r [46] [71] [] σ τ → ∀ (H : Heap) (locs : List Loc) (ls : Array Slot), KP g (MX g q lb τ) H → va_D A (MX g q lb τ) → va_S A s.heap H locs → lv_has ls 2 [(0, .ref (q 0)), (1, .int (I u1))] → W p l e ({ frames := 1, cells := 0, slots := 0, locals := 21 }) s m [.ref (q 0)].toArray below meth c H locs 0 0 (MQ below (QV g A (p_V (MX g q lb) [46] [71] [] σ Q)) [.ref (q 0)].toArray s 0 0 A) (F0 m 7 ls []))) := ⟨_, fun _ _ => Iff.rfl⟩
  refine (fun hw => ?_) (hw P7 ?_)
  ·
    refine lv_aload_n hx hb dX13_findSorts_0 rfl (lv_at hl 0 rfl) ?_
    refine lv_iconst (v := I 0) hx hb dX13_findSorts_1 rfl ?_
    refine pfX13_sorts hx hb hts hK hP hD hS hown (hts _ tw_2130) dX13_findSorts_2 (fun H locs hP hD hS => ?_)
    have hN : n_m (s_v σ 46 0) := n_v (i := 46) hN ((by decide) : rg 0)
    have hF : f_r [46] [71] [] σ (s_v σ 46 0) := f_v hF (by decide)
    refine lv_iconst (v := I 0) hx hb dX13_findSorts_5 rfl ?_
    refine lv_istore_n (lv' := [(1, .int (I 0)), (0, .ref (q 0))]) hx hb dX13_findSorts_6 rfl hl (by decide) rfl (fun ls hl => ?_)
    exact (hP7 _ _).mp hw (by decide) hN hF H locs ls hP hD hS (lv_sub hl [1, 0] rfl)
  ·
    intro u1 τ hw
    refine (hP7 _ _).mpr ?_
    intro r_u1 hN hF H locs ls hP hD hS hl
    have hB := hN
    refine lv_iload_n hx hb dX13_findSorts_7 rfl (lv_at hl 1 rfl) ?_
    refine lv_aload_n hx hb dX13_findSorts_8 rfl (lv_at hl 0 rfl) ?_
    refine gfX13_symbols hx hb hts hK hP hown (hts _ tw_2013) (x := τ.1 3) rfl dX13_findSorts_9 ?_
    refine bi_icmp_ge (tgt := 65) hx hb r_u1 (hB.1 3) dX13_findSorts_12 (by decide) (fun c1 => ?_) (fun c1 => ?_)
    ·
      replace hw := hw.1 c1
      exact xrv hx hb hr hlk hP hK hD hS ⟨_, hN, hF, rfl, hw⟩ (Nat.le_of_ble_eq_true rfl) (Nat.le_of_ble_eq_true rfl) dX13_findSorts_65
    ·
      replace hw := hw.2 c1
      refine lv_aload_n hx hb dX13_findSorts_15 rfl (lv_at hl 0 rfl) ?_
      refine gfX13_sortOf hx hb hts hK hP hown (hts _ tw_2124) dX13_findSorts_16 ?_
      refine lv_iload_n hx hb dX13_findSorts_19 rfl (lv_at hl 1 rfl) ?_
      refine lv_iconst (v := I (-1)) hx hb dX13_findSorts_20 rfl ?_
      obtain ⟨c2, hw⟩ := hw
      refine sdMX13_sortOf hx hb hK hP hD hS c2 dX13_findSorts_21 (fun H locs hP hD hS => ?_)
      have hN : n_m (s_a τ 71 u1 (-1)) := n_a (k := 71) (j := u1) hN ((by decide) : rg (-1))
      have hF : f_r [46] [71] [] σ (s_a τ 71 u1 (-1)) := f_a hF (by decide)
      refine lv_aload_n hx hb dX13_findSorts_22 rfl (lv_at hl 0 rfl) ?_
      refine gfX13_begins hx hb hts hK hP hown (hts _ tw_2022) dX13_findSorts_23 ?_
      refine lv_iload_n hx hb dX13_findSorts_26 rfl (lv_at hl 1 rfl) ?_
      refine ldMX13_begins hx hb hK hP hN c2 dX13_findSorts_27 (fun x3 r_x3 e_x3 => ?_)
      replace hw := hw x3 r_x3 e_x3
      refine bi_if_eq (tgt := 59) hx hb r_x3 dX13_findSorts_28 (by decide) (fun c4 => ?_) (fun c4 => ?_)
      ·
        replace hw := hw.1 c4
        refine lv_iinc (v := I (u1 + 1)) (lv' := [(1, .int (I (u1 + 1))), (0, .ref (q 0))]) hx hb dX13_findSorts_59 hl (k := 1) rfl (I_add _ _) (by decide) rfl (fun ls hl => ?_)
        refine lv_goto (tgt := 7) hx hb dX13_findSorts_62 (by decide) ?_
        obtain ⟨c5, hw⟩ := hw
        exact (hP7 _ _).mp hw c5 hN hF H locs ls hP hD hS (lv_sub hl [1, 0] rfl)
      ·
        replace hw := hw.2 c4
        refine lv_aload_n hx hb dX13_findSorts_31 rfl (lv_at hl 0 rfl) ?_
        refine lv_iload_n hx hb dX13_findSorts_32 rfl (lv_at hl 1 rfl) ?_
        obtain ⟨Q6, hc, hw⟩ := hw
        refine wc_i (X := MX g q lb) (va_runV (As := [.int (I u1)]) (rest := []) ⟨hx, hb, hml, hown, hts⟩ (L_X13_isSort l g q lb hlb r_u1 hN hc H.size) (cwV 1 hts (TB_V tw_2920 tw_2922 ts_175 tw_15 co_X13_isSort) rfl rfl rfl (by decide +kernel) ⟨Nat.le_of_ble_eq_true rfl, Nat.le_of_ble_eq_true rfl⟩) (preV (q0 := 0) (ci := 13) rfl xT_bl hP hK hNb hD rfl rfl xT_at) rfl rfl hl.1 rfl (lv_room (Nat.le_of_ble_eq_true rfl)) dX13_findSorts_33 ⟨Nat.le_of_ble_eq_true rfl, Nat.le_of_ble_eq_true rfl⟩) hP hD hS hA (fun x7 H locs r_x7 hq hP hD hS => ?_)
        replace hw := hw x7 r_x7 hq
        refine bi_if_eq (tgt := 59) hx hb r_x7 dX13_findSorts_36 (by decide) (fun c9 => ?_) (fun c9 => ?_)
        ·
          replace hw := hw.1 c9
          refine lv_iinc (v := I (u1 + 1)) (lv' := [(1, .int (I (u1 + 1))), (0, .ref (q 0))]) hx hb dX13_findSorts_59 hl (k := 1) rfl (I_add _ _) (by decide) rfl (fun ls hl => ?_)
          refine lv_goto (tgt := 7) hx hb dX13_findSorts_62 (by decide) ?_
          obtain ⟨c10, hw⟩ := hw
          exact (hP7 _ _).mp hw c10 hN hF H locs ls hP hD hS (lv_sub hl [1, 0] rfl)
        ·
          replace hw := hw.2 c9
          refine lv_aload_n hx hb dX13_findSorts_39 rfl (lv_at hl 0 rfl) ?_
          refine gfX13_sortOf hx hb hts hK hP hown (hts _ tw_2124) dX13_findSorts_40 ?_
          refine lv_iload_n hx hb dX13_findSorts_43 rfl (lv_at hl 1 rfl) ?_
          refine lv_aload_n hx hb dX13_findSorts_44 rfl (lv_at hl 0 rfl) ?_
          refine gfX13_sorts hx hb hts hK hP hown (hts _ tw_2130) (x := τ.1 46) rfl dX13_findSorts_45 ?_
          refine sdMX13_sortOf hx hb hK hP hD hS c2 dX13_findSorts_48 (fun H locs hP hD hS => ?_)
          have hN : n_m (s_a (s_a τ 71 u1 (-1)) 71 u1 (τ.1 46)) := n_a (k := 71) (j := u1) hN ((hB.1 46) : rg (τ.1 46))
          have hF : f_r [46] [71] [] σ (s_a (s_a τ 71 u1 (-1)) 71 u1 (τ.1 46)) := f_a hF (by decide)
          refine lv_aload_n hx hb dX13_findSorts_49 rfl (lv_at hl 0 rfl) ?_
          refine lv_dup hx hb dX13_findSorts_50 rfl ?_
          refine gfX13_sorts hx hb hts hK hP hown (hts _ tw_2130) (x := τ.1 46) rfl dX13_findSorts_51 ?_
          refine lv_iconst (v := I 1) hx hb dX13_findSorts_54 rfl ?_
          refine bi_iadd hx hb dX13_findSorts_55 ?_
          obtain ⟨c11, hw⟩ := hw
          refine pfX13_sorts hx hb hts hK hP hD hS hown (hts _ tw_2130) dX13_findSorts_56 (fun H locs hP hD hS => ?_)
          have hN : n_m (s_v (s_a (s_a τ 71 u1 (-1)) 71 u1 (τ.1 46)) 46 (τ.1 46 + 1)) := n_v (i := 46) hN (c11 : rg (τ.1 46 + 1))
          have hF : f_r [46] [71] [] σ (s_v (s_a (s_a τ 71 u1 (-1)) 71 u1 (τ.1 46)) 46 (τ.1 46 + 1)) := f_v hF (by decide)
          refine lv_iinc (v := I (u1 + 1)) (lv' := [(1, .int (I (u1 + 1))), (0, .ref (q 0))]) hx hb dX13_findSorts_59 hl (k := 1) rfl (I_add _ _) (by decide) rfl (fun ls hl => ?_)
          refine lv_goto (tgt := 7) hx hb dX13_findSorts_62 (by decide) ?_
          obtain ⟨c12, hw⟩ := hw
          exact (hP7 _ _).mp hw c12 hN hF H locs ls hP hD hS (lv_sub hl [1, 0] rfl)
def W_X13_wayAt (n1 : Int) (n2 : Int) (n3 : Int) (σ : S0) (Q : Int → Prop) : Prop :=
  rg ((((n1 * 61) + n2) * 61) + n3) ∧ Q ((((n1 * 61) + n2) * 61) + n3)
set_option maxRecDepth 100000 in
set_option maxHeartbeats 4000000 in
theorem L_X13_wayAt (l : Launch) (g : gG) (q : Nat → Nat) (lb : Nat) (hlb : lb < 2 ^ 31) {n1 : Int} {n2 : Int} {n3 : Int} {σ : S0} {Q : Int → Prop} (r_n1 : rg n1) (r_n2 : rg n2) (r_n3 : rg n3) (hN : n_m σ) (hw : W_X13_wayAt n1 n2 n3 σ Q) (sz : Nat) : MetI l yX13_wayAt cX13_wayAt 4 (some .int) { frames := 0, cells := 0, slots := 0, locals := 0 } g [.ref (q 0), .int (I n1), .int (I n2), .int (I n3)] (MX g q lb σ) sz xT (p_i (MX g q lb) σ Q) 0 0 := by
  refine mkMet (Qc := fun A => QI g A (p_i (MX g q lb) σ Q)) (by decide) (Nat.le_of_ble_eq_true rfl) ?_
  intro p e s m below meth c A H ls hx hb hr hml hown hts hlk hnm hsz hP hK hNb hD hA hAe hS hX hl
  have hl : lv_has ls 4 [(0, .ref (q 0)), (1, .int (I n1)), (2, .int (I n2)), (3, .int (I n3))] := hl
  have hB := hN
  obtain ⟨locs, hlocs⟩ : ∃ z : List Loc, z = [] := ⟨_, rfl⟩
  rw [← hlocs] at hS ⊢
  refine lv_iload_n hx hb dX13_wayAt_0 rfl (lv_at hl 1 rfl) ?_
  refine lv_bipush (v := I 61) hx hb dX13_wayAt_1 (by decide) ?_
  refine bi_imul hx hb dX13_wayAt_3 ?_
  refine lv_iload_n hx hb dX13_wayAt_4 rfl (lv_at hl 2 rfl) ?_
  refine bi_iadd hx hb dX13_wayAt_5 ?_
  refine lv_bipush (v := I 61) hx hb dX13_wayAt_6 (by decide) ?_
  refine bi_imul hx hb dX13_wayAt_8 ?_
  refine lv_iload_n hx hb dX13_wayAt_9 rfl (lv_at hl 3 rfl) ?_
  refine bi_iadd hx hb dX13_wayAt_10 ?_
  obtain ⟨c1, hw⟩ := hw
  exact xri hx hb hr hlk hP hK hD hS ⟨_, c1, rfl, rfl, hw⟩ (Nat.le_of_ble_eq_true rfl) (Nat.le_of_ble_eq_true rfl) dX13_wayAt_11
def W_X13_capped (n0 : Int) (σ : S0) (Q : Int → Prop) : Prop :=
  (n0 ≤ 2 → Q n0) ∧ (2 < n0 → Q 2)
set_option maxRecDepth 100000 in
set_option maxHeartbeats 4000000 in
theorem L_X13_capped (l : Launch) (g : gG) (q : Nat → Nat) (lb : Nat) (hlb : lb < 2 ^ 31) {n0 : Int} {σ : S0} {Q : Int → Prop} (r_n0 : rg n0) (hN : n_m σ) (hw : W_X13_capped n0 σ Q) (sz : Nat) : MetI l yX13_capped cX13_capped 1 (some .int) { frames := 0, cells := 0, slots := 0, locals := 0 } g [.int (I n0)] (MX g q lb σ) sz xT (p_i (MX g q lb) σ Q) 0 0 := by
  refine mkMet (Qc := fun A => QI g A (p_i (MX g q lb) σ Q)) (by decide) (Nat.le_of_ble_eq_true rfl) ?_
  intro p e s m below meth c A H ls hx hb hr hml hown hts hlk hnm hsz hP hK hNb hD hA hAe hS hX hl
  have hl : lv_has ls 1 [(0, .int (I n0))] := hl
  have hB := hN
  obtain ⟨locs, hlocs⟩ : ∃ z : List Loc, z = [] := ⟨_, rfl⟩
  rw [← hlocs] at hS ⊢
  refine lv_iload_n hx hb dX13_capped_0 rfl (lv_at hl 0 rfl) ?_
  refine lv_iconst (v := I 2) hx hb dX13_capped_1 rfl ?_
  refine bi_icmp_le (tgt := 9) hx hb r_n0 (by decide) dX13_capped_2 (by decide) (fun c1 => ?_) (fun c1 => ?_)
  ·
    replace hw := hw.1 c1
    refine lv_iload_n hx hb dX13_capped_9 rfl (lv_at hl 0 rfl) ?_
    exact xri hx hb hr hlk hP hK hD hS ⟨_, r_n0, rfl, rfl, hw⟩ (Nat.le_of_ble_eq_true rfl) (Nat.le_of_ble_eq_true rfl) dX13_capped_10
  ·
    replace hw := hw.2 c1
    refine lv_iconst (v := I 2) hx hb dX13_capped_5 rfl ?_
    refine lv_goto (tgt := 10) hx hb dX13_capped_6 (by decide) ?_
    exact xri hx hb hr hlk hP hK hD hS ⟨_, (by decide), rfl, rfl, hw⟩ (Nat.le_of_ble_eq_true rfl) (Nat.le_of_ble_eq_true rfl) dX13_capped_10
def W_X13_match (n1 : Int) (n2 : Int) (n3 : Int) (σ : S0) (Q : Int → S0 → Prop) : Prop :=
  ∀ (P61 : Int → Int → Int → Int → S0 → Prop) (P109 : Int → Int → Int → Int → Int → S0 → Prop) (P132 : Int → Int → Int → Int → Int → Int → Int → S0 → Prop) (P142 : Int → Int → Int → Int → Int → S0 → Prop) (P169 : Int → Int → Int → Int → Int → Int → Int → Int → S0 → Prop) (P198 : Int → Int → Int → Int → Int → Int → Int → Int → S0 → Prop) (P273 : Int → Int → Int → Int → Int → Int → Int → Int → Int → Int → Int → S0 → Prop) (P339 : Int → Int → Int → Int → Int → Int → Int → Int → Int → Int → Int → Int → S0 → Prop),
  (∀ (u2 : Int) (u3 : Int) (u4 : Int) (u5 : Int) (τ : S0), ((0 ≤ ((u5 + u4) - 1) ∧ ((u5 + u4) - 1) < 30400) ∧ (∀ (x17 : Int), rg x17 → x17 = τ.2.1 16 ((u5 + u4) - 1) → ((0 ≤ x17 ∧ x17 < 1001) ∧ (∀ (x19 : Int), rg x19 → x19 = τ.2.1 8 x17 → ((¬ x19 = 0 → P109 u2 u3 u4 u5 u2 τ) ∧ (x19 = 0 → ∀ (x21 : Int), rg x21 → x21 = τ.2.1 16 ((u5 + u4) - 1) → ((0 ≤ (u3 - 1) ∧ (u3 - 1) < 64) ∧ (∀ (x23 : Int), rg x23 → x23 = τ.2.1 72 (u3 - 1) → ((x21 = x23 → P109 u2 u3 u4 u5 u2 τ) ∧ (¬ x21 = x23 → Q 0 τ)))))))))) → P61 u2 u3 u4 u5 τ) →
  (∀ (u2 : Int) (u3 : Int) (u4 : Int) (u5 : Int) (u6 : Int) (τ : S0), ((u3 < u6 → P142 u2 u3 u4 u5 1 τ) ∧ (u6 ≤ u3 → (¬ u6 = u2 → P132 u2 u3 u4 u5 u6 u6 0 τ) ∧ (u6 = u2 → P132 u2 u3 u4 u5 u6 u6 1 τ))) → P109 u2 u3 u4 u5 u6 τ) →
  (∀ (u2 : Int) (u3 : Int) (u4 : Int) (u5 : Int) (u6 : Int) (k1 : Int) (k2 : Int) (τ : S0), ((0 ≤ k1 ∧ k1 < 3800) ∧ (rg (u6 + 1) ∧ P109 u2 u3 u4 u5 (u6 + 1) (s_a τ 85 k1 k2))) → P132 u2 u3 u4 u5 u6 k1 k2 τ) →
  (∀ (u2 : Int) (u3 : Int) (u4 : Int) (u5 : Int) (u6 : Int) (τ : S0), ((u4 < u6 → (0 ≤ ((61 * u4) + u3) ∧ ((61 * u4) + u3) < 3800) ∧ (∀ (x29 : Int), rg x29 → x29 = τ.2.1 85 ((61 * u4) + u3) → (Q x29 τ))) ∧ (u6 ≤ u4 → (0 ≤ ((u5 + u6) - 1) ∧ ((u5 + u6) - 1) < 30400) ∧ (∀ (x31 : Int), rg x31 → x31 = τ.2.1 16 ((u5 + u6) - 1) → (P169 u2 u3 u4 u5 u6 x31 0 u2 τ)))) → P142 u2 u3 u4 u5 u6 τ) →
  (∀ (u2 : Int) (u3 : Int) (u4 : Int) (u5 : Int) (u6 : Int) (u7 : Int) (u8 : Int) (u9 : Int) (τ : S0), ((u3 < u9 → P198 u2 u3 u4 u5 u6 u7 u8 u2 τ) ∧ (u9 ≤ u3 → (0 ≤ ((61 * u6) + u9) ∧ ((61 * u6) + u9) < 3800) ∧ (rg (u9 + 1) ∧ P169 u2 u3 u4 u5 u6 u7 u8 (u9 + 1) (s_a τ 85 ((61 * u6) + u9) 0)))) → P169 u2 u3 u4 u5 u6 u7 u8 u9 τ) →
  (∀ (u2 : Int) (u3 : Int) (u4 : Int) (u5 : Int) (u6 : Int) (u7 : Int) (u8 : Int) (u9 : Int) (τ : S0), ((u3 ≤ u9 → (¬ u8 = 0 → rg (u6 + 1) ∧ P142 u2 u3 u4 u5 (u6 + 1) τ) ∧ (u8 = 0 → Q 0 τ)) ∧ (u9 < u3 → (0 ≤ ((61 * (u6 - 1)) + u9) ∧ ((61 * (u6 - 1)) + u9) < 3800) ∧ (∀ (x41 : Int), rg x41 → x41 = τ.2.1 85 ((61 * (u6 - 1)) + u9) → ((¬ x41 = 0 → (0 ≤ u7 ∧ u7 < 1001) ∧ (∀ (x44 : Int), rg x44 → x44 = τ.2.1 8 u7 → ((¬ x44 = 0 → ∀ (x46 : Int), rg x46 → x46 = τ.2.1 10 u7 → ((0 ≤ x46 ∧ x46 < 1001) ∧ (∀ (x48 : Int), rg x48 → x48 = τ.2.1 71 x46 → ((¬ u4 = 1 → rg (u3 - (u4 - u6)) ∧ rg (u9 + 1) ∧ P339 u2 u3 u4 u5 u6 u7 u8 u9 x41 x48 (u3 - (u4 - u6)) (u9 + 1) τ) ∧ (u4 = 1 → rg (u9 + 1) ∧ P339 u2 u3 u4 u5 u6 u7 u8 u9 x41 x48 u3 (u9 + 1) τ))))) ∧ (x44 = 0 → (0 ≤ (((61 * u6) + u9) + 1) ∧ (((61 * u6) + u9) + 1) < 3800) ∧ (∀ (x54 : Int), rg x54 → x54 = τ.2.1 85 (((61 * u6) + u9) + 1) → ((0 ≤ u9 ∧ u9 < 64) ∧ (∀ (x56 : Int), rg x56 → x56 = τ.2.1 72 u9 → ((¬ x56 = u7 → P273 u2 u3 u4 u5 u6 u7 u8 u9 (((61 * u6) + u9) + 1) x54 0 τ) ∧ (x56 = u7 → P273 u2 u3 u4 u5 u6 u7 u8 u9 (((61 * u6) + u9) + 1) x54 x41 τ))))))))) ∧ (x41 = 0 → rg (u9 + 1) ∧ P198 u2 u3 u4 u5 u6 u7 u8 (u9 + 1) τ))))) → P198 u2 u3 u4 u5 u6 u7 u8 u9 τ) →
  (∀ (u2 : Int) (u3 : Int) (u4 : Int) (u5 : Int) (u6 : Int) (u7 : Int) (u8 : Int) (u9 : Int) (k1 : Int) (k2 : Int) (k3 : Int) (τ : S0), ((0 ≤ k1 ∧ k1 < 3800) ∧ (rg (k2 + k3) ∧ (0 ≤ u9 ∧ u9 < 64) ∧ (∀ (x79 : Int), rg x79 → x79 = τ.2.1 72 u9 → ((¬ x79 = u7 → rg (u8 + 0) ∧ rg (u9 + 1) ∧ P198 u2 u3 u4 u5 u6 u7 (u8 + 0) (u9 + 1) (s_a τ 85 k1 (k2 + k3))) ∧ (x79 = u7 → rg (u8 + 1) ∧ rg (u9 + 1) ∧ P198 u2 u3 u4 u5 u6 u7 (u8 + 1) (u9 + 1) (s_a τ 85 k1 (k2 + k3))))))) → P273 u2 u3 u4 u5 u6 u7 u8 u9 k1 k2 k3 τ) →
  (∀ (u2 : Int) (u3 : Int) (u4 : Int) (u5 : Int) (u6 : Int) (u7 : Int) (u8 : Int) (u9 : Int) (u10 : Int) (u11 : Int) (u12 : Int) (u13 : Int) (τ : S0), ((u12 < u13 → rg (u9 + 1) ∧ P198 u2 u3 u4 u5 u6 u7 u8 (u9 + 1) τ) ∧ (u13 ≤ u12 → (u11 = (-1) → rg (u9 + 1) ∧ P198 u2 u3 u4 u5 u6 u7 u8 (u9 + 1) τ) ∧ (¬ u11 = (-1) → ∃ (Q63 : Int → Prop), W_X13_wayAt u11 u9 u13 τ Q63 ∧ ∀ (x64 : Int), rg x64 → Q63 x64 → ((0 ≤ x64 ∧ x64 < 372100) ∧ (∀ (x67 : Int), rg x67 → x67 = τ.2.1 75 x64 → ((0 ≤ ((61 * u6) + u13) ∧ ((61 * u6) + u13) < 3800) ∧ (∀ (x69 : Int), rg x69 → x69 = τ.2.1 85 ((61 * u6) + u13) → (rg (x69 + (u10 * x67)) ∧ ∃ (Q71 : Int → Prop), W_X13_capped (x69 + (u10 * x67)) τ Q71 ∧ ∀ (x72 : Int), rg x72 → Q71 x72 → (rg (u8 + x67) ∧ rg (u13 + 1) ∧ P339 u2 u3 u4 u5 u6 u7 (u8 + x67) u9 u10 u11 u12 (u13 + 1) (s_a τ 85 ((61 * u6) + u13) x72)))))))))) → P339 u2 u3 u4 u5 u6 u7 u8 u9 u10 u11 u12 u13 τ) →
  (0 ≤ n1 ∧ n1 < 1501) ∧ (∀ (x2 : Int), rg x2 → x2 = σ.2.1 15 n1 → (∀ (x3 : Int), rg x3 → x3 = σ.2.1 14 n1 → (rg (x2 - 1) ∧ rg (n3 - n2) ∧ ((n3 - n2) < (x2 - 1) → Q 0 σ) ∧ ((x2 - 1) ≤ (n3 - n2) → (0 ≤ (x3 + 1) ∧ (x3 + 1) < 30400) ∧ (∀ (x8 : Int), rg x8 → x8 = σ.2.1 16 (x3 + 1) → ((0 ≤ x8 ∧ x8 < 1001) ∧ (∀ (x10 : Int), rg x10 → x10 = σ.2.1 8 x8 → ((¬ x10 = 0 → P61 n2 n3 (x2 - 1) (x3 + 1) σ) ∧ (x10 = 0 → ∀ (x12 : Int), rg x12 → x12 = σ.2.1 16 (x3 + 1) → ((0 ≤ n2 ∧ n2 < 64) ∧ (∀ (x14 : Int), rg x14 → x14 = σ.2.1 72 n2 → ((x12 = x14 → P61 n2 n3 (x2 - 1) (x3 + 1) σ) ∧ (¬ x12 = x14 → Q 0 σ)))))))))))))
set_option maxRecDepth 100000 in
set_option maxHeartbeats 4000000 in
theorem L_X13_match (l : Launch) (g : gG) (q : Nat → Nat) (lb : Nat) (hlb : lb < 2 ^ 31) {n1 : Int} {n2 : Int} {n3 : Int} {σ : S0} {Q : Int → S0 → Prop} (r_n1 : rg n1) (r_n2 : rg n2) (r_n3 : rg n3) (hN : n_m σ) (hw : W_X13_match n1 n2 n3 σ Q) (sz : Nat) : MetI l yX13_match cX13_match 15 (some .int) { frames := 1, cells := 0, slots := 0, locals := 23 } g [.ref (q 0), .int (I n1), .int (I n2), .int (I n3)] (MX g q lb σ) sz xT (p_I (MX g q lb) [] [85] [] σ Q) 0 0 := by
  refine mkMet (Qc := fun A => QI g A (p_I (MX g q lb) [] [85] [] σ Q)) (by decide) (Nat.le_of_ble_eq_true rfl) ?_
  intro p e s m below meth c A H ls hx hb hr hml hown hts hlk hnm hsz hP hK hNb hD hA hAe hS hX hl
  have hl : lv_has ls 15 [(0, .ref (q 0)), (1, .int (I n1)), (2, .int (I n2)), (3, .int (I n3))] := hl
  have hB := hN
  have hF : f_r [] [85] [] σ σ := f_0
  obtain ⟨locs, hlocs⟩ : ∃ z : List Loc, z = [] := ⟨_, rfl⟩
  rw [← hlocs] at hS ⊢
  obtain ⟨P61, hP61⟩ : ∃ P : Int → Int → Int → Int → S0 → Prop, ∀ (u2 : Int) (u3 : Int) (u4 : Int) (u5 : Int) (τ : S0), (P u2 u3 u4 u5 τ ↔ (rg u2 → rg u3 → rg u4 → rg u5 → n_m τ → f_r [] [85] [] σ τ → ∀ (H : Heap) (locs : List Loc) (ls : Array Slot), KP g (MX g q lb τ) H → va_D A (MX g q lb τ) → va_S A s.heap H locs → lv_has ls 15 [(0, .ref (q 0)), (2, .int (I u2)), (3, .int (I u3)), (4, .int (I u4)), (5, .int (I u5))] → W p l e ({ frames := 1, cells := 0, slots := 0, locals := 23 }) s m [.ref (q 0), .int (I n1), .int (I n2), .int (I n3)].toArray below meth c H locs 0 0 (MQ below (QI g A (p_I (MX g q lb) [] [85] [] σ Q)) [.ref (q 0), .int (I n1), .int (I n2), .int (I n3)].toArray s 0 0 A) (F0 m 61 ls []))) := ⟨_, fun _ _ _ _ _ => Iff.rfl⟩
  obtain ⟨P109, hP109⟩ : ∃ P : Int → Int → Int → Int → Int → S0 → Prop, ∀ (u2 : Int) (u3 : Int) (u4 : Int) (u5 : Int) (u6 : Int) (τ : S0), (P u2 u3 u4 u5 u6 τ ↔ (rg u2 → rg u3 → rg u4 → rg u5 → rg u6 → n_m τ → f_r [] [85] [] σ τ → ∀ (H : Heap) (locs : List Loc) (ls : Array Slot), KP g (MX g q lb τ) H → va_D A (MX g q lb τ) → va_S A s.heap H locs → lv_has ls 15 [(0, .ref (q 0)), (2, .int (I u2)), (3, .int (I u3)), (4, .int (I u4)), (5, .int (I u5)), (6, .int (I u6))] → W p l e ({ frames := 1, cells := 0, slots := 0, locals := 23 }) s m [.ref (q 0), .int (I n1), .int (I n2), .int (I n3)].toArray below meth c H locs 0 0 (MQ below (QI g A (p_I (MX g q lb) [] [85] [] σ Q)) [.ref (q 0), .int (I n1), .int (I n2), .int (I n3)].toArray s 0 0 A) (F0 m 109 ls []))) := ⟨_, fun _ _ _ _ _ _ => Iff.rfl⟩
  obtain ⟨P132, hP132⟩ : ∃ P : Int → Int → Int → Int → Int → Int → Int → S0 → Prop, ∀ (u2 : Int) (u3 : Int) (u4 : Int) (u5 : Int) (u6 : Int) (k1 : Int) (k2 : Int) (τ : S0), (P u2 u3 u4 u5 u6 k1 k2 τ ↔ (rg u2 → rg u3 → rg u4 → rg u5 → rg u6 → rg k1 → rg k2 → n_m τ → f_r [] [85] [] σ τ → ∀ (H : Heap) (locs : List Loc) (ls : Array Slot), KP g (MX g q lb τ) H → va_D A (MX g q lb τ) → va_S A s.heap H locs → lv_has ls 15 [(0, .ref (q 0)), (2, .int (I u2)), (3, .int (I u3)), (4, .int (I u4)), (5, .int (I u5)), (6, .int (I u6))] → W p l e ({ frames := 1, cells := 0, slots := 0, locals := 23 }) s m [.ref (q 0), .int (I n1), .int (I n2), .int (I n3)].toArray below meth c H locs 0 0 (MQ below (QI g A (p_I (MX g q lb) [] [85] [] σ Q)) [.ref (q 0), .int (I n1), .int (I n2), .int (I n3)].toArray s 0 0 A) (F0 m 132 ls [.int (I k2), .int (I k1), .ref (q 93)]))) := ⟨_, fun _ _ _ _ _ _ _ _ => Iff.rfl⟩
  obtain ⟨P142, hP142⟩ : ∃ P : Int → Int → Int → Int → Int → S0 → Prop, ∀ (u2 : Int) (u3 : Int) (u4 : Int) (u5 : Int) (u6 : Int) (τ : S0), (P u2 u3 u4 u5 u6 τ ↔ (rg u2 → rg u3 → rg u4 → rg u5 → rg u6 → n_m τ → f_r [] [85] [] σ τ → ∀ (H : Heap) (locs : List Loc) (ls : Array Slot), KP g (MX g q lb τ) H → va_D A (MX g q lb τ) → va_S A s.heap H locs → lv_has ls 15 [(0, .ref (q 0)), (2, .int (I u2)), (3, .int (I u3)), (4, .int (I u4)), (5, .int (I u5)), (6, .int (I u6))] → W p l e ({ frames := 1, cells := 0, slots := 0, locals := 23 }) s m [.ref (q 0), .int (I n1), .int (I n2), .int (I n3)].toArray below meth c H locs 0 0 (MQ below (QI g A (p_I (MX g q lb) [] [85] [] σ Q)) [.ref (q 0), .int (I n1), .int (I n2), .int (I n3)].toArray s 0 0 A) (F0 m 142 ls []))) := ⟨_, fun _ _ _ _ _ _ => Iff.rfl⟩
  obtain ⟨P169, hP169⟩ : ∃ P : Int → Int → Int → Int → Int → Int → Int → Int → S0 → Prop, ∀ (u2 : Int) (u3 : Int) (u4 : Int) (u5 : Int) (u6 : Int) (u7 : Int) (u8 : Int) (u9 : Int) (τ : S0), (P u2 u3 u4 u5 u6 u7 u8 u9 τ ↔ (rg u2 → rg u3 → rg u4 → rg u5 → rg u6 → rg u7 → rg u8 → rg u9 → n_m τ → f_r [] [85] [] σ τ → ∀ (H : Heap) (locs : List Loc) (ls : Array Slot), KP g (MX g q lb τ) H → va_D A (MX g q lb τ) → va_S A s.heap H locs → lv_has ls 15 [(0, .ref (q 0)), (2, .int (I u2)), (3, .int (I u3)), (4, .int (I u4)), (5, .int (I u5)), (6, .int (I u6)), (7, .int (I u7)), (8, .int (I u8)), (9, .int (I u9))] → W p l e ({ frames := 1, cells := 0, slots := 0, locals := 23 }) s m [.ref (q 0), .int (I n1), .int (I n2), .int (I n3)].toArray below meth c H locs 0 0 (MQ below (QI g A (p_I (MX g q lb) [] [85] [] σ Q)) [.ref (q 0), .int (I n1), .int (I n2), .int (I n3)].toArray s 0 0 A) (F0 m 169 ls []))) := ⟨_, fun _ _ _ _ _ _ _ _ _ => Iff.rfl⟩
  obtain ⟨P198, hP198⟩ : ∃ P : Int → Int → Int → Int → Int → Int → Int → Int → S0 → Prop, ∀ (u2 : Int) (u3 : Int) (u4 : Int) (u5 : Int) (u6 : Int) (u7 : Int) (u8 : Int) (u9 : Int) (τ : S0), (P u2 u3 u4 u5 u6 u7 u8 u9 τ ↔ (rg u2 → rg u3 → rg u4 → rg u5 → rg u6 → rg u7 → rg u8 → rg u9 → n_m τ → f_r [] [85] [] σ τ → ∀ (H : Heap) (locs : List Loc) (ls : Array Slot), KP g (MX g q lb τ) H → va_D A (MX g q lb τ) → va_S A s.heap H locs → lv_has ls 15 [(0, .ref (q 0)), (2, .int (I u2)), (3, .int (I u3)), (4, .int (I u4)), (5, .int (I u5)), (6, .int (I u6)), (7, .int (I u7)), (8, .int (I u8)), (9, .int (I u9))] → W p l e ({ frames := 1, cells := 0, slots := 0, locals := 23 }) s m [.ref (q 0), .int (I n1), .int (I n2), .int (I n3)].toArray below meth c H locs 0 0 (MQ below (QI g A (p_I (MX g q lb) [] [85] [] σ Q)) [.ref (q 0), .int (I n1), .int (I n2), .int (I n3)].toArray s 0 0 A) (F0 m 198 ls []))) := ⟨_, fun _ _ _ _ _ _ _ _ _ => Iff.rfl⟩
  obtain ⟨P273, hP273⟩ : ∃ P : Int → Int → Int → Int → Int → Int → Int → Int → Int → Int → Int → S0 → Prop, ∀ (u2 : Int) (u3 : Int) (u4 : Int) (u5 : Int) (u6 : Int) (u7 : Int) (u8 : Int) (u9 : Int) (k1 : Int) (k2 : Int) (k3 : Int) (τ : S0), (P u2 u3 u4 u5 u6 u7 u8 u9 k1 k2 k3 τ ↔ (rg u2 → rg u3 → rg u4 → rg u5 → rg u6 → rg u7 → rg u8 → rg u9 → rg k1 → rg k2 → rg k3 → n_m τ → f_r [] [85] [] σ τ → ∀ (H : Heap) (locs : List Loc) (ls : Array Slot), KP g (MX g q lb τ) H → va_D A (MX g q lb τ) → va_S A s.heap H locs → lv_has ls 15 [(0, .ref (q 0)), (2, .int (I u2)), (3, .int (I u3)), (4, .int (I u4)), (5, .int (I u5)), (6, .int (I u6)), (7, .int (I u7)), (8, .int (I u8)), (9, .int (I u9))] → W p l e ({ frames := 1, cells := 0, slots := 0, locals := 23 }) s m [.ref (q 0), .int (I n1), .int (I n2), .int (I n3)].toArray below meth c H locs 0 0 (MQ below (QI g A (p_I (MX g q lb) [] [85] [] σ Q)) [.ref (q 0), .int (I n1), .int (I n2), .int (I n3)].toArray s 0 0 A) (F0 m 273 ls [.int (I k3), .int (I k2), .int (I k1), .ref (q 93)]))) := ⟨_, fun _ _ _ _ _ _ _ _ _ _ _ _ => Iff.rfl⟩
  obtain ⟨P339, hP339⟩ : ∃ P : Int → Int → Int → Int → Int → Int → Int → Int → Int → Int → Int → Int → S0 → Prop, ∀ (u2 : Int) (u3 : Int) (u4 : Int) (u5 : Int) (u6 : Int) (u7 : Int) (u8 : Int) (u9 : Int) (u10 : Int) (u11 : Int) (u12 : Int) (u13 : Int) (τ : S0), (P u2 u3 u4 u5 u6 u7 u8 u9 u10 u11 u12 u13 τ ↔ (rg u2 → rg u3 → rg u4 → rg u5 → rg u6 → rg u7 → rg u8 → rg u9 → rg u10 → rg u11 → rg u12 → rg u13 → n_m τ → f_r [] [85] [] σ τ → ∀ (H : Heap) (locs : List Loc) (ls : Array Slot), KP g (MX g q lb τ) H → va_D A (MX g q lb τ) → va_S A s.heap H locs → lv_has ls 15 [(0, .ref (q 0)), (2, .int (I u2)), (3, .int (I u3)), (4, .int (I u4)), (5, .int (I u5)), (6, .int (I u6)), (7, .int (I u7)), (8, .int (I u8)), (9, .int (I u9)), (10, .int (I u10)), (11, .int (I u11)), (12, .int (I u12)), (13, .int (I u13))] → W p l e ({ frames := 1, cells := 0, slots := 0, locals := 23 }) s m [.ref (q 0), .int (I n1), .int (I n2), .int (I n3)].toArray below meth c H locs 0 0 (MQ below (QI g A (p_I (MX g q lb) [] [85] [] σ Q)) [.ref (q 0), .int (I n1), .int (I n2), .int (I n3)].toArray s 0 0 A) (F0 m 339 ls []))) := ⟨_, fun _ _ _ _ _ _ _ _ _ _ _ _ _ => Iff.rfl⟩
  refine (fun hw => ?_) (hw P61 P109 P132 P142 P169 P198 P273 P339 ?_ ?_ ?_ ?_ ?_ ?_ ?_ ?_)
  ·
    refine lv_aload_n hx hb dX13_match_0 rfl (lv_at hl 0 rfl) ?_
    refine gfX13_textSize hx hb hts hK hP hown (hts _ tw_2027) dX13_match_1 ?_
    refine lv_iload_n hx hb dX13_match_4 rfl (lv_at hl 1 rfl) ?_
    obtain ⟨c1, hw⟩ := hw
    refine ldMX13_textSize hx hb hK hP hN c1 dX13_match_5 (fun x2 r_x2 e_x2 => ?_)
    replace hw := hw x2 r_x2 e_x2
    refine lv_iconst (v := I 1) hx hb dX13_match_6 rfl ?_
    refine bi_isub hx hb dX13_match_7 ?_
    refine lv_istore (lv' := [(4, .int (I (x2 - 1))), (0, .ref (q 0)), (1, .int (I n1)), (2, .int (I n2)), (3, .int (I n3))]) hx hb dX13_match_8 hl (by decide) rfl (fun ls hl => ?_)
    refine lv_aload_n hx hb dX13_match_10 rfl (lv_at hl 1 rfl) ?_
    refine gfX13_textAt hx hb hts hK hP hown (hts _ tw_2026) dX13_match_11 ?_
    refine lv_iload_n hx hb dX13_match_14 rfl (lv_at hl 2 rfl) ?_
    refine ldMX13_textAt hx hb hK hP hN c1 dX13_match_15 (fun x3 r_x3 e_x3 => ?_)
    replace hw := hw x3 r_x3 e_x3
    refine lv_iconst (v := I 1) hx hb dX13_match_16 rfl ?_
    refine bi_iadd hx hb dX13_match_17 ?_
    refine lv_istore (lv' := [(5, .int (I (x3 + 1))), (4, .int (I (x2 - 1))), (0, .ref (q 0)), (1, .int (I n1)), (2, .int (I n2)), (3, .int (I n3))]) hx hb dX13_match_18 hl (by decide) rfl (fun ls hl => ?_)
    refine lv_iload hx hb dX13_match_20 (lv_at hl 1 rfl) ?_
    refine lv_iload_n hx hb dX13_match_22 rfl (lv_at hl 5 rfl) ?_
    refine lv_iload_n hx hb dX13_match_23 rfl (lv_at hl 4 rfl) ?_
    refine bi_isub hx hb dX13_match_24 ?_
    obtain ⟨c4, hw⟩ := hw
    obtain ⟨c5, hw⟩ := hw
    refine bi_icmp_gt (tgt := 59) hx hb c4 c5 dX13_match_25 (by decide) (fun c6 => ?_) (fun c6 => ?_)
    ·
      replace hw := hw.1 c6
      refine lv_iconst (v := I 0) hx hb dX13_match_59 rfl ?_
      exact xri hx hb hr hlk hP hK hD hS ⟨_, _, (by decide), rfl, hN, hF, rfl, hw⟩ (Nat.le_of_ble_eq_true rfl) (Nat.le_of_ble_eq_true rfl) dX13_match_60
    ·
      replace hw := hw.2 c6
      refine lv_aload_n hx hb dX13_match_28 rfl (lv_at hl 2 rfl) ?_
      refine gfX13_isVariable hx hb hts hK hP hown (hts _ tw_2018) dX13_match_29 ?_
      refine lv_aload_n hx hb dX13_match_32 rfl (lv_at hl 2 rfl) ?_
      refine gfX13_texts hx hb hts hK hP hown (hts _ tw_2028) dX13_match_33 ?_
      refine lv_iload hx hb dX13_match_36 (lv_at hl 0 rfl) ?_
      obtain ⟨c7, hw⟩ := hw
      refine ldMX13_texts hx hb hK hP hN c7 dX13_match_38 (fun x8 r_x8 e_x8 => ?_)
      replace hw := hw x8 r_x8 e_x8
      obtain ⟨c9, hw⟩ := hw
      refine ldMX13_isVariable hx hb hK hP hN c9 dX13_match_39 (fun x10 r_x10 e_x10 => ?_)
      replace hw := hw x10 r_x10 e_x10
      refine bi_if_ne (tgt := 61) hx hb r_x10 dX13_match_40 (by decide) (fun c11 => ?_) (fun c11 => ?_)
      ·
        replace hw := hw.1 c11
        exact (hP61 _ _ _ _ _).mp hw r_n2 r_n3 c4 (rg_ix c7.1 c7.2 (by decide)) hN hF H locs ls hP hD hS (lv_sub hl [2, 4, 5, 1, 0] rfl)
      ·
        replace hw := hw.2 c11
        refine lv_aload_n hx hb dX13_match_43 rfl (lv_at hl 2 rfl) ?_
        refine gfX13_texts hx hb hts hK hP hown (hts _ tw_2028) dX13_match_44 ?_
        refine lv_iload hx hb dX13_match_47 (lv_at hl 0 rfl) ?_
        refine ldMX13_texts hx hb hK hP hN c7 dX13_match_49 (fun x12 r_x12 e_x12 => ?_)
        replace hw := hw x12 r_x12 e_x12
        refine lv_aload_n hx hb dX13_match_50 rfl (lv_at hl 2 rfl) ?_
        refine gfX13_stretch hx hb hts hK hP hown (hts _ tw_2125) dX13_match_51 ?_
        refine lv_iload_n hx hb dX13_match_54 rfl (lv_at hl 4 rfl) ?_
        obtain ⟨c13, hw⟩ := hw
        refine ldMX13_stretch hx hb hK hP hN c13 dX13_match_55 (fun x14 r_x14 e_x14 => ?_)
        replace hw := hw x14 r_x14 e_x14
        refine bi_icmp_eq (tgt := 61) hx hb r_x12 r_x14 dX13_match_56 (by decide) (fun c15 => ?_) (fun c15 => ?_)
        ·
          replace hw := hw.1 c15
          exact (hP61 _ _ _ _ _).mp hw r_n2 r_n3 c4 (rg_ix c7.1 c7.2 (by decide)) hN hF H locs ls hP hD hS (lv_sub hl [2, 4, 5, 1, 0] rfl)
        ·
          replace hw := hw.2 c15
          refine lv_iconst (v := I 0) hx hb dX13_match_59 rfl ?_
          exact xri hx hb hr hlk hP hK hD hS ⟨_, _, (by decide), rfl, hN, hF, rfl, hw⟩ (Nat.le_of_ble_eq_true rfl) (Nat.le_of_ble_eq_true rfl) dX13_match_60
  ·
    intro u2 u3 u4 u5 τ hw
    refine (hP61 _ _ _ _ _).mpr ?_
    intro r_u2 r_u3 r_u4 r_u5 hN hF H locs ls hP hD hS hl
    have hB := hN
    refine lv_aload_n hx hb dX13_match_61 rfl (lv_at hl 0 rfl) ?_
    refine gfX13_isVariable hx hb hts hK hP hown (hts _ tw_2018) dX13_match_62 ?_
    refine lv_aload_n hx hb dX13_match_65 rfl (lv_at hl 0 rfl) ?_
    refine gfX13_texts hx hb hts hK hP hown (hts _ tw_2028) dX13_match_66 ?_
    refine lv_iload hx hb dX13_match_69 (lv_at hl 4 rfl) ?_
    refine lv_iload hx hb dX13_match_71 (lv_at hl 3 rfl) ?_
    refine bi_iadd hx hb dX13_match_73 ?_
    refine lv_iconst (v := I 1) hx hb dX13_match_74 rfl ?_
    refine bi_isub hx hb dX13_match_75 ?_
    obtain ⟨c16, hw⟩ := hw
    refine ldMX13_texts hx hb hK hP hN c16 dX13_match_76 (fun x17 r_x17 e_x17 => ?_)
    replace hw := hw x17 r_x17 e_x17
    obtain ⟨c18, hw⟩ := hw
    refine ldMX13_isVariable hx hb hK hP hN c18 dX13_match_77 (fun x19 r_x19 e_x19 => ?_)
    replace hw := hw x19 r_x19 e_x19
    refine bi_if_ne (tgt := 106) hx hb r_x19 dX13_match_78 (by decide) (fun c20 => ?_) (fun c20 => ?_)
    ·
      replace hw := hw.1 c20
      refine lv_iload_n hx hb dX13_match_106 rfl (lv_at hl 1 rfl) ?_
      refine lv_istore (lv' := [(6, .int (I u2)), (0, .ref (q 0)), (2, .int (I u2)), (3, .int (I u3)), (4, .int (I u4)), (5, .int (I u5))]) hx hb dX13_match_107 hl (by decide) rfl (fun ls hl => ?_)
      exact (hP109 _ _ _ _ _ _).mp hw r_u2 r_u3 r_u4 r_u5 r_u2 hN hF H locs ls hP hD hS (lv_sub hl [1, 2, 3, 4, 5, 0] rfl)
    ·
      replace hw := hw.2 c20
      refine lv_aload_n hx hb dX13_match_81 rfl (lv_at hl 0 rfl) ?_
      refine gfX13_texts hx hb hts hK hP hown (hts _ tw_2028) dX13_match_82 ?_
      refine lv_iload hx hb dX13_match_85 (lv_at hl 4 rfl) ?_
      refine lv_iload hx hb dX13_match_87 (lv_at hl 3 rfl) ?_
      refine bi_iadd hx hb dX13_match_89 ?_
      refine lv_iconst (v := I 1) hx hb dX13_match_90 rfl ?_
      refine bi_isub hx hb dX13_match_91 ?_
      refine ldMX13_texts hx hb hK hP hN c16 dX13_match_92 (fun x21 r_x21 e_x21 => ?_)
      replace hw := hw x21 r_x21 e_x21
      refine lv_aload_n hx hb dX13_match_93 rfl (lv_at hl 0 rfl) ?_
      refine gfX13_stretch hx hb hts hK hP hown (hts _ tw_2125) dX13_match_94 ?_
      refine lv_iload_n hx hb dX13_match_97 rfl (lv_at hl 2 rfl) ?_
      refine lv_iconst (v := I 1) hx hb dX13_match_98 rfl ?_
      refine bi_isub hx hb dX13_match_99 ?_
      obtain ⟨c22, hw⟩ := hw
      refine ldMX13_stretch hx hb hK hP hN c22 dX13_match_100 (fun x23 r_x23 e_x23 => ?_)
      replace hw := hw x23 r_x23 e_x23
      refine bi_icmp_eq (tgt := 106) hx hb r_x21 r_x23 dX13_match_101 (by decide) (fun c24 => ?_) (fun c24 => ?_)
      ·
        replace hw := hw.1 c24
        refine lv_iload_n hx hb dX13_match_106 rfl (lv_at hl 1 rfl) ?_
        refine lv_istore (lv' := [(6, .int (I u2)), (0, .ref (q 0)), (2, .int (I u2)), (3, .int (I u3)), (4, .int (I u4)), (5, .int (I u5))]) hx hb dX13_match_107 hl (by decide) rfl (fun ls hl => ?_)
        exact (hP109 _ _ _ _ _ _).mp hw r_u2 r_u3 r_u4 r_u5 r_u2 hN hF H locs ls hP hD hS (lv_sub hl [1, 2, 3, 4, 5, 0] rfl)
      ·
        replace hw := hw.2 c24
        refine lv_iconst (v := I 0) hx hb dX13_match_104 rfl ?_
        exact xri hx hb hr hlk hP hK hD hS ⟨_, _, (by decide), rfl, hN, hF, rfl, hw⟩ (Nat.le_of_ble_eq_true rfl) (Nat.le_of_ble_eq_true rfl) dX13_match_105
  ·
    intro u2 u3 u4 u5 u6 τ hw
    refine (hP109 _ _ _ _ _ _).mpr ?_
    intro r_u2 r_u3 r_u4 r_u5 r_u6 hN hF H locs ls hP hD hS hl
    have hB := hN
    refine lv_iload hx hb dX13_match_109 (lv_at hl 5 rfl) ?_
    refine lv_iload_n hx hb dX13_match_111 rfl (lv_at hl 2 rfl) ?_
    refine bi_icmp_gt (tgt := 139) hx hb r_u6 r_u3 dX13_match_112 (by decide) (fun c25 => ?_) (fun c25 => ?_)
    ·
      replace hw := hw.1 c25
      refine lv_iconst (v := I 1) hx hb dX13_match_139 rfl ?_
      refine lv_istore (lv' := [(6, .int (I 1)), (0, .ref (q 0)), (2, .int (I u2)), (3, .int (I u3)), (4, .int (I u4)), (5, .int (I u5))]) hx hb dX13_match_140 hl (by decide) rfl (fun ls hl => ?_)
      exact (hP142 _ _ _ _ _ _).mp hw r_u2 r_u3 r_u4 r_u5 (by decide) hN hF H locs ls hP hD hS (lv_sub hl [1, 2, 3, 4, 5, 0] rfl)
    ·
      replace hw := hw.2 c25
      refine lv_aload_n hx hb dX13_match_115 rfl (lv_at hl 0 rfl) ?_
      refine gfX13_front hx hb hts hK hP hown (hts _ tw_2148) dX13_match_116 ?_
      refine lv_iload hx hb dX13_match_119 (lv_at hl 5 rfl) ?_
      refine lv_iload hx hb dX13_match_121 (lv_at hl 5 rfl) ?_
      refine lv_iload_n hx hb dX13_match_123 rfl (lv_at hl 1 rfl) ?_
      refine bi_icmp_ne (tgt := 131) hx hb r_u6 r_u2 dX13_match_124 (by decide) (fun c26 => ?_) (fun c26 => ?_)
      ·
        replace hw := hw.1 c26
        refine lv_iconst (v := I 0) hx hb dX13_match_131 rfl ?_
        exact (hP132 _ _ _ _ _ _ _ _).mp hw r_u2 r_u3 r_u4 r_u5 r_u6 r_u6 (by decide) hN hF H locs ls hP hD hS (lv_sub hl [0, 1, 2, 3, 4, 5] rfl)
      ·
        replace hw := hw.2 c26
        refine lv_iconst (v := I 1) hx hb dX13_match_127 rfl ?_
        refine lv_goto (tgt := 132) hx hb dX13_match_128 (by decide) ?_
        exact (hP132 _ _ _ _ _ _ _ _).mp hw r_u2 r_u3 r_u4 r_u5 r_u6 r_u6 (by decide) hN hF H locs ls hP hD hS (lv_sub hl [0, 1, 2, 3, 4, 5] rfl)
  ·
    intro u2 u3 u4 u5 u6 k1 k2 τ hw
    refine (hP132 _ _ _ _ _ _ _ _).mpr ?_
    intro r_u2 r_u3 r_u4 r_u5 r_u6 r_k1 r_k2 hN hF H locs ls hP hD hS hl
    have hB := hN
    obtain ⟨c32, hw⟩ := hw
    refine sdMX13_front hx hb hK hP hD hS c32 dX13_match_132 (fun H locs hP hD hS => ?_)
    have hN : n_m (s_a τ 85 k1 k2) := n_a (k := 85) (j := k1) hN (r_k2 : rg k2)
    have hF : f_r [] [85] [] σ (s_a τ 85 k1 k2) := f_a hF (by decide)
    refine lv_iinc (v := I (u6 + 1)) (lv' := [(6, .int (I (u6 + 1))), (0, .ref (q 0)), (2, .int (I u2)), (3, .int (I u3)), (4, .int (I u4)), (5, .int (I u5))]) hx hb dX13_match_133 hl (k := 5) rfl (I_add _ _) (by decide) rfl (fun ls hl => ?_)
    refine lv_goto (tgt := 109) hx hb dX13_match_136 (by decide) ?_
    obtain ⟨c33, hw⟩ := hw
    exact (hP109 _ _ _ _ _ _).mp hw r_u2 r_u3 r_u4 r_u5 c33 hN hF H locs ls hP hD hS (lv_sub hl [1, 2, 3, 4, 5, 0] rfl)
  ·
    intro u2 u3 u4 u5 u6 τ hw
    refine (hP142 _ _ _ _ _ _).mpr ?_
    intro r_u2 r_u3 r_u4 r_u5 r_u6 hN hF H locs ls hP hD hS hl
    have hB := hN
    refine lv_iload hx hb dX13_match_142 (lv_at hl 5 rfl) ?_
    refine lv_iload hx hb dX13_match_144 (lv_at hl 3 rfl) ?_
    refine bi_icmp_gt (tgt := 436) hx hb r_u6 r_u4 dX13_match_146 (by decide) (fun c27 => ?_) (fun c27 => ?_)
    ·
      replace hw := hw.1 c27
      refine lv_aload_n hx hb dX13_match_436 rfl (lv_at hl 0 rfl) ?_
      refine gfX13_front hx hb hts hK hP hown (hts _ tw_2148) dX13_match_437 ?_
      refine lv_bipush (v := I 61) hx hb dX13_match_440 (by decide) ?_
      refine lv_iload hx hb dX13_match_442 (lv_at hl 3 rfl) ?_
      refine bi_imul hx hb dX13_match_444 ?_
      refine lv_iload_n hx hb dX13_match_445 rfl (lv_at hl 2 rfl) ?_
      refine bi_iadd hx hb dX13_match_446 ?_
      obtain ⟨c28, hw⟩ := hw
      refine ldMX13_front hx hb hK hP hN c28 dX13_match_447 (fun x29 r_x29 e_x29 => ?_)
      replace hw := hw x29 r_x29 e_x29
      exact xri hx hb hr hlk hP hK hD hS ⟨_, _, r_x29, rfl, hN, hF, rfl, hw⟩ (Nat.le_of_ble_eq_true rfl) (Nat.le_of_ble_eq_true rfl) dX13_match_448
    ·
      replace hw := hw.2 c27
      refine lv_aload_n hx hb dX13_match_149 rfl (lv_at hl 0 rfl) ?_
      refine gfX13_texts hx hb hts hK hP hown (hts _ tw_2028) dX13_match_150 ?_
      refine lv_iload hx hb dX13_match_153 (lv_at hl 4 rfl) ?_
      refine lv_iload hx hb dX13_match_155 (lv_at hl 5 rfl) ?_
      refine bi_iadd hx hb dX13_match_157 ?_
      refine lv_iconst (v := I 1) hx hb dX13_match_158 rfl ?_
      refine bi_isub hx hb dX13_match_159 ?_
      obtain ⟨c30, hw⟩ := hw
      refine ldMX13_texts hx hb hK hP hN c30 dX13_match_160 (fun x31 r_x31 e_x31 => ?_)
      replace hw := hw x31 r_x31 e_x31
      refine lv_istore (lv' := [(7, .int (I x31)), (0, .ref (q 0)), (2, .int (I u2)), (3, .int (I u3)), (4, .int (I u4)), (5, .int (I u5)), (6, .int (I u6))]) hx hb dX13_match_161 hl (by decide) rfl (fun ls hl => ?_)
      refine lv_iconst (v := I 0) hx hb dX13_match_163 rfl ?_
      refine lv_istore (lv' := [(8, .int (I 0)), (7, .int (I x31)), (0, .ref (q 0)), (2, .int (I u2)), (3, .int (I u3)), (4, .int (I u4)), (5, .int (I u5)), (6, .int (I u6))]) hx hb dX13_match_164 hl (by decide) rfl (fun ls hl => ?_)
      refine lv_iload_n hx hb dX13_match_166 rfl (lv_at hl 3 rfl) ?_
      refine lv_istore (lv' := [(9, .int (I u2)), (8, .int (I 0)), (7, .int (I x31)), (0, .ref (q 0)), (2, .int (I u2)), (3, .int (I u3)), (4, .int (I u4)), (5, .int (I u5)), (6, .int (I u6))]) hx hb dX13_match_167 hl (by decide) rfl (fun ls hl => ?_)
      exact (hP169 _ _ _ _ _ _ _ _ _).mp hw r_u2 r_u3 r_u4 r_u5 r_u6 r_x31 (by decide) r_u2 hN hF H locs ls hP hD hS (lv_sub hl [3, 4, 5, 6, 7, 8, 2, 1, 0] rfl)
  ·
    intro u2 u3 u4 u5 u6 u7 u8 u9 τ hw
    refine (hP169 _ _ _ _ _ _ _ _ _).mpr ?_
    intro r_u2 r_u3 r_u4 r_u5 r_u6 r_u7 r_u8 r_u9 hN hF H locs ls hP hD hS hl
    have hB := hN
    refine lv_iload hx hb dX13_match_169 (lv_at hl 8 rfl) ?_
    refine lv_iload_n hx hb dX13_match_171 rfl (lv_at hl 2 rfl) ?_
    refine bi_icmp_gt (tgt := 195) hx hb r_u9 r_u3 dX13_match_172 (by decide) (fun c34 => ?_) (fun c34 => ?_)
    ·
      replace hw := hw.1 c34
      refine lv_iload_n hx hb dX13_match_195 rfl (lv_at hl 1 rfl) ?_
      refine lv_istore (lv' := [(9, .int (I u2)), (0, .ref (q 0)), (2, .int (I u2)), (3, .int (I u3)), (4, .int (I u4)), (5, .int (I u5)), (6, .int (I u6)), (7, .int (I u7)), (8, .int (I u8))]) hx hb dX13_match_196 hl (by decide) rfl (fun ls hl => ?_)
      exact (hP198 _ _ _ _ _ _ _ _ _).mp hw r_u2 r_u3 r_u4 r_u5 r_u6 r_u7 r_u8 r_u2 hN hF H locs ls hP hD hS (lv_sub hl [1, 2, 3, 4, 5, 6, 7, 8, 0] rfl)
    ·
      replace hw := hw.2 c34
      refine lv_aload_n hx hb dX13_match_175 rfl (lv_at hl 0 rfl) ?_
      refine gfX13_front hx hb hts hK hP hown (hts _ tw_2148) dX13_match_176 ?_
      refine lv_bipush (v := I 61) hx hb dX13_match_179 (by decide) ?_
      refine lv_iload hx hb dX13_match_181 (lv_at hl 5 rfl) ?_
      refine bi_imul hx hb dX13_match_183 ?_
      refine lv_iload hx hb dX13_match_184 (lv_at hl 8 rfl) ?_
      refine bi_iadd hx hb dX13_match_186 ?_
      refine lv_iconst (v := I 0) hx hb dX13_match_187 rfl ?_
      obtain ⟨c35, hw⟩ := hw
      refine sdMX13_front hx hb hK hP hD hS c35 dX13_match_188 (fun H locs hP hD hS => ?_)
      have hN : n_m (s_a τ 85 ((61 * u6) + u9) 0) := n_a (k := 85) (j := ((61 * u6) + u9)) hN ((by decide) : rg 0)
      have hF : f_r [] [85] [] σ (s_a τ 85 ((61 * u6) + u9) 0) := f_a hF (by decide)
      refine lv_iinc (v := I (u9 + 1)) (lv' := [(9, .int (I (u9 + 1))), (0, .ref (q 0)), (2, .int (I u2)), (3, .int (I u3)), (4, .int (I u4)), (5, .int (I u5)), (6, .int (I u6)), (7, .int (I u7)), (8, .int (I u8))]) hx hb dX13_match_189 hl (k := 8) rfl (I_add _ _) (by decide) rfl (fun ls hl => ?_)
      refine lv_goto (tgt := 169) hx hb dX13_match_192 (by decide) ?_
      obtain ⟨c36, hw⟩ := hw
      exact (hP169 _ _ _ _ _ _ _ _ _).mp hw r_u2 r_u3 r_u4 r_u5 r_u6 r_u7 r_u8 c36 hN hF H locs ls hP hD hS (lv_sub hl [1, 2, 3, 4, 5, 6, 7, 8, 0] rfl)
  ·
    intro u2 u3 u4 u5 u6 u7 u8 u9 τ hw
    refine (hP198 _ _ _ _ _ _ _ _ _).mpr ?_
    intro r_u2 r_u3 r_u4 r_u5 r_u6 r_u7 r_u8 r_u9 hN hF H locs ls hP hD hS hl
    have hB := hN
    refine lv_iload hx hb dX13_match_198 (lv_at hl 8 rfl) ?_
    refine lv_iload_n hx hb dX13_match_200 rfl (lv_at hl 2 rfl) ?_
    refine bi_icmp_ge (tgt := 423) hx hb r_u9 r_u3 dX13_match_201 (by decide) (fun c37 => ?_) (fun c37 => ?_)
    ·
      replace hw := hw.1 c37
      refine lv_iload hx hb dX13_match_423 (lv_at hl 7 rfl) ?_
      refine bi_if_ne (tgt := 430) hx hb r_u8 dX13_match_425 (by decide) (fun c38 => ?_) (fun c38 => ?_)
      ·
        replace hw := hw.1 c38
        refine lv_iinc (v := I (u6 + 1)) (lv' := [(6, .int (I (u6 + 1))), (0, .ref (q 0)), (2, .int (I u2)), (3, .int (I u3)), (4, .int (I u4)), (5, .int (I u5)), (7, .int (I u7)), (8, .int (I u8)), (9, .int (I u9))]) hx hb dX13_match_430 hl (k := 5) rfl (I_add _ _) (by decide) rfl (fun ls hl => ?_)
        refine lv_goto (tgt := 142) hx hb dX13_match_433 (by decide) ?_
        obtain ⟨c39, hw⟩ := hw
        exact (hP142 _ _ _ _ _ _).mp hw r_u2 r_u3 r_u4 r_u5 c39 hN hF H locs ls hP hD hS (lv_sub hl [1, 2, 3, 4, 5, 0] rfl)
      ·
        replace hw := hw.2 c38
        refine lv_iconst (v := I 0) hx hb dX13_match_428 rfl ?_
        exact xri hx hb hr hlk hP hK hD hS ⟨_, _, (by decide), rfl, hN, hF, rfl, hw⟩ (Nat.le_of_ble_eq_true rfl) (Nat.le_of_ble_eq_true rfl) dX13_match_429
    ·
      replace hw := hw.2 c37
      refine lv_aload_n hx hb dX13_match_204 rfl (lv_at hl 0 rfl) ?_
      refine gfX13_front hx hb hts hK hP hown (hts _ tw_2148) dX13_match_205 ?_
      refine lv_bipush (v := I 61) hx hb dX13_match_208 (by decide) ?_
      refine lv_iload hx hb dX13_match_210 (lv_at hl 5 rfl) ?_
      refine lv_iconst (v := I 1) hx hb dX13_match_212 rfl ?_
      refine bi_isub hx hb dX13_match_213 ?_
      refine bi_imul hx hb dX13_match_214 ?_
      refine lv_iload hx hb dX13_match_215 (lv_at hl 8 rfl) ?_
      refine bi_iadd hx hb dX13_match_217 ?_
      obtain ⟨c40, hw⟩ := hw
      refine ldMX13_front hx hb hK hP hN c40 dX13_match_218 (fun x41 r_x41 e_x41 => ?_)
      replace hw := hw x41 r_x41 e_x41
      refine lv_istore (lv' := [(10, .int (I x41)), (0, .ref (q 0)), (2, .int (I u2)), (3, .int (I u3)), (4, .int (I u4)), (5, .int (I u5)), (6, .int (I u6)), (7, .int (I u7)), (8, .int (I u8)), (9, .int (I u9))]) hx hb dX13_match_219 hl (by decide) rfl (fun ls hl => ?_)
      refine lv_iload hx hb dX13_match_221 (lv_at hl 0 rfl) ?_
      refine bi_if_ne (tgt := 229) hx hb r_x41 dX13_match_223 (by decide) (fun c42 => ?_) (fun c42 => ?_)
      ·
        replace hw := hw.1 c42
        refine lv_aload_n hx hb dX13_match_229 rfl (lv_at hl 1 rfl) ?_
        refine gfX13_isVariable hx hb hts hK hP hown (hts _ tw_2018) dX13_match_230 ?_
        refine lv_iload hx hb dX13_match_233 (lv_at hl 7 rfl) ?_
        obtain ⟨c43, hw⟩ := hw
        refine ldMX13_isVariable hx hb hK hP hN c43 dX13_match_235 (fun x44 r_x44 e_x44 => ?_)
        replace hw := hw x44 r_x44 e_x44
        refine bi_if_ne (tgt := 300) hx hb r_x44 dX13_match_236 (by decide) (fun c45 => ?_) (fun c45 => ?_)
        ·
          replace hw := hw.1 c45
          refine lv_aload_n hx hb dX13_match_300 rfl (lv_at hl 1 rfl) ?_
          refine gfX13_sortOf hx hb hts hK hP hown (hts _ tw_2124) dX13_match_301 ?_
          refine lv_aload_n hx hb dX13_match_304 rfl (lv_at hl 1 rfl) ?_
          refine gfX13_typeOf hx hb hts hK hP hown (hts _ tw_2020) dX13_match_305 ?_
          refine lv_iload hx hb dX13_match_308 (lv_at hl 7 rfl) ?_
          refine ldMX13_typeOf hx hb hK hP hN c43 dX13_match_310 (fun x46 r_x46 e_x46 => ?_)
          replace hw := hw x46 r_x46 e_x46
          obtain ⟨c47, hw⟩ := hw
          refine ldMX13_sortOf hx hb hK hP hN c47 dX13_match_311 (fun x48 r_x48 e_x48 => ?_)
          replace hw := hw x48 r_x48 e_x48
          refine lv_istore (lv' := [(11, .int (I x48)), (10, .int (I x41)), (0, .ref (q 0)), (2, .int (I u2)), (3, .int (I u3)), (4, .int (I u4)), (5, .int (I u5)), (6, .int (I u6)), (7, .int (I u7)), (8, .int (I u8)), (9, .int (I u9))]) hx hb dX13_match_312 hl (by decide) rfl (fun ls hl => ?_)
          refine lv_iload hx hb dX13_match_314 (lv_at hl 5 rfl) ?_
          refine lv_iconst (v := I 1) hx hb dX13_match_316 rfl ?_
          refine bi_icmp_ne (tgt := 324) hx hb r_u4 (by decide) dX13_match_317 (by decide) (fun c49 => ?_) (fun c49 => ?_)
          ·
            replace hw := hw.1 c49
            refine lv_iload_n hx hb dX13_match_324 rfl (lv_at hl 4 rfl) ?_
            refine lv_iload hx hb dX13_match_325 (lv_at hl 5 rfl) ?_
            refine lv_iload hx hb dX13_match_327 (lv_at hl 7 rfl) ?_
            refine bi_isub hx hb dX13_match_329 ?_
            refine bi_isub hx hb dX13_match_330 ?_
            refine lv_istore (lv' := [(12, .int (I (u3 - (u4 - u6)))), (11, .int (I x48)), (10, .int (I x41)), (0, .ref (q 0)), (2, .int (I u2)), (3, .int (I u3)), (4, .int (I u4)), (5, .int (I u5)), (6, .int (I u6)), (7, .int (I u7)), (8, .int (I u8)), (9, .int (I u9))]) hx hb dX13_match_331 hl (by decide) rfl (fun ls hl => ?_)
            refine lv_iload hx hb dX13_match_333 (lv_at hl 11 rfl) ?_
            refine lv_iconst (v := I 1) hx hb dX13_match_335 rfl ?_
            refine bi_iadd hx hb dX13_match_336 ?_
            refine lv_istore (lv' := [(13, .int (I (u9 + 1))), (12, .int (I (u3 - (u4 - u6)))), (11, .int (I x48)), (10, .int (I x41)), (0, .ref (q 0)), (2, .int (I u2)), (3, .int (I u3)), (4, .int (I u4)), (5, .int (I u5)), (6, .int (I u6)), (7, .int (I u7)), (8, .int (I u8)), (9, .int (I u9))]) hx hb dX13_match_337 hl (by decide) rfl (fun ls hl => ?_)
            obtain ⟨c50, hw⟩ := hw
            obtain ⟨c51, hw⟩ := hw
            exact (hP339 _ _ _ _ _ _ _ _ _ _ _ _ _).mp hw r_u2 r_u3 r_u4 r_u5 r_u6 r_u7 r_u8 r_u9 r_x41 r_x48 c50 c51 hN hF H locs ls hP hD hS (lv_sub hl [4, 5, 6, 7, 8, 9, 10, 11, 12, 3, 2, 1, 0] rfl)
          ·
            replace hw := hw.2 c49
            refine lv_iload_n hx hb dX13_match_320 rfl (lv_at hl 4 rfl) ?_
            refine lv_goto (tgt := 331) hx hb dX13_match_321 (by decide) ?_
            refine lv_istore (lv' := [(12, .int (I u3)), (11, .int (I x48)), (10, .int (I x41)), (0, .ref (q 0)), (2, .int (I u2)), (3, .int (I u3)), (4, .int (I u4)), (5, .int (I u5)), (6, .int (I u6)), (7, .int (I u7)), (8, .int (I u8)), (9, .int (I u9))]) hx hb dX13_match_331 hl (by decide) rfl (fun ls hl => ?_)
            refine lv_iload hx hb dX13_match_333 (lv_at hl 11 rfl) ?_
            refine lv_iconst (v := I 1) hx hb dX13_match_335 rfl ?_
            refine bi_iadd hx hb dX13_match_336 ?_
            refine lv_istore (lv' := [(13, .int (I (u9 + 1))), (12, .int (I u3)), (11, .int (I x48)), (10, .int (I x41)), (0, .ref (q 0)), (2, .int (I u2)), (3, .int (I u3)), (4, .int (I u4)), (5, .int (I u5)), (6, .int (I u6)), (7, .int (I u7)), (8, .int (I u8)), (9, .int (I u9))]) hx hb dX13_match_337 hl (by decide) rfl (fun ls hl => ?_)
            obtain ⟨c52, hw⟩ := hw
            exact (hP339 _ _ _ _ _ _ _ _ _ _ _ _ _).mp hw r_u2 r_u3 r_u4 r_u5 r_u6 r_u7 r_u8 r_u9 r_x41 r_x48 r_u3 c52 hN hF H locs ls hP hD hS (lv_sub hl [4, 5, 6, 7, 8, 9, 10, 11, 12, 3, 2, 1, 0] rfl)
        ·
          replace hw := hw.2 c45
          refine lv_aload_n hx hb dX13_match_239 rfl (lv_at hl 1 rfl) ?_
          refine gfX13_front hx hb hts hK hP hown (hts _ tw_2148) dX13_match_240 ?_
          refine lv_bipush (v := I 61) hx hb dX13_match_243 (by decide) ?_
          refine lv_iload hx hb dX13_match_245 (lv_at hl 6 rfl) ?_
          refine bi_imul hx hb dX13_match_247 ?_
          refine lv_iload hx hb dX13_match_248 (lv_at hl 9 rfl) ?_
          refine bi_iadd hx hb dX13_match_250 ?_
          refine lv_iconst (v := I 1) hx hb dX13_match_251 rfl ?_
          refine bi_iadd hx hb dX13_match_252 ?_
          refine lv_dup2_11 hx hb dX13_match_253 rfl rfl ?_
          obtain ⟨c53, hw⟩ := hw
          refine ldMX13_front hx hb hK hP hN c53 dX13_match_254 (fun x54 r_x54 e_x54 => ?_)
          replace hw := hw x54 r_x54 e_x54
          refine lv_aload_n hx hb dX13_match_255 rfl (lv_at hl 1 rfl) ?_
          refine gfX13_stretch hx hb hts hK hP hown (hts _ tw_2125) dX13_match_256 ?_
          refine lv_iload hx hb dX13_match_259 (lv_at hl 9 rfl) ?_
          obtain ⟨c55, hw⟩ := hw
          refine ldMX13_stretch hx hb hK hP hN c55 dX13_match_261 (fun x56 r_x56 e_x56 => ?_)
          replace hw := hw x56 r_x56 e_x56
          refine lv_iload hx hb dX13_match_262 (lv_at hl 7 rfl) ?_
          refine bi_icmp_ne (tgt := 272) hx hb r_x56 r_u7 dX13_match_264 (by decide) (fun c57 => ?_) (fun c57 => ?_)
          ·
            replace hw := hw.1 c57
            refine lv_iconst (v := I 0) hx hb dX13_match_272 rfl ?_
            exact (hP273 _ _ _ _ _ _ _ _ _ _ _ _).mp hw r_u2 r_u3 r_u4 r_u5 r_u6 r_u7 r_u8 r_u9 (rg_ix c53.1 c53.2 (by decide)) r_x54 (by decide) hN hF H locs ls hP hD hS (lv_sub hl [1, 2, 3, 4, 5, 6, 7, 8, 9] rfl)
          ·
            replace hw := hw.2 c57
            refine lv_iload hx hb dX13_match_267 (lv_at hl 0 rfl) ?_
            refine lv_goto (tgt := 273) hx hb dX13_match_269 (by decide) ?_
            exact (hP273 _ _ _ _ _ _ _ _ _ _ _ _).mp hw r_u2 r_u3 r_u4 r_u5 r_u6 r_u7 r_u8 r_u9 (rg_ix c53.1 c53.2 (by decide)) r_x54 r_x41 hN hF H locs ls hP hD hS (lv_sub hl [1, 2, 3, 4, 5, 6, 7, 8, 9] rfl)
      ·
        replace hw := hw.2 c42
        refine lv_goto (tgt := 417) hx hb dX13_match_226 (by decide) ?_
        refine lv_iinc (v := I (u9 + 1)) (lv' := [(9, .int (I (u9 + 1))), (10, .int (I x41)), (0, .ref (q 0)), (2, .int (I u2)), (3, .int (I u3)), (4, .int (I u4)), (5, .int (I u5)), (6, .int (I u6)), (7, .int (I u7)), (8, .int (I u8))]) hx hb dX13_match_417 hl (k := 9) rfl (I_add _ _) (by decide) rfl (fun ls hl => ?_)
        refine lv_goto (tgt := 198) hx hb dX13_match_420 (by decide) ?_
        obtain ⟨c58, hw⟩ := hw
        exact (hP198 _ _ _ _ _ _ _ _ _).mp hw r_u2 r_u3 r_u4 r_u5 r_u6 r_u7 r_u8 c58 hN hF H locs ls hP hD hS (lv_sub hl [2, 3, 4, 5, 6, 7, 8, 9, 0] rfl)
  ·
    intro u2 u3 u4 u5 u6 u7 u8 u9 k1 k2 k3 τ hw
    refine (hP273 _ _ _ _ _ _ _ _ _ _ _ _).mpr ?_
    intro r_u2 r_u3 r_u4 r_u5 r_u6 r_u7 r_u8 r_u9 r_k1 r_k2 r_k3 hN hF H locs ls hP hD hS hl
    have hB := hN
    refine bi_iadd hx hb dX13_match_273 ?_
    obtain ⟨c76, hw⟩ := hw
    obtain ⟨c77, hw⟩ := hw
    refine sdMX13_front hx hb hK hP hD hS c76 dX13_match_274 (fun H locs hP hD hS => ?_)
    have hN : n_m (s_a τ 85 k1 (k2 + k3)) := n_a (k := 85) (j := k1) hN (c77 : rg (k2 + k3))
    have hF : f_r [] [85] [] σ (s_a τ 85 k1 (k2 + k3)) := f_a hF (by decide)
    refine lv_iload hx hb dX13_match_275 (lv_at hl 7 rfl) ?_
    refine lv_aload_n hx hb dX13_match_277 rfl (lv_at hl 0 rfl) ?_
    refine gfX13_stretch hx hb hts hK hP hown (hts _ tw_2125) dX13_match_278 ?_
    refine lv_iload hx hb dX13_match_281 (lv_at hl 8 rfl) ?_
    obtain ⟨c78, hw⟩ := hw
    refine ldMX13_stretch hx hb hK hP hN c78 dX13_match_283 (fun x79 r_x79 e_x79 => ?_)
    replace hw := hw x79 r_x79 e_x79
    refine lv_iload hx hb dX13_match_284 (lv_at hl 6 rfl) ?_
    refine bi_icmp_ne (tgt := 293) hx hb r_x79 r_u7 dX13_match_286 (by decide) (fun c80 => ?_) (fun c80 => ?_)
    ·
      replace hw := hw.1 c80
      refine lv_iconst (v := I 0) hx hb dX13_match_293 rfl ?_
      refine bi_iadd hx hb dX13_match_294 ?_
      refine lv_istore (lv' := [(8, .int (I (u8 + 0))), (0, .ref (q 0)), (2, .int (I u2)), (3, .int (I u3)), (4, .int (I u4)), (5, .int (I u5)), (6, .int (I u6)), (7, .int (I u7)), (9, .int (I u9))]) hx hb dX13_match_295 hl (by decide) rfl (fun ls hl => ?_)
      refine lv_goto (tgt := 417) hx hb dX13_match_297 (by decide) ?_
      refine lv_iinc (v := I (u9 + 1)) (lv' := [(9, .int (I (u9 + 1))), (8, .int (I (u8 + 0))), (0, .ref (q 0)), (2, .int (I u2)), (3, .int (I u3)), (4, .int (I u4)), (5, .int (I u5)), (6, .int (I u6)), (7, .int (I u7))]) hx hb dX13_match_417 hl (k := 8) rfl (I_add _ _) (by decide) rfl (fun ls hl => ?_)
      refine lv_goto (tgt := 198) hx hb dX13_match_420 (by decide) ?_
      obtain ⟨c81, hw⟩ := hw
      obtain ⟨c82, hw⟩ := hw
      exact (hP198 _ _ _ _ _ _ _ _ _).mp hw r_u2 r_u3 r_u4 r_u5 r_u6 r_u7 c81 c82 hN hF H locs ls hP hD hS (lv_sub hl [2, 3, 4, 5, 6, 7, 8, 1, 0] rfl)
    ·
      replace hw := hw.2 c80
      refine lv_iconst (v := I 1) hx hb dX13_match_289 rfl ?_
      refine lv_goto (tgt := 294) hx hb dX13_match_290 (by decide) ?_
      refine bi_iadd hx hb dX13_match_294 ?_
      refine lv_istore (lv' := [(8, .int (I (u8 + 1))), (0, .ref (q 0)), (2, .int (I u2)), (3, .int (I u3)), (4, .int (I u4)), (5, .int (I u5)), (6, .int (I u6)), (7, .int (I u7)), (9, .int (I u9))]) hx hb dX13_match_295 hl (by decide) rfl (fun ls hl => ?_)
      refine lv_goto (tgt := 417) hx hb dX13_match_297 (by decide) ?_
      refine lv_iinc (v := I (u9 + 1)) (lv' := [(9, .int (I (u9 + 1))), (8, .int (I (u8 + 1))), (0, .ref (q 0)), (2, .int (I u2)), (3, .int (I u3)), (4, .int (I u4)), (5, .int (I u5)), (6, .int (I u6)), (7, .int (I u7))]) hx hb dX13_match_417 hl (k := 8) rfl (I_add _ _) (by decide) rfl (fun ls hl => ?_)
      refine lv_goto (tgt := 198) hx hb dX13_match_420 (by decide) ?_
      obtain ⟨c83, hw⟩ := hw
      obtain ⟨c84, hw⟩ := hw
      exact (hP198 _ _ _ _ _ _ _ _ _).mp hw r_u2 r_u3 r_u4 r_u5 r_u6 r_u7 c83 c84 hN hF H locs ls hP hD hS (lv_sub hl [2, 3, 4, 5, 6, 7, 8, 1, 0] rfl)
  ·
    intro u2 u3 u4 u5 u6 u7 u8 u9 u10 u11 u12 u13 τ hw
    refine (hP339 _ _ _ _ _ _ _ _ _ _ _ _ _).mpr ?_
    intro r_u2 r_u3 r_u4 r_u5 r_u6 r_u7 r_u8 r_u9 r_u10 r_u11 r_u12 r_u13 hN hF H locs ls hP hD hS hl
    have hB := hN
    refine lv_iload hx hb dX13_match_339 (lv_at hl 12 rfl) ?_
    refine lv_iload hx hb dX13_match_341 (lv_at hl 11 rfl) ?_
    refine bi_icmp_gt (tgt := 417) hx hb r_u13 r_u12 dX13_match_343 (by decide) (fun c59 => ?_) (fun c59 => ?_)
    ·
      replace hw := hw.1 c59
      refine lv_iinc (v := I (u9 + 1)) (lv' := [(9, .int (I (u9 + 1))), (0, .ref (q 0)), (2, .int (I u2)), (3, .int (I u3)), (4, .int (I u4)), (5, .int (I u5)), (6, .int (I u6)), (7, .int (I u7)), (8, .int (I u8)), (10, .int (I u10)), (11, .int (I u11)), (12, .int (I u12)), (13, .int (I u13))]) hx hb dX13_match_417 hl (k := 8) rfl (I_add _ _) (by decide) rfl (fun ls hl => ?_)
      refine lv_goto (tgt := 198) hx hb dX13_match_420 (by decide) ?_
      obtain ⟨c60, hw⟩ := hw
      exact (hP198 _ _ _ _ _ _ _ _ _).mp hw r_u2 r_u3 r_u4 r_u5 r_u6 r_u7 r_u8 c60 hN hF H locs ls hP hD hS (lv_sub hl [1, 2, 3, 4, 5, 6, 7, 8, 0] rfl)
    ·
      replace hw := hw.2 c59
      refine lv_iload hx hb dX13_match_346 (lv_at hl 10 rfl) ?_
      refine lv_iconst (v := I (-1)) hx hb dX13_match_348 rfl ?_
      refine bi_icmp_eq (tgt := 417) hx hb r_u11 (by decide) dX13_match_349 (by decide) (fun c61 => ?_) (fun c61 => ?_)
      ·
        replace hw := hw.1 c61
        refine lv_iinc (v := I (u9 + 1)) (lv' := [(9, .int (I (u9 + 1))), (0, .ref (q 0)), (2, .int (I u2)), (3, .int (I u3)), (4, .int (I u4)), (5, .int (I u5)), (6, .int (I u6)), (7, .int (I u7)), (8, .int (I u8)), (10, .int (I u10)), (11, .int (I u11)), (12, .int (I u12)), (13, .int (I u13))]) hx hb dX13_match_417 hl (k := 8) rfl (I_add _ _) (by decide) rfl (fun ls hl => ?_)
        refine lv_goto (tgt := 198) hx hb dX13_match_420 (by decide) ?_
        obtain ⟨c62, hw⟩ := hw
        exact (hP198 _ _ _ _ _ _ _ _ _).mp hw r_u2 r_u3 r_u4 r_u5 r_u6 r_u7 r_u8 c62 hN hF H locs ls hP hD hS (lv_sub hl [1, 2, 3, 4, 5, 6, 7, 8, 0] rfl)
      ·
        replace hw := hw.2 c61
        refine lv_aload_n hx hb dX13_match_352 rfl (lv_at hl 0 rfl) ?_
        refine gfX13_ways hx hb hts hK hP hown (hts _ tw_2129) dX13_match_353 ?_
        refine lv_aload_n hx hb dX13_match_356 rfl (lv_at hl 0 rfl) ?_
        refine lv_iload hx hb dX13_match_357 (lv_at hl 10 rfl) ?_
        refine lv_iload hx hb dX13_match_359 (lv_at hl 8 rfl) ?_
        refine lv_iload hx hb dX13_match_361 (lv_at hl 12 rfl) ?_
        obtain ⟨Q63, hc, hw⟩ := hw
        refine wc_i (X := MX g q lb) (va_runV (As := [.int (I u11), .int (I u9), .int (I u13)]) (rest := [.ref (q 79)]) ⟨hx, hb, hml, hown, hts⟩ (L_X13_wayAt l g q lb hlb r_u11 r_u9 r_u13 hN hc H.size) (cwV 3 hts (TB_V tw_2956 tw_2958 ts_184 tw_15 co_X13_wayAt) rfl rfl rfl (by decide +kernel) ⟨Nat.le_of_ble_eq_true rfl, Nat.le_of_ble_eq_true rfl⟩) (preV (q0 := 0) (ci := 13) rfl xT_bl hP hK hNb hD rfl rfl xT_at) rfl rfl hl.1 rfl (lv_room (Nat.le_of_ble_eq_true rfl)) dX13_match_363 ⟨Nat.le_of_ble_eq_true rfl, Nat.le_of_ble_eq_true rfl⟩) hP hD hS hA (fun x64 H locs r_x64 hq hP hD hS => ?_)
        replace hw := hw x64 r_x64 hq
        obtain ⟨c66, hw⟩ := hw
        refine ldMX13_ways hx hb hK hP hN c66 dX13_match_366 (fun x67 r_x67 e_x67 => ?_)
        replace hw := hw x67 r_x67 e_x67
        refine lv_istore (lv' := [(14, .int (I x67)), (0, .ref (q 0)), (2, .int (I u2)), (3, .int (I u3)), (4, .int (I u4)), (5, .int (I u5)), (6, .int (I u6)), (7, .int (I u7)), (8, .int (I u8)), (9, .int (I u9)), (10, .int (I u10)), (11, .int (I u11)), (12, .int (I u12)), (13, .int (I u13))]) hx hb dX13_match_367 hl (by decide) rfl (fun ls hl => ?_)
        refine lv_aload_n hx hb dX13_match_369 rfl (lv_at hl 1 rfl) ?_
        refine gfX13_front hx hb hts hK hP hown (hts _ tw_2148) dX13_match_370 ?_
        refine lv_bipush (v := I 61) hx hb dX13_match_373 (by decide) ?_
        refine lv_iload hx hb dX13_match_375 (lv_at hl 6 rfl) ?_
        refine bi_imul hx hb dX13_match_377 ?_
        refine lv_iload hx hb dX13_match_378 (lv_at hl 13 rfl) ?_
        refine bi_iadd hx hb dX13_match_380 ?_
        refine lv_aload_n hx hb dX13_match_381 rfl (lv_at hl 1 rfl) ?_
        refine gfX13_front hx hb hts hK hP hown (hts _ tw_2148) dX13_match_382 ?_
        refine lv_bipush (v := I 61) hx hb dX13_match_385 (by decide) ?_
        refine lv_iload hx hb dX13_match_387 (lv_at hl 6 rfl) ?_
        refine bi_imul hx hb dX13_match_389 ?_
        refine lv_iload hx hb dX13_match_390 (lv_at hl 13 rfl) ?_
        refine bi_iadd hx hb dX13_match_392 ?_
        obtain ⟨c68, hw⟩ := hw
        refine ldMX13_front hx hb hK hP hN c68 dX13_match_393 (fun x69 r_x69 e_x69 => ?_)
        replace hw := hw x69 r_x69 e_x69
        refine lv_iload hx hb dX13_match_394 (lv_at hl 10 rfl) ?_
        refine lv_iload hx hb dX13_match_396 (lv_at hl 0 rfl) ?_
        refine bi_imul hx hb dX13_match_398 ?_
        refine bi_iadd hx hb dX13_match_399 ?_
        obtain ⟨c70, hw⟩ := hw
        obtain ⟨Q71, hc, hw⟩ := hw
        refine wc_i (X := MX g q lb) (va_runS (As := [.int (I (x69 + (u10 * x67)))]) (rest := [.int (I ((61 * u6) + u13)), .ref (q 93)]) ⟨hx, hb, hml, hown, hts⟩ (L_X13_capped l g q lb hlb c70 hN hc H.size) (cwS 1 hts (TB_S tw_2976 tw_2977 tw_15 co_X13_capped) rfl rfl rfl (by decide +kernel) ⟨Nat.le_of_ble_eq_true rfl, Nat.le_of_ble_eq_true rfl⟩) (preS xT_bl hP hK hNb hD xT_at) rfl rfl hl.1 rfl (lv_room (Nat.le_of_ble_eq_true rfl)) dX13_match_400 ⟨Nat.le_of_ble_eq_true rfl, Nat.le_of_ble_eq_true rfl⟩) hP hD hS hA (fun x72 H locs r_x72 hq hP hD hS => ?_)
        replace hw := hw x72 r_x72 hq
        refine sdMX13_front hx hb hK hP hD hS c68 dX13_match_403 (fun H locs hP hD hS => ?_)
        have hN : n_m (s_a τ 85 ((61 * u6) + u13) x72) := n_a (k := 85) (j := ((61 * u6) + u13)) hN (r_x72 : rg x72)
        have hF : f_r [] [85] [] σ (s_a τ 85 ((61 * u6) + u13) x72) := f_a hF (by decide)
        refine lv_iload hx hb dX13_match_404 (lv_at hl 8 rfl) ?_
        refine lv_iload hx hb dX13_match_406 (lv_at hl 0 rfl) ?_
        refine bi_iadd hx hb dX13_match_408 ?_
        refine lv_istore (lv' := [(8, .int (I (u8 + x67))), (14, .int (I x67)), (0, .ref (q 0)), (2, .int (I u2)), (3, .int (I u3)), (4, .int (I u4)), (5, .int (I u5)), (6, .int (I u6)), (7, .int (I u7)), (9, .int (I u9)), (10, .int (I u10)), (11, .int (I u11)), (12, .int (I u12)), (13, .int (I u13))]) hx hb dX13_match_409 hl (by decide) rfl (fun ls hl => ?_)
        refine lv_iinc (v := I (u13 + 1)) (lv' := [(13, .int (I (u13 + 1))), (8, .int (I (u8 + x67))), (14, .int (I x67)), (0, .ref (q 0)), (2, .int (I u2)), (3, .int (I u3)), (4, .int (I u4)), (5, .int (I u5)), (6, .int (I u6)), (7, .int (I u7)), (9, .int (I u9)), (10, .int (I u10)), (11, .int (I u11)), (12, .int (I u12))]) hx hb dX13_match_411 hl (k := 13) rfl (I_add _ _) (by decide) rfl (fun ls hl => ?_)
        refine lv_goto (tgt := 339) hx hb dX13_match_414 (by decide) ?_
        obtain ⟨c74, hw⟩ := hw
        obtain ⟨c75, hw⟩ := hw
        exact (hP339 _ _ _ _ _ _ _ _ _ _ _ _ _).mp hw r_u2 r_u3 r_u4 r_u5 r_u6 r_u7 c74 r_u9 r_u10 r_u11 r_u12 c75 hN hF H locs ls hP hD hS (lv_sub hl [3, 4, 5, 6, 7, 8, 9, 1, 10, 11, 12, 13, 0] rfl)
