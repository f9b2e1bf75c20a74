-- methods told as propositions, and tied to the machine
def W_X13_variablesOf (n1 : Int) (σ : S0) (Q : Int → Prop) : Prop :=
  ∀ (P9 : Int → Int → Int → Prop),
  (∀ (u1 : Int) (u2 : Int) (u3 : Int), ((0 ≤ u1 ∧ u1 < 1501) ∧ (∀ (x4 : Int), rg x4 → x4 = σ.2.1 14 u1 → (∀ (x5 : Int), rg x5 → x5 = σ.2.1 15 u1 → (rg (x4 + x5) ∧ ((x4 + x5) ≤ u3 → Q u2) ∧ (u3 < (x4 + x5) → (0 ≤ u3 ∧ u3 < 30400) ∧ (∀ (x9 : Int), rg x9 → x9 = σ.2.1 16 u3 → ((0 ≤ x9 ∧ x9 < 1001) ∧ (∀ (x11 : Int), rg x11 → x11 = σ.2.1 8 x9 → ((x11 = 0 → rg (u2 + 0) ∧ rg (u3 + 1) ∧ P9 u1 (u2 + 0) (u3 + 1)) ∧ (¬ x11 = 0 → rg (u2 + 1) ∧ rg (u3 + 1) ∧ P9 u1 (u2 + 1) (u3 + 1))))))))))) → P9 u1 u2 u3) →
  (0 ≤ n1 ∧ n1 < 1501) ∧ (∀ (x2 : Int), rg x2 → x2 = σ.2.1 14 n1 → (P9 n1 0 x2))
set_option maxRecDepth 100000 in
set_option maxHeartbeats 4000000 in
theorem L_X13_variablesOf (l : Launch) (g : gG) (q : Nat → Nat) (lb : Nat) (hlb : lb < 2 ^ 31) {n1 : Int} {σ : S0} {Q : Int → Prop} (r_n1 : rg n1) (hN : n_m σ) (hw : W_X13_variablesOf n1 σ Q) (sz : Nat) : MetI l yX13_variablesOf cX13_variablesOf 4 (some .int) { frames := 0, cells := 0, slots := 0, locals := 0 } g [.ref (q 0), .int (I n1)] (MX g q lb σ) sz xT (p_i (MX g q lb) σ Q) 0 0 := by
  refine mkMet (Qc := fun A => QI g A (p_i (MX g q lb) σ Q)) (by decide) (Nat.le_of_ble_eq_true rfl) ?_
  intro p e s m below meth c A H ls hx hb hr hml hown hts hlk hnm hsz hP hK hNb hD hA hAe hS hX hl
  have hl : lv_has ls 4 [(0, .ref (q 0)), (1, .int (I n1))] := hl
  have hB := hN
  obtain ⟨locs, hlocs⟩ : ∃ z : List Loc, z = [] := ⟨_, rfl⟩
  rw [← hlocs] at hS ⊢
  obtain ⟨P9, hP9⟩ : ∃ P : Int → Int → Int → Prop, ∀ (u1 : Int) (u2 : Int) (u3 : Int), (P u1 u2 u3 ↔ (rg u1 → rg u2 → rg u3 → ∀ (H : Heap) (locs : List Loc) (ls : Array Slot), KP g (MX g q lb σ) H → va_D A (MX g q lb σ) → va_S A s.heap H locs → lv_has ls 4 [(0, .ref (q 0)), (1, .int (I u1)), (2, .int (I u2)), (3, .int (I u3))] → W p l e ({ frames := 0, cells := 0, slots := 0, locals := 0 }) s m [.ref (q 0), .int (I n1)].toArray below meth c H locs 0 0 (MQ below (QI g A (p_i (MX g q lb) σ Q)) [.ref (q 0), .int (I n1)].toArray s 0 0 A) (F0 m 9 ls []))) := ⟨_, fun _ _ _ => Iff.rfl⟩
  refine (fun hw => ?_) (hw P9 ?_)
  ·
    refine lv_iconst (v := I 0) hx hb dX13_variablesOf_0 rfl ?_
    refine lv_istore_n (lv' := [(2, .int (I 0)), (0, .ref (q 0)), (1, .int (I n1))]) hx hb dX13_variablesOf_1 rfl hl (by decide) rfl (fun ls hl => ?_)
    refine lv_aload_n hx hb dX13_variablesOf_2 rfl (lv_at hl 1 rfl) ?_
    refine gfX13_textAt hx hb hts hK hP hown (hts _ tw_2026) dX13_variablesOf_3 ?_
    refine lv_iload_n hx hb dX13_variablesOf_6 rfl (lv_at hl 2 rfl) ?_
    obtain ⟨c1, hw⟩ := hw
    refine ldMX13_textAt hx hb hK hP hN c1 dX13_variablesOf_7 (fun x2 r_x2 e_x2 => ?_)
    replace hw := hw x2 r_x2 e_x2
    refine lv_istore_n (lv' := [(3, .int (I x2)), (2, .int (I 0)), (0, .ref (q 0)), (1, .int (I n1))]) hx hb dX13_variablesOf_8 rfl hl (by decide) rfl (fun ls hl => ?_)
    exact (hP9 _ _ _).mp hw r_n1 (by decide) r_x2  H locs ls hP hD hS (lv_sub hl [2, 3, 1, 0] rfl)
  ·
    intro u1 u2 u3 hw
    refine (hP9 _ _ _).mpr ?_
    intro r_u1 r_u2 r_u3 H locs ls hP hD hS hl
    refine lv_iload_n hx hb dX13_variablesOf_9 rfl (lv_at hl 3 rfl) ?_
    refine lv_aload_n hx hb dX13_variablesOf_10 rfl (lv_at hl 0 rfl) ?_
    refine gfX13_textAt hx hb hts hK hP hown (hts _ tw_2026) dX13_variablesOf_11 ?_
    refine lv_iload_n hx hb dX13_variablesOf_14 rfl (lv_at hl 1 rfl) ?_
    obtain ⟨c3, hw⟩ := hw
    refine ldMX13_textAt hx hb hK hP hN c3 dX13_variablesOf_15 (fun x4 r_x4 e_x4 => ?_)
    replace hw := hw x4 r_x4 e_x4
    refine lv_aload_n hx hb dX13_variablesOf_16 rfl (lv_at hl 0 rfl) ?_
    refine gfX13_textSize hx hb hts hK hP hown (hts _ tw_2027) dX13_variablesOf_17 ?_
    refine lv_iload_n hx hb dX13_variablesOf_20 rfl (lv_at hl 1 rfl) ?_
    refine ldMX13_textSize hx hb hK hP hN c3 dX13_variablesOf_21 (fun x5 r_x5 e_x5 => ?_)
    replace hw := hw x5 r_x5 e_x5
    refine bi_iadd hx hb dX13_variablesOf_22 ?_
    obtain ⟨c6, hw⟩ := hw
    refine bi_icmp_ge (tgt := 54) hx hb r_u3 c6 dX13_variablesOf_23 (by decide) (fun c7 => ?_) (fun c7 => ?_)
    ·
      replace hw := hw.1 c7
      refine lv_iload_n hx hb dX13_variablesOf_54 rfl (lv_at hl 2 rfl) ?_
      exact xri hx hb hr hlk hP hK hD hS ⟨_, r_u2, rfl, rfl, hw⟩ (Nat.le_of_ble_eq_true rfl) (Nat.le_of_ble_eq_true rfl) dX13_variablesOf_55
    ·
      replace hw := hw.2 c7
      refine lv_iload_n hx hb dX13_variablesOf_26 rfl (lv_at hl 2 rfl) ?_
      refine lv_aload_n hx hb dX13_variablesOf_27 rfl (lv_at hl 0 rfl) ?_
      refine gfX13_isVariable hx hb hts hK hP hown (hts _ tw_2018) dX13_variablesOf_28 ?_
      refine lv_aload_n hx hb dX13_variablesOf_31 rfl (lv_at hl 0 rfl) ?_
      refine gfX13_texts hx hb hts hK hP hown (hts _ tw_2028) dX13_variablesOf_32 ?_
      refine lv_iload_n hx hb dX13_variablesOf_35 rfl (lv_at hl 3 rfl) ?_
      obtain ⟨c8, hw⟩ := hw
      refine ldMX13_texts hx hb hK hP hN c8 dX13_variablesOf_36 (fun x9 r_x9 e_x9 => ?_)
      replace hw := hw x9 r_x9 e_x9
      obtain ⟨c10, hw⟩ := hw
      refine ldMX13_isVariable hx hb hK hP hN c10 dX13_variablesOf_37 (fun x11 r_x11 e_x11 => ?_)
      replace hw := hw x11 r_x11 e_x11
      refine bi_if_eq (tgt := 45) hx hb r_x11 dX13_variablesOf_38 (by decide) (fun c12 => ?_) (fun c12 => ?_)
      ·
        replace hw := hw.1 c12
        refine lv_iconst (v := I 0) hx hb dX13_variablesOf_45 rfl ?_
        refine bi_iadd hx hb dX13_variablesOf_46 ?_
        refine lv_istore_n (lv' := [(2, .int (I (u2 + 0))), (0, .ref (q 0)), (1, .int (I u1)), (3, .int (I u3))]) hx hb dX13_variablesOf_47 rfl hl (by decide) rfl (fun ls hl => ?_)
        refine lv_iinc (v := I (u3 + 1)) (lv' := [(3, .int (I (u3 + 1))), (2, .int (I (u2 + 0))), (0, .ref (q 0)), (1, .int (I u1))]) hx hb dX13_variablesOf_48 hl (k := 3) rfl (I_add _ _) (by decide) rfl (fun ls hl => ?_)
        refine lv_goto (tgt := 9) hx hb dX13_variablesOf_51 (by decide) ?_
        obtain ⟨c13, hw⟩ := hw
        obtain ⟨c14, hw⟩ := hw
        exact (hP9 _ _ _).mp hw r_u1 c13 c14  H locs ls hP hD hS (lv_sub hl [2, 3, 1, 0] rfl)
      ·
        replace hw := hw.2 c12
        refine lv_iconst (v := I 1) hx hb dX13_variablesOf_41 rfl ?_
        refine lv_goto (tgt := 46) hx hb dX13_variablesOf_42 (by decide) ?_
        refine bi_iadd hx hb dX13_variablesOf_46 ?_
        refine lv_istore_n (lv' := [(2, .int (I (u2 + 1))), (0, .ref (q 0)), (1, .int (I u1)), (3, .int (I u3))]) hx hb dX13_variablesOf_47 rfl hl (by decide) rfl (fun ls hl => ?_)
        refine lv_iinc (v := I (u3 + 1)) (lv' := [(3, .int (I (u3 + 1))), (2, .int (I (u2 + 1))), (0, .ref (q 0)), (1, .int (I u1))]) hx hb dX13_variablesOf_48 hl (k := 3) rfl (I_add _ _) (by decide) rfl (fun ls hl => ?_)
        refine lv_goto (tgt := 9) hx hb dX13_variablesOf_51 (by decide) ?_
        obtain ⟨c15, hw⟩ := hw
        obtain ⟨c16, hw⟩ := hw
        exact (hP9 _ _ _).mp hw r_u1 c15 c16  H locs ls hP hD hS (lv_sub hl [2, 3, 1, 0] rfl)
def W_X13_equate (n1 : Int) (σ : S0) (Q : Int → S0 → Prop) : Prop :=
  ∀ (P58 : Int → Int → S0 → Prop) (P63 : Int → Int → S0 → Prop) (P86 : Int → Int → Int → S0 → Prop),
  (∀ (k1 : Int) (k2 : Int) (τ : S0), ((0 ≤ k1 ∧ k1 < 1501) ∧ ((0 ≤ k2 ∧ k2 ≤ 1) ∧ (P63 0 0 (s_a τ 96 k1 k2)))) → P58 k1 k2 τ) →
  (∀ (u2 : Int) (u3 : Int) (τ : S0), ((τ.1 5 ≤ u3 → Q u2 τ) ∧ (u3 < τ.1 5 → (0 ≤ u3 ∧ u3 < 1501) ∧ (∀ (x22 : Int), rg x22 → x22 = τ.2.1 96 u3 → ((x22 = 0 → P86 u3 u2 0 τ) ∧ (¬ x22 = 0 → P86 u3 u2 1 τ))))) → P63 u2 u3 τ) →
  (∀ (u3 : Int) (k0 : Int) (k1 : Int) (τ : S0), ((0 ≤ u3 ∧ u3 < 1501) ∧ (rg (k0 + k1) ∧ rg (u3 + 1) ∧ P63 (k0 + k1) (u3 + 1) (s_a τ 95 u3 (-9)))) → P86 u3 k0 k1 τ) →
  ∃ (Q1 : Int → Prop), W_X13_isStatement n1 σ Q1 ∧ ∀ (x2 : Int), rg x2 → Q1 x2 → ((x2 = 0 → Q (-1) σ) ∧ (¬ x2 = 0 → (0 ≤ n1 ∧ n1 < 1501) ∧ (∀ (x6 : Int), rg x6 → x6 = σ.2.1 13 n1 → ((x6 = 2 → ∃ (Q8 : Int → Prop), W_X13_isRule n1 σ Q8 ∧ ∀ (x9 : Int), rg x9 → Q8 x9 → ((x9 = 0 → Q (-1) σ) ∧ (¬ x9 = 0 → ∃ (Q12 : Int → Prop), W_X13_variablesOf n1 σ Q12 ∧ ∀ (x13 : Int), rg x13 → Q12 x13 → ((x13 = 2 → ∀ (x16 : Int), rg x16 → x16 = σ.2.1 96 n1 → ((¬ x16 = 0 → P58 n1 0 σ) ∧ (x16 = 0 → P58 n1 1 σ))) ∧ (¬ x13 = 2 → Q (-1) σ))))) ∧ (¬ x6 = 2 → Q (-1) σ)))))
set_option maxRecDepth 100000 in
set_option maxHeartbeats 4000000 in
theorem L_X13_equate (l : Launch) (g : gG) (q : Nat → Nat) (lb : Nat) (hlb : lb < 2 ^ 31) {n1 : Int} {σ : S0} {Q : Int → S0 → Prop} (r_n1 : rg n1) (hN : n_m σ) (hw : W_X13_equate n1 σ Q) (sz : Nat) : MetI l yX13_equate cX13_equate 4 (some .int) { frames := 2, cells := 0, slots := 0, locals := 46 } g [.ref (q 0), .int (I n1)] (MX g q lb σ) sz xT (p_I (MX g q lb) [] [95, 96] [] σ Q) 0 0 := by
  refine mkMet (Qc := fun A => QI g A (p_I (MX g q lb) [] [95, 96] [] σ Q)) (by decide) (Nat.le_of_ble_eq_true rfl) ?_
  intro p e s m below meth c A H ls hx hb hr hml hown hts hlk hnm hsz hP hK hNb hD hA hAe hS hX hl
  have hl : lv_has ls 4 [(0, .ref (q 0)), (1, .int (I n1))] := hl
  have hB := hN
  have hF : f_r [] [95, 96] [] σ σ := f_0
  obtain ⟨locs, hlocs⟩ : ∃ z : List Loc, z = [] := ⟨_, rfl⟩
  rw [← hlocs] at hS ⊢
  obtain ⟨P58, hP58⟩ : ∃ P : Int → Int → S0 → Prop, ∀ (k1 : Int) (k2 : Int) (τ : S0), (P k1 k2 τ ↔ (rg k1 → rg k2 → n_m τ → f_r [] [95, 96] [] σ τ → ∀ (H : Heap) (locs : List Loc) (ls : Array Slot), KP g (MX g q lb τ) H → va_D A (MX g q lb τ) → va_S A s.heap H locs → lv_has ls 4 [(0, .ref (q 0))] → W p l e ({ frames := 2, cells := 0, slots := 0, locals := 46 }) s m [.ref (q 0), .int (I n1)].toArray below meth c H locs 0 0 (MQ below (QI g A (p_I (MX g q lb) [] [95, 96] [] σ Q)) [.ref (q 0), .int (I n1)].toArray s 0 0 A) (F0 m 58 ls [.int (I k2), .int (I k1), .ref (q 105)]))) := ⟨_, fun _ _ _ => Iff.rfl⟩
  obtain ⟨P63, hP63⟩ : ∃ P : Int → Int → S0 → Prop, ∀ (u2 : Int) (u3 : Int) (τ : S0), (P u2 u3 τ ↔ (rg u2 → rg u3 → n_m τ → f_r [] [95, 96] [] σ τ → ∀ (H : Heap) (locs : List Loc) (ls : Array Slot), KP g (MX g q lb τ) H → va_D A (MX g q lb τ) → va_S A s.heap H locs → lv_has ls 4 [(0, .ref (q 0)), (2, .int (I u2)), (3, .int (I u3))] → W p l e ({ frames := 2, cells := 0, slots := 0, locals := 46 }) s m [.ref (q 0), .int (I n1)].toArray below meth c H locs 0 0 (MQ below (QI g A (p_I (MX g q lb) [] [95, 96] [] σ Q)) [.ref (q 0), .int (I n1)].toArray s 0 0 A) (F0 m 63 ls []))) := ⟨_, fun _ _ _ => Iff.rfl⟩
  obtain ⟨P86, hP86⟩ : ∃ P : Int → Int → Int → S0 → Prop, ∀ (u3 : Int) (k0 : Int) (k1 : Int) (τ : S0), (P u3 k0 k1 τ ↔ (rg u3 → rg k0 → rg k1 → n_m τ → f_r [] [95, 96] [] σ τ → ∀ (H : Heap) (locs : List Loc) (ls : Array Slot), KP g (MX g q lb τ) H → va_D A (MX g q lb τ) → va_S A s.heap H locs → lv_has ls 4 [(0, .ref (q 0)), (3, .int (I u3))] → W p l e ({ frames := 2, cells := 0, slots := 0, locals := 46 }) s m [.ref (q 0), .int (I n1)].toArray below meth c H locs 0 0 (MQ below (QI g A (p_I (MX g q lb) [] [95, 96] [] σ Q)) [.ref (q 0), .int (I n1)].toArray s 0 0 A) (F0 m 86 ls [.int (I k1), .int (I k0)]))) := ⟨_, fun _ _ _ _ => Iff.rfl⟩
  refine (fun hw => ?_) (hw P58 P63 P86 ?_ ?_ ?_)
  ·
    refine lv_aload_n hx hb dX13_equate_0 rfl (lv_at hl 0 rfl) ?_
    refine lv_iload_n hx hb dX13_equate_1 rfl (lv_at hl 1 rfl) ?_
    obtain ⟨Q1, hc, hw⟩ := hw
    refine wc_i (X := MX g q lb) (va_runV (As := [.int (I n1)]) (rest := []) ⟨hx, hb, hml, hown, hts⟩ (L_X13_isStatement l g q lb hlb r_n1 hN hc H.size) (cwV 1 hts (TB_V tw_2803 tw_2805 ts_161 tw_15 co_X13_isStatement) rfl rfl rfl (by decide +kernel) ⟨Nat.le_of_ble_eq_true rfl, Nat.le_of_ble_eq_true rfl⟩) (preV (q0 := 0) (ci := 13) rfl xT_bl hP hK hNb hD rfl rfl xT_at) rfl rfl hl.1 rfl (lv_room (Nat.le_of_ble_eq_true rfl)) dX13_equate_2 ⟨Nat.le_of_ble_eq_true rfl, Nat.le_of_ble_eq_true rfl⟩) hP hD hS hA (fun x2 H locs r_x2 hq hP hD hS => ?_)
    replace hw := hw x2 r_x2 hq
    refine bi_if_eq (tgt := 18) hx hb r_x2 dX13_equate_5 (by decide) (fun c4 => ?_) (fun c4 => ?_)
    ·
      replace hw := hw.1 c4
      refine lv_iconst (v := I (-1)) hx hb dX13_equate_18 rfl ?_
      exact xri hx hb hr hlk hP hK hD hS ⟨_, _, (by decide), rfl, hN, hF, rfl, hw⟩ (Nat.le_of_ble_eq_true rfl) (Nat.le_of_ble_eq_true rfl) dX13_equate_19
    ·
      replace hw := hw.2 c4
      refine lv_aload_n hx hb dX13_equate_8 rfl (lv_at hl 0 rfl) ?_
      refine gfX13_kindOf hx hb hts hK hP hown (hts _ tw_2025) dX13_equate_9 ?_
      refine lv_iload_n hx hb dX13_equate_12 rfl (lv_at hl 1 rfl) ?_
      obtain ⟨c5, hw⟩ := hw
      refine ldMX13_kindOf hx hb hK hP hN c5 dX13_equate_13 (fun x6 r_x6 e_x6 => ?_)
      replace hw := hw x6 r_x6 e_x6
      refine lv_iconst (v := I 2) hx hb dX13_equate_14 rfl ?_
      refine bi_icmp_eq (tgt := 20) hx hb r_x6 (by decide) dX13_equate_15 (by decide) (fun c7 => ?_) (fun c7 => ?_)
      ·
        replace hw := hw.1 c7
        refine lv_aload_n hx hb dX13_equate_20 rfl (lv_at hl 0 rfl) ?_
        refine lv_iload_n hx hb dX13_equate_21 rfl (lv_at hl 1 rfl) ?_
        obtain ⟨Q8, hc, hw⟩ := hw
        refine wc_i (X := MX g q lb) (va_runV (As := [.int (I n1)]) (rest := []) ⟨hx, hb, hml, hown, hts⟩ (L_X13_isRule l g q lb hlb r_n1 hN hc H.size) (cwV 1 hts (TB_V tw_2940 tw_2942 ts_180 tw_15 co_X13_isRule) rfl rfl rfl (by decide +kernel) ⟨Nat.le_of_ble_eq_true rfl, Nat.le_of_ble_eq_true rfl⟩) (preV (q0 := 0) (ci := 13) rfl xT_bl hP hK hNb hD rfl rfl xT_at) rfl rfl hl.1 rfl (lv_room (Nat.le_of_ble_eq_true rfl)) dX13_equate_22 ⟨Nat.le_of_ble_eq_true rfl, Nat.le_of_ble_eq_true rfl⟩) hP hD hS hA (fun x9 H locs r_x9 hq hP hD hS => ?_)
        replace hw := hw x9 r_x9 hq
        refine bi_if_eq (tgt := 37) hx hb r_x9 dX13_equate_25 (by decide) (fun c11 => ?_) (fun c11 => ?_)
        ·
          replace hw := hw.1 c11
          refine lv_iconst (v := I (-1)) hx hb dX13_equate_37 rfl ?_
          exact xri hx hb hr hlk hP hK hD hS ⟨_, _, (by decide), rfl, hN, hF, rfl, hw⟩ (Nat.le_of_ble_eq_true rfl) (Nat.le_of_ble_eq_true rfl) dX13_equate_38
        ·
          replace hw := hw.2 c11
          refine lv_aload_n hx hb dX13_equate_28 rfl (lv_at hl 0 rfl) ?_
          refine lv_iload_n hx hb dX13_equate_29 rfl (lv_at hl 1 rfl) ?_
          obtain ⟨Q12, hc, hw⟩ := hw
          refine wc_i (X := MX g q lb) (va_runV (As := [.int (I n1)]) (rest := []) ⟨hx, hb, hml, hown, hts⟩ (L_X13_variablesOf l g q lb hlb r_n1 hN hc H.size) (cwV 1 hts (TB_V tw_3011 tw_3013 ts_196 tw_15 co_X13_variablesOf) rfl rfl rfl (by decide +kernel) ⟨Nat.le_of_ble_eq_true rfl, Nat.le_of_ble_eq_true rfl⟩) (preV (q0 := 0) (ci := 13) rfl xT_bl hP hK hNb hD rfl rfl xT_at) rfl rfl hl.1 rfl (lv_room (Nat.le_of_ble_eq_true rfl)) dX13_equate_30 ⟨Nat.le_of_ble_eq_true rfl, Nat.le_of_ble_eq_true rfl⟩) hP hD hS hA (fun x13 H locs r_x13 hq hP hD hS => ?_)
          replace hw := hw x13 r_x13 hq
          refine lv_iconst (v := I 2) hx hb dX13_equate_33 rfl ?_
          refine bi_icmp_eq (tgt := 39) hx hb r_x13 (by decide) dX13_equate_34 (by decide) (fun c15 => ?_) (fun c15 => ?_)
          ·
            replace hw := hw.1 c15
            refine lv_aload_n hx hb dX13_equate_39 rfl (lv_at hl 0 rfl) ?_
            refine gfX13_isEquality hx hb hts hK hP hown (hts _ tw_2162) dX13_equate_40 ?_
            refine lv_iload_n hx hb dX13_equate_43 rfl (lv_at hl 1 rfl) ?_
            refine lv_aload_n hx hb dX13_equate_44 rfl (lv_at hl 0 rfl) ?_
            refine gfX13_isEquality hx hb hts hK hP hown (hts _ tw_2162) dX13_equate_45 ?_
            refine lv_iload_n hx hb dX13_equate_48 rfl (lv_at hl 1 rfl) ?_
            refine ldMX13_isEquality hx hb hK hP hN c5 dX13_equate_49 (fun x16 r_x16 e_x16 => ?_)
            replace hw := hw x16 r_x16 e_x16
            refine bi_if_ne (tgt := 57) hx hb r_x16 dX13_equate_50 (by decide) (fun c17 => ?_) (fun c17 => ?_)
            ·
              replace hw := hw.1 c17
              refine lv_iconst (v := I 0) hx hb dX13_equate_57 rfl ?_
              exact (hP58 _ _ _).mp hw r_n1 (by decide) hN hF H locs ls hP hD hS (lv_sub hl [0] rfl)
            ·
              replace hw := hw.2 c17
              refine lv_iconst (v := I 1) hx hb dX13_equate_53 rfl ?_
              refine lv_goto (tgt := 58) hx hb dX13_equate_54 (by decide) ?_
              exact (hP58 _ _ _).mp hw r_n1 (by decide) hN hF H locs ls hP hD hS (lv_sub hl [0] rfl)
          ·
            replace hw := hw.2 c15
            refine lv_iconst (v := I (-1)) hx hb dX13_equate_37 rfl ?_
            exact xri hx hb hr hlk hP hK hD hS ⟨_, _, (by decide), rfl, hN, hF, rfl, hw⟩ (Nat.le_of_ble_eq_true rfl) (Nat.le_of_ble_eq_true rfl) dX13_equate_38
      ·
        replace hw := hw.2 c7
        refine lv_iconst (v := I (-1)) hx hb dX13_equate_18 rfl ?_
        exact xri hx hb hr hlk hP hK hD hS ⟨_, _, (by decide), rfl, hN, hF, rfl, hw⟩ (Nat.le_of_ble_eq_true rfl) (Nat.le_of_ble_eq_true rfl) dX13_equate_19
  ·
    intro k1 k2 τ hw
    refine (hP58 _ _ _).mpr ?_
    intro r_k1 r_k2 hN hF H locs ls hP hD hS hl
    have hB := hN
    obtain ⟨c18, hw⟩ := hw
    obtain ⟨c19, hw⟩ := hw
    refine sdMX13_isEquality hx hb hK hP hD hS c18 c19 dX13_equate_58 (fun H locs hP hD hS => ?_)
    have hN : n_m (s_a τ 96 k1 k2) := n_a (k := 96) (j := k1) hN (r_k2 : rg k2)
    have hF : f_r [] [95, 96] [] σ (s_a τ 96 k1 k2) := f_a hF (by decide)
    refine lv_iconst (v := I 0) hx hb dX13_equate_59 rfl ?_
    refine lv_istore_n (lv' := [(2, .int (I 0)), (0, .ref (q 0))]) hx hb dX13_equate_60 rfl hl (by decide) rfl (fun ls hl => ?_)
    refine lv_iconst (v := I 0) hx hb dX13_equate_61 rfl ?_
    refine lv_istore_n (lv' := [(3, .int (I 0)), (2, .int (I 0)), (0, .ref (q 0))]) hx hb dX13_equate_62 rfl hl (by decide) rfl (fun ls hl => ?_)
    exact (hP63 _ _ _).mp hw (by decide) (by decide) hN hF H locs ls hP hD hS (lv_sub hl [2, 1, 0] rfl)
  ·
    intro u2 u3 τ hw
    refine (hP63 _ _ _).mpr ?_
    intro r_u2 r_u3 hN hF H locs ls hP hD hS hl
    have hB := hN
    refine lv_iload_n hx hb dX13_equate_63 rfl (lv_at hl 2 rfl) ?_
    refine lv_aload_n hx hb dX13_equate_64 rfl (lv_at hl 0 rfl) ?_
    refine gfX13_statements hx hb hts hK hP hown (hts _ tw_2024) (x := τ.1 5) rfl dX13_equate_65 ?_
    refine bi_icmp_ge (tgt := 102) hx hb r_u3 (hB.1 5) dX13_equate_68 (by decide) (fun c20 => ?_) (fun c20 => ?_)
    ·
      replace hw := hw.1 c20
      refine lv_iload_n hx hb dX13_equate_102 rfl (lv_at hl 1 rfl) ?_
      exact xri hx hb hr hlk hP hK hD hS ⟨_, _, r_u2, rfl, hN, hF, rfl, hw⟩ (Nat.le_of_ble_eq_true rfl) (Nat.le_of_ble_eq_true rfl) dX13_equate_103
    ·
      replace hw := hw.2 c20
      refine lv_iload_n hx hb dX13_equate_71 rfl (lv_at hl 1 rfl) ?_
      refine lv_aload_n hx hb dX13_equate_72 rfl (lv_at hl 0 rfl) ?_
      refine gfX13_isEquality hx hb hts hK hP hown (hts _ tw_2162) dX13_equate_73 ?_
      refine lv_iload_n hx hb dX13_equate_76 rfl (lv_at hl 2 rfl) ?_
      obtain ⟨c21, hw⟩ := hw
      refine ldMX13_isEquality hx hb hK hP hN c21 dX13_equate_77 (fun x22 r_x22 e_x22 => ?_)
      replace hw := hw x22 r_x22 e_x22
      refine bi_if_eq (tgt := 85) hx hb r_x22 dX13_equate_78 (by decide) (fun c23 => ?_) (fun c23 => ?_)
      ·
        replace hw := hw.1 c23
        refine lv_iconst (v := I 0) hx hb dX13_equate_85 rfl ?_
        exact (hP86 _ _ _ _).mp hw r_u3 r_u2 (by decide) hN hF H locs ls hP hD hS (lv_sub hl [0, 2] rfl)
      ·
        replace hw := hw.2 c23
        refine lv_iconst (v := I 1) hx hb dX13_equate_81 rfl ?_
        refine lv_goto (tgt := 86) hx hb dX13_equate_82 (by decide) ?_
        exact (hP86 _ _ _ _).mp hw r_u3 r_u2 (by decide) hN hF H locs ls hP hD hS (lv_sub hl [0, 2] rfl)
  ·
    intro u3 k0 k1 τ hw
    refine (hP86 _ _ _ _).mpr ?_
    intro r_u3 r_k0 r_k1 hN hF H locs ls hP hD hS hl
    have hB := hN
    refine bi_iadd hx hb dX13_equate_86 ?_
    refine lv_istore_n (lv' := [(2, .int (I (k0 + k1))), (0, .ref (q 0)), (3, .int (I u3))]) hx hb dX13_equate_87 rfl hl (by decide) rfl (fun ls hl => ?_)
    refine lv_aload_n hx hb dX13_equate_88 rfl (lv_at hl 1 rfl) ?_
    refine gfX13_definitions hx hb hts hK hP hown (hts _ tw_2161) dX13_equate_89 ?_
    refine lv_iload_n hx hb dX13_equate_92 rfl (lv_at hl 2 rfl) ?_
    refine lv_bipush (v := I (-9)) hx hb dX13_equate_93 (by decide) ?_
    obtain ⟨c24, hw⟩ := hw
    refine sdMX13_definitions hx hb hK hP hD hS c24 dX13_equate_95 (fun H locs hP hD hS => ?_)
    have hN : n_m (s_a τ 95 u3 (-9)) := n_a (k := 95) (j := u3) hN ((by decide) : rg (-9))
    have hF : f_r [] [95, 96] [] σ (s_a τ 95 u3 (-9)) := f_a hF (by decide)
    refine lv_iinc (v := I (u3 + 1)) (lv' := [(3, .int (I (u3 + 1))), (2, .int (I (k0 + k1))), (0, .ref (q 0))]) hx hb dX13_equate_96 hl (k := 2) rfl (I_add _ _) (by decide) rfl (fun ls hl => ?_)
    refine lv_goto (tgt := 63) hx hb dX13_equate_99 (by decide) ?_
    obtain ⟨c25, hw⟩ := hw
    obtain ⟨c26, hw⟩ := hw
    exact (hP63 _ _ _).mp hw c25 c26 hN hF H locs ls hP hD hS (lv_sub hl [2, 1, 0] rfl)
def W_X13_firstSide (n1 : Int) (σ : S0) (Q : Int → Prop) : Prop :=
  ∀ (P9 : Int → Int → Prop),
  (∀ (u1 : Int) (u2 : Int), ((0 ≤ u2 ∧ u2 < 30400) ∧ (∀ (x5 : Int), rg x5 → x5 = σ.2.1 16 u2 → ((0 ≤ x5 ∧ x5 < 1001) ∧ (∀ (x7 : Int), rg x7 → x7 = σ.2.1 8 x5 → ((¬ x7 = 0 → ∀ (x9 : Int), rg x9 → x9 = σ.2.1 16 u2 → (∃ (Q10 : Int → Prop), W_X13_hypOf u1 x9 σ Q10 ∧ ∀ (x11 : Int), rg x11 → Q10 x11 → (Q x11))) ∧ (x7 = 0 → rg (u2 + 1) ∧ P9 u1 (u2 + 1))))))) → P9 u1 u2) →
  (0 ≤ n1 ∧ n1 < 1501) ∧ (∀ (x2 : Int), rg x2 → x2 = σ.2.1 14 n1 → (rg (x2 + 1) ∧ P9 n1 (x2 + 1)))
set_option maxRecDepth 100000 in
set_option maxHeartbeats 4000000 in
theorem L_X13_firstSide (l : Launch) (g : gG) (q : Nat → Nat) (lb : Nat) (hlb : lb < 2 ^ 31) {n1 : Int} {σ : S0} {Q : Int → Prop} (r_n1 : rg n1) (hN : n_m σ) (hw : W_X13_firstSide n1 σ Q) (sz : Nat) : MetI l yX13_firstSide cX13_firstSide 3 (some .int) { frames := 1, cells := 0, slots := 0, locals := 23 } g [.ref (q 0), .int (I n1)] (MX g q lb σ) sz xT (p_i (MX g q lb) σ Q) 0 0 := by
  refine mkMet (Qc := fun A => QI g A (p_i (MX g q lb) σ Q)) (by decide) (Nat.le_of_ble_eq_true rfl) ?_
  intro p e s m below meth c A H ls hx hb hr hml hown hts hlk hnm hsz hP hK hNb hD hA hAe hS hX hl
  have hl : lv_has ls 3 [(0, .ref (q 0)), (1, .int (I n1))] := hl
  have hB := hN
  obtain ⟨locs, hlocs⟩ : ∃ z : List Loc, z = [] := ⟨_, rfl⟩
  rw [← hlocs] at hS ⊢
  obtain ⟨P9, hP9⟩ : ∃ P : Int → Int → Prop, ∀ (u1 : Int) (u2 : Int), (P u1 u2 ↔ (rg u1 → rg u2 → ∀ (H : Heap) (locs : List Loc) (ls : Array Slot), KP g (MX g q lb σ) H → va_D A (MX g q lb σ) → va_S A s.heap H locs → lv_has ls 3 [(0, .ref (q 0)), (1, .int (I u1)), (2, .int (I u2))] → W p l e ({ frames := 1, cells := 0, slots := 0, locals := 23 }) s m [.ref (q 0), .int (I n1)].toArray below meth c H locs 0 0 (MQ below (QI g A (p_i (MX g q lb) σ Q)) [.ref (q 0), .int (I n1)].toArray s 0 0 A) (F0 m 9 ls []))) := ⟨_, fun _ _ => Iff.rfl⟩
  refine (fun hw => ?_) (hw P9 ?_)
  ·
    refine lv_aload_n hx hb dX13_firstSide_0 rfl (lv_at hl 0 rfl) ?_
    refine gfX13_textAt hx hb hts hK hP hown (hts _ tw_2026) dX13_firstSide_1 ?_
    refine lv_iload_n hx hb dX13_firstSide_4 rfl (lv_at hl 1 rfl) ?_
    obtain ⟨c1, hw⟩ := hw
    refine ldMX13_textAt hx hb hK hP hN c1 dX13_firstSide_5 (fun x2 r_x2 e_x2 => ?_)
    replace hw := hw x2 r_x2 e_x2
    refine lv_iconst (v := I 1) hx hb dX13_firstSide_6 rfl ?_
    refine bi_iadd hx hb dX13_firstSide_7 ?_
    refine lv_istore_n (lv' := [(2, .int (I (x2 + 1))), (0, .ref (q 0)), (1, .int (I n1))]) hx hb dX13_firstSide_8 rfl hl (by decide) rfl (fun ls hl => ?_)
    obtain ⟨c3, hw⟩ := hw
    exact (hP9 _ _).mp hw r_n1 c3  H locs ls hP hD hS (lv_sub hl [1, 2, 0] rfl)
  ·
    intro u1 u2 hw
    refine (hP9 _ _).mpr ?_
    intro r_u1 r_u2 H locs ls hP hD hS hl
    refine lv_aload_n hx hb dX13_firstSide_9 rfl (lv_at hl 0 rfl) ?_
    refine gfX13_isVariable hx hb hts hK hP hown (hts _ tw_2018) dX13_firstSide_10 ?_
    refine lv_aload_n hx hb dX13_firstSide_13 rfl (lv_at hl 0 rfl) ?_
    refine gfX13_texts hx hb hts hK hP hown (hts _ tw_2028) dX13_firstSide_14 ?_
    refine lv_iload_n hx hb dX13_firstSide_17 rfl (lv_at hl 2 rfl) ?_
    obtain ⟨c4, hw⟩ := hw
    refine ldMX13_texts hx hb hK hP hN c4 dX13_firstSide_18 (fun x5 r_x5 e_x5 => ?_)
    replace hw := hw x5 r_x5 e_x5
    obtain ⟨c6, hw⟩ := hw
    refine ldMX13_isVariable hx hb hK hP hN c6 dX13_firstSide_19 (fun x7 r_x7 e_x7 => ?_)
    replace hw := hw x7 r_x7 e_x7
    refine bi_if_ne (tgt := 29) hx hb r_x7 dX13_firstSide_20 (by decide) (fun c8 => ?_) (fun c8 => ?_)
    ·
      replace hw := hw.1 c8
      refine lv_aload_n hx hb dX13_firstSide_29 rfl (lv_at hl 0 rfl) ?_
      refine lv_iload_n hx hb dX13_firstSide_30 rfl (lv_at hl 1 rfl) ?_
      refine lv_aload_n hx hb dX13_firstSide_31 rfl (lv_at hl 0 rfl) ?_
      refine gfX13_texts hx hb hts hK hP hown (hts _ tw_2028) dX13_firstSide_32 ?_
      refine lv_iload_n hx hb dX13_firstSide_35 rfl (lv_at hl 2 rfl) ?_
      refine ldMX13_texts hx hb hK hP hN c4 dX13_firstSide_36 (fun x9 r_x9 e_x9 => ?_)
      replace hw := hw x9 r_x9 e_x9
      obtain ⟨Q10, hc, hw⟩ := hw
      refine wc_i (X := MX g q lb) (va_runV (As := [.int (I u1), .int (I x9)]) (rest := []) ⟨hx, hb, hml, hown, hts⟩ (L_X13_hypOf l g q lb hlb r_u1 r_x9 hN hc H.size) (cwV 2 hts (TB_V tw_3003 tw_3005 ts_195 tw_15 co_X13_hypOf) rfl rfl rfl (by decide +kernel) ⟨Nat.le_of_ble_eq_true rfl, Nat.le_of_ble_eq_true rfl⟩) (preV (q0 := 0) (ci := 13) rfl xT_bl hP hK hNb hD rfl rfl xT_at) rfl rfl hl.1 rfl (lv_room (Nat.le_of_ble_eq_true rfl)) dX13_firstSide_37 ⟨Nat.le_of_ble_eq_true rfl, Nat.le_of_ble_eq_true rfl⟩) hP hD hS hA (fun x11 H locs r_x11 hq hP hD hS => ?_)
      replace hw := hw x11 r_x11 hq
      exact xri hx hb hr hlk hP hK hD hS ⟨_, r_x11, rfl, rfl, hw⟩ (Nat.le_of_ble_eq_true rfl) (Nat.le_of_ble_eq_true rfl) dX13_firstSide_40
    ·
      replace hw := hw.2 c8
      refine lv_iinc (v := I (u2 + 1)) (lv' := [(2, .int (I (u2 + 1))), (0, .ref (q 0)), (1, .int (I u1))]) hx hb dX13_firstSide_23 hl (k := 2) rfl (I_add _ _) (by decide) rfl (fun ls hl => ?_)
      refine lv_goto (tgt := 9) hx hb dX13_firstSide_26 (by decide) ?_
      obtain ⟨c13, hw⟩ := hw
      exact (hP9 _ _).mp hw r_u1 c13  H locs ls hP hD hS (lv_sub hl [1, 2, 0] rfl)
def W_X13_isUsedBefore (n1 : Int) (n2 : Int) (σ : S0) (Q : Int → S0 → Prop) : Prop :=
  ∀ (P5 : Int → Int → Int → Int → S0 → Prop),
  (∀ (u1 : Int) (u2 : Int) (u3 : Int) (u4 : Int) (τ : S0), ((u1 ≤ u4 → (0 ≤ u3 ∧ u3 ≤ 1) ∧ Q u3 τ) ∧ (u4 < u1 → (¬ u3 = 0 → (0 ≤ u3 ∧ u3 ≤ 1) ∧ Q u3 τ) ∧ (u3 = 0 → (0 ≤ u4 ∧ u4 < 1501) ∧ (∀ (x6 : Int), rg x6 → x6 = τ.2.1 14 u4 → ((0 ≤ x6 ∧ x6 < 30400) ∧ (∀ (x8 : Int), rg x8 → x8 = τ.2.1 16 x6 → ((¬ x8 = τ.1 11 → rg (u4 + 1) ∧ P5 u1 u2 u3 (u4 + 1) τ) ∧ (x8 = τ.1 11 → ∀ (x11 : Int), rg x11 → x11 = τ.2.1 15 u4 → ((60 < x11 → rg (u4 + 1) ∧ P5 u1 u2 u3 (u4 + 1) τ) ∧ (x11 ≤ 60 → ∃ (Q14 : Int → S0 → Prop), W_X13_countTrees u4 τ Q14 ∧ ∀ (x15 : Int) (τ16 : S0), rg x15 → n_m τ16 → f_r [45, 46, 47, 48, 49, 50, 51, 52] [71, 72, 73, 74, 75, 76, 77, 78, 79, 80, 81, 82, 83, 84, 85, 86, 87, 88, 89, 90, 91, 92, 93, 94] [3, 4, 5, 6, 7] τ τ16 → Q14 x15 τ16 → ((¬ x15 = 1 → rg (u4 + 1) ∧ P5 u1 u2 u3 (u4 + 1) τ16) ∧ (x15 = 1 → ∀ (x19 : Int), rg x19 → (0 ≤ u2 → x19 = u2 / 64) → (u2 < 0 → x19 = -((-u2) / 64)) → ((0 ≤ ((24 * u4) + x19) ∧ ((24 * u4) + x19) < 36024) ∧ (∀ (x21 : Int64), x21 = τ16.2.2 7 ((24 * u4) + x19) → (∀ (x22 : Int), rg x22 → (0 ≤ u2 → x22 = u2 % 64) → (u2 < 0 → x22 = -((-u2) % 64)) → ((¬ ((j_shr x21 x22) &&& 1) = 1 → rg (u4 + 1) ∧ P5 u1 u2 0 (u4 + 1) τ16) ∧ (((j_shr x21 x22) &&& 1) = 1 → rg (u4 + 1) ∧ P5 u1 u2 1 (u4 + 1) τ16))))))))))))))))) → P5 u1 u2 u3 u4 τ) →
  P5 n1 n2 0 0 σ
set_option maxRecDepth 100000 in
set_option maxHeartbeats 4000000 in
theorem L_X13_isUsedBefore (l : Launch) (g : gG) (q : Nat → Nat) (lb : Nat) (hlb : lb < 2 ^ 31) {n1 : Int} {n2 : Int} {σ : S0} {Q : Int → S0 → Prop} (r_n1 : rg n1) (r_n2 : rg n2) (hN : n_m σ) (hw : W_X13_isUsedBefore n1 n2 σ Q) (sz : Nat) : MetI l yX13_isUsedBefore cX13_isUsedBefore 5 (some .boolean) { frames := 7, cells := 0, slots := 0, locals := 184 } g [.ref (q 0), .int (I n1), .int (I n2)] (MX g q lb σ) sz xT (p_I (MX g q lb) [45, 46, 47, 48, 49, 50, 51, 52] [71, 72, 73, 74, 75, 76, 77, 78, 79, 80, 81, 82, 83, 84, 85, 86, 87, 88, 89, 90, 91, 92, 93, 94] [3, 4, 5, 6, 7] σ Q) 0 0 := by
  refine mkMet (Qc := fun A => QI g A (p_I (MX g q lb) [45, 46, 47, 48, 49, 50, 51, 52] [71, 72, 73, 74, 75, 76, 77, 78, 79, 80, 81, 82, 83, 84, 85, 86, 87, 88, 89, 90, 91, 92, 93, 94] [3, 4, 5, 6, 7] σ Q)) (by decide) (Nat.le_of_ble_eq_true rfl) ?_
  intro p e s m below meth c A H ls hx hb hr hml hown hts hlk hnm hsz hP hK hNb hD hA hAe hS hX hl
  have hl : lv_has ls 5 [(0, .ref (q 0)), (1, .int (I n1)), (2, .int (I n2))] := hl
  have hB := hN
  have hF : f_r [45, 46, 47, 48, 49, 50, 51, 52] [71, 72, 73, 74, 75, 76, 77, 78, 79, 80, 81, 82, 83, 84, 85, 86, 87, 88, 89, 90, 91, 92, 93, 94] [3, 4, 5, 6, 7] σ σ := f_0
  obtain ⟨locs, hlocs⟩ : ∃ z : List Loc, z = [] := ⟨_, rfl⟩
  rw [← hlocs] at hS ⊢
  obtain ⟨P5, hP5⟩ : ∃ P : Int → Int → Int → Int → S0 → Prop, ∀ (u1 : Int) (u2 : Int) (u3 : Int) (u4 : Int) (τ : S0), (P u1 u2 u3 u4 τ ↔ (rg u1 → rg u2 → rg u3 → rg u4 → n_m τ → f_r [45, 46, 47, 48, 49, 50, 51, 52] [71, 72, 73, 74, 75, 76, 77, 78, 79, 80, 81, 82, 83, 84, 85, 86, 87, 88, 89, 90, 91, 92, 93, 94] [3, 4, 5, 6, 7] σ τ → ∀ (H : Heap) (locs : List Loc) (ls : Array Slot), KP g (MX g q lb τ) H → va_D A (MX g q lb τ) → va_S A s.heap H locs → lv_has ls 5 [(0, .ref (q 0)), (1, .int (I u1)), (2, .int (I u2)), (3, .int (I u3)), (4, .int (I u4))] → W p l e ({ frames := 7, cells := 0, slots := 0, locals := 184 }) s m [.ref (q 0), .int (I n1), .int (I n2)].toArray below meth c H locs 0 0 (MQ below (QI g A (p_I (MX g q lb) [45, 46, 47, 48, 49, 50, 51, 52] [71, 72, 73, 74, 75, 76, 77, 78, 79, 80, 81, 82, 83, 84, 85, 86, 87, 88, 89, 90, 91, 92, 93, 94] [3, 4, 5, 6, 7] σ Q)) [.ref (q 0), .int (I n1), .int (I n2)].toArray s 0 0 A) (F0 m 5 ls []))) := ⟨_, fun _ _ _ _ _ => Iff.rfl⟩
  refine (fun hw => ?_) (hw P5 ?_)
  ·
    refine lv_iconst (v := I 0) hx hb dX13_isUsedBefore_0 rfl ?_
    refine lv_istore_n (lv' := [(3, .int (I 0)), (0, .ref (q 0)), (1, .int (I n1)), (2, .int (I n2))]) hx hb dX13_isUsedBefore_1 rfl hl (by decide) rfl (fun ls hl => ?_)
    refine lv_iconst (v := I 0) hx hb dX13_isUsedBefore_2 rfl ?_
    refine lv_istore (lv' := [(4, .int (I 0)), (3, .int (I 0)), (0, .ref (q 0)), (1, .int (I n1)), (2, .int (I n2))]) hx hb dX13_isUsedBefore_3 hl (by decide) rfl (fun ls hl => ?_)
    exact (hP5 _ _ _ _ _).mp hw r_n1 r_n2 (by decide) (by decide) hN hF H locs ls hP hD hS (lv_sub hl [2, 3, 4, 1, 0] rfl)
  ·
    intro u1 u2 u3 u4 τ hw
    refine (hP5 _ _ _ _ _).mpr ?_
    intro r_u1 r_u2 r_u3 r_u4 hN hF H locs ls hP hD hS hl
    have hB := hN
    refine lv_iload hx hb dX13_isUsedBefore_5 (lv_at hl 4 rfl) ?_
    refine lv_iload_n hx hb dX13_isUsedBefore_7 rfl (lv_at hl 1 rfl) ?_
    refine bi_icmp_ge (tgt := 95) hx hb r_u4 r_u1 dX13_isUsedBefore_8 (by decide) (fun c1 => ?_) (fun c1 => ?_)
    ·
      replace hw := hw.1 c1
      refine lv_iload_n hx hb dX13_isUsedBefore_95 rfl (lv_at hl 3 rfl) ?_
      obtain ⟨c2, hw⟩ := hw
      exact xrz hx hb hr (nzI c2.1 c2.2) hlk hP hK hD hS ⟨_, _, r_u3, rfl, hN, hF, rfl, hw⟩ (Nat.le_of_ble_eq_true rfl) (Nat.le_of_ble_eq_true rfl) dX13_isUsedBefore_96
    ·
      replace hw := hw.2 c1
      refine lv_iload_n hx hb dX13_isUsedBefore_11 rfl (lv_at hl 3 rfl) ?_
      refine bi_if_ne (tgt := 95) hx hb r_u3 dX13_isUsedBefore_12 (by decide) (fun c3 => ?_) (fun c3 => ?_)
      ·
        replace hw := hw.1 c3
        refine lv_iload_n hx hb dX13_isUsedBefore_95 rfl (lv_at hl 3 rfl) ?_
        obtain ⟨c4, hw⟩ := hw
        exact xrz hx hb hr (nzI c4.1 c4.2) hlk hP hK hD hS ⟨_, _, r_u3, rfl, hN, hF, rfl, hw⟩ (Nat.le_of_ble_eq_true rfl) (Nat.le_of_ble_eq_true rfl) dX13_isUsedBefore_96
      ·
        replace hw := hw.2 c3
        refine lv_aload_n hx hb dX13_isUsedBefore_15 rfl (lv_at hl 0 rfl) ?_
        refine gfX13_texts hx hb hts hK hP hown (hts _ tw_2028) dX13_isUsedBefore_16 ?_
        refine lv_aload_n hx hb dX13_isUsedBefore_19 rfl (lv_at hl 0 rfl) ?_
        refine gfX13_textAt hx hb hts hK hP hown (hts _ tw_2026) dX13_isUsedBefore_20 ?_
        refine lv_iload hx hb dX13_isUsedBefore_23 (lv_at hl 4 rfl) ?_
        obtain ⟨c5, hw⟩ := hw
        refine ldMX13_textAt hx hb hK hP hN c5 dX13_isUsedBefore_25 (fun x6 r_x6 e_x6 => ?_)
        replace hw := hw x6 r_x6 e_x6
        obtain ⟨c7, hw⟩ := hw
        refine ldMX13_texts hx hb hK hP hN c7 dX13_isUsedBefore_26 (fun x8 r_x8 e_x8 => ?_)
        replace hw := hw x8 r_x8 e_x8
        refine lv_aload_n hx hb dX13_isUsedBefore_27 rfl (lv_at hl 0 rfl) ?_
        refine gfX13_turnstile hx hb hts hK hP hown (hts _ tw_2048) (x := τ.1 11) rfl dX13_isUsedBefore_28 ?_
        refine bi_icmp_ne (tgt := 89) hx hb r_x8 (hB.1 11) dX13_isUsedBefore_31 (by decide) (fun c9 => ?_) (fun c9 => ?_)
        ·
          replace hw := hw.1 c9
          refine lv_iinc (v := I (u4 + 1)) (lv' := [(4, .int (I (u4 + 1))), (0, .ref (q 0)), (1, .int (I u1)), (2, .int (I u2)), (3, .int (I u3))]) hx hb dX13_isUsedBefore_89 hl (k := 4) rfl (I_add _ _) (by decide) rfl (fun ls hl => ?_)
          refine lv_goto (tgt := 5) hx hb dX13_isUsedBefore_92 (by decide) ?_
          obtain ⟨c10, hw⟩ := hw
          exact (hP5 _ _ _ _ _).mp hw r_u1 r_u2 r_u3 c10 hN hF H locs ls hP hD hS (lv_sub hl [1, 2, 3, 4, 0] rfl)
        ·
          replace hw := hw.2 c9
          refine lv_aload_n hx hb dX13_isUsedBefore_34 rfl (lv_at hl 0 rfl) ?_
          refine gfX13_textSize hx hb hts hK hP hown (hts _ tw_2027) dX13_isUsedBefore_35 ?_
          refine lv_iload hx hb dX13_isUsedBefore_38 (lv_at hl 4 rfl) ?_
          refine ldMX13_textSize hx hb hK hP hN c5 dX13_isUsedBefore_40 (fun x11 r_x11 e_x11 => ?_)
          replace hw := hw x11 r_x11 e_x11
          refine lv_bipush (v := I 60) hx hb dX13_isUsedBefore_41 (by decide) ?_
          refine bi_icmp_gt (tgt := 89) hx hb r_x11 (by decide) dX13_isUsedBefore_43 (by decide) (fun c12 => ?_) (fun c12 => ?_)
          ·
            replace hw := hw.1 c12
            refine lv_iinc (v := I (u4 + 1)) (lv' := [(4, .int (I (u4 + 1))), (0, .ref (q 0)), (1, .int (I u1)), (2, .int (I u2)), (3, .int (I u3))]) hx hb dX13_isUsedBefore_89 hl (k := 4) rfl (I_add _ _) (by decide) rfl (fun ls hl => ?_)
            refine lv_goto (tgt := 5) hx hb dX13_isUsedBefore_92 (by decide) ?_
            obtain ⟨c13, hw⟩ := hw
            exact (hP5 _ _ _ _ _).mp hw r_u1 r_u2 r_u3 c13 hN hF H locs ls hP hD hS (lv_sub hl [1, 2, 3, 4, 0] rfl)
          ·
            replace hw := hw.2 c12
            refine lv_aload_n hx hb dX13_isUsedBefore_46 rfl (lv_at hl 0 rfl) ?_
            refine lv_iload hx hb dX13_isUsedBefore_47 (lv_at hl 4 rfl) ?_
            obtain ⟨Q14, hc, hw⟩ := hw
            refine wc_I (X := MX g q lb) (va_runV (As := [.int (I u4)]) (rest := []) ⟨hx, hb, hml, hown, hts⟩ (L_X13_countTrees l g q lb hlb r_u4 hN hc H.size) (cwV 1 hts (TB_V tw_2904 tw_2906 ts_171 tw_15 co_X13_countTrees) rfl rfl rfl (by decide +kernel) ⟨Nat.le_of_ble_eq_true rfl, Nat.le_of_ble_eq_true rfl⟩) (preV (q0 := 0) (ci := 13) rfl xT_bl hP hK hNb hD rfl rfl xT_at) rfl rfl hl.1 rfl (lv_room (Nat.le_of_ble_eq_true rfl)) dX13_isUsedBefore_49 ⟨Nat.le_of_ble_eq_true rfl, Nat.le_of_ble_eq_true rfl⟩) hP hD hS hA (fun x15 τ16 H locs r_x15 hN hf hq hP hD hS => ?_)
            replace hw := hw x15 τ16 r_x15 hN hf hq
            have hF : f_r [45, 46, 47, 48, 49, 50, 51, 52] [71, 72, 73, 74, 75, 76, 77, 78, 79, 80, 81, 82, 83, 84, 85, 86, 87, 88, 89, 90, 91, 92, 93, 94] [3, 4, 5, 6, 7] σ τ16 := f_t hF hf (by decide) (by decide) (by decide)
            have hB := hN
            refine lv_iconst (v := I 1) hx hb dX13_isUsedBefore_52 rfl ?_
            refine bi_icmp_ne (tgt := 89) hx hb r_x15 (by decide) dX13_isUsedBefore_53 (by decide) (fun c17 => ?_) (fun c17 => ?_)
            ·
              replace hw := hw.1 c17
              refine lv_iinc (v := I (u4 + 1)) (lv' := [(4, .int (I (u4 + 1))), (0, .ref (q 0)), (1, .int (I u1)), (2, .int (I u2)), (3, .int (I u3))]) hx hb dX13_isUsedBefore_89 hl (k := 4) rfl (I_add _ _) (by decide) rfl (fun ls hl => ?_)
              refine lv_goto (tgt := 5) hx hb dX13_isUsedBefore_92 (by decide) ?_
              obtain ⟨c18, hw⟩ := hw
              exact (hP5 _ _ _ _ _).mp hw r_u1 r_u2 r_u3 c18 hN hF H locs ls hP hD hS (lv_sub hl [1, 2, 3, 4, 0] rfl)
            ·
              replace hw := hw.2 c17
              refine lv_aload_n hx hb dX13_isUsedBefore_56 rfl (lv_at hl 0 rfl) ?_
              refine gfX13_rulesIn hx hb hts hK hP hown (hts _ tw_2160) dX13_isUsedBefore_57 ?_
              refine lv_bipush (v := I 24) hx hb dX13_isUsedBefore_60 (by decide) ?_
              refine lv_iload hx hb dX13_isUsedBefore_62 (lv_at hl 4 rfl) ?_
              refine bi_imul hx hb dX13_isUsedBefore_64 ?_
              refine lv_iload_n hx hb dX13_isUsedBefore_65 rfl (lv_at hl 2 rfl) ?_
              refine lv_bipush (v := I 64) hx hb dX13_isUsedBefore_66 (by decide) ?_
              refine bi_idiv hx hb r_u2 (by decide) (by decide) dX13_isUsedBefore_68 (fun x19 r_x19 p_x19 m_x19 => ?_)
              replace hw := hw x19 r_x19 p_x19 m_x19
              refine bi_iadd hx hb dX13_isUsedBefore_69 ?_
              obtain ⟨c20, hw⟩ := hw
              refine ldMX13_rulesIn hx hb hK hP hN c20 dX13_isUsedBefore_70 (fun x21 e_x21 => ?_)
              replace hw := hw x21 e_x21
              refine lv_iload_n hx hb dX13_isUsedBefore_71 rfl (lv_at hl 2 rfl) ?_
              refine lv_bipush (v := I 64) hx hb dX13_isUsedBefore_72 (by decide) ?_
              refine bi_irem hx hb r_u2 (by decide) (by decide) dX13_isUsedBefore_74 (fun x22 r_x22 p_x22 m_x22 => ?_)
              replace hw := hw x22 r_x22 p_x22 m_x22
              refine bi_lshr hx hb dX13_isUsedBefore_75 ?_
              refine lv_lconst (v := 1) hx hb dX13_isUsedBefore_76 (by decide) ?_
              refine lv_land hx hb dX13_isUsedBefore_77 ?_
              refine lv_lconst (v := 1) hx hb dX13_isUsedBefore_78 (by decide) ?_
              refine bi_lcmp_ne (tgt := 87) hx hb dX13_isUsedBefore_79 dX13_isUsedBefore_80 (by decide) (fun c23 => ?_) (fun c23 => ?_)
              ·
                replace hw := hw.1 c23
                refine lv_iconst (v := I 0) hx hb dX13_isUsedBefore_87 rfl ?_
                refine lv_istore_n (lv' := [(3, .int (I 0)), (0, .ref (q 0)), (1, .int (I u1)), (2, .int (I u2)), (4, .int (I u4))]) hx hb dX13_isUsedBefore_88 rfl hl (by decide) rfl (fun ls hl => ?_)
                refine lv_iinc (v := I (u4 + 1)) (lv' := [(4, .int (I (u4 + 1))), (3, .int (I 0)), (0, .ref (q 0)), (1, .int (I u1)), (2, .int (I u2))]) hx hb dX13_isUsedBefore_89 hl (k := 4) rfl (I_add _ _) (by decide) rfl (fun ls hl => ?_)
                refine lv_goto (tgt := 5) hx hb dX13_isUsedBefore_92 (by decide) ?_
                obtain ⟨c24, hw⟩ := hw
                exact (hP5 _ _ _ _ _).mp hw r_u1 r_u2 (by decide) c24 hN hF H locs ls hP hD hS (lv_sub hl [2, 3, 4, 1, 0] rfl)
              ·
                replace hw := hw.2 c23
                refine lv_iconst (v := I 1) hx hb dX13_isUsedBefore_83 rfl ?_
                refine lv_goto (tgt := 88) hx hb dX13_isUsedBefore_84 (by decide) ?_
                refine lv_istore_n (lv' := [(3, .int (I 1)), (0, .ref (q 0)), (1, .int (I u1)), (2, .int (I u2)), (4, .int (I u4))]) hx hb dX13_isUsedBefore_88 rfl hl (by decide) rfl (fun ls hl => ?_)
                refine lv_iinc (v := I (u4 + 1)) (lv' := [(4, .int (I (u4 + 1))), (3, .int (I 1)), (0, .ref (q 0)), (1, .int (I u1)), (2, .int (I u2))]) hx hb dX13_isUsedBefore_89 hl (k := 4) rfl (I_add _ _) (by decide) rfl (fun ls hl => ?_)
                refine lv_goto (tgt := 5) hx hb dX13_isUsedBefore_92 (by decide) ?_
                obtain ⟨c25, hw⟩ := hw
                exact (hP5 _ _ _ _ _).mp hw r_u1 r_u2 (by decide) c25 hN hF H locs ls hP hD hS (lv_sub hl [2, 3, 4, 1, 0] rfl)
def W_X13_hasLeaf (n1 : Int) (n2 : Int) (σ : S0) (Q : Int → Prop) : Prop :=
  ∀ (P5 : Int → Int → Int → Int → Prop),
  (∀ (u1 : Int) (u2 : Int) (u3 : Int) (u4 : Int), ((0 ≤ u1 ∧ u1 < 60000) ∧ (∀ (x2 : Int), rg x2 → x2 = σ.2.1 86 u1 → ((0 ≤ x2 ∧ x2 < 1501) ∧ (∀ (x4 : Int), rg x4 → x4 = σ.2.1 19 x2 → ((x4 ≤ u4 → (0 ≤ u3 ∧ u3 ≤ 1) ∧ Q u3) ∧ (u4 < x4 → (¬ u3 = 0 → rg (u4 + 1) ∧ P5 u1 u2 1 (u4 + 1)) ∧ (u3 = 0 → ∀ (x9 : Int), rg x9 → x9 = σ.2.1 87 u1 → ((0 ≤ (x9 + u4) ∧ (x9 + u4) < 120000) ∧ (∀ (x11 : Int), rg x11 → x11 = σ.2.1 91 (x9 + u4) → ((0 ≤ x11 ∧ x11 < 60000) ∧ (∀ (x13 : Int), rg x13 → x13 = σ.2.1 86 x11 → ((¬ x13 = u2 → rg (u4 + 1) ∧ P5 u1 u2 0 (u4 + 1)) ∧ (x13 = u2 → rg (u4 + 1) ∧ P5 u1 u2 1 (u4 + 1)))))))))))))) → P5 u1 u2 u3 u4) →
  P5 n1 n2 0 0
set_option maxRecDepth 100000 in
set_option maxHeartbeats 4000000 in
theorem L_X13_hasLeaf (l : Launch) (g : gG) (q : Nat → Nat) (lb : Nat) (hlb : lb < 2 ^ 31) {n1 : Int} {n2 : Int} {σ : S0} {Q : Int → Prop} (r_n1 : rg n1) (r_n2 : rg n2) (hN : n_m σ) (hw : W_X13_hasLeaf n1 n2 σ Q) (sz : Nat) : MetI l yX13_hasLeaf cX13_hasLeaf 5 (some .boolean) { frames := 0, cells := 0, slots := 0, locals := 0 } g [.ref (q 0), .int (I n1), .int (I n2)] (MX g q lb σ) sz xT (p_i (MX g q lb) σ Q) 0 0 := by
  refine mkMet (Qc := fun A => QI g A (p_i (MX g q lb) σ Q)) (by decide) (Nat.le_of_ble_eq_true rfl) ?_
  intro p e s m below meth c A H ls hx hb hr hml hown hts hlk hnm hsz hP hK hNb hD hA hAe hS hX hl
  have hl : lv_has ls 5 [(0, .ref (q 0)), (1, .int (I n1)), (2, .int (I n2))] := hl
  have hB := hN
  obtain ⟨locs, hlocs⟩ : ∃ z : List Loc, z = [] := ⟨_, rfl⟩
  rw [← hlocs] at hS ⊢
  obtain ⟨P5, hP5⟩ : ∃ P : Int → Int → Int → Int → Prop, ∀ (u1 : Int) (u2 : Int) (u3 : Int) (u4 : Int), (P u1 u2 u3 u4 ↔ (rg u1 → rg u2 → rg u3 → rg u4 → ∀ (H : Heap) (locs : List Loc) (ls : Array Slot), KP g (MX g q lb σ) H → va_D A (MX g q lb σ) → va_S A s.heap H locs → lv_has ls 5 [(0, .ref (q 0)), (1, .int (I u1)), (2, .int (I u2)), (3, .int (I u3)), (4, .int (I u4))] → W p l e ({ frames := 0, cells := 0, slots := 0, locals := 0 }) s m [.ref (q 0), .int (I n1), .int (I n2)].toArray below meth c H locs 0 0 (MQ below (QI g A (p_i (MX g q lb) σ Q)) [.ref (q 0), .int (I n1), .int (I n2)].toArray s 0 0 A) (F0 m 5 ls []))) := ⟨_, fun _ _ _ _ => Iff.rfl⟩
  refine (fun hw => ?_) (hw P5 ?_)
  ·
    refine lv_iconst (v := I 0) hx hb dX13_hasLeaf_0 rfl ?_
    refine lv_istore_n (lv' := [(3, .int (I 0)), (0, .ref (q 0)), (1, .int (I n1)), (2, .int (I n2))]) hx hb dX13_hasLeaf_1 rfl hl (by decide) rfl (fun ls hl => ?_)
    refine lv_iconst (v := I 0) hx hb dX13_hasLeaf_2 rfl ?_
    refine lv_istore (lv' := [(4, .int (I 0)), (3, .int (I 0)), (0, .ref (q 0)), (1, .int (I n1)), (2, .int (I n2))]) hx hb dX13_hasLeaf_3 hl (by decide) rfl (fun ls hl => ?_)
    exact (hP5 _ _ _ _).mp hw r_n1 r_n2 (by decide) (by decide)  H locs ls hP hD hS (lv_sub hl [2, 3, 4, 1, 0] rfl)
  ·
    intro u1 u2 u3 u4 hw
    refine (hP5 _ _ _ _).mpr ?_
    intro r_u1 r_u2 r_u3 r_u4 H locs ls hP hD hS hl
    refine lv_iload hx hb dX13_hasLeaf_5 (lv_at hl 4 rfl) ?_
    refine lv_aload_n hx hb dX13_hasLeaf_7 rfl (lv_at hl 0 rfl) ?_
    refine gfX13_hypSize hx hb hts hK hP hown (hts _ tw_2032) dX13_hasLeaf_8 ?_
    refine lv_aload_n hx hb dX13_hasLeaf_11 rfl (lv_at hl 0 rfl) ?_
    refine gfX13_nodeIs hx hb hts hK hP hown (hts _ tw_2149) dX13_hasLeaf_12 ?_
    refine lv_iload_n hx hb dX13_hasLeaf_15 rfl (lv_at hl 1 rfl) ?_
    obtain ⟨c1, hw⟩ := hw
    refine ldMX13_nodeIs hx hb hK hP hN c1 dX13_hasLeaf_16 (fun x2 r_x2 e_x2 => ?_)
    replace hw := hw x2 r_x2 e_x2
    obtain ⟨c3, hw⟩ := hw
    refine ldMX13_hypSize hx hb hK hP hN c3 dX13_hasLeaf_17 (fun x4 r_x4 e_x4 => ?_)
    replace hw := hw x4 r_x4 e_x4
    refine bi_icmp_ge (tgt := 60) hx hb r_u4 r_x4 dX13_hasLeaf_18 (by decide) (fun c5 => ?_) (fun c5 => ?_)
    ·
      replace hw := hw.1 c5
      refine lv_iload_n hx hb dX13_hasLeaf_60 rfl (lv_at hl 3 rfl) ?_
      obtain ⟨c6, hw⟩ := hw
      exact xrz hx hb hr (nzI c6.1 c6.2) hlk hP hK hD hS ⟨_, r_u3, rfl, rfl, hw⟩ (Nat.le_of_ble_eq_true rfl) (Nat.le_of_ble_eq_true rfl) dX13_hasLeaf_61
    ·
      replace hw := hw.2 c5
      refine lv_iload_n hx hb dX13_hasLeaf_21 rfl (lv_at hl 3 rfl) ?_
      refine bi_if_ne (tgt := 48) hx hb r_u3 dX13_hasLeaf_22 (by decide) (fun c7 => ?_) (fun c7 => ?_)
      ·
        replace hw := hw.1 c7
        refine lv_iconst (v := I 1) hx hb dX13_hasLeaf_48 rfl ?_
        refine lv_goto (tgt := 53) hx hb dX13_hasLeaf_49 (by decide) ?_
        refine lv_istore_n (lv' := [(3, .int (I 1)), (0, .ref (q 0)), (1, .int (I u1)), (2, .int (I u2)), (4, .int (I u4))]) hx hb dX13_hasLeaf_53 rfl hl (by decide) rfl (fun ls hl => ?_)
        refine lv_iinc (v := I (u4 + 1)) (lv' := [(4, .int (I (u4 + 1))), (3, .int (I 1)), (0, .ref (q 0)), (1, .int (I u1)), (2, .int (I u2))]) hx hb dX13_hasLeaf_54 hl (k := 4) rfl (I_add _ _) (by decide) rfl (fun ls hl => ?_)
        refine lv_goto (tgt := 5) hx hb dX13_hasLeaf_57 (by decide) ?_
        obtain ⟨c8, hw⟩ := hw
        exact (hP5 _ _ _ _).mp hw r_u1 r_u2 (by decide) c8  H locs ls hP hD hS (lv_sub hl [2, 3, 4, 1, 0] rfl)
      ·
        replace hw := hw.2 c7
        refine lv_aload_n hx hb dX13_hasLeaf_25 rfl (lv_at hl 0 rfl) ?_
        refine gfX13_nodeIs hx hb hts hK hP hown (hts _ tw_2149) dX13_hasLeaf_26 ?_
        refine lv_aload_n hx hb dX13_hasLeaf_29 rfl (lv_at hl 0 rfl) ?_
        refine gfX13_kids hx hb hts hK hP hown (hts _ tw_2154) dX13_hasLeaf_30 ?_
        refine lv_aload_n hx hb dX13_hasLeaf_33 rfl (lv_at hl 0 rfl) ?_
        refine gfX13_nodeKids hx hb hts hK hP hown (hts _ tw_2150) dX13_hasLeaf_34 ?_
        refine lv_iload_n hx hb dX13_hasLeaf_37 rfl (lv_at hl 1 rfl) ?_
        refine ldMX13_nodeKids hx hb hK hP hN c1 dX13_hasLeaf_38 (fun x9 r_x9 e_x9 => ?_)
        replace hw := hw x9 r_x9 e_x9
        refine lv_iload hx hb dX13_hasLeaf_39 (lv_at hl 4 rfl) ?_
        refine bi_iadd hx hb dX13_hasLeaf_41 ?_
        obtain ⟨c10, hw⟩ := hw
        refine ldMX13_kids hx hb hK hP hN c10 dX13_hasLeaf_42 (fun x11 r_x11 e_x11 => ?_)
        replace hw := hw x11 r_x11 e_x11
        obtain ⟨c12, hw⟩ := hw
        refine ldMX13_nodeIs hx hb hK hP hN c12 dX13_hasLeaf_43 (fun x13 r_x13 e_x13 => ?_)
        replace hw := hw x13 r_x13 e_x13
        refine lv_iload_n hx hb dX13_hasLeaf_44 rfl (lv_at hl 2 rfl) ?_
        refine bi_icmp_ne (tgt := 52) hx hb r_x13 r_u2 dX13_hasLeaf_45 (by decide) (fun c14 => ?_) (fun c14 => ?_)
        ·
          replace hw := hw.1 c14
          refine lv_iconst (v := I 0) hx hb dX13_hasLeaf_52 rfl ?_
          refine lv_istore_n (lv' := [(3, .int (I 0)), (0, .ref (q 0)), (1, .int (I u1)), (2, .int (I u2)), (4, .int (I u4))]) hx hb dX13_hasLeaf_53 rfl hl (by decide) rfl (fun ls hl => ?_)
          refine lv_iinc (v := I (u4 + 1)) (lv' := [(4, .int (I (u4 + 1))), (3, .int (I 0)), (0, .ref (q 0)), (1, .int (I u1)), (2, .int (I u2))]) hx hb dX13_hasLeaf_54 hl (k := 4) rfl (I_add _ _) (by decide) rfl (fun ls hl => ?_)
          refine lv_goto (tgt := 5) hx hb dX13_hasLeaf_57 (by decide) ?_
          obtain ⟨c15, hw⟩ := hw
          exact (hP5 _ _ _ _).mp hw r_u1 r_u2 (by decide) c15  H locs ls hP hD hS (lv_sub hl [2, 3, 4, 1, 0] rfl)
        ·
          replace hw := hw.2 c14
          refine lv_iconst (v := I 1) hx hb dX13_hasLeaf_48 rfl ?_
          refine lv_goto (tgt := 53) hx hb dX13_hasLeaf_49 (by decide) ?_
          refine lv_istore_n (lv' := [(3, .int (I 1)), (0, .ref (q 0)), (1, .int (I u1)), (2, .int (I u2)), (4, .int (I u4))]) hx hb dX13_hasLeaf_53 rfl hl (by decide) rfl (fun ls hl => ?_)
          refine lv_iinc (v := I (u4 + 1)) (lv' := [(4, .int (I (u4 + 1))), (3, .int (I 1)), (0, .ref (q 0)), (1, .int (I u1)), (2, .int (I u2))]) hx hb dX13_hasLeaf_54 hl (k := 4) rfl (I_add _ _) (by decide) rfl (fun ls hl => ?_)
          refine lv_goto (tgt := 5) hx hb dX13_hasLeaf_57 (by decide) ?_
          obtain ⟨c16, hw⟩ := hw
          exact (hP5 _ _ _ _).mp hw r_u1 r_u2 (by decide) c16  H locs ls hP hD hS (lv_sub hl [2, 3, 4, 1, 0] rfl)
def W_X13_isFlat (n1 : Int) (σ : S0) (Q : Int → Prop) : Prop :=
  ∀ (P4 : Int → Int → Int → Prop) (P57 : Int → Int → Int → Int → Int → Prop),
  (∀ (u1 : Int) (u2 : Int) (u3 : Int), ((0 ≤ u1 ∧ u1 < 60000) ∧ (∀ (x2 : Int), rg x2 → x2 = σ.2.1 86 u1 → ((0 ≤ x2 ∧ x2 < 1501) ∧ (∀ (x4 : Int), rg x4 → x4 = σ.2.1 19 x2 → ((x4 ≤ u3 → (0 ≤ u2 ∧ u2 ≤ 1) ∧ Q u2) ∧ (u3 < x4 → (u2 = 0 → (0 ≤ u2 ∧ u2 ≤ 1) ∧ Q u2) ∧ (¬ u2 = 0 → ∀ (x9 : Int), rg x9 → x9 = σ.2.1 87 u1 → ((0 ≤ (x9 + u3) ∧ (x9 + u3) < 120000) ∧ (∀ (x11 : Int), rg x11 → x11 = σ.2.1 91 (x9 + u3) → ((0 ≤ x11 ∧ x11 < 60000) ∧ (∀ (x13 : Int), rg x13 → x13 = σ.2.1 86 x11 → ((0 ≤ x13 → P57 u1 0 u3 x13 0) ∧ (x13 < 0 → P57 u1 1 u3 x13 0))))))))))))) → P4 u1 u2 u3) →
  (∀ (u1 : Int) (u2 : Int) (u3 : Int) (u4 : Int) (u5 : Int), ((u3 ≤ u5 → rg (u3 + 1) ∧ P4 u1 u2 (u3 + 1)) ∧ (u5 < u3 → (u2 = 0 → rg (u3 + 1) ∧ P4 u1 u2 (u3 + 1)) ∧ (¬ u2 = 0 → (0 ≤ u1 ∧ u1 < 60000) ∧ (∀ (x20 : Int), rg x20 → x20 = σ.2.1 87 u1 → ((0 ≤ (x20 + u5) ∧ (x20 + u5) < 120000) ∧ (∀ (x22 : Int), rg x22 → x22 = σ.2.1 91 (x20 + u5) → ((0 ≤ x22 ∧ x22 < 60000) ∧ (∀ (x24 : Int), rg x24 → x24 = σ.2.1 86 x22 → ((x24 = u4 → rg (u5 + 1) ∧ P57 u1 0 u3 u4 (u5 + 1)) ∧ (¬ x24 = u4 → rg (u5 + 1) ∧ P57 u1 1 u3 u4 (u5 + 1))))))))))) → P57 u1 u2 u3 u4 u5) →
  P4 n1 1 0
set_option maxRecDepth 100000 in
set_option maxHeartbeats 4000000 in
theorem L_X13_isFlat (l : Launch) (g : gG) (q : Nat → Nat) (lb : Nat) (hlb : lb < 2 ^ 31) {n1 : Int} {σ : S0} {Q : Int → Prop} (r_n1 : rg n1) (hN : n_m σ) (hw : W_X13_isFlat n1 σ Q) (sz : Nat) : MetI l yX13_isFlat cX13_isFlat 6 (some .boolean) { frames := 0, cells := 0, slots := 0, locals := 0 } g [.ref (q 0), .int (I n1)] (MX g q lb σ) sz xT (p_i (MX g q lb) σ Q) 0 0 := by
  refine mkMet (Qc := fun A => QI g A (p_i (MX g q lb) σ Q)) (by decide) (Nat.le_of_ble_eq_true rfl) ?_
  intro p e s m below meth c A H ls hx hb hr hml hown hts hlk hnm hsz hP hK hNb hD hA hAe hS hX hl
  have hl : lv_has ls 6 [(0, .ref (q 0)), (1, .int (I n1))] := hl
  have hB := hN
  obtain ⟨locs, hlocs⟩ : ∃ z : List Loc, z = [] := ⟨_, rfl⟩
  rw [← hlocs] at hS ⊢
  obtain ⟨P4, hP4⟩ : ∃ P : Int → Int → Int → Prop, ∀ (u1 : Int) (u2 : Int) (u3 : Int), (P u1 u2 u3 ↔ (rg u1 → rg u2 → rg u3 → ∀ (H : Heap) (locs : List Loc) (ls : Array Slot), KP g (MX g q lb σ) H → va_D A (MX g q lb σ) → va_S A s.heap H locs → lv_has ls 6 [(0, .ref (q 0)), (1, .int (I u1)), (2, .int (I u2)), (3, .int (I u3))] → W p l e ({ frames := 0, cells := 0, slots := 0, locals := 0 }) s m [.ref (q 0), .int (I n1)].toArray below meth c H locs 0 0 (MQ below (QI g A (p_i (MX g q lb) σ Q)) [.ref (q 0), .int (I n1)].toArray s 0 0 A) (F0 m 4 ls []))) := ⟨_, fun _ _ _ => Iff.rfl⟩
  obtain ⟨P57, hP57⟩ : ∃ P : Int → Int → Int → Int → Int → Prop, ∀ (u1 : Int) (u2 : Int) (u3 : Int) (u4 : Int) (u5 : Int), (P u1 u2 u3 u4 u5 ↔ (rg u1 → rg u2 → rg u3 → rg u4 → rg u5 → ∀ (H : Heap) (locs : List Loc) (ls : Array Slot), KP g (MX g q lb σ) H → va_D A (MX g q lb σ) → va_S A s.heap H locs → lv_has ls 6 [(0, .ref (q 0)), (1, .int (I u1)), (2, .int (I u2)), (3, .int (I u3)), (4, .int (I u4)), (5, .int (I u5))] → W p l e ({ frames := 0, cells := 0, slots := 0, locals := 0 }) s m [.ref (q 0), .int (I n1)].toArray below meth c H locs 0 0 (MQ below (QI g A (p_i (MX g q lb) σ Q)) [.ref (q 0), .int (I n1)].toArray s 0 0 A) (F0 m 57 ls []))) := ⟨_, fun _ _ _ _ _ => Iff.rfl⟩
  refine (fun hw => ?_) (hw P4 P57 ?_ ?_)
  ·
    refine lv_iconst (v := I 1) hx hb dX13_isFlat_0 rfl ?_
    refine lv_istore_n (lv' := [(2, .int (I 1)), (0, .ref (q 0)), (1, .int (I n1))]) hx hb dX13_isFlat_1 rfl hl (by decide) rfl (fun ls hl => ?_)
    refine lv_iconst (v := I 0) hx hb dX13_isFlat_2 rfl ?_
    refine lv_istore_n (lv' := [(3, .int (I 0)), (2, .int (I 1)), (0, .ref (q 0)), (1, .int (I n1))]) hx hb dX13_isFlat_3 rfl hl (by decide) rfl (fun ls hl => ?_)
    exact (hP4 _ _ _).mp hw r_n1 (by decide) (by decide)  H locs ls hP hD hS (lv_sub hl [2, 3, 1, 0] rfl)
  ·
    intro u1 u2 u3 hw
    refine (hP4 _ _ _).mpr ?_
    intro r_u1 r_u2 r_u3 H locs ls hP hD hS hl
    refine lv_iload_n hx hb dX13_isFlat_4 rfl (lv_at hl 3 rfl) ?_
    refine lv_aload_n hx hb dX13_isFlat_5 rfl (lv_at hl 0 rfl) ?_
    refine gfX13_hypSize hx hb hts hK hP hown (hts _ tw_2032) dX13_isFlat_6 ?_
    refine lv_aload_n hx hb dX13_isFlat_9 rfl (lv_at hl 0 rfl) ?_
    refine gfX13_nodeIs hx hb hts hK hP hown (hts _ tw_2149) dX13_isFlat_10 ?_
    refine lv_iload_n hx hb dX13_isFlat_13 rfl (lv_at hl 1 rfl) ?_
    obtain ⟨c1, hw⟩ := hw
    refine ldMX13_nodeIs hx hb hK hP hN c1 dX13_isFlat_14 (fun x2 r_x2 e_x2 => ?_)
    replace hw := hw x2 r_x2 e_x2
    obtain ⟨c3, hw⟩ := hw
    refine ldMX13_hypSize hx hb hK hP hN c3 dX13_isFlat_15 (fun x4 r_x4 e_x4 => ?_)
    replace hw := hw x4 r_x4 e_x4
    refine bi_icmp_ge (tgt := 109) hx hb r_u3 r_x4 dX13_isFlat_16 (by decide) (fun c5 => ?_) (fun c5 => ?_)
    ·
      replace hw := hw.1 c5
      refine lv_iload_n hx hb dX13_isFlat_109 rfl (lv_at hl 2 rfl) ?_
      obtain ⟨c6, hw⟩ := hw
      exact xrz hx hb hr (nzI c6.1 c6.2) hlk hP hK hD hS ⟨_, r_u2, rfl, rfl, hw⟩ (Nat.le_of_ble_eq_true rfl) (Nat.le_of_ble_eq_true rfl) dX13_isFlat_110
    ·
      replace hw := hw.2 c5
      refine lv_iload_n hx hb dX13_isFlat_19 rfl (lv_at hl 2 rfl) ?_
      refine bi_if_eq (tgt := 109) hx hb r_u2 dX13_isFlat_20 (by decide) (fun c7 => ?_) (fun c7 => ?_)
      ·
        replace hw := hw.1 c7
        refine lv_iload_n hx hb dX13_isFlat_109 rfl (lv_at hl 2 rfl) ?_
        obtain ⟨c8, hw⟩ := hw
        exact xrz hx hb hr (nzI c8.1 c8.2) hlk hP hK hD hS ⟨_, r_u2, rfl, rfl, hw⟩ (Nat.le_of_ble_eq_true rfl) (Nat.le_of_ble_eq_true rfl) dX13_isFlat_110
      ·
        replace hw := hw.2 c7
        refine lv_aload_n hx hb dX13_isFlat_23 rfl (lv_at hl 0 rfl) ?_
        refine gfX13_nodeIs hx hb hts hK hP hown (hts _ tw_2149) dX13_isFlat_24 ?_
        refine lv_aload_n hx hb dX13_isFlat_27 rfl (lv_at hl 0 rfl) ?_
        refine gfX13_kids hx hb hts hK hP hown (hts _ tw_2154) dX13_isFlat_28 ?_
        refine lv_aload_n hx hb dX13_isFlat_31 rfl (lv_at hl 0 rfl) ?_
        refine gfX13_nodeKids hx hb hts hK hP hown (hts _ tw_2150) dX13_isFlat_32 ?_
        refine lv_iload_n hx hb dX13_isFlat_35 rfl (lv_at hl 1 rfl) ?_
        refine ldMX13_nodeKids hx hb hK hP hN c1 dX13_isFlat_36 (fun x9 r_x9 e_x9 => ?_)
        replace hw := hw x9 r_x9 e_x9
        refine lv_iload_n hx hb dX13_isFlat_37 rfl (lv_at hl 3 rfl) ?_
        refine bi_iadd hx hb dX13_isFlat_38 ?_
        obtain ⟨c10, hw⟩ := hw
        refine ldMX13_kids hx hb hK hP hN c10 dX13_isFlat_39 (fun x11 r_x11 e_x11 => ?_)
        replace hw := hw x11 r_x11 e_x11
        obtain ⟨c12, hw⟩ := hw
        refine ldMX13_nodeIs hx hb hK hP hN c12 dX13_isFlat_40 (fun x13 r_x13 e_x13 => ?_)
        replace hw := hw x13 r_x13 e_x13
        refine lv_istore (lv' := [(4, .int (I x13)), (0, .ref (q 0)), (1, .int (I u1)), (2, .int (I u2)), (3, .int (I u3))]) hx hb dX13_isFlat_41 hl (by decide) rfl (fun ls hl => ?_)
        refine lv_iload hx hb dX13_isFlat_43 (lv_at hl 0 rfl) ?_
        refine bi_if_ge (tgt := 52) hx hb r_x13 dX13_isFlat_45 (by decide) (fun c14 => ?_) (fun c14 => ?_)
        ·
          replace hw := hw.1 c14
          refine lv_iconst (v := I 0) hx hb dX13_isFlat_52 rfl ?_
          refine lv_istore_n (lv' := [(2, .int (I 0)), (4, .int (I x13)), (0, .ref (q 0)), (1, .int (I u1)), (3, .int (I u3))]) hx hb dX13_isFlat_53 rfl hl (by decide) rfl (fun ls hl => ?_)
          refine lv_iconst (v := I 0) hx hb dX13_isFlat_54 rfl ?_
          refine lv_istore (lv' := [(5, .int (I 0)), (2, .int (I 0)), (4, .int (I x13)), (0, .ref (q 0)), (1, .int (I u1)), (3, .int (I u3))]) hx hb dX13_isFlat_55 hl (by decide) rfl (fun ls hl => ?_)
          exact (hP57 _ _ _ _ _).mp hw r_u1 (by decide) r_u3 r_x13 (by decide)  H locs ls hP hD hS (lv_sub hl [3, 4, 1, 5, 2, 0] rfl)
        ·
          replace hw := hw.2 c14
          refine lv_iconst (v := I 1) hx hb dX13_isFlat_48 rfl ?_
          refine lv_goto (tgt := 53) hx hb dX13_isFlat_49 (by decide) ?_
          refine lv_istore_n (lv' := [(2, .int (I 1)), (4, .int (I x13)), (0, .ref (q 0)), (1, .int (I u1)), (3, .int (I u3))]) hx hb dX13_isFlat_53 rfl hl (by decide) rfl (fun ls hl => ?_)
          refine lv_iconst (v := I 0) hx hb dX13_isFlat_54 rfl ?_
          refine lv_istore (lv' := [(5, .int (I 0)), (2, .int (I 1)), (4, .int (I x13)), (0, .ref (q 0)), (1, .int (I u1)), (3, .int (I u3))]) hx hb dX13_isFlat_55 hl (by decide) rfl (fun ls hl => ?_)
          exact (hP57 _ _ _ _ _).mp hw r_u1 (by decide) r_u3 r_x13 (by decide)  H locs ls hP hD hS (lv_sub hl [3, 4, 1, 5, 2, 0] rfl)
  ·
    intro u1 u2 u3 u4 u5 hw
    refine (hP57 _ _ _ _ _).mpr ?_
    intro r_u1 r_u2 r_u3 r_u4 r_u5 H locs ls hP hD hS hl
    refine lv_iload hx hb dX13_isFlat_57 (lv_at hl 5 rfl) ?_
    refine lv_iload_n hx hb dX13_isFlat_59 rfl (lv_at hl 3 rfl) ?_
    refine bi_icmp_ge (tgt := 103) hx hb r_u5 r_u3 dX13_isFlat_60 (by decide) (fun c15 => ?_) (fun c15 => ?_)
    ·
      replace hw := hw.1 c15
      refine lv_iinc (v := I (u3 + 1)) (lv' := [(3, .int (I (u3 + 1))), (0, .ref (q 0)), (1, .int (I u1)), (2, .int (I u2)), (4, .int (I u4)), (5, .int (I u5))]) hx hb dX13_isFlat_103 hl (k := 3) rfl (I_add _ _) (by decide) rfl (fun ls hl => ?_)
      refine lv_goto (tgt := 4) hx hb dX13_isFlat_106 (by decide) ?_
      obtain ⟨c16, hw⟩ := hw
      exact (hP4 _ _ _).mp hw r_u1 r_u2 c16  H locs ls hP hD hS (lv_sub hl [1, 2, 3, 0] rfl)
    ·
      replace hw := hw.2 c15
      refine lv_iload_n hx hb dX13_isFlat_63 rfl (lv_at hl 2 rfl) ?_
      refine bi_if_eq (tgt := 103) hx hb r_u2 dX13_isFlat_64 (by decide) (fun c17 => ?_) (fun c17 => ?_)
      ·
        replace hw := hw.1 c17
        refine lv_iinc (v := I (u3 + 1)) (lv' := [(3, .int (I (u3 + 1))), (0, .ref (q 0)), (1, .int (I u1)), (2, .int (I u2)), (4, .int (I u4)), (5, .int (I u5))]) hx hb dX13_isFlat_103 hl (k := 3) rfl (I_add _ _) (by decide) rfl (fun ls hl => ?_)
        refine lv_goto (tgt := 4) hx hb dX13_isFlat_106 (by decide) ?_
        obtain ⟨c18, hw⟩ := hw
        exact (hP4 _ _ _).mp hw r_u1 r_u2 c18  H locs ls hP hD hS (lv_sub hl [1, 2, 3, 0] rfl)
      ·
        replace hw := hw.2 c17
        refine lv_aload_n hx hb dX13_isFlat_67 rfl (lv_at hl 0 rfl) ?_
        refine gfX13_nodeIs hx hb hts hK hP hown (hts _ tw_2149) dX13_isFlat_68 ?_
        refine lv_aload_n hx hb dX13_isFlat_71 rfl (lv_at hl 0 rfl) ?_
        refine gfX13_kids hx hb hts hK hP hown (hts _ tw_2154) dX13_isFlat_72 ?_
        refine lv_aload_n hx hb dX13_isFlat_75 rfl (lv_at hl 0 rfl) ?_
        refine gfX13_nodeKids hx hb hts hK hP hown (hts _ tw_2150) dX13_isFlat_76 ?_
        refine lv_iload_n hx hb dX13_isFlat_79 rfl (lv_at hl 1 rfl) ?_
        obtain ⟨c19, hw⟩ := hw
        refine ldMX13_nodeKids hx hb hK hP hN c19 dX13_isFlat_80 (fun x20 r_x20 e_x20 => ?_)
        replace hw := hw x20 r_x20 e_x20
        refine lv_iload hx hb dX13_isFlat_81 (lv_at hl 5 rfl) ?_
        refine bi_iadd hx hb dX13_isFlat_83 ?_
        obtain ⟨c21, hw⟩ := hw
        refine ldMX13_kids hx hb hK hP hN c21 dX13_isFlat_84 (fun x22 r_x22 e_x22 => ?_)
        replace hw := hw x22 r_x22 e_x22
        obtain ⟨c23, hw⟩ := hw
        refine ldMX13_nodeIs hx hb hK hP hN c23 dX13_isFlat_85 (fun x24 r_x24 e_x24 => ?_)
        replace hw := hw x24 r_x24 e_x24
        refine lv_iload hx hb dX13_isFlat_86 (lv_at hl 4 rfl) ?_
        refine bi_icmp_eq (tgt := 95) hx hb r_x24 r_u4 dX13_isFlat_88 (by decide) (fun c25 => ?_) (fun c25 => ?_)
        ·
          replace hw := hw.1 c25
          refine lv_iconst (v := I 0) hx hb dX13_isFlat_95 rfl ?_
          refine lv_istore_n (lv' := [(2, .int (I 0)), (0, .ref (q 0)), (1, .int (I u1)), (3, .int (I u3)), (4, .int (I u4)), (5, .int (I u5))]) hx hb dX13_isFlat_96 rfl hl (by decide) rfl (fun ls hl => ?_)
          refine lv_iinc (v := I (u5 + 1)) (lv' := [(5, .int (I (u5 + 1))), (2, .int (I 0)), (0, .ref (q 0)), (1, .int (I u1)), (3, .int (I u3)), (4, .int (I u4))]) hx hb dX13_isFlat_97 hl (k := 5) rfl (I_add _ _) (by decide) rfl (fun ls hl => ?_)
          refine lv_goto (tgt := 57) hx hb dX13_isFlat_100 (by decide) ?_
          obtain ⟨c26, hw⟩ := hw
          exact (hP57 _ _ _ _ _).mp hw r_u1 (by decide) r_u3 r_u4 c26  H locs ls hP hD hS (lv_sub hl [2, 3, 1, 4, 5, 0] rfl)
        ·
          replace hw := hw.2 c25
          refine lv_iconst (v := I 1) hx hb dX13_isFlat_91 rfl ?_
          refine lv_goto (tgt := 96) hx hb dX13_isFlat_92 (by decide) ?_
          refine lv_istore_n (lv' := [(2, .int (I 1)), (0, .ref (q 0)), (1, .int (I u1)), (3, .int (I u3)), (4, .int (I u4)), (5, .int (I u5))]) hx hb dX13_isFlat_96 rfl hl (by decide) rfl (fun ls hl => ?_)
          refine lv_iinc (v := I (u5 + 1)) (lv' := [(5, .int (I (u5 + 1))), (2, .int (I 1)), (0, .ref (q 0)), (1, .int (I u1)), (3, .int (I u3)), (4, .int (I u4))]) hx hb dX13_isFlat_97 hl (k := 5) rfl (I_add _ _) (by decide) rfl (fun ls hl => ?_)
          refine lv_goto (tgt := 57) hx hb dX13_isFlat_100 (by decide) ?_
          obtain ⟨c27, hw⟩ := hw
          exact (hP57 _ _ _ _ _).mp hw r_u1 (by decide) r_u3 r_u4 c27  H locs ls hP hD hS (lv_sub hl [2, 3, 1, 4, 5, 0] rfl)
def W_X13_isPlain (n1 : Int) (n2 : Int) (n3 : Int) (σ : S0) (Q : Int → S0 → Prop) : Prop :=
  ∀ (P13 : Int → Int → Int → S0 → Prop) (P86 : Int → Int → Int → Int → Int → Int → S0 → Prop),
  (∀ (u2 : Int) (u3 : Int) (u4 : Int) (τ : S0), ((τ.1 42 ≤ 0 → (0 ≤ u4 ∧ u4 ≤ 1) ∧ Q u4 τ) ∧ (0 < τ.1 42 → (u4 = 0 → (0 ≤ u4 ∧ u4 ≤ 1) ∧ Q u4 τ) ∧ (¬ u4 = 0 → rg (τ.1 42 - 1) ∧ (0 ≤ (τ.1 42 - 1) ∧ (τ.1 42 - 1) < 40002) ∧ (∀ (x10 : Int), rg x10 → x10 = τ.2.1 65 (τ.1 42 - 1) → ((0 ≤ x10 ∧ x10 < 60000) ∧ (∀ (x12 : Int), rg x12 → x12 = τ.2.1 86 x10 → ((x12 = u2 → P86 u2 u3 0 x10 x12 0 (s_v τ 42 (τ.1 42 - 1))) ∧ (¬ x12 = u2 → (0 ≤ x12 → P86 u2 u3 1 x10 x12 0 (s_v τ 42 (τ.1 42 - 1))) ∧ (x12 < 0 → ∃ (Q15 : Int → Prop), W_X13_hasLeaf u3 x12 (s_v τ 42 (τ.1 42 - 1)) Q15 ∧ ∀ (x16 : Int), rg x16 → Q15 x16 → ((x16 = 0 → P86 u2 u3 0 x10 x12 0 (s_v τ 42 (τ.1 42 - 1))) ∧ (¬ x16 = 0 → P86 u2 u3 1 x10 x12 0 (s_v τ 42 (τ.1 42 - 1))))))))))))) → P13 u2 u3 u4 τ) →
  (∀ (u2 : Int) (u3 : Int) (u4 : Int) (u5 : Int) (u6 : Int) (u7 : Int) (τ : S0), ((u6 < 0 → P13 u2 u3 u4 τ) ∧ (0 ≤ u6 → (0 ≤ u6 ∧ u6 < 1501) ∧ (∀ (x21 : Int), rg x21 → x21 = τ.2.1 19 u6 → ((x21 ≤ u7 → P13 u2 u3 u4 τ) ∧ (u7 < x21 → (0 ≤ u5 ∧ u5 < 60000) ∧ (∀ (x24 : Int), rg x24 → x24 = τ.2.1 87 u5 → ((0 ≤ (x24 + u7) ∧ (x24 + u7) < 120000) ∧ (∀ (x26 : Int), rg x26 → x26 = τ.2.1 91 (x24 + u7) → (∃ (Q27 : S0 → Prop), W_X13_enter x26 τ Q27 ∧ ∀ (τ29 : S0), n_m τ29 → f_r [42] [65, 66] [] τ τ29 → Q27 τ29 → (rg (u7 + 1) ∧ P86 u2 u3 u4 u5 u6 (u7 + 1) τ29)))))))))) → P86 u2 u3 u4 u5 u6 u7 τ) →
  ∃ (Q1 : S0 → Prop), W_X13_enter n1 (s_v σ 42 0) Q1 ∧ ∀ (τ3 : S0), n_m τ3 → f_r [42] [65, 66] [] (s_v σ 42 0) τ3 → Q1 τ3 → (P13 n2 n3 1 τ3)
set_option maxRecDepth 100000 in
set_option maxHeartbeats 4000000 in
theorem L_X13_isPlain (l : Launch) (g : gG) (q : Nat → Nat) (lb : Nat) (hlb : lb < 2 ^ 31) {n1 : Int} {n2 : Int} {n3 : Int} {σ : S0} {Q : Int → S0 → Prop} (r_n1 : rg n1) (r_n2 : rg n2) (r_n3 : rg n3) (hN : n_m σ) (hw : W_X13_isPlain n1 n2 n3 σ Q) (sz : Nat) : MetI l yX13_isPlain cX13_isPlain 8 (some .boolean) { frames := 1, cells := 0, slots := 0, locals := 24 } g [.ref (q 0), .int (I n1), .int (I n2), .int (I n3)] (MX g q lb σ) sz xT (p_I (MX g q lb) [42] [65, 66] [] σ Q) 0 0 := by
  refine mkMet (Qc := fun A => QI g A (p_I (MX g q lb) [42] [65, 66] [] σ Q)) (by decide) (Nat.le_of_ble_eq_true rfl) ?_
  intro p e s m below meth c A H ls hx hb hr hml hown hts hlk hnm hsz hP hK hNb hD hA hAe hS hX hl
  have hl : lv_has ls 8 [(0, .ref (q 0)), (1, .int (I n1)), (2, .int (I n2)), (3, .int (I n3))] := hl
  have hB := hN
  have hF : f_r [42] [65, 66] [] σ σ := f_0
  obtain ⟨locs, hlocs⟩ : ∃ z : List Loc, z = [] := ⟨_, rfl⟩
  rw [← hlocs] at hS ⊢
  obtain ⟨P13, hP13⟩ : ∃ P : Int → Int → Int → S0 → Prop, ∀ (u2 : Int) (u3 : Int) (u4 : Int) (τ : S0), (P u2 u3 u4 τ ↔ (rg u2 → rg u3 → rg u4 → n_m τ → f_r [42] [65, 66] [] σ τ → ∀ (H : Heap) (locs : List Loc) (ls : Array Slot), KP g (MX g q lb τ) H → va_D A (MX g q lb τ) → va_S A s.heap H locs → lv_has ls 8 [(0, .ref (q 0)), (2, .int (I u2)), (3, .int (I u3)), (4, .int (I u4))] → W p l e ({ frames := 1, cells := 0, slots := 0, locals := 24 }) s m [.ref (q 0), .int (I n1), .int (I n2), .int (I n3)].toArray below meth c H locs 0 0 (MQ below (QI g A (p_I (MX g q lb) [42] [65, 66] [] σ Q)) [.ref (q 0), .int (I n1), .int (I n2), .int (I n3)].toArray s 0 0 A) (F0 m 13 ls []))) := ⟨_, fun _ _ _ _ => Iff.rfl⟩
  obtain ⟨P86, hP86⟩ : ∃ P : Int → Int → Int → Int → Int → Int → S0 → Prop, ∀ (u2 : Int) (u3 : Int) (u4 : Int) (u5 : Int) (u6 : Int) (u7 : Int) (τ : S0), (P u2 u3 u4 u5 u6 u7 τ ↔ (rg u2 → rg u3 → rg u4 → rg u5 → rg u6 → rg u7 → n_m τ → f_r [42] [65, 66] [] σ τ → ∀ (H : Heap) (locs : List Loc) (ls : Array Slot), KP g (MX g q lb τ) H → va_D A (MX g q lb τ) → va_S A s.heap H locs → lv_has ls 8 [(0, .ref (q 0)), (2, .int (I u2)), (3, .int (I u3)), (4, .int (I u4)), (5, .int (I u5)), (6, .int (I u6)), (7, .int (I u7))] → W p l e ({ frames := 1, cells := 0, slots := 0, locals := 24 }) s m [.ref (q 0), .int (I n1), .int (I n2), .int (I n3)].toArray below meth c H locs 0 0 (MQ below (QI g A (p_I (MX g q lb) [42] [65, 66] [] σ Q)) [.ref (q 0), .int (I n1), .int (I n2), .int (I n3)].toArray s 0 0 A) (F0 m 86 ls []))) := ⟨_, fun _ _ _ _ _ _ _ => Iff.rfl⟩
  refine (fun hw => ?_) (hw P13 P86 ?_ ?_)
  ·
    refine lv_aload_n hx hb dX13_isPlain_0 rfl (lv_at hl 0 rfl) ?_
    refine lv_iconst (v := I 0) hx hb dX13_isPlain_1 rfl ?_
    refine pfX13_walked hx hb hts hK hP hD hS hown (hts _ tw_2117) dX13_isPlain_2 (fun H locs hP hD hS => ?_)
    have hN : n_m (s_v σ 42 0) := n_v (i := 42) hN ((by decide) : rg 0)
    have hF : f_r [42] [65, 66] [] σ (s_v σ 42 0) := f_v hF (by decide)
    refine lv_aload_n hx hb dX13_isPlain_5 rfl (lv_at hl 0 rfl) ?_
    refine lv_iload_n hx hb dX13_isPlain_6 rfl (lv_at hl 1 rfl) ?_
    obtain ⟨Q1, hc, hw⟩ := hw
    refine wc_V (X := MX g q lb) (va_runV (As := [.int (I n1)]) (rest := []) ⟨hx, hb, hml, hown, hts⟩ (L_X13_enter l g q lb hlb r_n1 hN hc H.size) (cwV 1 hts (TB_V tw_3039 tw_3041 ts_202 tw_15 co_X13_enter) rfl rfl rfl (by decide +kernel) ⟨Nat.le_of_ble_eq_true rfl, Nat.le_of_ble_eq_true rfl⟩) (preV (q0 := 0) (ci := 13) rfl xT_bl hP hK hNb hD rfl rfl xT_at) rfl rfl hl.1 rfl (lv_room (Nat.le_of_ble_eq_true rfl)) dX13_isPlain_7 ⟨Nat.le_of_ble_eq_true rfl, Nat.le_of_ble_eq_true rfl⟩) hP hD hS hA (fun τ3 H locs hN hf hq hP hD hS => ?_)
    replace hw := hw τ3 hN hf hq
    have hF : f_r [42] [65, 66] [] σ τ3 := f_t hF hf (by decide) (by decide) (by decide)
    have hB := hN
    refine lv_iconst (v := I 1) hx hb dX13_isPlain_10 rfl ?_
    refine lv_istore (lv' := [(4, .int (I 1)), (0, .ref (q 0)), (1, .int (I n1)), (2, .int (I n2)), (3, .int (I n3))]) hx hb dX13_isPlain_11 hl (by decide) rfl (fun ls hl => ?_)
    exact (hP13 _ _ _ _).mp hw r_n2 r_n3 (by decide) hN hF H locs ls hP hD hS (lv_sub hl [1, 3, 4, 0] rfl)
  ·
    intro u2 u3 u4 τ hw
    refine (hP13 _ _ _ _).mpr ?_
    intro r_u2 r_u3 r_u4 hN hF H locs ls hP hD hS hl
    have hB := hN
    refine lv_aload_n hx hb dX13_isPlain_13 rfl (lv_at hl 0 rfl) ?_
    refine gfX13_walked hx hb hts hK hP hown (hts _ tw_2117) (x := τ.1 42) rfl dX13_isPlain_14 ?_
    refine bi_if_le (tgt := 131) hx hb (hB.1 42) dX13_isPlain_17 (by decide) (fun c4 => ?_) (fun c4 => ?_)
    ·
      replace hw := hw.1 c4
      refine lv_iload hx hb dX13_isPlain_131 (lv_at hl 3 rfl) ?_
      obtain ⟨c5, hw⟩ := hw
      exact xrz hx hb hr (nzI c5.1 c5.2) hlk hP hK hD hS ⟨_, _, r_u4, rfl, hN, hF, rfl, hw⟩ (Nat.le_of_ble_eq_true rfl) (Nat.le_of_ble_eq_true rfl) dX13_isPlain_133
    ·
      replace hw := hw.2 c4
      refine lv_iload hx hb dX13_isPlain_20 (lv_at hl 3 rfl) ?_
      refine bi_if_eq (tgt := 131) hx hb r_u4 dX13_isPlain_22 (by decide) (fun c6 => ?_) (fun c6 => ?_)
      ·
        replace hw := hw.1 c6
        refine lv_iload hx hb dX13_isPlain_131 (lv_at hl 3 rfl) ?_
        obtain ⟨c7, hw⟩ := hw
        exact xrz hx hb hr (nzI c7.1 c7.2) hlk hP hK hD hS ⟨_, _, r_u4, rfl, hN, hF, rfl, hw⟩ (Nat.le_of_ble_eq_true rfl) (Nat.le_of_ble_eq_true rfl) dX13_isPlain_133
      ·
        replace hw := hw.2 c6
        refine lv_aload_n hx hb dX13_isPlain_25 rfl (lv_at hl 0 rfl) ?_
        refine lv_dup hx hb dX13_isPlain_26 rfl ?_
        refine gfX13_walked hx hb hts hK hP hown (hts _ tw_2117) (x := τ.1 42) rfl dX13_isPlain_27 ?_
        refine lv_iconst (v := I 1) hx hb dX13_isPlain_30 rfl ?_
        refine bi_isub hx hb dX13_isPlain_31 ?_
        obtain ⟨c8, hw⟩ := hw
        refine pfX13_walked hx hb hts hK hP hD hS hown (hts _ tw_2117) dX13_isPlain_32 (fun H locs hP hD hS => ?_)
        have hN : n_m (s_v τ 42 (τ.1 42 - 1)) := n_v (i := 42) hN (c8 : rg (τ.1 42 - 1))
        have hF : f_r [42] [65, 66] [] σ (s_v τ 42 (τ.1 42 - 1)) := f_v hF (by decide)
        refine lv_aload_n hx hb dX13_isPlain_35 rfl (lv_at hl 0 rfl) ?_
        refine gfX13_walk hx hb hts hK hP hown (hts _ tw_2115) dX13_isPlain_36 ?_
        refine lv_aload_n hx hb dX13_isPlain_39 rfl (lv_at hl 0 rfl) ?_
        refine gfX13_walked hx hb hts hK hP hown (hts _ tw_2117) (x := (τ.1 42 - 1)) rfl dX13_isPlain_40 ?_
        obtain ⟨c9, hw⟩ := hw
        refine ldMX13_walk hx hb hK hP hN c9 dX13_isPlain_43 (fun x10 r_x10 e_x10 => ?_)
        replace hw := hw x10 r_x10 e_x10
        refine lv_istore (lv' := [(5, .int (I x10)), (0, .ref (q 0)), (2, .int (I u2)), (3, .int (I u3)), (4, .int (I u4))]) hx hb dX13_isPlain_44 hl (by decide) rfl (fun ls hl => ?_)
        refine lv_aload_n hx hb dX13_isPlain_46 rfl (lv_at hl 1 rfl) ?_
        refine gfX13_nodeIs hx hb hts hK hP hown (hts _ tw_2149) dX13_isPlain_47 ?_
        refine lv_iload hx hb dX13_isPlain_50 (lv_at hl 0 rfl) ?_
        obtain ⟨c11, hw⟩ := hw
        refine ldMX13_nodeIs hx hb hK hP hN c11 dX13_isPlain_52 (fun x12 r_x12 e_x12 => ?_)
        replace hw := hw x12 r_x12 e_x12
        refine lv_istore (lv' := [(6, .int (I x12)), (5, .int (I x10)), (0, .ref (q 0)), (2, .int (I u2)), (3, .int (I u3)), (4, .int (I u4))]) hx hb dX13_isPlain_53 hl (by decide) rfl (fun ls hl => ?_)
        refine lv_iload hx hb dX13_isPlain_55 (lv_at hl 0 rfl) ?_
        refine lv_iload_n hx hb dX13_isPlain_57 rfl (lv_at hl 3 rfl) ?_
        refine bi_icmp_eq (tgt := 80) hx hb r_x12 r_u2 dX13_isPlain_58 (by decide) (fun c13 => ?_) (fun c13 => ?_)
        ·
          replace hw := hw.1 c13
          refine lv_iconst (v := I 0) hx hb dX13_isPlain_80 rfl ?_
          refine lv_istore (lv' := [(4, .int (I 0)), (6, .int (I x12)), (5, .int (I x10)), (0, .ref (q 0)), (2, .int (I u2)), (3, .int (I u3))]) hx hb dX13_isPlain_81 hl (by decide) rfl (fun ls hl => ?_)
          refine lv_iconst (v := I 0) hx hb dX13_isPlain_83 rfl ?_
          refine lv_istore (lv' := [(7, .int (I 0)), (4, .int (I 0)), (6, .int (I x12)), (5, .int (I x10)), (0, .ref (q 0)), (2, .int (I u2)), (3, .int (I u3))]) hx hb dX13_isPlain_84 hl (by decide) rfl (fun ls hl => ?_)
          exact (hP86 _ _ _ _ _ _ _).mp hw r_u2 r_u3 (by decide) r_x10 r_x12 (by decide) hN hF H locs ls hP hD hS (lv_sub hl [4, 5, 6, 1, 3, 2, 0] rfl)
        ·
          replace hw := hw.2 c13
          refine lv_iload hx hb dX13_isPlain_61 (lv_at hl 0 rfl) ?_
          refine bi_if_ge (tgt := 76) hx hb r_x12 dX13_isPlain_63 (by decide) (fun c14 => ?_) (fun c14 => ?_)
          ·
            replace hw := hw.1 c14
            refine lv_iconst (v := I 1) hx hb dX13_isPlain_76 rfl ?_
            refine lv_goto (tgt := 81) hx hb dX13_isPlain_77 (by decide) ?_
            refine lv_istore (lv' := [(4, .int (I 1)), (6, .int (I x12)), (5, .int (I x10)), (0, .ref (q 0)), (2, .int (I u2)), (3, .int (I u3))]) hx hb dX13_isPlain_81 hl (by decide) rfl (fun ls hl => ?_)
            refine lv_iconst (v := I 0) hx hb dX13_isPlain_83 rfl ?_
            refine lv_istore (lv' := [(7, .int (I 0)), (4, .int (I 1)), (6, .int (I x12)), (5, .int (I x10)), (0, .ref (q 0)), (2, .int (I u2)), (3, .int (I u3))]) hx hb dX13_isPlain_84 hl (by decide) rfl (fun ls hl => ?_)
            exact (hP86 _ _ _ _ _ _ _).mp hw r_u2 r_u3 (by decide) r_x10 r_x12 (by decide) hN hF H locs ls hP hD hS (lv_sub hl [4, 5, 6, 1, 3, 2, 0] rfl)
          ·
            replace hw := hw.2 c14
            refine lv_aload_n hx hb dX13_isPlain_66 rfl (lv_at hl 2 rfl) ?_
            refine lv_iload_n hx hb dX13_isPlain_67 rfl (lv_at hl 4 rfl) ?_
            refine lv_iload hx hb dX13_isPlain_68 (lv_at hl 0 rfl) ?_
            obtain ⟨Q15, hc, hw⟩ := hw
            refine wc_i (X := MX g q lb) (va_runV (As := [.int (I u3), .int (I x12)]) (rest := []) ⟨hx, hb, hml, hown, hts⟩ (L_X13_hasLeaf l g q lb hlb r_u3 r_x12 hN hc H.size) (cwV 2 hts (TB_V tw_3043 tw_3045 ts_203 tw_15 co_X13_hasLeaf) rfl rfl rfl (by decide +kernel) ⟨Nat.le_of_ble_eq_true rfl, Nat.le_of_ble_eq_true rfl⟩) (preV (q0 := 0) (ci := 13) rfl xT_bl hP hK hNb hD rfl rfl xT_at) rfl rfl hl.1 rfl (lv_room (Nat.le_of_ble_eq_true rfl)) dX13_isPlain_70 ⟨Nat.le_of_ble_eq_true rfl, Nat.le_of_ble_eq_true rfl⟩) hP hD hS hA (fun x16 H locs r_x16 hq hP hD hS => ?_)
            replace hw := hw x16 r_x16 hq
            refine bi_if_eq (tgt := 80) hx hb r_x16 dX13_isPlain_73 (by decide) (fun c18 => ?_) (fun c18 => ?_)
            ·
              replace hw := hw.1 c18
              refine lv_iconst (v := I 0) hx hb dX13_isPlain_80 rfl ?_
              refine lv_istore (lv' := [(4, .int (I 0)), (6, .int (I x12)), (5, .int (I x10)), (0, .ref (q 0)), (2, .int (I u2)), (3, .int (I u3))]) hx hb dX13_isPlain_81 hl (by decide) rfl (fun ls hl => ?_)
              refine lv_iconst (v := I 0) hx hb dX13_isPlain_83 rfl ?_
              refine lv_istore (lv' := [(7, .int (I 0)), (4, .int (I 0)), (6, .int (I x12)), (5, .int (I x10)), (0, .ref (q 0)), (2, .int (I u2)), (3, .int (I u3))]) hx hb dX13_isPlain_84 hl (by decide) rfl (fun ls hl => ?_)
              exact (hP86 _ _ _ _ _ _ _).mp hw r_u2 r_u3 (by decide) r_x10 r_x12 (by decide) hN hF H locs ls hP hD hS (lv_sub hl [4, 5, 6, 1, 3, 2, 0] rfl)
            ·
              replace hw := hw.2 c18
              refine lv_iconst (v := I 1) hx hb dX13_isPlain_76 rfl ?_
              refine lv_goto (tgt := 81) hx hb dX13_isPlain_77 (by decide) ?_
              refine lv_istore (lv' := [(4, .int (I 1)), (6, .int (I x12)), (5, .int (I x10)), (0, .ref (q 0)), (2, .int (I u2)), (3, .int (I u3))]) hx hb dX13_isPlain_81 hl (by decide) rfl (fun ls hl => ?_)
              refine lv_iconst (v := I 0) hx hb dX13_isPlain_83 rfl ?_
              refine lv_istore (lv' := [(7, .int (I 0)), (4, .int (I 1)), (6, .int (I x12)), (5, .int (I x10)), (0, .ref (q 0)), (2, .int (I u2)), (3, .int (I u3))]) hx hb dX13_isPlain_84 hl (by decide) rfl (fun ls hl => ?_)
              exact (hP86 _ _ _ _ _ _ _).mp hw r_u2 r_u3 (by decide) r_x10 r_x12 (by decide) hN hF H locs ls hP hD hS (lv_sub hl [4, 5, 6, 1, 3, 2, 0] rfl)
  ·
    intro u2 u3 u4 u5 u6 u7 τ hw
    refine (hP86 _ _ _ _ _ _ _).mpr ?_
    intro r_u2 r_u3 r_u4 r_u5 r_u6 r_u7 hN hF H locs ls hP hD hS hl
    have hB := hN
    refine lv_iload hx hb dX13_isPlain_86 (lv_at hl 5 rfl) ?_
    refine bi_if_lt (tgt := 128) hx hb r_u6 dX13_isPlain_88 (by decide) (fun c19 => ?_) (fun c19 => ?_)
    ·
      replace hw := hw.1 c19
      refine lv_goto (tgt := 13) hx hb dX13_isPlain_128 (by decide) ?_
      exact (hP13 _ _ _ _).mp hw r_u2 r_u3 r_u4 hN hF H locs ls hP hD hS (lv_sub hl [0, 1, 2, 3] rfl)
    ·
      replace hw := hw.2 c19
      refine lv_iload hx hb dX13_isPlain_91 (lv_at hl 6 rfl) ?_
      refine lv_aload_n hx hb dX13_isPlain_93 rfl (lv_at hl 0 rfl) ?_
      refine gfX13_hypSize hx hb hts hK hP hown (hts _ tw_2032) dX13_isPlain_94 ?_
      refine lv_iload hx hb dX13_isPlain_97 (lv_at hl 5 rfl) ?_
      obtain ⟨c20, hw⟩ := hw
      refine ldMX13_hypSize hx hb hK hP hN c20 dX13_isPlain_99 (fun x21 r_x21 e_x21 => ?_)
      replace hw := hw x21 r_x21 e_x21
      refine bi_icmp_ge (tgt := 128) hx hb r_u7 r_x21 dX13_isPlain_100 (by decide) (fun c22 => ?_) (fun c22 => ?_)
      ·
        replace hw := hw.1 c22
        refine lv_goto (tgt := 13) hx hb dX13_isPlain_128 (by decide) ?_
        exact (hP13 _ _ _ _).mp hw r_u2 r_u3 r_u4 hN hF H locs ls hP hD hS (lv_sub hl [0, 1, 2, 3] rfl)
      ·
        replace hw := hw.2 c22
        refine lv_aload_n hx hb dX13_isPlain_103 rfl (lv_at hl 0 rfl) ?_
        refine lv_aload_n hx hb dX13_isPlain_104 rfl (lv_at hl 0 rfl) ?_
        refine gfX13_kids hx hb hts hK hP hown (hts _ tw_2154) dX13_isPlain_105 ?_
        refine lv_aload_n hx hb dX13_isPlain_108 rfl (lv_at hl 0 rfl) ?_
        refine gfX13_nodeKids hx hb hts hK hP hown (hts _ tw_2150) dX13_isPlain_109 ?_
        refine lv_iload hx hb dX13_isPlain_112 (lv_at hl 4 rfl) ?_
        obtain ⟨c23, hw⟩ := hw
        refine ldMX13_nodeKids hx hb hK hP hN c23 dX13_isPlain_114 (fun x24 r_x24 e_x24 => ?_)
        replace hw := hw x24 r_x24 e_x24
        refine lv_iload hx hb dX13_isPlain_115 (lv_at hl 6 rfl) ?_
        refine bi_iadd hx hb dX13_isPlain_117 ?_
        obtain ⟨c25, hw⟩ := hw
        refine ldMX13_kids hx hb hK hP hN c25 dX13_isPlain_118 (fun x26 r_x26 e_x26 => ?_)
        replace hw := hw x26 r_x26 e_x26
        obtain ⟨Q27, hc, hw⟩ := hw
        refine wc_V (X := MX g q lb) (va_runV (As := [.int (I x26)]) (rest := []) ⟨hx, hb, hml, hown, hts⟩ (L_X13_enter l g q lb hlb r_x26 hN hc H.size) (cwV 1 hts (TB_V tw_3039 tw_3041 ts_202 tw_15 co_X13_enter) rfl rfl rfl (by decide +kernel) ⟨Nat.le_of_ble_eq_true rfl, Nat.le_of_ble_eq_true rfl⟩) (preV (q0 := 0) (ci := 13) rfl xT_bl hP hK hNb hD rfl rfl xT_at) rfl rfl hl.1 rfl (lv_room (Nat.le_of_ble_eq_true rfl)) dX13_isPlain_119 ⟨Nat.le_of_ble_eq_true rfl, Nat.le_of_ble_eq_true rfl⟩) hP hD hS hA (fun τ29 H locs hN hf hq hP hD hS => ?_)
        replace hw := hw τ29 hN hf hq
        have hF : f_r [42] [65, 66] [] σ τ29 := f_t hF hf (by decide) (by decide) (by decide)
        have hB := hN
        refine lv_iinc (v := I (u7 + 1)) (lv' := [(7, .int (I (u7 + 1))), (0, .ref (q 0)), (2, .int (I u2)), (3, .int (I u3)), (4, .int (I u4)), (5, .int (I u5)), (6, .int (I u6))]) hx hb dX13_isPlain_122 hl (k := 6) rfl (I_add _ _) (by decide) rfl (fun ls hl => ?_)
        refine lv_goto (tgt := 86) hx hb dX13_isPlain_125 (by decide) ?_
        obtain ⟨c30, hw⟩ := hw
        exact (hP86 _ _ _ _ _ _ _).mp hw r_u2 r_u3 r_u4 r_u5 r_u6 c30 hN hF H locs ls hP hD hS (lv_sub hl [1, 2, 3, 4, 5, 6, 0] rfl)
def W_X13_findDefinition (n1 : Int) (σ : S0) (Q : Int → S0 → Prop) : Prop :=
  ∀ (P27 : Int → Int → S0 → Prop) (P216 : Int → Int → Int → Int → S0 → Prop),
  (∀ (u1 : Int) (u2 : Int) (τ : S0), ((0 ≤ u1 ∧ u1 < 1501) ∧ (∀ (x8 : Int), rg x8 → x8 = τ.2.1 18 u1 → (∀ (x9 : Int), rg x9 → x9 = τ.2.1 19 u1 → (rg (x8 + x9) ∧ ((x8 + x9) ≤ u2 → ∃ (Q12 : Int → S0 → Prop), W_X13_countTrees u1 τ Q12 ∧ ∀ (x13 : Int) (τ14 : S0), rg x13 → n_m τ14 → f_r [45, 46, 47, 48, 49, 50, 51, 52] [71, 72, 73, 74, 75, 76, 77, 78, 79, 80, 81, 82, 83, 84, 85, 86, 87, 88, 89, 90, 91, 92, 93, 94] [3, 4, 5, 6, 7] τ τ14 → Q12 x13 τ14 → ((x13 = 1 → ∃ (Q16 : Int → S0 → Prop), W_X13_treeOf u1 τ14 Q16 ∧ ∀ (x17 : Int) (τ18 : S0), rg x17 → n_m τ18 → f_r [45, 46, 47, 48, 49, 50, 51, 52] [71, 72, 73, 74, 75, 76, 77, 78, 79, 80, 81, 82, 83, 84, 85, 86, 87, 88, 89, 90, 91, 92, 93, 94] [3, 4, 5, 6] τ14 τ18 → Q16 x17 τ18 → ((0 ≤ x17 ∧ x17 < 60000) ∧ (∀ (x20 : Int), rg x20 → x20 = τ18.2.1 86 x17 → ((x20 < 0 → rg (τ14.1 51) ∧ rg (τ14.1 52) ∧ P216 u1 (τ14.1 51) (τ14.1 52) (-1) τ18) ∧ (0 ≤ x20 → (0 ≤ x20 ∧ x20 < 1501) ∧ (∀ (x25 : Int), rg x25 → x25 = τ18.2.1 96 x20 → ((x25 = 0 → rg (τ14.1 51) ∧ rg (τ14.1 52) ∧ P216 u1 (τ14.1 51) (τ14.1 52) (-1) τ18) ∧ (¬ x25 = 0 → ∃ (Q29 : Int → Prop), W_X13_firstSide x20 τ18 Q29 ∧ ∀ (x30 : Int), rg x30 → Q29 x30 → (∀ (x32 : Int), rg x32 → x32 = τ18.2.1 87 x17 → ((0 ≤ (x32 + x30) ∧ (x32 + x30) < 120000) ∧ (∀ (x34 : Int), rg x34 → x34 = τ18.2.1 91 (x32 + x30) → (∀ (x35 : Int), rg x35 → x35 = τ18.2.1 87 x17 → ((0 ≤ ((x35 + 1) - x30) ∧ ((x35 + 1) - x30) < 120000) ∧ (∀ (x37 : Int), rg x37 → x37 = τ18.2.1 91 ((x35 + 1) - x30) → ((0 ≤ x34 ∧ x34 < 60000) ∧ (∀ (x39 : Int), rg x39 → x39 = τ18.2.1 86 x34 → ((x39 < 0 → rg (τ14.1 51) ∧ rg (τ14.1 52) ∧ P216 u1 (τ14.1 51) (τ14.1 52) (-1) τ18) ∧ (0 ≤ x39 → (0 ≤ x39 ∧ x39 < 1501) ∧ (∀ (x44 : Int), rg x44 → x44 = τ18.2.1 96 x39 → ((¬ x44 = 0 → rg (τ14.1 51) ∧ rg (τ14.1 52) ∧ P216 u1 (τ14.1 51) (τ14.1 52) (-1) τ18) ∧ (x44 = 0 → ∃ (Q48 : Int → Prop), W_X13_isFlat x34 τ18 Q48 ∧ ∀ (x49 : Int), rg x49 → Q48 x49 → ((x49 = 0 → rg (τ14.1 51) ∧ rg (τ14.1 52) ∧ P216 u1 (τ14.1 51) (τ14.1 52) (-1) τ18) ∧ (¬ x49 = 0 → ∃ (Q54 : Int → S0 → Prop), W_X13_isPlain x37 x39 x34 τ18 Q54 ∧ ∀ (x55 : Int) (τ56 : S0), rg x55 → n_m τ56 → f_r [42] [65, 66] [] τ18 τ56 → Q54 x55 τ56 → ((x55 = 0 → rg (τ14.1 51) ∧ rg (τ14.1 52) ∧ P216 u1 (τ14.1 51) (τ14.1 52) (-1) τ56) ∧ (¬ x55 = 0 → rg (τ14.1 51) ∧ rg (τ14.1 52) ∧ P216 u1 (τ14.1 51) (τ14.1 52) x39 τ56))))))))))))))))))))))))) ∧ (¬ x13 = 1 → Q (-1) τ14))) ∧ (u2 < (x8 + x9) → (0 ≤ u2 ∧ u2 < 90100) ∧ (∀ (x63 : Int), rg x63 → x63 = τ.2.1 20 u2 → ((0 ≤ x63 ∧ x63 < 1501) ∧ (∀ (x65 : Int), rg x65 → x65 = τ.2.1 13 x63 → ((¬ x65 = 1 → rg (u2 + 1) ∧ P27 u1 (u2 + 1) τ) ∧ (x65 = 1 → Q (-1) τ)))))))))) → P27 u1 u2 τ) →
  (∀ (u1 : Int) (u2 : Int) (u3 : Int) (u5 : Int) (τ : S0), ((u5 = (-1) → Q (-1) (s_v (s_v τ 51 u2) 52 u3)) ∧ (¬ u5 = (-1) → ∃ (Q69 : Int → S0 → Prop), W_X13_isUsedBefore u1 u5 (s_v (s_v τ 51 u2) 52 u3) Q69 ∧ ∀ (x70 : Int) (τ71 : S0), rg x70 → n_m τ71 → f_r [45, 46, 47, 48, 49, 50, 51, 52] [71, 72, 73, 74, 75, 76, 77, 78, 79, 80, 81, 82, 83, 84, 85, 86, 87, 88, 89, 90, 91, 92, 93, 94] [3, 4, 5, 6, 7] (s_v (s_v τ 51 u2) 52 u3) τ71 → Q69 x70 τ71 → ((x70 = 0 → Q u5 τ71) ∧ (¬ x70 = 0 → Q (-1) τ71)))) → P216 u1 u2 u3 u5 τ) →
  (0 ≤ n1 ∧ n1 < 1501) ∧ (∀ (x2 : Int), rg x2 → x2 = σ.2.1 14 n1 → ((0 ≤ x2 ∧ x2 < 30400) ∧ (∀ (x4 : Int), rg x4 → x4 = σ.2.1 16 x2 → ((x4 = σ.1 11 → ∀ (x6 : Int), rg x6 → x6 = σ.2.1 18 n1 → (P27 n1 x6 σ)) ∧ (¬ x4 = σ.1 11 → Q (-1) σ)))))
set_option maxRecDepth 100000 in
set_option maxHeartbeats 4000000 in
theorem L_X13_findDefinition (l : Launch) (g : gG) (q : Nat → Nat) (lb : Nat) (hlb : lb < 2 ^ 31) {n1 : Int} {σ : S0} {Q : Int → S0 → Prop} (r_n1 : rg n1) (hN : n_m σ) (hw : W_X13_findDefinition n1 σ Q) (sz : Nat) : MetI l yX13_findDefinition cX13_findDefinition 11 (some .int) { frames := 8, cells := 0, slots := 0, locals := 208 } g [.ref (q 0), .int (I n1)] (MX g q lb σ) sz xT (p_I (MX g q lb) [42, 45, 46, 47, 48, 49, 50, 51, 52] [65, 66, 71, 72, 73, 74, 75, 76, 77, 78, 79, 80, 81, 82, 83, 84, 85, 86, 87, 88, 89, 90, 91, 92, 93, 94] [3, 4, 5, 6, 7] σ Q) 0 0 := by
  refine mkMet (Qc := fun A => QI g A (p_I (MX g q lb) [42, 45, 46, 47, 48, 49, 50, 51, 52] [65, 66, 71, 72, 73, 74, 75, 76, 77, 78, 79, 80, 81, 82, 83, 84, 85, 86, 87, 88, 89, 90, 91, 92, 93, 94] [3, 4, 5, 6, 7] σ Q)) (by decide) (Nat.le_of_ble_eq_true rfl) ?_
  intro p e s m below meth c A H ls hx hb hr hml hown hts hlk hnm hsz hP hK hNb hD hA hAe hS hX hl
  have hl : lv_has ls 11 [(0, .ref (q 0)), (1, .int (I n1))] := hl
  have hB := hN
  have hF : f_r [42, 45, 46, 47, 48, 49, 50, 51, 52] [65, 66, 71, 72, 73, 74, 75, 76, 77, 78, 79, 80, 81, 82, 83, 84, 85, 86, 87, 88, 89, 90, 91, 92, 93, 94] [3, 4, 5, 6, 7] σ σ := f_0
  obtain ⟨locs, hlocs⟩ : ∃ z : List Loc, z = [] := ⟨_, rfl⟩
  rw [← hlocs] at hS ⊢
  obtain ⟨P27, hP27⟩ : ∃ P : Int → Int → S0 → Prop, ∀ (u1 : Int) (u2 : Int) (τ : S0), (P u1 u2 τ ↔ (rg u1 → rg u2 → n_m τ → f_r [42, 45, 46, 47, 48, 49, 50, 51, 52] [65, 66, 71, 72, 73, 74, 75, 76, 77, 78, 79, 80, 81, 82, 83, 84, 85, 86, 87, 88, 89, 90, 91, 92, 93, 94] [3, 4, 5, 6, 7] σ τ → ∀ (H : Heap) (locs : List Loc) (ls : Array Slot), KP g (MX g q lb τ) H → va_D A (MX g q lb τ) → va_S A s.heap H locs → lv_has ls 11 [(0, .ref (q 0)), (1, .int (I u1)), (2, .int (I u2))] → W p l e ({ frames := 8, cells := 0, slots := 0, locals := 208 }) s m [.ref (q 0), .int (I n1)].toArray below meth c H locs 0 0 (MQ below (QI g A (p_I (MX g q lb) [42, 45, 46, 47, 48, 49, 50, 51, 52] [65, 66, 71, 72, 73, 74, 75, 76, 77, 78, 79, 80, 81, 82, 83, 84, 85, 86, 87, 88, 89, 90, 91, 92, 93, 94] [3, 4, 5, 6, 7] σ Q)) [.ref (q 0), .int (I n1)].toArray s 0 0 A) (F0 m 27 ls []))) := ⟨_, fun _ _ _ => Iff.rfl⟩
  obtain ⟨P216, hP216⟩ : ∃ P : Int → Int → Int → Int → S0 → Prop, ∀ (u1 : Int) (u2 : Int) (u3 : Int) (u5 : Int) (τ : S0), (P u1 u2 u3 u5 τ ↔ (rg u1 → rg u2 → rg u3 → rg u5 → n_m τ → f_r [42, 45, 46, 47, 48, 49, 50, 51, 52] [65, 66, 71, 72, 73, 74, 75, 76, 77, 78, 79, 80, 81, 82, 83, 84, 85, 86, 87, 88, 89, 90, 91, 92, 93, 94] [3, 4, 5, 6, 7] σ τ → ∀ (H : Heap) (locs : List Loc) (ls : Array Slot), KP g (MX g q lb τ) H → va_D A (MX g q lb τ) → va_S A s.heap H locs → lv_has ls 11 [(0, .ref (q 0)), (1, .int (I u1)), (2, .int (I u2)), (3, .int (I u3)), (5, .int (I u5))] → W p l e ({ frames := 8, cells := 0, slots := 0, locals := 208 }) s m [.ref (q 0), .int (I n1)].toArray below meth c H locs 0 0 (MQ below (QI g A (p_I (MX g q lb) [42, 45, 46, 47, 48, 49, 50, 51, 52] [65, 66, 71, 72, 73, 74, 75, 76, 77, 78, 79, 80, 81, 82, 83, 84, 85, 86, 87, 88, 89, 90, 91, 92, 93, 94] [3, 4, 5, 6, 7] σ Q)) [.ref (q 0), .int (I n1)].toArray s 0 0 A) (F0 m 216 ls []))) := ⟨_, fun _ _ _ _ _ => Iff.rfl⟩
  refine (fun hw => ?_) (hw P27 P216 ?_ ?_)
  ·
    refine lv_aload_n hx hb dX13_findDefinition_0 rfl (lv_at hl 0 rfl) ?_
    refine gfX13_texts hx hb hts hK hP hown (hts _ tw_2028) dX13_findDefinition_1 ?_
    refine lv_aload_n hx hb dX13_findDefinition_4 rfl (lv_at hl 0 rfl) ?_
    refine gfX13_textAt hx hb hts hK hP hown (hts _ tw_2026) dX13_findDefinition_5 ?_
    refine lv_iload_n hx hb dX13_findDefinition_8 rfl (lv_at hl 1 rfl) ?_
    obtain ⟨c1, hw⟩ := hw
    refine ldMX13_textAt hx hb hK hP hN c1 dX13_findDefinition_9 (fun x2 r_x2 e_x2 => ?_)
    replace hw := hw x2 r_x2 e_x2
    obtain ⟨c3, hw⟩ := hw
    refine ldMX13_texts hx hb hK hP hN c3 dX13_findDefinition_10 (fun x4 r_x4 e_x4 => ?_)
    replace hw := hw x4 r_x4 e_x4
    refine lv_aload_n hx hb dX13_findDefinition_11 rfl (lv_at hl 0 rfl) ?_
    refine gfX13_turnstile hx hb hts hK hP hown (hts _ tw_2048) (x := σ.1 11) rfl dX13_findDefinition_12 ?_
    refine bi_icmp_eq (tgt := 20) hx hb r_x4 (hB.1 11) dX13_findDefinition_15 (by decide) (fun c5 => ?_) (fun c5 => ?_)
    ·
      replace hw := hw.1 c5
      refine lv_aload_n hx hb dX13_findDefinition_20 rfl (lv_at hl 0 rfl) ?_
      refine gfX13_hypAt hx hb hts hK hP hown (hts _ tw_2031) dX13_findDefinition_21 ?_
      refine lv_iload_n hx hb dX13_findDefinition_24 rfl (lv_at hl 1 rfl) ?_
      refine ldMX13_hypAt hx hb hK hP hN c1 dX13_findDefinition_25 (fun x6 r_x6 e_x6 => ?_)
      replace hw := hw x6 r_x6 e_x6
      refine lv_istore_n (lv' := [(2, .int (I x6)), (0, .ref (q 0)), (1, .int (I n1))]) hx hb dX13_findDefinition_26 rfl hl (by decide) rfl (fun ls hl => ?_)
      exact (hP27 _ _ _).mp hw r_n1 r_x6 hN hF H locs ls hP hD hS (lv_sub hl [1, 2, 0] rfl)
    ·
      replace hw := hw.2 c5
      refine lv_iconst (v := I (-1)) hx hb dX13_findDefinition_18 rfl ?_
      exact xri hx hb hr hlk hP hK hD hS ⟨_, _, (by decide), rfl, hN, hF, rfl, hw⟩ (Nat.le_of_ble_eq_true rfl) (Nat.le_of_ble_eq_true rfl) dX13_findDefinition_19
  ·
    intro u1 u2 τ hw
    refine (hP27 _ _ _).mpr ?_
    intro r_u1 r_u2 hN hF H locs ls hP hD hS hl
    have hB := hN
    refine lv_iload_n hx hb dX13_findDefinition_27 rfl (lv_at hl 2 rfl) ?_
    refine lv_aload_n hx hb dX13_findDefinition_28 rfl (lv_at hl 0 rfl) ?_
    refine gfX13_hypAt hx hb hts hK hP hown (hts _ tw_2031) dX13_findDefinition_29 ?_
    refine lv_iload_n hx hb dX13_findDefinition_32 rfl (lv_at hl 1 rfl) ?_
    obtain ⟨c7, hw⟩ := hw
    refine ldMX13_hypAt hx hb hK hP hN c7 dX13_findDefinition_33 (fun x8 r_x8 e_x8 => ?_)
    replace hw := hw x8 r_x8 e_x8
    refine lv_aload_n hx hb dX13_findDefinition_34 rfl (lv_at hl 0 rfl) ?_
    refine gfX13_hypSize hx hb hts hK hP hown (hts _ tw_2032) dX13_findDefinition_35 ?_
    refine lv_iload_n hx hb dX13_findDefinition_38 rfl (lv_at hl 1 rfl) ?_
    refine ldMX13_hypSize hx hb hK hP hN c7 dX13_findDefinition_39 (fun x9 r_x9 e_x9 => ?_)
    replace hw := hw x9 r_x9 e_x9
    refine bi_iadd hx hb dX13_findDefinition_40 ?_
    obtain ⟨c10, hw⟩ := hw
    refine bi_icmp_ge (tgt := 67) hx hb r_u2 c10 dX13_findDefinition_41 (by decide) (fun c11 => ?_) (fun c11 => ?_)
    ·
      replace hw := hw.1 c11
      refine lv_aload_n hx hb dX13_findDefinition_67 rfl (lv_at hl 0 rfl) ?_
      refine lv_iload_n hx hb dX13_findDefinition_68 rfl (lv_at hl 1 rfl) ?_
      obtain ⟨Q12, hc, hw⟩ := hw
      refine wc_I (X := MX g q lb) (va_runV (As := [.int (I u1)]) (rest := []) ⟨hx, hb, hml, hown, hts⟩ (L_X13_countTrees l g q lb hlb r_u1 hN hc H.size) (cwV 1 hts (TB_V tw_2904 tw_2906 ts_171 tw_15 co_X13_countTrees) rfl rfl rfl (by decide +kernel) ⟨Nat.le_of_ble_eq_true rfl, Nat.le_of_ble_eq_true rfl⟩) (preV (q0 := 0) (ci := 13) rfl xT_bl hP hK hNb hD rfl rfl xT_at) rfl rfl hl.1 rfl (lv_room (Nat.le_of_ble_eq_true rfl)) dX13_findDefinition_69 ⟨Nat.le_of_ble_eq_true rfl, Nat.le_of_ble_eq_true rfl⟩) hP hD hS hA (fun x13 τ14 H locs r_x13 hN hf hq hP hD hS => ?_)
      replace hw := hw x13 τ14 r_x13 hN hf hq
      have hF : f_r [42, 45, 46, 47, 48, 49, 50, 51, 52] [65, 66, 71, 72, 73, 74, 75, 76, 77, 78, 79, 80, 81, 82, 83, 84, 85, 86, 87, 88, 89, 90, 91, 92, 93, 94] [3, 4, 5, 6, 7] σ τ14 := f_t hF hf (by decide) (by decide) (by decide)
      have hB := hN
      refine lv_iconst (v := I 1) hx hb dX13_findDefinition_72 rfl ?_
      refine bi_icmp_eq (tgt := 78) hx hb r_x13 (by decide) dX13_findDefinition_73 (by decide) (fun c15 => ?_) (fun c15 => ?_)
      ·
        replace hw := hw.1 c15
        refine lv_aload_n hx hb dX13_findDefinition_78 rfl (lv_at hl 0 rfl) ?_
        refine gfX13_nodes hx hb hts hK hP hown (hts _ tw_2155) (x := τ14.1 51) rfl dX13_findDefinition_79 ?_
        refine lv_istore_n (lv' := [(2, .int (I (τ14.1 51))), (0, .ref (q 0)), (1, .int (I u1))]) hx hb dX13_findDefinition_82 rfl hl (by decide) rfl (fun ls hl => ?_)
        refine lv_aload_n hx hb dX13_findDefinition_83 rfl (lv_at hl 1 rfl) ?_
        refine gfX13_kidCount hx hb hts hK hP hown (hts _ tw_2156) (x := τ14.1 52) rfl dX13_findDefinition_84 ?_
        refine lv_istore_n (lv' := [(3, .int (I (τ14.1 52))), (2, .int (I (τ14.1 51))), (0, .ref (q 0)), (1, .int (I u1))]) hx hb dX13_findDefinition_87 rfl hl (by decide) rfl (fun ls hl => ?_)
        refine lv_aload_n hx hb dX13_findDefinition_88 rfl (lv_at hl 2 rfl) ?_
        refine lv_iload_n hx hb dX13_findDefinition_89 rfl (lv_at hl 3 rfl) ?_
        obtain ⟨Q16, hc, hw⟩ := hw
        refine wc_I (X := MX g q lb) (va_runV (As := [.int (I u1)]) (rest := []) ⟨hx, hb, hml, hown, hts⟩ (L_X13_treeOf l g q lb hlb r_u1 hN hc H.size) (cwV 1 hts (TB_V tw_2908 tw_2910 ts_172 tw_15 co_X13_treeOf) rfl rfl rfl (by decide +kernel) ⟨Nat.le_of_ble_eq_true rfl, Nat.le_of_ble_eq_true rfl⟩) (preV (q0 := 0) (ci := 13) rfl xT_bl hP hK hNb hD rfl rfl xT_at) rfl rfl hl.1 rfl (lv_room (Nat.le_of_ble_eq_true rfl)) dX13_findDefinition_90 ⟨Nat.le_of_ble_eq_true rfl, Nat.le_of_ble_eq_true rfl⟩) hP hD hS hA (fun x17 τ18 H locs r_x17 hN hf hq hP hD hS => ?_)
        replace hw := hw x17 τ18 r_x17 hN hf hq
        have hF : f_r [42, 45, 46, 47, 48, 49, 50, 51, 52] [65, 66, 71, 72, 73, 74, 75, 76, 77, 78, 79, 80, 81, 82, 83, 84, 85, 86, 87, 88, 89, 90, 91, 92, 93, 94] [3, 4, 5, 6, 7] σ τ18 := f_t hF hf (by decide) (by decide) (by decide)
        have hB := hN
        refine lv_istore (lv' := [(4, .int (I x17)), (3, .int (I (τ14.1 52))), (2, .int (I (τ14.1 51))), (0, .ref (q 0)), (1, .int (I u1))]) hx hb dX13_findDefinition_93 hl (by decide) rfl (fun ls hl => ?_)
        refine lv_iconst (v := I (-1)) hx hb dX13_findDefinition_95 rfl ?_
        refine lv_istore (lv' := [(5, .int (I (-1))), (4, .int (I x17)), (3, .int (I (τ14.1 52))), (2, .int (I (τ14.1 51))), (0, .ref (q 0)), (1, .int (I u1))]) hx hb dX13_findDefinition_96 hl (by decide) rfl (fun ls hl => ?_)
        refine lv_aload_n hx hb dX13_findDefinition_98 rfl (lv_at hl 4 rfl) ?_
        refine gfX13_nodeIs hx hb hts hK hP hown (hts _ tw_2149) dX13_findDefinition_99 ?_
        refine lv_iload hx hb dX13_findDefinition_102 (lv_at hl 1 rfl) ?_
        obtain ⟨c19, hw⟩ := hw
        refine ldMX13_nodeIs hx hb hK hP hN c19 dX13_findDefinition_104 (fun x20 r_x20 e_x20 => ?_)
        replace hw := hw x20 r_x20 e_x20
        refine lv_istore (lv' := [(6, .int (I x20)), (5, .int (I (-1))), (4, .int (I x17)), (3, .int (I (τ14.1 52))), (2, .int (I (τ14.1 51))), (0, .ref (q 0)), (1, .int (I u1))]) hx hb dX13_findDefinition_105 hl (by decide) rfl (fun ls hl => ?_)
        refine lv_iload hx hb dX13_findDefinition_107 (lv_at hl 0 rfl) ?_
        refine bi_if_lt (tgt := 216) hx hb r_x20 dX13_findDefinition_109 (by decide) (fun c21 => ?_) (fun c21 => ?_)
        ·
          replace hw := hw.1 c21
          obtain ⟨c22, hw⟩ := hw
          obtain ⟨c23, hw⟩ := hw
          exact (hP216 _ _ _ _ _).mp hw r_u1 c22 c23 (by decide) hN hF H locs ls hP hD hS (lv_sub hl [5, 6, 4, 3, 1] rfl)
        ·
          replace hw := hw.2 c21
          refine lv_aload_n hx hb dX13_findDefinition_112 rfl (lv_at hl 5 rfl) ?_
          refine gfX13_isEquality hx hb hts hK hP hown (hts _ tw_2162) dX13_findDefinition_113 ?_
          refine lv_iload hx hb dX13_findDefinition_116 (lv_at hl 0 rfl) ?_
          obtain ⟨c24, hw⟩ := hw
          refine ldMX13_isEquality hx hb hK hP hN c24 dX13_findDefinition_118 (fun x25 r_x25 e_x25 => ?_)
          replace hw := hw x25 r_x25 e_x25
          refine bi_if_eq (tgt := 216) hx hb r_x25 dX13_findDefinition_119 (by decide) (fun c26 => ?_) (fun c26 => ?_)
          ·
            replace hw := hw.1 c26
            obtain ⟨c27, hw⟩ := hw
            obtain ⟨c28, hw⟩ := hw
            exact (hP216 _ _ _ _ _).mp hw r_u1 c27 c28 (by decide) hN hF H locs ls hP hD hS (lv_sub hl [5, 6, 4, 3, 1] rfl)
          ·
            replace hw := hw.2 c26
            refine lv_aload_n hx hb dX13_findDefinition_122 rfl (lv_at hl 5 rfl) ?_
            refine lv_iload hx hb dX13_findDefinition_123 (lv_at hl 0 rfl) ?_
            obtain ⟨Q29, hc, hw⟩ := hw
            refine wc_i (X := MX g q lb) (va_runV (As := [.int (I x20)]) (rest := []) ⟨hx, hb, hml, hown, hts⟩ (L_X13_firstSide l g q lb hlb r_x20 hN hc H.size) (cwV 1 hts (TB_V tw_3027 tw_3029 ts_199 tw_15 co_X13_firstSide) rfl rfl rfl (by decide +kernel) ⟨Nat.le_of_ble_eq_true rfl, Nat.le_of_ble_eq_true rfl⟩) (preV (q0 := 0) (ci := 13) rfl xT_bl hP hK hNb hD rfl rfl xT_at) rfl rfl hl.1 rfl (lv_room (Nat.le_of_ble_eq_true rfl)) dX13_findDefinition_125 ⟨Nat.le_of_ble_eq_true rfl, Nat.le_of_ble_eq_true rfl⟩) hP hD hS hA (fun x30 H locs r_x30 hq hP hD hS => ?_)
            replace hw := hw x30 r_x30 hq
            refine lv_istore (lv' := [(7, .int (I x30)), (6, .int (I x20)), (5, .int (I (-1))), (4, .int (I x17)), (3, .int (I (τ14.1 52))), (2, .int (I (τ14.1 51))), (0, .ref (q 0)), (1, .int (I u1))]) hx hb dX13_findDefinition_128 hl (by decide) rfl (fun ls hl => ?_)
            refine lv_aload_n hx hb dX13_findDefinition_130 rfl (lv_at hl 6 rfl) ?_
            refine gfX13_kids hx hb hts hK hP hown (hts _ tw_2154) dX13_findDefinition_131 ?_
            refine lv_aload_n hx hb dX13_findDefinition_134 rfl (lv_at hl 6 rfl) ?_
            refine gfX13_nodeKids hx hb hts hK hP hown (hts _ tw_2150) dX13_findDefinition_135 ?_
            refine lv_iload hx hb dX13_findDefinition_138 (lv_at hl 3 rfl) ?_
            refine ldMX13_nodeKids hx hb hK hP hN c19 dX13_findDefinition_140 (fun x32 r_x32 e_x32 => ?_)
            replace hw := hw x32 r_x32 e_x32
            refine lv_iload hx hb dX13_findDefinition_141 (lv_at hl 0 rfl) ?_
            refine bi_iadd hx hb dX13_findDefinition_143 ?_
            obtain ⟨c33, hw⟩ := hw
            refine ldMX13_kids hx hb hK hP hN c33 dX13_findDefinition_144 (fun x34 r_x34 e_x34 => ?_)
            replace hw := hw x34 r_x34 e_x34
            refine lv_istore (lv' := [(8, .int (I x34)), (7, .int (I x30)), (6, .int (I x20)), (5, .int (I (-1))), (4, .int (I x17)), (3, .int (I (τ14.1 52))), (2, .int (I (τ14.1 51))), (0, .ref (q 0)), (1, .int (I u1))]) hx hb dX13_findDefinition_145 hl (by decide) rfl (fun ls hl => ?_)
            refine lv_aload_n hx hb dX13_findDefinition_147 rfl (lv_at hl 7 rfl) ?_
            refine gfX13_kids hx hb hts hK hP hown (hts _ tw_2154) dX13_findDefinition_148 ?_
            refine lv_aload_n hx hb dX13_findDefinition_151 rfl (lv_at hl 7 rfl) ?_
            refine gfX13_nodeKids hx hb hts hK hP hown (hts _ tw_2150) dX13_findDefinition_152 ?_
            refine lv_iload hx hb dX13_findDefinition_155 (lv_at hl 4 rfl) ?_
            refine ldMX13_nodeKids hx hb hK hP hN c19 dX13_findDefinition_157 (fun x35 r_x35 e_x35 => ?_)
            replace hw := hw x35 r_x35 e_x35
            refine lv_iconst (v := I 1) hx hb dX13_findDefinition_158 rfl ?_
            refine bi_iadd hx hb dX13_findDefinition_159 ?_
            refine lv_iload hx hb dX13_findDefinition_160 (lv_at hl 1 rfl) ?_
            refine bi_isub hx hb dX13_findDefinition_162 ?_
            obtain ⟨c36, hw⟩ := hw
            refine ldMX13_kids hx hb hK hP hN c36 dX13_findDefinition_163 (fun x37 r_x37 e_x37 => ?_)
            replace hw := hw x37 r_x37 e_x37
            refine lv_istore (lv' := [(9, .int (I x37)), (8, .int (I x34)), (7, .int (I x30)), (6, .int (I x20)), (5, .int (I (-1))), (4, .int (I x17)), (3, .int (I (τ14.1 52))), (2, .int (I (τ14.1 51))), (0, .ref (q 0)), (1, .int (I u1))]) hx hb dX13_findDefinition_164 hl (by decide) rfl (fun ls hl => ?_)
            refine lv_aload_n hx hb dX13_findDefinition_166 rfl (lv_at hl 8 rfl) ?_
            refine gfX13_nodeIs hx hb hts hK hP hown (hts _ tw_2149) dX13_findDefinition_167 ?_
            refine lv_iload hx hb dX13_findDefinition_170 (lv_at hl 1 rfl) ?_
            obtain ⟨c38, hw⟩ := hw
            refine ldMX13_nodeIs hx hb hK hP hN c38 dX13_findDefinition_172 (fun x39 r_x39 e_x39 => ?_)
            replace hw := hw x39 r_x39 e_x39
            refine lv_istore (lv' := [(10, .int (I x39)), (9, .int (I x37)), (8, .int (I x34)), (7, .int (I x30)), (6, .int (I x20)), (5, .int (I (-1))), (4, .int (I x17)), (3, .int (I (τ14.1 52))), (2, .int (I (τ14.1 51))), (0, .ref (q 0)), (1, .int (I u1))]) hx hb dX13_findDefinition_173 hl (by decide) rfl (fun ls hl => ?_)
            refine lv_iload hx hb dX13_findDefinition_175 (lv_at hl 0 rfl) ?_
            refine bi_if_lt (tgt := 216) hx hb r_x39 dX13_findDefinition_177 (by decide) (fun c40 => ?_) (fun c40 => ?_)
            ·
              replace hw := hw.1 c40
              obtain ⟨c41, hw⟩ := hw
              obtain ⟨c42, hw⟩ := hw
              exact (hP216 _ _ _ _ _).mp hw r_u1 c41 c42 (by decide) hN hF H locs ls hP hD hS (lv_sub hl [9, 10, 8, 7, 5] rfl)
            ·
              replace hw := hw.2 c40
              refine lv_aload_n hx hb dX13_findDefinition_180 rfl (lv_at hl 9 rfl) ?_
              refine gfX13_isEquality hx hb hts hK hP hown (hts _ tw_2162) dX13_findDefinition_181 ?_
              refine lv_iload hx hb dX13_findDefinition_184 (lv_at hl 0 rfl) ?_
              obtain ⟨c43, hw⟩ := hw
              refine ldMX13_isEquality hx hb hK hP hN c43 dX13_findDefinition_186 (fun x44 r_x44 e_x44 => ?_)
              replace hw := hw x44 r_x44 e_x44
              refine bi_if_ne (tgt := 216) hx hb r_x44 dX13_findDefinition_187 (by decide) (fun c45 => ?_) (fun c45 => ?_)
              ·
                replace hw := hw.1 c45
                obtain ⟨c46, hw⟩ := hw
                obtain ⟨c47, hw⟩ := hw
                exact (hP216 _ _ _ _ _).mp hw r_u1 c46 c47 (by decide) hN hF H locs ls hP hD hS (lv_sub hl [9, 10, 8, 7, 5] rfl)
              ·
                replace hw := hw.2 c45
                refine lv_aload_n hx hb dX13_findDefinition_190 rfl (lv_at hl 9 rfl) ?_
                refine lv_iload hx hb dX13_findDefinition_191 (lv_at hl 2 rfl) ?_
                obtain ⟨Q48, hc, hw⟩ := hw
                refine wc_i (X := MX g q lb) (va_runV (As := [.int (I x34)]) (rest := []) ⟨hx, hb, hml, hown, hts⟩ (L_X13_isFlat l g q lb hlb r_x34 hN hc H.size) (cwV 1 hts (TB_V tw_3031 tw_3033 ts_200 tw_15 co_X13_isFlat) rfl rfl rfl (by decide +kernel) ⟨Nat.le_of_ble_eq_true rfl, Nat.le_of_ble_eq_true rfl⟩) (preV (q0 := 0) (ci := 13) rfl xT_bl hP hK hNb hD rfl rfl xT_at) rfl rfl hl.1 rfl (lv_room (Nat.le_of_ble_eq_true rfl)) dX13_findDefinition_193 ⟨Nat.le_of_ble_eq_true rfl, Nat.le_of_ble_eq_true rfl⟩) hP hD hS hA (fun x49 H locs r_x49 hq hP hD hS => ?_)
                replace hw := hw x49 r_x49 hq
                refine bi_if_eq (tgt := 216) hx hb r_x49 dX13_findDefinition_196 (by decide) (fun c51 => ?_) (fun c51 => ?_)
                ·
                  replace hw := hw.1 c51
                  obtain ⟨c52, hw⟩ := hw
                  obtain ⟨c53, hw⟩ := hw
                  exact (hP216 _ _ _ _ _).mp hw r_u1 c52 c53 (by decide) hN hF H locs ls hP hD hS (lv_sub hl [9, 10, 8, 7, 5] rfl)
                ·
                  replace hw := hw.2 c51
                  refine lv_aload_n hx hb dX13_findDefinition_199 rfl (lv_at hl 9 rfl) ?_
                  refine lv_iload hx hb dX13_findDefinition_200 (lv_at hl 1 rfl) ?_
                  refine lv_iload hx hb dX13_findDefinition_202 (lv_at hl 0 rfl) ?_
                  refine lv_iload hx hb dX13_findDefinition_204 (lv_at hl 2 rfl) ?_
                  obtain ⟨Q54, hc, hw⟩ := hw
                  refine wc_I (X := MX g q lb) (va_runV (As := [.int (I x37), .int (I x39), .int (I x34)]) (rest := []) ⟨hx, hb, hml, hown, hts⟩ (L_X13_isPlain l g q lb hlb r_x37 r_x39 r_x34 hN hc H.size) (cwV 3 hts (TB_V tw_3035 tw_3037 ts_201 tw_15 co_X13_isPlain) rfl rfl rfl (by decide +kernel) ⟨Nat.le_of_ble_eq_true rfl, Nat.le_of_ble_eq_true rfl⟩) (preV (q0 := 0) (ci := 13) rfl xT_bl hP hK hNb hD rfl rfl xT_at) rfl rfl hl.1 rfl (lv_room (Nat.le_of_ble_eq_true rfl)) dX13_findDefinition_206 ⟨Nat.le_of_ble_eq_true rfl, Nat.le_of_ble_eq_true rfl⟩) hP hD hS hA (fun x55 τ56 H locs r_x55 hN hf hq hP hD hS => ?_)
                  replace hw := hw x55 τ56 r_x55 hN hf hq
                  have hF : f_r [42, 45, 46, 47, 48, 49, 50, 51, 52] [65, 66, 71, 72, 73, 74, 75, 76, 77, 78, 79, 80, 81, 82, 83, 84, 85, 86, 87, 88, 89, 90, 91, 92, 93, 94] [3, 4, 5, 6, 7] σ τ56 := f_t hF hf (by decide) (by decide) (by decide)
                  have hB := hN
                  refine bi_if_eq (tgt := 216) hx hb r_x55 dX13_findDefinition_209 (by decide) (fun c57 => ?_) (fun c57 => ?_)
                  ·
                    replace hw := hw.1 c57
                    obtain ⟨c58, hw⟩ := hw
                    obtain ⟨c59, hw⟩ := hw
                    exact (hP216 _ _ _ _ _).mp hw r_u1 c58 c59 (by decide) hN hF H locs ls hP hD hS (lv_sub hl [9, 10, 8, 7, 5] rfl)
                  ·
                    replace hw := hw.2 c57
                    refine lv_iload hx hb dX13_findDefinition_212 (lv_at hl 0 rfl) ?_
                    refine lv_istore (lv' := [(5, .int (I x39)), (10, .int (I x39)), (9, .int (I x37)), (8, .int (I x34)), (7, .int (I x30)), (6, .int (I x20)), (4, .int (I x17)), (3, .int (I (τ14.1 52))), (2, .int (I (τ14.1 51))), (0, .ref (q 0)), (1, .int (I u1))]) hx hb dX13_findDefinition_214 hl (by decide) rfl (fun ls hl => ?_)
                    obtain ⟨c60, hw⟩ := hw
                    obtain ⟨c61, hw⟩ := hw
                    exact (hP216 _ _ _ _ _).mp hw r_u1 c60 c61 r_x39 hN hF H locs ls hP hD hS (lv_sub hl [9, 10, 8, 7, 0] rfl)
      ·
        replace hw := hw.2 c15
        refine lv_iconst (v := I (-1)) hx hb dX13_findDefinition_76 rfl ?_
        exact xri hx hb hr hlk hP hK hD hS ⟨_, _, (by decide), rfl, hN, hF, rfl, hw⟩ (Nat.le_of_ble_eq_true rfl) (Nat.le_of_ble_eq_true rfl) dX13_findDefinition_77
    ·
      replace hw := hw.2 c11
      refine lv_aload_n hx hb dX13_findDefinition_44 rfl (lv_at hl 0 rfl) ?_
      refine gfX13_kindOf hx hb hts hK hP hown (hts _ tw_2025) dX13_findDefinition_45 ?_
      refine lv_aload_n hx hb dX13_findDefinition_48 rfl (lv_at hl 0 rfl) ?_
      refine gfX13_hyps hx hb hts hK hP hown (hts _ tw_2033) dX13_findDefinition_49 ?_
      refine lv_iload_n hx hb dX13_findDefinition_52 rfl (lv_at hl 2 rfl) ?_
      obtain ⟨c62, hw⟩ := hw
      refine ldMX13_hyps hx hb hK hP hN c62 dX13_findDefinition_53 (fun x63 r_x63 e_x63 => ?_)
      replace hw := hw x63 r_x63 e_x63
      obtain ⟨c64, hw⟩ := hw
      refine ldMX13_kindOf hx hb hK hP hN c64 dX13_findDefinition_54 (fun x65 r_x65 e_x65 => ?_)
      replace hw := hw x65 r_x65 e_x65
      refine lv_iconst (v := I 1) hx hb dX13_findDefinition_55 rfl ?_
      refine bi_icmp_ne (tgt := 61) hx hb r_x65 (by decide) dX13_findDefinition_56 (by decide) (fun c66 => ?_) (fun c66 => ?_)
      ·
        replace hw := hw.1 c66
        refine lv_iinc (v := I (u2 + 1)) (lv' := [(2, .int (I (u2 + 1))), (0, .ref (q 0)), (1, .int (I u1))]) hx hb dX13_findDefinition_61 hl (k := 2) rfl (I_add _ _) (by decide) rfl (fun ls hl => ?_)
        refine lv_goto (tgt := 27) hx hb dX13_findDefinition_64 (by decide) ?_
        obtain ⟨c67, hw⟩ := hw
        exact (hP27 _ _ _).mp hw r_u1 c67 hN hF H locs ls hP hD hS (lv_sub hl [1, 2, 0] rfl)
      ·
        replace hw := hw.2 c66
        refine lv_iconst (v := I (-1)) hx hb dX13_findDefinition_59 rfl ?_
        exact xri hx hb hr hlk hP hK hD hS ⟨_, _, (by decide), rfl, hN, hF, rfl, hw⟩ (Nat.le_of_ble_eq_true rfl) (Nat.le_of_ble_eq_true rfl) dX13_findDefinition_60
  ·
    intro u1 u2 u3 u5 τ hw
    refine (hP216 _ _ _ _ _).mpr ?_
    intro r_u1 r_u2 r_u3 r_u5 hN hF H locs ls hP hD hS hl
    have hB := hN
    refine lv_aload_n hx hb dX13_findDefinition_216 rfl (lv_at hl 0 rfl) ?_
    refine lv_iload_n hx hb dX13_findDefinition_217 rfl (lv_at hl 2 rfl) ?_
    refine pfX13_nodes hx hb hts hK hP hD hS hown (hts _ tw_2155) dX13_findDefinition_218 (fun H locs hP hD hS => ?_)
    have hN : n_m (s_v τ 51 u2) := n_v (i := 51) hN (r_u2 : rg u2)
    have hF : f_r [42, 45, 46, 47, 48, 49, 50, 51, 52] [65, 66, 71, 72, 73, 74, 75, 76, 77, 78, 79, 80, 81, 82, 83, 84, 85, 86, 87, 88, 89, 90, 91, 92, 93, 94] [3, 4, 5, 6, 7] σ (s_v τ 51 u2) := f_v hF (by decide)
    refine lv_aload_n hx hb dX13_findDefinition_221 rfl (lv_at hl 0 rfl) ?_
    refine lv_iload_n hx hb dX13_findDefinition_222 rfl (lv_at hl 3 rfl) ?_
    refine pfX13_kidCount hx hb hts hK hP hD hS hown (hts _ tw_2156) dX13_findDefinition_223 (fun H locs hP hD hS => ?_)
    have hN : n_m (s_v (s_v τ 51 u2) 52 u3) := n_v (i := 52) hN (r_u3 : rg u3)
    have hF : f_r [42, 45, 46, 47, 48, 49, 50, 51, 52] [65, 66, 71, 72, 73, 74, 75, 76, 77, 78, 79, 80, 81, 82, 83, 84, 85, 86, 87, 88, 89, 90, 91, 92, 93, 94] [3, 4, 5, 6, 7] σ (s_v (s_v τ 51 u2) 52 u3) := f_v hF (by decide)
    refine lv_iload hx hb dX13_findDefinition_226 (lv_at hl 4 rfl) ?_
    refine lv_iconst (v := I (-1)) hx hb dX13_findDefinition_228 rfl ?_
    refine bi_icmp_eq (tgt := 242) hx hb r_u5 (by decide) dX13_findDefinition_229 (by decide) (fun c68 => ?_) (fun c68 => ?_)
    ·
      replace hw := hw.1 c68
      refine lv_iconst (v := I (-1)) hx hb dX13_findDefinition_242 rfl ?_
      refine lv_goto (tgt := 248) hx hb dX13_findDefinition_243 (by decide) ?_
      exact xri hx hb hr hlk hP hK hD hS ⟨_, _, (by decide), rfl, hN, hF, rfl, hw⟩ (Nat.le_of_ble_eq_true rfl) (Nat.le_of_ble_eq_true rfl) dX13_findDefinition_248
    ·
      replace hw := hw.2 c68
      refine lv_aload_n hx hb dX13_findDefinition_232 rfl (lv_at hl 0 rfl) ?_
      refine lv_iload_n hx hb dX13_findDefinition_233 rfl (lv_at hl 1 rfl) ?_
      refine lv_iload hx hb dX13_findDefinition_234 (lv_at hl 4 rfl) ?_
      obtain ⟨Q69, hc, hw⟩ := hw
      refine wc_I (X := MX g q lb) (va_runV (As := [.int (I u1), .int (I u5)]) (rest := []) ⟨hx, hb, hml, hown, hts⟩ (L_X13_isUsedBefore l g q lb hlb r_u1 r_u5 hN hc H.size) (cwV 2 hts (TB_V tw_3047 tw_3049 ts_204 tw_15 co_X13_isUsedBefore) rfl rfl rfl (by decide +kernel) ⟨Nat.le_of_ble_eq_true rfl, Nat.le_of_ble_eq_true rfl⟩) (preV (q0 := 0) (ci := 13) rfl xT_bl hP hK hNb hD rfl rfl xT_at) rfl rfl hl.1 rfl (lv_room (Nat.le_of_ble_eq_true rfl)) dX13_findDefinition_236 ⟨Nat.le_of_ble_eq_true rfl, Nat.le_of_ble_eq_true rfl⟩) hP hD hS hA (fun x70 τ71 H locs r_x70 hN hf hq hP hD hS => ?_)
      replace hw := hw x70 τ71 r_x70 hN hf hq
      have hF : f_r [42, 45, 46, 47, 48, 49, 50, 51, 52] [65, 66, 71, 72, 73, 74, 75, 76, 77, 78, 79, 80, 81, 82, 83, 84, 85, 86, 87, 88, 89, 90, 91, 92, 93, 94] [3, 4, 5, 6, 7] σ τ71 := f_t hF hf (by decide) (by decide) (by decide)
      have hB := hN
      refine bi_if_eq (tgt := 246) hx hb r_x70 dX13_findDefinition_239 (by decide) (fun c72 => ?_) (fun c72 => ?_)
      ·
        replace hw := hw.1 c72
        refine lv_iload hx hb dX13_findDefinition_246 (lv_at hl 4 rfl) ?_
        exact xri hx hb hr hlk hP hK hD hS ⟨_, _, r_u5, rfl, hN, hF, rfl, hw⟩ (Nat.le_of_ble_eq_true rfl) (Nat.le_of_ble_eq_true rfl) dX13_findDefinition_248
      ·
        replace hw := hw.2 c72
        refine lv_iconst (v := I (-1)) hx hb dX13_findDefinition_242 rfl ?_
        refine lv_goto (tgt := 248) hx hb dX13_findDefinition_243 (by decide) ?_
        exact xri hx hb hr hlk hP hK hD hS ⟨_, _, (by decide), rfl, hN, hF, rfl, hw⟩ (Nat.le_of_ble_eq_true rfl) (Nat.le_of_ble_eq_true rfl) dX13_findDefinition_248
def W_X13_definitionOf (n1 : Int) (σ : S0) (Q : Int → S0 → Prop) : Prop :=
  (0 ≤ n1 ∧ n1 < 1501) ∧ (∀ (x2 : Int), rg x2 → x2 = σ.2.1 95 n1 → ((¬ x2 = (-9) → ∀ (x4 : Int), rg x4 → x4 = σ.2.1 95 n1 → (Q x4 σ)) ∧ (x2 = (-9) → ∃ (Q5 : Int → S0 → Prop), W_X13_findDefinition n1 σ Q5 ∧ ∀ (x6 : Int) (τ7 : S0), rg x6 → n_m τ7 → f_r [42, 45, 46, 47, 48, 49, 50, 51, 52] [65, 66, 71, 72, 73, 74, 75, 76, 77, 78, 79, 80, 81, 82, 83, 84, 85, 86, 87, 88, 89, 90, 91, 92, 93, 94] [3, 4, 5, 6, 7] σ τ7 → Q5 x6 τ7 → (∀ (x8 : Int), rg x8 → x8 = (st (τ7.2.1 95) n1 x6) n1 → (Q x8 (s_a τ7 95 n1 x6))))))
set_option maxRecDepth 100000 in
set_option maxHeartbeats 4000000 in
theorem L_X13_definitionOf (l : Launch) (g : gG) (q : Nat → Nat) (lb : Nat) (hlb : lb < 2 ^ 31) {n1 : Int} {σ : S0} {Q : Int → S0 → Prop} (r_n1 : rg n1) (hN : n_m σ) (hw : W_X13_definitionOf n1 σ Q) (sz : Nat) : MetI l yX13_definitionOf cX13_definitionOf 2 (some .int) { frames := 9, cells := 0, slots := 0, locals := 238 } g [.ref (q 0), .int (I n1)] (MX g q lb σ) sz xT (p_I (MX g q lb) [42, 45, 46, 47, 48, 49, 50, 51, 52] [65, 66, 71, 72, 73, 74, 75, 76, 77, 78, 79, 80, 81, 82, 83, 84, 85, 86, 87, 88, 89, 90, 91, 92, 93, 94, 95] [3, 4, 5, 6, 7] σ Q) 0 0 := by
  refine mkMet (Qc := fun A => QI g A (p_I (MX g q lb) [42, 45, 46, 47, 48, 49, 50, 51, 52] [65, 66, 71, 72, 73, 74, 75, 76, 77, 78, 79, 80, 81, 82, 83, 84, 85, 86, 87, 88, 89, 90, 91, 92, 93, 94, 95] [3, 4, 5, 6, 7] σ Q)) (by decide) (Nat.le_of_ble_eq_true rfl) ?_
  intro p e s m below meth c A H ls hx hb hr hml hown hts hlk hnm hsz hP hK hNb hD hA hAe hS hX hl
  have hl : lv_has ls 2 [(0, .ref (q 0)), (1, .int (I n1))] := hl
  have hB := hN
  have hF : f_r [42, 45, 46, 47, 48, 49, 50, 51, 52] [65, 66, 71, 72, 73, 74, 75, 76, 77, 78, 79, 80, 81, 82, 83, 84, 85, 86, 87, 88, 89, 90, 91, 92, 93, 94, 95] [3, 4, 5, 6, 7] σ σ := f_0
  obtain ⟨locs, hlocs⟩ : ∃ z : List Loc, z = [] := ⟨_, rfl⟩
  rw [← hlocs] at hS ⊢
  refine lv_aload_n hx hb dX13_definitionOf_0 rfl (lv_at hl 0 rfl) ?_
  refine gfX13_definitions hx hb hts hK hP hown (hts _ tw_2161) dX13_definitionOf_1 ?_
  refine lv_iload_n hx hb dX13_definitionOf_4 rfl (lv_at hl 1 rfl) ?_
  obtain ⟨c1, hw⟩ := hw
  refine ldMX13_definitions hx hb hK hP hN c1 dX13_definitionOf_5 (fun x2 r_x2 e_x2 => ?_)
  replace hw := hw x2 r_x2 e_x2
  refine lv_bipush (v := I (-9)) hx hb dX13_definitionOf_6 (by decide) ?_
  refine bi_icmp_ne (tgt := 22) hx hb r_x2 (by decide) dX13_definitionOf_8 (by decide) (fun c3 => ?_) (fun c3 => ?_)
  ·
    replace hw := hw.1 c3
    refine lv_aload_n hx hb dX13_definitionOf_22 rfl (lv_at hl 0 rfl) ?_
    refine gfX13_definitions hx hb hts hK hP hown (hts _ tw_2161) dX13_definitionOf_23 ?_
    refine lv_iload_n hx hb dX13_definitionOf_26 rfl (lv_at hl 1 rfl) ?_
    refine ldMX13_definitions hx hb hK hP hN c1 dX13_definitionOf_27 (fun x4 r_x4 e_x4 => ?_)
    replace hw := hw x4 r_x4 e_x4
    exact xri hx hb hr hlk hP hK hD hS ⟨_, _, r_x4, rfl, hN, hF, rfl, hw⟩ (Nat.le_of_ble_eq_true rfl) (Nat.le_of_ble_eq_true rfl) dX13_definitionOf_28
  ·
    replace hw := hw.2 c3
    refine lv_aload_n hx hb dX13_definitionOf_11 rfl (lv_at hl 0 rfl) ?_
    refine gfX13_definitions hx hb hts hK hP hown (hts _ tw_2161) dX13_definitionOf_12 ?_
    refine lv_iload_n hx hb dX13_definitionOf_15 rfl (lv_at hl 1 rfl) ?_
    refine lv_aload_n hx hb dX13_definitionOf_16 rfl (lv_at hl 0 rfl) ?_
    refine lv_iload_n hx hb dX13_definitionOf_17 rfl (lv_at hl 1 rfl) ?_
    obtain ⟨Q5, hc, hw⟩ := hw
    refine wc_I (X := MX g q lb) (va_runV (As := [.int (I n1)]) (rest := [.int (I n1), .ref (q 104)]) ⟨hx, hb, hml, hown, hts⟩ (L_X13_findDefinition l g q lb hlb r_n1 hN hc H.size) (cwV 1 hts (TB_V tw_3023 tw_3025 ts_198 tw_15 co_X13_findDefinition) rfl rfl rfl (by decide +kernel) ⟨Nat.le_of_ble_eq_true rfl, Nat.le_of_ble_eq_true rfl⟩) (preV (q0 := 0) (ci := 13) rfl xT_bl hP hK hNb hD rfl rfl xT_at) rfl rfl hl.1 rfl (lv_room (Nat.le_of_ble_eq_true rfl)) dX13_definitionOf_18 ⟨Nat.le_of_ble_eq_true rfl, Nat.le_of_ble_eq_true rfl⟩) hP hD hS hA (fun x6 τ7 H locs r_x6 hN hf hq hP hD hS => ?_)
    replace hw := hw x6 τ7 r_x6 hN hf hq
    have hF : f_r [42, 45, 46, 47, 48, 49, 50, 51, 52] [65, 66, 71, 72, 73, 74, 75, 76, 77, 78, 79, 80, 81, 82, 83, 84, 85, 86, 87, 88, 89, 90, 91, 92, 93, 94, 95] [3, 4, 5, 6, 7] σ τ7 := f_t hF hf (by decide) (by decide) (by decide)
    have hB := hN
    refine sdMX13_definitions hx hb hK hP hD hS c1 dX13_definitionOf_21 (fun H locs hP hD hS => ?_)
    have hN : n_m (s_a τ7 95 n1 x6) := n_a (k := 95) (j := n1) hN (r_x6 : rg x6)
    have hF : f_r [42, 45, 46, 47, 48, 49, 50, 51, 52] [65, 66, 71, 72, 73, 74, 75, 76, 77, 78, 79, 80, 81, 82, 83, 84, 85, 86, 87, 88, 89, 90, 91, 92, 93, 94, 95] [3, 4, 5, 6, 7] σ (s_a τ7 95 n1 x6) := f_a hF (by decide)
    refine lv_aload_n hx hb dX13_definitionOf_22 rfl (lv_at hl 0 rfl) ?_
    refine gfX13_definitions hx hb hts hK hP hown (hts _ tw_2161) dX13_definitionOf_23 ?_
    refine lv_iload_n hx hb dX13_definitionOf_26 rfl (lv_at hl 1 rfl) ?_
    refine ldMX13_definitions hx hb hK hP hN c1 dX13_definitionOf_27 (fun x8 r_x8 e_x8 => ?_)
    replace hw := hw x8 r_x8 e_x8
    exact xri hx hb hr hlk hP hK hD hS ⟨_, _, r_x8, rfl, hN, hF, rfl, hw⟩ (Nat.le_of_ble_eq_true rfl) (Nat.le_of_ble_eq_true rfl) dX13_definitionOf_28
def W_X13_definition (n1 : Int) (σ : S0) (Q : Int → S0 → Prop) : Prop :=
  ∃ (Q1 : Int → Prop), W_X13_isStatement n1 σ Q1 ∧ ∀ (x2 : Int), rg x2 → Q1 x2 → ((x2 = 0 → Q (-1) σ) ∧ (¬ x2 = 0 → (0 ≤ n1 ∧ n1 < 1501) ∧ (∀ (x6 : Int), rg x6 → x6 = σ.2.1 13 n1 → ((x6 = 2 → ∀ (x8 : Int), rg x8 → x8 = σ.2.1 15 n1 → ((x8 ≤ 60 → ∃ (Q10 : Int → S0 → Prop), W_X13_definitionOf n1 σ Q10 ∧ ∀ (x11 : Int) (τ12 : S0), rg x11 → n_m τ12 → f_r [42, 45, 46, 47, 48, 49, 50, 51, 52] [65, 66, 71, 72, 73, 74, 75, 76, 77, 78, 79, 80, 81, 82, 83, 84, 85, 86, 87, 88, 89, 90, 91, 92, 93, 94, 95] [3, 4, 5, 6, 7] σ τ12 → Q10 x11 τ12 → (Q x11 τ12)) ∧ (60 < x8 → Q (-2) σ))) ∧ (¬ x6 = 2 → Q (-1) σ)))))
set_option maxRecDepth 100000 in
set_option maxHeartbeats 4000000 in
theorem L_X13_definition (l : Launch) (g : gG) (q : Nat → Nat) (lb : Nat) (hlb : lb < 2 ^ 31) {n1 : Int} {σ : S0} {Q : Int → S0 → Prop} (r_n1 : rg n1) (hN : n_m σ) (hw : W_X13_definition n1 σ Q) (sz : Nat) : MetI l yX13_definition cX13_definition 2 (some .int) { frames := 10, cells := 0, slots := 0, locals := 259 } g [.ref (q 0), .int (I n1)] (MX g q lb σ) sz xT (p_I (MX g q lb) [42, 45, 46, 47, 48, 49, 50, 51, 52] [65, 66, 71, 72, 73, 74, 75, 76, 77, 78, 79, 80, 81, 82, 83, 84, 85, 86, 87, 88, 89, 90, 91, 92, 93, 94, 95] [3, 4, 5, 6, 7] σ Q) 0 0 := by
  refine mkMet (Qc := fun A => QI g A (p_I (MX g q lb) [42, 45, 46, 47, 48, 49, 50, 51, 52] [65, 66, 71, 72, 73, 74, 75, 76, 77, 78, 79, 80, 81, 82, 83, 84, 85, 86, 87, 88, 89, 90, 91, 92, 93, 94, 95] [3, 4, 5, 6, 7] σ Q)) (by decide) (Nat.le_of_ble_eq_true rfl) ?_
  intro p e s m below meth c A H ls hx hb hr hml hown hts hlk hnm hsz hP hK hNb hD hA hAe hS hX hl
  have hl : lv_has ls 2 [(0, .ref (q 0)), (1, .int (I n1))] := hl
  have hB := hN
  have hF : f_r [42, 45, 46, 47, 48, 49, 50, 51, 52] [65, 66, 71, 72, 73, 74, 75, 76, 77, 78, 79, 80, 81, 82, 83, 84, 85, 86, 87, 88, 89, 90, 91, 92, 93, 94, 95] [3, 4, 5, 6, 7] σ σ := f_0
  obtain ⟨locs, hlocs⟩ : ∃ z : List Loc, z = [] := ⟨_, rfl⟩
  rw [← hlocs] at hS ⊢
  refine lv_aload_n hx hb dX13_definition_0 rfl (lv_at hl 0 rfl) ?_
  refine lv_iload_n hx hb dX13_definition_1 rfl (lv_at hl 1 rfl) ?_
  obtain ⟨Q1, hc, hw⟩ := hw
  refine wc_i (X := MX g q lb) (va_runV (As := [.int (I n1)]) (rest := []) ⟨hx, hb, hml, hown, hts⟩ (L_X13_isStatement l g q lb hlb r_n1 hN hc H.size) (cwV 1 hts (TB_V tw_2803 tw_2805 ts_161 tw_15 co_X13_isStatement) rfl rfl rfl (by decide +kernel) ⟨Nat.le_of_ble_eq_true rfl, Nat.le_of_ble_eq_true rfl⟩) (preV (q0 := 0) (ci := 13) rfl xT_bl hP hK hNb hD rfl rfl xT_at) rfl rfl hl.1 rfl (lv_room (Nat.le_of_ble_eq_true rfl)) dX13_definition_2 ⟨Nat.le_of_ble_eq_true rfl, Nat.le_of_ble_eq_true rfl⟩) hP hD hS hA (fun x2 H locs r_x2 hq hP hD hS => ?_)
  replace hw := hw x2 r_x2 hq
  refine bi_if_eq (tgt := 18) hx hb r_x2 dX13_definition_5 (by decide) (fun c4 => ?_) (fun c4 => ?_)
  ·
    replace hw := hw.1 c4
    refine lv_iconst (v := I (-1)) hx hb dX13_definition_18 rfl ?_
    exact xri hx hb hr hlk hP hK hD hS ⟨_, _, (by decide), rfl, hN, hF, rfl, hw⟩ (Nat.le_of_ble_eq_true rfl) (Nat.le_of_ble_eq_true rfl) dX13_definition_19
  ·
    replace hw := hw.2 c4
    refine lv_aload_n hx hb dX13_definition_8 rfl (lv_at hl 0 rfl) ?_
    refine gfX13_kindOf hx hb hts hK hP hown (hts _ tw_2025) dX13_definition_9 ?_
    refine lv_iload_n hx hb dX13_definition_12 rfl (lv_at hl 1 rfl) ?_
    obtain ⟨c5, hw⟩ := hw
    refine ldMX13_kindOf hx hb hK hP hN c5 dX13_definition_13 (fun x6 r_x6 e_x6 => ?_)
    replace hw := hw x6 r_x6 e_x6
    refine lv_iconst (v := I 2) hx hb dX13_definition_14 rfl ?_
    refine bi_icmp_eq (tgt := 20) hx hb r_x6 (by decide) dX13_definition_15 (by decide) (fun c7 => ?_) (fun c7 => ?_)
    ·
      replace hw := hw.1 c7
      refine lv_aload_n hx hb dX13_definition_20 rfl (lv_at hl 0 rfl) ?_
      refine gfX13_textSize hx hb hts hK hP hown (hts _ tw_2027) dX13_definition_21 ?_
      refine lv_iload_n hx hb dX13_definition_24 rfl (lv_at hl 1 rfl) ?_
      refine ldMX13_textSize hx hb hK hP hN c5 dX13_definition_25 (fun x8 r_x8 e_x8 => ?_)
      replace hw := hw x8 r_x8 e_x8
      refine lv_bipush (v := I 60) hx hb dX13_definition_26 (by decide) ?_
      refine bi_icmp_le (tgt := 36) hx hb r_x8 (by decide) dX13_definition_28 (by decide) (fun c9 => ?_) (fun c9 => ?_)
      ·
        replace hw := hw.1 c9
        refine lv_aload_n hx hb dX13_definition_36 rfl (lv_at hl 0 rfl) ?_
        refine lv_iload_n hx hb dX13_definition_37 rfl (lv_at hl 1 rfl) ?_
        obtain ⟨Q10, hc, hw⟩ := hw
        refine wc_I (X := MX g q lb) (va_runV (As := [.int (I n1)]) (rest := []) ⟨hx, hb, hml, hown, hts⟩ (L_X13_definitionOf l g q lb hlb r_n1 hN hc H.size) (cwV 1 hts (TB_V tw_3019 tw_3021 ts_197 tw_15 co_X13_definitionOf) rfl rfl rfl (by decide +kernel) ⟨Nat.le_of_ble_eq_true rfl, Nat.le_of_ble_eq_true rfl⟩) (preV (q0 := 0) (ci := 13) rfl xT_bl hP hK hNb hD rfl rfl xT_at) rfl rfl hl.1 rfl (lv_room (Nat.le_of_ble_eq_true rfl)) dX13_definition_38 ⟨Nat.le_of_ble_eq_true rfl, Nat.le_of_ble_eq_true rfl⟩) hP hD hS hA (fun x11 τ12 H locs r_x11 hN hf hq hP hD hS => ?_)
        replace hw := hw x11 τ12 r_x11 hN hf hq
        have hF : f_r [42, 45, 46, 47, 48, 49, 50, 51, 52] [65, 66, 71, 72, 73, 74, 75, 76, 77, 78, 79, 80, 81, 82, 83, 84, 85, 86, 87, 88, 89, 90, 91, 92, 93, 94, 95] [3, 4, 5, 6, 7] σ τ12 := f_t hF hf (by decide) (by decide) (by decide)
        have hB := hN
        exact xri hx hb hr hlk hP hK hD hS ⟨_, _, r_x11, rfl, hN, hF, rfl, hw⟩ (Nat.le_of_ble_eq_true rfl) (Nat.le_of_ble_eq_true rfl) dX13_definition_41
      ·
        replace hw := hw.2 c9
        refine lv_bipush (v := I (-2)) hx hb dX13_definition_31 (by decide) ?_
        refine lv_goto (tgt := 41) hx hb dX13_definition_33 (by decide) ?_
        exact xri hx hb hr hlk hP hK hD hS ⟨_, _, (by decide), rfl, hN, hF, rfl, hw⟩ (Nat.le_of_ble_eq_true rfl) (Nat.le_of_ble_eq_true rfl) dX13_definition_41
    ·
      replace hw := hw.2 c7
      refine lv_iconst (v := I (-1)) hx hb dX13_definition_18 rfl ?_
      exact xri hx hb hr hlk hP hK hD hS ⟨_, _, (by decide), rfl, hN, hF, rfl, hw⟩ (Nat.le_of_ble_eq_true rfl) (Nat.le_of_ble_eq_true rfl) dX13_definition_19
def W_X13_ruleOf (n1 : Int) (σ : S0) (Q : Int → S0 → Prop) : Prop :=
  (0 ≤ n1 ∧ n1 < 1501) ∧ (∀ (x2 : Int), rg x2 → x2 = σ.2.1 13 n1 → ((¬ x2 = 2 → Q (-1) σ) ∧ (x2 = 2 → ∀ (x4 : Int), rg x4 → x4 = σ.2.1 15 n1 → ((60 < x4 → Q (-1) σ) ∧ (x4 ≤ 60 → ∃ (Q6 : Int → S0 → Prop), W_X13_definitionOf n1 σ Q6 ∧ ∀ (x7 : Int) (τ8 : S0), rg x7 → n_m τ8 → f_r [42, 45, 46, 47, 48, 49, 50, 51, 52] [65, 66, 71, 72, 73, 74, 75, 76, 77, 78, 79, 80, 81, 82, 83, 84, 85, 86, 87, 88, 89, 90, 91, 92, 93, 94, 95] [3, 4, 5, 6, 7] σ τ8 → Q6 x7 τ8 → (Q x7 τ8))))))
set_option maxRecDepth 100000 in
set_option maxHeartbeats 4000000 in
theorem L_X13_ruleOf (l : Launch) (g : gG) (q : Nat → Nat) (lb : Nat) (hlb : lb < 2 ^ 31) {n1 : Int} {σ : S0} {Q : Int → S0 → Prop} (r_n1 : rg n1) (hN : n_m σ) (hw : W_X13_ruleOf n1 σ Q) (sz : Nat) : MetI l yX13_ruleOf cX13_ruleOf 2 (some .int) { frames := 10, cells := 0, slots := 0, locals := 259 } g [.ref (q 0), .int (I n1)] (MX g q lb σ) sz xT (p_I (MX g q lb) [42, 45, 46, 47, 48, 49, 50, 51, 52] [65, 66, 71, 72, 73, 74, 75, 76, 77, 78, 79, 80, 81, 82, 83, 84, 85, 86, 87, 88, 89, 90, 91, 92, 93, 94, 95] [3, 4, 5, 6, 7] σ Q) 0 0 := by
  refine mkMet (Qc := fun A => QI g A (p_I (MX g q lb) [42, 45, 46, 47, 48, 49, 50, 51, 52] [65, 66, 71, 72, 73, 74, 75, 76, 77, 78, 79, 80, 81, 82, 83, 84, 85, 86, 87, 88, 89, 90, 91, 92, 93, 94, 95] [3, 4, 5, 6, 7] σ Q)) (by decide) (Nat.le_of_ble_eq_true rfl) ?_
  intro p e s m below meth c A H ls hx hb hr hml hown hts hlk hnm hsz hP hK hNb hD hA hAe hS hX hl
  have hl : lv_has ls 2 [(0, .ref (q 0)), (1, .int (I n1))] := hl
  have hB := hN
  have hF : f_r [42, 45, 46, 47, 48, 49, 50, 51, 52] [65, 66, 71, 72, 73, 74, 75, 76, 77, 78, 79, 80, 81, 82, 83, 84, 85, 86, 87, 88, 89, 90, 91, 92, 93, 94, 95] [3, 4, 5, 6, 7] σ σ := f_0
  obtain ⟨locs, hlocs⟩ : ∃ z : List Loc, z = [] := ⟨_, rfl⟩
  rw [← hlocs] at hS ⊢
  refine lv_aload_n hx hb dX13_ruleOf_0 rfl (lv_at hl 0 rfl) ?_
  refine gfX13_kindOf hx hb hts hK hP hown (hts _ tw_2025) dX13_ruleOf_1 ?_
  refine lv_iload_n hx hb dX13_ruleOf_4 rfl (lv_at hl 1 rfl) ?_
  obtain ⟨c1, hw⟩ := hw
  refine ldMX13_kindOf hx hb hK hP hN c1 dX13_ruleOf_5 (fun x2 r_x2 e_x2 => ?_)
  replace hw := hw x2 r_x2 e_x2
  refine lv_iconst (v := I 2) hx hb dX13_ruleOf_6 rfl ?_
  refine bi_icmp_ne (tgt := 29) hx hb r_x2 (by decide) dX13_ruleOf_7 (by decide) (fun c3 => ?_) (fun c3 => ?_)
  ·
    replace hw := hw.1 c3
    refine lv_iconst (v := I (-1)) hx hb dX13_ruleOf_29 rfl ?_
    exact xri hx hb hr hlk hP hK hD hS ⟨_, _, (by decide), rfl, hN, hF, rfl, hw⟩ (Nat.le_of_ble_eq_true rfl) (Nat.le_of_ble_eq_true rfl) dX13_ruleOf_30
  ·
    replace hw := hw.2 c3
    refine lv_aload_n hx hb dX13_ruleOf_10 rfl (lv_at hl 0 rfl) ?_
    refine gfX13_textSize hx hb hts hK hP hown (hts _ tw_2027) dX13_ruleOf_11 ?_
    refine lv_iload_n hx hb dX13_ruleOf_14 rfl (lv_at hl 1 rfl) ?_
    refine ldMX13_textSize hx hb hK hP hN c1 dX13_ruleOf_15 (fun x4 r_x4 e_x4 => ?_)
    replace hw := hw x4 r_x4 e_x4
    refine lv_bipush (v := I 60) hx hb dX13_ruleOf_16 (by decide) ?_
    refine bi_icmp_gt (tgt := 29) hx hb r_x4 (by decide) dX13_ruleOf_18 (by decide) (fun c5 => ?_) (fun c5 => ?_)
    ·
      replace hw := hw.1 c5
      refine lv_iconst (v := I (-1)) hx hb dX13_ruleOf_29 rfl ?_
      exact xri hx hb hr hlk hP hK hD hS ⟨_, _, (by decide), rfl, hN, hF, rfl, hw⟩ (Nat.le_of_ble_eq_true rfl) (Nat.le_of_ble_eq_true rfl) dX13_ruleOf_30
    ·
      replace hw := hw.2 c5
      refine lv_aload_n hx hb dX13_ruleOf_21 rfl (lv_at hl 0 rfl) ?_
      refine lv_iload_n hx hb dX13_ruleOf_22 rfl (lv_at hl 1 rfl) ?_
      obtain ⟨Q6, hc, hw⟩ := hw
      refine wc_I (X := MX g q lb) (va_runV (As := [.int (I n1)]) (rest := []) ⟨hx, hb, hml, hown, hts⟩ (L_X13_definitionOf l g q lb hlb r_n1 hN hc H.size) (cwV 1 hts (TB_V tw_3019 tw_3021 ts_197 tw_15 co_X13_definitionOf) rfl rfl rfl (by decide +kernel) ⟨Nat.le_of_ble_eq_true rfl, Nat.le_of_ble_eq_true rfl⟩) (preV (q0 := 0) (ci := 13) rfl xT_bl hP hK hNb hD rfl rfl xT_at) rfl rfl hl.1 rfl (lv_room (Nat.le_of_ble_eq_true rfl)) dX13_ruleOf_23 ⟨Nat.le_of_ble_eq_true rfl, Nat.le_of_ble_eq_true rfl⟩) hP hD hS hA (fun x7 τ8 H locs r_x7 hN hf hq hP hD hS => ?_)
      replace hw := hw x7 τ8 r_x7 hN hf hq
      have hF : f_r [42, 45, 46, 47, 48, 49, 50, 51, 52] [65, 66, 71, 72, 73, 74, 75, 76, 77, 78, 79, 80, 81, 82, 83, 84, 85, 86, 87, 88, 89, 90, 91, 92, 93, 94, 95] [3, 4, 5, 6, 7] σ τ8 := f_t hF hf (by decide) (by decide) (by decide)
      have hB := hN
      refine lv_goto (tgt := 30) hx hb dX13_ruleOf_26 (by decide) ?_
      exact xri hx hb hr hlk hP hK hD hS ⟨_, _, r_x7, rfl, hN, hF, rfl, hw⟩ (Nat.le_of_ble_eq_true rfl) (Nat.le_of_ble_eq_true rfl) dX13_ruleOf_30
def W_X13_needRules (n1 : Int) (n2 : Int) (σ : S0) (Q : S0 → Prop) : Prop :=
  ∀ (P8 : Int → Int → Int → S0 → Prop) (P66 : Int → Int → Int → Int → Int → S0 → Prop),
  (∀ (u1 : Int) (u2 : Int) (u3 : Int) (τ : S0), ((τ.1 5 ≤ u3 → Q τ) ∧ (u3 < τ.1 5 → (0 ≤ u3 ∧ u3 < 1501) ∧ (∀ (x6 : Int), rg x6 → x6 = τ.2.1 98 u3 → ((¬ x6 = 0 → P66 u1 u2 u3 u3 1 τ) ∧ (x6 = 0 → (u3 = u2 → P66 u1 u2 u3 u3 0 τ) ∧ (¬ u3 = u2 → ∀ (x9 : Int), rg x9 → (0 ≤ u3 → x9 = u3 / 64) → (u3 < 0 → x9 = -((-u3) / 64)) → ((0 ≤ ((24 * u1) + x9) ∧ ((24 * u1) + x9) < 36024) ∧ (∀ (x11 : Int64), x11 = τ.2.2 7 ((24 * u1) + x9) → (∀ (x12 : Int), rg x12 → (0 ≤ u3 → x12 = u3 % 64) → (u3 < 0 → x12 = -((-u3) % 64)) → ((¬ ((j_shr x11 x12) &&& 1) = 1 → P66 u1 u2 u3 u3 0 τ) ∧ (((j_shr x11 x12) &&& 1) = 1 → P66 u1 u2 u3 u3 1 τ))))))))))) → P8 u1 u2 u3 τ) →
  (∀ (u1 : Int) (u2 : Int) (u3 : Int) (k1 : Int) (k2 : Int) (τ : S0), ((0 ≤ k1 ∧ k1 < 1501) ∧ ((0 ≤ k2 ∧ k2 ≤ 1) ∧ (rg (u3 + 1) ∧ P8 u1 u2 (u3 + 1) (s_a τ 98 k1 k2)))) → P66 u1 u2 u3 k1 k2 τ) →
  ∃ (Q1 : Int → S0 → Prop), W_X13_countTrees n1 σ Q1 ∧ ∀ (x2 : Int) (τ3 : S0), rg x2 → n_m τ3 → f_r [45, 46, 47, 48, 49, 50, 51, 52] [71, 72, 73, 74, 75, 76, 77, 78, 79, 80, 81, 82, 83, 84, 85, 86, 87, 88, 89, 90, 91, 92, 93, 94] [3, 4, 5, 6, 7] σ τ3 → Q1 x2 τ3 → (P8 n1 n2 0 τ3)
set_option maxRecDepth 100000 in
set_option maxHeartbeats 4000000 in
theorem L_X13_needRules (l : Launch) (g : gG) (q : Nat → Nat) (lb : Nat) (hlb : lb < 2 ^ 31) {n1 : Int} {n2 : Int} {σ : S0} {Q : S0 → Prop} (r_n1 : rg n1) (r_n2 : rg n2) (hN : n_m σ) (hw : W_X13_needRules n1 n2 σ Q) (sz : Nat) : MetV l yX13_needRules cX13_needRules 4 { frames := 7, cells := 0, slots := 0, locals := 184 } g [.ref (q 0), .int (I n1), .int (I n2)] (MX g q lb σ) sz xT (p_V (MX g q lb) [45, 46, 47, 48, 49, 50, 51, 52] [71, 72, 73, 74, 75, 76, 77, 78, 79, 80, 81, 82, 83, 84, 85, 86, 87, 88, 89, 90, 91, 92, 93, 94, 98] [3, 4, 5, 6, 7] σ Q) 0 0 := by
  refine mkMet (Qc := fun A => QV g A (p_V (MX g q lb) [45, 46, 47, 48, 49, 50, 51, 52] [71, 72, 73, 74, 75, 76, 77, 78, 79, 80, 81, 82, 83, 84, 85, 86, 87, 88, 89, 90, 91, 92, 93, 94, 98] [3, 4, 5, 6, 7] σ Q)) (by decide) (Nat.le_of_ble_eq_true rfl) ?_
  intro p e s m below meth c A H ls hx hb hr hml hown hts hlk hnm hsz hP hK hNb hD hA hAe hS hX hl
  have hl : lv_has ls 4 [(0, .ref (q 0)), (1, .int (I n1)), (2, .int (I n2))] := hl
  have hB := hN
  have hF : f_r [45, 46, 47, 48, 49, 50, 51, 52] [71, 72, 73, 74, 75, 76, 77, 78, 79, 80, 81, 82, 83, 84, 85, 86, 87, 88, 89, 90, 91, 92, 93, 94, 98] [3, 4, 5, 6, 7] σ σ := f_0
  obtain ⟨locs, hlocs⟩ : ∃ z : List Loc, z = [] := ⟨_, rfl⟩
  rw [← hlocs] at hS ⊢
  obtain ⟨P8, hP8⟩ : ∃ P : Int → Int → Int → S0 → Prop, ∀ (u1 : Int) (u2 : Int) (u3 : Int) (τ : S0), (P u1 u2 u3 τ ↔ (rg u1 → rg u2 → rg u3 → n_m τ → f_r [45, 46, 47, 48, 49, 50, 51, 52] [71, 72, 73, 74, 75, 76, 77, 78, 79, 80, 81, 82, 83, 84, 85, 86, 87, 88, 89, 90, 91, 92, 93, 94, 98] [3, 4, 5, 6, 7] σ τ → ∀ (H : Heap) (locs : List Loc) (ls : Array Slot), KP g (MX g q lb τ) H → va_D A (MX g q lb τ) → va_S A s.heap H locs → lv_has ls 4 [(0, .ref (q 0)), (1, .int (I u1)), (2, .int (I u2)), (3, .int (I u3))] → W p l e ({ frames := 7, cells := 0, slots := 0, locals := 184 }) s m [.ref (q 0), .int (I n1), .int (I n2)].toArray below meth c H locs 0 0 (MQ below (QV g A (p_V (MX g q lb) [45, 46, 47, 48, 49, 50, 51, 52] [71, 72, 73, 74, 75, 76, 77, 78, 79, 80, 81, 82, 83, 84, 85, 86, 87, 88, 89, 90, 91, 92, 93, 94, 98] [3, 4, 5, 6, 7] σ Q)) [.ref (q 0), .int (I n1), .int (I n2)].toArray s 0 0 A) (F0 m 8 ls []))) := ⟨_, fun _ _ _ _ => Iff.rfl⟩
  obtain ⟨P66, hP66⟩ : ∃ P : Int → Int → Int → Int → Int → S0 → Prop, ∀ (u1 : Int) (u2 : Int) (u3 : Int) (k1 : Int) (k2 : Int) (τ : S0), (P u1 u2 u3 k1 k2 τ ↔ (rg u1 → rg u2 → rg u3 → rg k1 → rg k2 → n_m τ → f_r [45, 46, 47, 48, 49, 50, 51, 52] [71, 72, 73, 74, 75, 76, 77, 78, 79, 80, 81, 82, 83, 84, 85, 86, 87, 88, 89, 90, 91, 92, 93, 94, 98] [3, 4, 5, 6, 7] σ τ → ∀ (H : Heap) (locs : List Loc) (ls : Array Slot), KP g (MX g q lb τ) H → va_D A (MX g q lb τ) → va_S A s.heap H locs → lv_has ls 4 [(0, .ref (q 0)), (1, .int (I u1)), (2, .int (I u2)), (3, .int (I u3))] → W p l e ({ frames := 7, cells := 0, slots := 0, locals := 184 }) s m [.ref (q 0), .int (I n1), .int (I n2)].toArray below meth c H locs 0 0 (MQ below (QV g A (p_V (MX g q lb) [45, 46, 47, 48, 49, 50, 51, 52] [71, 72, 73, 74, 75, 76, 77, 78, 79, 80, 81, 82, 83, 84, 85, 86, 87, 88, 89, 90, 91, 92, 93, 94, 98] [3, 4, 5, 6, 7] σ Q)) [.ref (q 0), .int (I n1), .int (I n2)].toArray s 0 0 A) (F0 m 66 ls [.int (I k2), .int (I k1), .ref (q 107)]))) := ⟨_, fun _ _ _ _ _ _ => Iff.rfl⟩
  refine (fun hw => ?_) (hw P8 P66 ?_ ?_)
  ·
    refine lv_aload_n hx hb dX13_needRules_0 rfl (lv_at hl 0 rfl) ?_
    refine lv_iload_n hx hb dX13_needRules_1 rfl (lv_at hl 1 rfl) ?_
    obtain ⟨Q1, hc, hw⟩ := hw
    refine wc_I (X := MX g q lb) (va_runV (As := [.int (I n1)]) (rest := []) ⟨hx, hb, hml, hown, hts⟩ (L_X13_countTrees l g q lb hlb r_n1 hN hc H.size) (cwV 1 hts (TB_V tw_2904 tw_2906 ts_171 tw_15 co_X13_countTrees) rfl rfl rfl (by decide +kernel) ⟨Nat.le_of_ble_eq_true rfl, Nat.le_of_ble_eq_true rfl⟩) (preV (q0 := 0) (ci := 13) rfl xT_bl hP hK hNb hD rfl rfl xT_at) rfl rfl hl.1 rfl (lv_room (Nat.le_of_ble_eq_true rfl)) dX13_needRules_2 ⟨Nat.le_of_ble_eq_true rfl, Nat.le_of_ble_eq_true rfl⟩) hP hD hS hA (fun x2 τ3 H locs r_x2 hN hf hq hP hD hS => ?_)
    replace hw := hw x2 τ3 r_x2 hN hf hq
    have hF : f_r [45, 46, 47, 48, 49, 50, 51, 52] [71, 72, 73, 74, 75, 76, 77, 78, 79, 80, 81, 82, 83, 84, 85, 86, 87, 88, 89, 90, 91, 92, 93, 94, 98] [3, 4, 5, 6, 7] σ τ3 := f_t hF hf (by decide) (by decide) (by decide)
    have hB := hN
    refine lv_pop hx hb dX13_needRules_5 rfl ?_
    refine lv_iconst (v := I 0) hx hb dX13_needRules_6 rfl ?_
    refine lv_istore_n (lv' := [(3, .int (I 0)), (0, .ref (q 0)), (1, .int (I n1)), (2, .int (I n2))]) hx hb dX13_needRules_7 rfl hl (by decide) rfl (fun ls hl => ?_)
    exact (hP8 _ _ _ _).mp hw r_n1 r_n2 (by decide) hN hF H locs ls hP hD hS (lv_sub hl [1, 2, 3, 0] rfl)
  ·
    intro u1 u2 u3 τ hw
    refine (hP8 _ _ _ _).mpr ?_
    intro r_u1 r_u2 r_u3 hN hF H locs ls hP hD hS hl
    have hB := hN
    refine lv_iload_n hx hb dX13_needRules_8 rfl (lv_at hl 3 rfl) ?_
    refine lv_aload_n hx hb dX13_needRules_9 rfl (lv_at hl 0 rfl) ?_
    refine gfX13_statements hx hb hts hK hP hown (hts _ tw_2024) (x := τ.1 5) rfl dX13_needRules_10 ?_
    refine bi_icmp_ge (tgt := 73) hx hb r_u3 (hB.1 5) dX13_needRules_13 (by decide) (fun c4 => ?_) (fun c4 => ?_)
    ·
      replace hw := hw.1 c4
      exact xrv hx hb hr hlk hP hK hD hS ⟨_, hN, hF, rfl, hw⟩ (Nat.le_of_ble_eq_true rfl) (Nat.le_of_ble_eq_true rfl) dX13_needRules_73
    ·
      replace hw := hw.2 c4
      refine lv_aload_n hx hb dX13_needRules_16 rfl (lv_at hl 0 rfl) ?_
      refine gfX13_isNeeded hx hb hts hK hP hown (hts _ tw_2164) dX13_needRules_17 ?_
      refine lv_iload_n hx hb dX13_needRules_20 rfl (lv_at hl 3 rfl) ?_
      refine lv_aload_n hx hb dX13_needRules_21 rfl (lv_at hl 0 rfl) ?_
      refine gfX13_isNeeded hx hb hts hK hP hown (hts _ tw_2164) dX13_needRules_22 ?_
      refine lv_iload_n hx hb dX13_needRules_25 rfl (lv_at hl 3 rfl) ?_
      obtain ⟨c5, hw⟩ := hw
      refine ldMX13_isNeeded hx hb hK hP hN c5 dX13_needRules_26 (fun x6 r_x6 e_x6 => ?_)
      replace hw := hw x6 r_x6 e_x6
      refine bi_if_ne (tgt := 61) hx hb r_x6 dX13_needRules_27 (by decide) (fun c7 => ?_) (fun c7 => ?_)
      ·
        replace hw := hw.1 c7
        refine lv_iconst (v := I 1) hx hb dX13_needRules_61 rfl ?_
        refine lv_goto (tgt := 66) hx hb dX13_needRules_62 (by decide) ?_
        exact (hP66 _ _ _ _ _ _).mp hw r_u1 r_u2 r_u3 r_u3 (by decide) hN hF H locs ls hP hD hS (lv_sub hl [0, 1, 2, 3] rfl)
      ·
        replace hw := hw.2 c7
        refine lv_iload_n hx hb dX13_needRules_30 rfl (lv_at hl 3 rfl) ?_
        refine lv_iload_n hx hb dX13_needRules_31 rfl (lv_at hl 2 rfl) ?_
        refine bi_icmp_eq (tgt := 65) hx hb r_u3 r_u2 dX13_needRules_32 (by decide) (fun c8 => ?_) (fun c8 => ?_)
        ·
          replace hw := hw.1 c8
          refine lv_iconst (v := I 0) hx hb dX13_needRules_65 rfl ?_
          exact (hP66 _ _ _ _ _ _).mp hw r_u1 r_u2 r_u3 r_u3 (by decide) hN hF H locs ls hP hD hS (lv_sub hl [0, 1, 2, 3] rfl)
        ·
          replace hw := hw.2 c8
          refine lv_aload_n hx hb dX13_needRules_35 rfl (lv_at hl 0 rfl) ?_
          refine gfX13_rulesIn hx hb hts hK hP hown (hts _ tw_2160) dX13_needRules_36 ?_
          refine lv_bipush (v := I 24) hx hb dX13_needRules_39 (by decide) ?_
          refine lv_iload_n hx hb dX13_needRules_41 rfl (lv_at hl 1 rfl) ?_
          refine bi_imul hx hb dX13_needRules_42 ?_
          refine lv_iload_n hx hb dX13_needRules_43 rfl (lv_at hl 3 rfl) ?_
          refine lv_bipush (v := I 64) hx hb dX13_needRules_44 (by decide) ?_
          refine bi_idiv hx hb r_u3 (by decide) (by decide) dX13_needRules_46 (fun x9 r_x9 p_x9 m_x9 => ?_)
          replace hw := hw x9 r_x9 p_x9 m_x9
          refine bi_iadd hx hb dX13_needRules_47 ?_
          obtain ⟨c10, hw⟩ := hw
          refine ldMX13_rulesIn hx hb hK hP hN c10 dX13_needRules_48 (fun x11 e_x11 => ?_)
          replace hw := hw x11 e_x11
          refine lv_iload_n hx hb dX13_needRules_49 rfl (lv_at hl 3 rfl) ?_
          refine lv_bipush (v := I 64) hx hb dX13_needRules_50 (by decide) ?_
          refine bi_irem hx hb r_u3 (by decide) (by decide) dX13_needRules_52 (fun x12 r_x12 p_x12 m_x12 => ?_)
          replace hw := hw x12 r_x12 p_x12 m_x12
          refine bi_lshr hx hb dX13_needRules_53 ?_
          refine lv_lconst (v := 1) hx hb dX13_needRules_54 (by decide) ?_
          refine lv_land hx hb dX13_needRules_55 ?_
          refine lv_lconst (v := 1) hx hb dX13_needRules_56 (by decide) ?_
          refine bi_lcmp_ne (tgt := 65) hx hb dX13_needRules_57 dX13_needRules_58 (by decide) (fun c13 => ?_) (fun c13 => ?_)
          ·
            replace hw := hw.1 c13
            refine lv_iconst (v := I 0) hx hb dX13_needRules_65 rfl ?_
            exact (hP66 _ _ _ _ _ _).mp hw r_u1 r_u2 r_u3 r_u3 (by decide) hN hF H locs ls hP hD hS (lv_sub hl [0, 1, 2, 3] rfl)
          ·
            replace hw := hw.2 c13
            refine lv_iconst (v := I 1) hx hb dX13_needRules_61 rfl ?_
            refine lv_goto (tgt := 66) hx hb dX13_needRules_62 (by decide) ?_
            exact (hP66 _ _ _ _ _ _).mp hw r_u1 r_u2 r_u3 r_u3 (by decide) hN hF H locs ls hP hD hS (lv_sub hl [0, 1, 2, 3] rfl)
  ·
    intro u1 u2 u3 k1 k2 τ hw
    refine (hP66 _ _ _ _ _ _).mpr ?_
    intro r_u1 r_u2 r_u3 r_k1 r_k2 hN hF H locs ls hP hD hS hl
    have hB := hN
    obtain ⟨c14, hw⟩ := hw
    obtain ⟨c15, hw⟩ := hw
    refine sdMX13_isNeeded hx hb hK hP hD hS c14 c15 dX13_needRules_66 (fun H locs hP hD hS => ?_)
    have hN : n_m (s_a τ 98 k1 k2) := n_a (k := 98) (j := k1) hN (r_k2 : rg k2)
    have hF : f_r [45, 46, 47, 48, 49, 50, 51, 52] [71, 72, 73, 74, 75, 76, 77, 78, 79, 80, 81, 82, 83, 84, 85, 86, 87, 88, 89, 90, 91, 92, 93, 94, 98] [3, 4, 5, 6, 7] σ (s_a τ 98 k1 k2) := f_a hF (by decide)
    refine lv_iinc (v := I (u3 + 1)) (lv' := [(3, .int (I (u3 + 1))), (0, .ref (q 0)), (1, .int (I u1)), (2, .int (I u2))]) hx hb dX13_needRules_67 hl (k := 3) rfl (I_add _ _) (by decide) rfl (fun ls hl => ?_)
    refine lv_goto (tgt := 8) hx hb dX13_needRules_70 (by decide) ?_
    obtain ⟨c16, hw⟩ := hw
    exact (hP8 _ _ _ _).mp hw r_u1 r_u2 c16 hN hF H locs ls hP hD hS (lv_sub hl [1, 2, 3, 0] rfl)
def W_X13_findDefiners (n1 : Int) (σ : S0) (Q : S0 → Prop) : Prop :=
  ∀ (P2 : Int → Int → S0 → Prop) (P32 : Int → Int → S0 → Prop) (P81 : Int → S0 → Prop),
  (∀ (u1 : Int) (u2 : Int) (τ : S0), ((τ.1 5 ≤ u2 → P32 u1 0 τ) ∧ (u2 < τ.1 5 → (0 ≤ u2 ∧ u2 < 1501) ∧ (rg (u2 + 1) ∧ P2 u1 (u2 + 1) (s_a (s_a τ 97 u2 (-1)) 98 u2 0)))) → P2 u1 u2 τ) →
  (∀ (u1 : Int) (u2 : Int) (τ : S0), ((u1 ≤ u2 → ∃ (Q5 : S0 → Prop), W_X13_needRules u1 (-1) τ Q5 ∧ ∀ (τ7 : S0), n_m τ7 → f_r [45, 46, 47, 48, 49, 50, 51, 52] [71, 72, 73, 74, 75, 76, 77, 78, 79, 80, 81, 82, 83, 84, 85, 86, 87, 88, 89, 90, 91, 92, 93, 94, 98] [3, 4, 5, 6, 7] τ τ7 → Q5 τ7 → (rg (u1 - 1) ∧ P81 (u1 - 1) τ7)) ∧ (u2 < u1 → ∃ (Q9 : Int → S0 → Prop), W_X13_ruleOf u2 τ Q9 ∧ ∀ (x10 : Int) (τ11 : S0), rg x10 → n_m τ11 → f_r [42, 45, 46, 47, 48, 49, 50, 51, 52] [65, 66, 71, 72, 73, 74, 75, 76, 77, 78, 79, 80, 81, 82, 83, 84, 85, 86, 87, 88, 89, 90, 91, 92, 93, 94, 95] [3, 4, 5, 6, 7] τ τ11 → Q9 x10 τ11 → ((x10 = (-1) → rg (u2 + 1) ∧ P32 u1 (u2 + 1) τ11) ∧ (¬ x10 = (-1) → (0 ≤ x10 ∧ x10 < 1501) ∧ (∀ (x15 : Int), rg x15 → x15 = τ11.2.1 97 x10 → ((¬ x15 = (-1) → rg (u2 + 1) ∧ P32 u1 (u2 + 1) τ11) ∧ (x15 = (-1) → rg (u2 + 1) ∧ P32 u1 (u2 + 1) (s_a τ11 97 x10 u2)))))))) → P32 u1 u2 τ) →
  (∀ (u2 : Int) (τ : S0), ((u2 < 0 → Q τ) ∧ (0 ≤ u2 → ∃ (Q20 : Int → S0 → Prop), W_X13_ruleOf u2 τ Q20 ∧ ∀ (x21 : Int) (τ22 : S0), rg x21 → n_m τ22 → f_r [42, 45, 46, 47, 48, 49, 50, 51, 52] [65, 66, 71, 72, 73, 74, 75, 76, 77, 78, 79, 80, 81, 82, 83, 84, 85, 86, 87, 88, 89, 90, 91, 92, 93, 94, 95] [3, 4, 5, 6, 7] τ τ22 → Q20 x21 τ22 → ((x21 = (-1) → rg (u2 + (-1)) ∧ P81 (u2 + (-1)) τ22) ∧ (¬ x21 = (-1) → (0 ≤ x21 ∧ x21 < 1501) ∧ (∀ (x26 : Int), rg x26 → x26 = τ22.2.1 97 x21 → ((¬ x26 = u2 → rg (u2 + (-1)) ∧ P81 (u2 + (-1)) τ22) ∧ (x26 = u2 → ∀ (x29 : Int), rg x29 → x29 = τ22.2.1 98 x21 → ((x29 = 0 → rg (u2 + (-1)) ∧ P81 (u2 + (-1)) τ22) ∧ (¬ x29 = 0 → ∃ (Q32 : S0 → Prop), W_X13_needRules u2 x21 τ22 Q32 ∧ ∀ (τ34 : S0), n_m τ34 → f_r [45, 46, 47, 48, 49, 50, 51, 52] [71, 72, 73, 74, 75, 76, 77, 78, 79, 80, 81, 82, 83, 84, 85, 86, 87, 88, 89, 90, 91, 92, 93, 94, 98] [3, 4, 5, 6, 7] τ22 τ34 → Q32 τ34 → (rg (u2 + (-1)) ∧ P81 (u2 + (-1)) τ34)))))))))) → P81 u2 τ) →
  P2 n1 0 σ
set_option maxRecDepth 100000 in
set_option maxHeartbeats 4000000 in
theorem L_X13_findDefiners (l : Launch) (g : gG) (q : Nat → Nat) (lb : Nat) (hlb : lb < 2 ^ 31) {n1 : Int} {σ : S0} {Q : S0 → Prop} (r_n1 : rg n1) (hN : n_m σ) (hw : W_X13_findDefiners n1 σ Q) (sz : Nat) : MetV l yX13_findDefiners cX13_findDefiners 4 { frames := 11, cells := 0, slots := 0, locals := 280 } g [.ref (q 0), .int (I n1)] (MX g q lb σ) sz xT (p_V (MX g q lb) [42, 45, 46, 47, 48, 49, 50, 51, 52] [65, 66, 71, 72, 73, 74, 75, 76, 77, 78, 79, 80, 81, 82, 83, 84, 85, 86, 87, 88, 89, 90, 91, 92, 93, 94, 95, 97, 98] [3, 4, 5, 6, 7] σ Q) 0 0 := by
  refine mkMet (Qc := fun A => QV g A (p_V (MX g q lb) [42, 45, 46, 47, 48, 49, 50, 51, 52] [65, 66, 71, 72, 73, 74, 75, 76, 77, 78, 79, 80, 81, 82, 83, 84, 85, 86, 87, 88, 89, 90, 91, 92, 93, 94, 95, 97, 98] [3, 4, 5, 6, 7] σ Q)) (by decide) (Nat.le_of_ble_eq_true rfl) ?_
  intro p e s m below meth c A H ls hx hb hr hml hown hts hlk hnm hsz hP hK hNb hD hA hAe hS hX hl
  have hl : lv_has ls 4 [(0, .ref (q 0)), (1, .int (I n1))] := hl
  have hB := hN
  have hF : f_r [42, 45, 46, 47, 48, 49, 50, 51, 52] [65, 66, 71, 72, 73, 74, 75, 76, 77, 78, 79, 80, 81, 82, 83, 84, 85, 86, 87, 88, 89, 90, 91, 92, 93, 94, 95, 97, 98] [3, 4, 5, 6, 7] σ σ := f_0
  obtain ⟨locs, hlocs⟩ : ∃ z : List Loc, z = [] := ⟨_, rfl⟩
  rw [← hlocs] at hS ⊢
  obtain ⟨P2, hP2⟩ : ∃ P : Int → Int → S0 → Prop, ∀ (u1 : Int) (u2 : Int) (τ : S0), (P u1 u2 τ ↔ (rg u1 → rg u2 → n_m τ → f_r [42, 45, 46, 47, 48, 49, 50, 51, 52] [65, 66, 71, 72, 73, 74, 75, 76, 77, 78, 79, 80, 81, 82, 83, 84, 85, 86, 87, 88, 89, 90, 91, 92, 93, 94, 95, 97, 98] [3, 4, 5, 6, 7] σ τ → ∀ (H : Heap) (locs : List Loc) (ls : Array Slot), KP g (MX g q lb τ) H → va_D A (MX g q lb τ) → va_S A s.heap H locs → lv_has ls 4 [(0, .ref (q 0)), (1, .int (I u1)), (2, .int (I u2))] → W p l e ({ frames := 11, cells := 0, slots := 0, locals := 280 }) s m [.ref (q 0), .int (I n1)].toArray below meth c H locs 0 0 (MQ below (QV g A (p_V (MX g q lb) [42, 45, 46, 47, 48, 49, 50, 51, 52] [65, 66, 71, 72, 73, 74, 75, 76, 77, 78, 79, 80, 81, 82, 83, 84, 85, 86, 87, 88, 89, 90, 91, 92, 93, 94, 95, 97, 98] [3, 4, 5, 6, 7] σ Q)) [.ref (q 0), .int (I n1)].toArray s 0 0 A) (F0 m 2 ls []))) := ⟨_, fun _ _ _ => Iff.rfl⟩
  obtain ⟨P32, hP32⟩ : ∃ P : Int → Int → S0 → Prop, ∀ (u1 : Int) (u2 : Int) (τ : S0), (P u1 u2 τ ↔ (rg u1 → rg u2 → n_m τ → f_r [42, 45, 46, 47, 48, 49, 50, 51, 52] [65, 66, 71, 72, 73, 74, 75, 76, 77, 78, 79, 80, 81, 82, 83, 84, 85, 86, 87, 88, 89, 90, 91, 92, 93, 94, 95, 97, 98] [3, 4, 5, 6, 7] σ τ → ∀ (H : Heap) (locs : List Loc) (ls : Array Slot), KP g (MX g q lb τ) H → va_D A (MX g q lb τ) → va_S A s.heap H locs → lv_has ls 4 [(0, .ref (q 0)), (1, .int (I u1)), (2, .int (I u2))] → W p l e ({ frames := 11, cells := 0, slots := 0, locals := 280 }) s m [.ref (q 0), .int (I n1)].toArray below meth c H locs 0 0 (MQ below (QV g A (p_V (MX g q lb) [42, 45, 46, 47, 48, 49, 50, 51, 52] [65, 66, 71, 72, 73, 74, 75, 76, 77, 78, 79, 80, 81, 82, 83, 84, 85, 86, 87, 88, 89, 90, 91, 92, 93, 94, 95, 97, 98] [3, 4, 5, 6, 7] σ Q)) [.ref (q 0), .int (I n1)].toArray s 0 0 A) (F0 m 32 ls []))) := ⟨_, fun _ _ _ => Iff.rfl⟩
  obtain ⟨P81, hP81⟩ : ∃ P : Int → S0 → Prop, ∀ (u2 : Int) (τ : S0), (P u2 τ ↔ (rg u2 → n_m τ → f_r [42, 45, 46, 47, 48, 49, 50, 51, 52] [65, 66, 71, 72, 73, 74, 75, 76, 77, 78, 79, 80, 81, 82, 83, 84, 85, 86, 87, 88, 89, 90, 91, 92, 93, 94, 95, 97, 98] [3, 4, 5, 6, 7] σ τ → ∀ (H : Heap) (locs : List Loc) (ls : Array Slot), KP g (MX g q lb τ) H → va_D A (MX g q lb τ) → va_S A s.heap H locs → lv_has ls 4 [(0, .ref (q 0)), (2, .int (I u2))] → W p l e ({ frames := 11, cells := 0, slots := 0, locals := 280 }) s m [.ref (q 0), .int (I n1)].toArray below meth c H locs 0 0 (MQ below (QV g A (p_V (MX g q lb) [42, 45, 46, 47, 48, 49, 50, 51, 52] [65, 66, 71, 72, 73, 74, 75, 76, 77, 78, 79, 80, 81, 82, 83, 84, 85, 86, 87, 88, 89, 90, 91, 92, 93, 94, 95, 97, 98] [3, 4, 5, 6, 7] σ Q)) [.ref (q 0), .int (I n1)].toArray s 0 0 A) (F0 m 81 ls []))) := ⟨_, fun _ _ => Iff.rfl⟩
  refine (fun hw => ?_) (hw P2 P32 P81 ?_ ?_ ?_)
  ·
    refine lv_iconst (v := I 0) hx hb dX13_findDefiners_0 rfl ?_
    refine lv_istore_n (lv' := [(2, .int (I 0)), (0, .ref (q 0)), (1, .int (I n1))]) hx hb dX13_findDefiners_1 rfl hl (by decide) rfl (fun ls hl => ?_)
    exact (hP2 _ _ _).mp hw r_n1 (by decide) hN hF H locs ls hP hD hS (lv_sub hl [1, 2, 0] rfl)
  ·
    intro u1 u2 τ hw
    refine (hP2 _ _ _).mpr ?_
    intro r_u1 r_u2 hN hF H locs ls hP hD hS hl
    have hB := hN
    refine lv_iload_n hx hb dX13_findDefiners_2 rfl (lv_at hl 2 rfl) ?_
    refine lv_aload_n hx hb dX13_findDefiners_3 rfl (lv_at hl 0 rfl) ?_
    refine gfX13_statements hx hb hts hK hP hown (hts _ tw_2024) (x := τ.1 5) rfl dX13_findDefiners_4 ?_
    refine bi_icmp_ge (tgt := 30) hx hb r_u2 (hB.1 5) dX13_findDefiners_7 (by decide) (fun c1 => ?_) (fun c1 => ?_)
    ·
      replace hw := hw.1 c1
      refine lv_iconst (v := I 0) hx hb dX13_findDefiners_30 rfl ?_
      refine lv_istore_n (lv' := [(2, .int (I 0)), (0, .ref (q 0)), (1, .int (I u1))]) hx hb dX13_findDefiners_31 rfl hl (by decide) rfl (fun ls hl => ?_)
      exact (hP32 _ _ _).mp hw r_u1 (by decide) hN hF H locs ls hP hD hS (lv_sub hl [1, 2, 0] rfl)
    ·
      replace hw := hw.2 c1
      refine lv_aload_n hx hb dX13_findDefiners_10 rfl (lv_at hl 0 rfl) ?_
      refine gfX13_definer hx hb hts hK hP hown (hts _ tw_2163) dX13_findDefiners_11 ?_
      refine lv_iload_n hx hb dX13_findDefiners_14 rfl (lv_at hl 2 rfl) ?_
      refine lv_iconst (v := I (-1)) hx hb dX13_findDefiners_15 rfl ?_
      obtain ⟨c2, hw⟩ := hw
      refine sdMX13_definer hx hb hK hP hD hS c2 dX13_findDefiners_16 (fun H locs hP hD hS => ?_)
      have hN : n_m (s_a τ 97 u2 (-1)) := n_a (k := 97) (j := u2) hN ((by decide) : rg (-1))
      have hF : f_r [42, 45, 46, 47, 48, 49, 50, 51, 52] [65, 66, 71, 72, 73, 74, 75, 76, 77, 78, 79, 80, 81, 82, 83, 84, 85, 86, 87, 88, 89, 90, 91, 92, 93, 94, 95, 97, 98] [3, 4, 5, 6, 7] σ (s_a τ 97 u2 (-1)) := f_a hF (by decide)
      refine lv_aload_n hx hb dX13_findDefiners_17 rfl (lv_at hl 0 rfl) ?_
      refine gfX13_isNeeded hx hb hts hK hP hown (hts _ tw_2164) dX13_findDefiners_18 ?_
      refine lv_iload_n hx hb dX13_findDefiners_21 rfl (lv_at hl 2 rfl) ?_
      refine lv_iconst (v := I 0) hx hb dX13_findDefiners_22 rfl ?_
      refine sdMX13_isNeeded hx hb hK hP hD hS c2 (by decide) dX13_findDefiners_23 (fun H locs hP hD hS => ?_)
      have hN : n_m (s_a (s_a τ 97 u2 (-1)) 98 u2 0) := n_a (k := 98) (j := u2) hN ((by decide) : rg 0)
      have hF : f_r [42, 45, 46, 47, 48, 49, 50, 51, 52] [65, 66, 71, 72, 73, 74, 75, 76, 77, 78, 79, 80, 81, 82, 83, 84, 85, 86, 87, 88, 89, 90, 91, 92, 93, 94, 95, 97, 98] [3, 4, 5, 6, 7] σ (s_a (s_a τ 97 u2 (-1)) 98 u2 0) := f_a hF (by decide)
      refine lv_iinc (v := I (u2 + 1)) (lv' := [(2, .int (I (u2 + 1))), (0, .ref (q 0)), (1, .int (I u1))]) hx hb dX13_findDefiners_24 hl (k := 2) rfl (I_add _ _) (by decide) rfl (fun ls hl => ?_)
      refine lv_goto (tgt := 2) hx hb dX13_findDefiners_27 (by decide) ?_
      obtain ⟨c3, hw⟩ := hw
      exact (hP2 _ _ _).mp hw r_u1 c3 hN hF H locs ls hP hD hS (lv_sub hl [1, 2, 0] rfl)
  ·
    intro u1 u2 τ hw
    refine (hP32 _ _ _).mpr ?_
    intro r_u1 r_u2 hN hF H locs ls hP hD hS hl
    have hB := hN
    refine lv_iload_n hx hb dX13_findDefiners_32 rfl (lv_at hl 2 rfl) ?_
    refine lv_iload_n hx hb dX13_findDefiners_33 rfl (lv_at hl 1 rfl) ?_
    refine bi_icmp_ge (tgt := 71) hx hb r_u2 r_u1 dX13_findDefiners_34 (by decide) (fun c4 => ?_) (fun c4 => ?_)
    ·
      replace hw := hw.1 c4
      refine lv_aload_n hx hb dX13_findDefiners_71 rfl (lv_at hl 0 rfl) ?_
      refine lv_iload_n hx hb dX13_findDefiners_72 rfl (lv_at hl 1 rfl) ?_
      refine lv_iconst (v := I (-1)) hx hb dX13_findDefiners_73 rfl ?_
      obtain ⟨Q5, hc, hw⟩ := hw
      refine wc_V (X := MX g q lb) (va_runV (As := [.int (I u1), .int (I (-1))]) (rest := []) ⟨hx, hb, hml, hown, hts⟩ (L_X13_needRules l g q lb hlb r_u1 (by decide) hN hc H.size) (cwV 2 hts (TB_V tw_3133 tw_3135 ts_224 tw_15 co_X13_needRules) rfl rfl rfl (by decide +kernel) ⟨Nat.le_of_ble_eq_true rfl, Nat.le_of_ble_eq_true rfl⟩) (preV (q0 := 0) (ci := 13) rfl xT_bl hP hK hNb hD rfl rfl xT_at) rfl rfl hl.1 rfl (lv_room (Nat.le_of_ble_eq_true rfl)) dX13_findDefiners_74 ⟨Nat.le_of_ble_eq_true rfl, Nat.le_of_ble_eq_true rfl⟩) hP hD hS hA (fun τ7 H locs hN hf hq hP hD hS => ?_)
      replace hw := hw τ7 hN hf hq
      have hF : f_r [42, 45, 46, 47, 48, 49, 50, 51, 52] [65, 66, 71, 72, 73, 74, 75, 76, 77, 78, 79, 80, 81, 82, 83, 84, 85, 86, 87, 88, 89, 90, 91, 92, 93, 94, 95, 97, 98] [3, 4, 5, 6, 7] σ τ7 := f_t hF hf (by decide) (by decide) (by decide)
      have hB := hN
      refine lv_iload_n hx hb dX13_findDefiners_77 rfl (lv_at hl 1 rfl) ?_
      refine lv_iconst (v := I 1) hx hb dX13_findDefiners_78 rfl ?_
      refine bi_isub hx hb dX13_findDefiners_79 ?_
      refine lv_istore_n (lv' := [(2, .int (I (u1 - 1))), (0, .ref (q 0)), (1, .int (I u1))]) hx hb dX13_findDefiners_80 rfl hl (by decide) rfl (fun ls hl => ?_)
      obtain ⟨c8, hw⟩ := hw
      exact (hP81 _ _).mp hw c8 hN hF H locs ls hP hD hS (lv_sub hl [1, 0] rfl)
    ·
      replace hw := hw.2 c4
      refine lv_aload_n hx hb dX13_findDefiners_37 rfl (lv_at hl 0 rfl) ?_
      refine lv_iload_n hx hb dX13_findDefiners_38 rfl (lv_at hl 2 rfl) ?_
      obtain ⟨Q9, hc, hw⟩ := hw
      refine wc_I (X := MX g q lb) (va_runV (As := [.int (I u2)]) (rest := []) ⟨hx, hb, hml, hown, hts⟩ (L_X13_ruleOf l g q lb hlb r_u2 hN hc H.size) (cwV 1 hts (TB_V tw_3129 tw_3131 ts_223 tw_15 co_X13_ruleOf) rfl rfl rfl (by decide +kernel) ⟨Nat.le_of_ble_eq_true rfl, Nat.le_of_ble_eq_true rfl⟩) (preV (q0 := 0) (ci := 13) rfl xT_bl hP hK hNb hD rfl rfl xT_at) rfl rfl hl.1 rfl (lv_room (Nat.le_of_ble_eq_true rfl)) dX13_findDefiners_39 ⟨Nat.le_of_ble_eq_true rfl, Nat.le_of_ble_eq_true rfl⟩) hP hD hS hA (fun x10 τ11 H locs r_x10 hN hf hq hP hD hS => ?_)
      replace hw := hw x10 τ11 r_x10 hN hf hq
      have hF : f_r [42, 45, 46, 47, 48, 49, 50, 51, 52] [65, 66, 71, 72, 73, 74, 75, 76, 77, 78, 79, 80, 81, 82, 83, 84, 85, 86, 87, 88, 89, 90, 91, 92, 93, 94, 95, 97, 98] [3, 4, 5, 6, 7] σ τ11 := f_t hF hf (by decide) (by decide) (by decide)
      have hB := hN
      refine lv_istore_n (lv' := [(3, .int (I x10)), (0, .ref (q 0)), (1, .int (I u1)), (2, .int (I u2))]) hx hb dX13_findDefiners_42 rfl hl (by decide) rfl (fun ls hl => ?_)
      refine lv_iload_n hx hb dX13_findDefiners_43 rfl (lv_at hl 0 rfl) ?_
      refine lv_iconst (v := I (-1)) hx hb dX13_findDefiners_44 rfl ?_
      refine bi_icmp_eq (tgt := 65) hx hb r_x10 (by decide) dX13_findDefiners_45 (by decide) (fun c12 => ?_) (fun c12 => ?_)
      ·
        replace hw := hw.1 c12
        refine lv_iinc (v := I (u2 + 1)) (lv' := [(2, .int (I (u2 + 1))), (3, .int (I x10)), (0, .ref (q 0)), (1, .int (I u1))]) hx hb dX13_findDefiners_65 hl (k := 3) rfl (I_add _ _) (by decide) rfl (fun ls hl => ?_)
        refine lv_goto (tgt := 32) hx hb dX13_findDefiners_68 (by decide) ?_
        obtain ⟨c13, hw⟩ := hw
        exact (hP32 _ _ _).mp hw r_u1 c13 hN hF H locs ls hP hD hS (lv_sub hl [2, 3, 0] rfl)
      ·
        replace hw := hw.2 c12
        refine lv_aload_n hx hb dX13_findDefiners_48 rfl (lv_at hl 1 rfl) ?_
        refine gfX13_definer hx hb hts hK hP hown (hts _ tw_2163) dX13_findDefiners_49 ?_
        refine lv_iload_n hx hb dX13_findDefiners_52 rfl (lv_at hl 0 rfl) ?_
        obtain ⟨c14, hw⟩ := hw
        refine ldMX13_definer hx hb hK hP hN c14 dX13_findDefiners_53 (fun x15 r_x15 e_x15 => ?_)
        replace hw := hw x15 r_x15 e_x15
        refine lv_iconst (v := I (-1)) hx hb dX13_findDefiners_54 rfl ?_
        refine bi_icmp_ne (tgt := 65) hx hb r_x15 (by decide) dX13_findDefiners_55 (by decide) (fun c16 => ?_) (fun c16 => ?_)
        ·
          replace hw := hw.1 c16
          refine lv_iinc (v := I (u2 + 1)) (lv' := [(2, .int (I (u2 + 1))), (3, .int (I x10)), (0, .ref (q 0)), (1, .int (I u1))]) hx hb dX13_findDefiners_65 hl (k := 3) rfl (I_add _ _) (by decide) rfl (fun ls hl => ?_)
          refine lv_goto (tgt := 32) hx hb dX13_findDefiners_68 (by decide) ?_
          obtain ⟨c17, hw⟩ := hw
          exact (hP32 _ _ _).mp hw r_u1 c17 hN hF H locs ls hP hD hS (lv_sub hl [2, 3, 0] rfl)
        ·
          replace hw := hw.2 c16
          refine lv_aload_n hx hb dX13_findDefiners_58 rfl (lv_at hl 1 rfl) ?_
          refine gfX13_definer hx hb hts hK hP hown (hts _ tw_2163) dX13_findDefiners_59 ?_
          refine lv_iload_n hx hb dX13_findDefiners_62 rfl (lv_at hl 0 rfl) ?_
          refine lv_iload_n hx hb dX13_findDefiners_63 rfl (lv_at hl 3 rfl) ?_
          refine sdMX13_definer hx hb hK hP hD hS c14 dX13_findDefiners_64 (fun H locs hP hD hS => ?_)
          have hN : n_m (s_a τ11 97 x10 u2) := n_a (k := 97) (j := x10) hN (r_u2 : rg u2)
          have hF : f_r [42, 45, 46, 47, 48, 49, 50, 51, 52] [65, 66, 71, 72, 73, 74, 75, 76, 77, 78, 79, 80, 81, 82, 83, 84, 85, 86, 87, 88, 89, 90, 91, 92, 93, 94, 95, 97, 98] [3, 4, 5, 6, 7] σ (s_a τ11 97 x10 u2) := f_a hF (by decide)
          refine lv_iinc (v := I (u2 + 1)) (lv' := [(2, .int (I (u2 + 1))), (3, .int (I x10)), (0, .ref (q 0)), (1, .int (I u1))]) hx hb dX13_findDefiners_65 hl (k := 3) rfl (I_add _ _) (by decide) rfl (fun ls hl => ?_)
          refine lv_goto (tgt := 32) hx hb dX13_findDefiners_68 (by decide) ?_
          obtain ⟨c18, hw⟩ := hw
          exact (hP32 _ _ _).mp hw r_u1 c18 hN hF H locs ls hP hD hS (lv_sub hl [2, 3, 0] rfl)
  ·
    intro u2 τ hw
    refine (hP81 _ _).mpr ?_
    intro r_u2 hN hF H locs ls hP hD hS hl
    have hB := hN
    refine lv_iload_n hx hb dX13_findDefiners_81 rfl (lv_at hl 1 rfl) ?_
    refine bi_if_lt (tgt := 127) hx hb r_u2 dX13_findDefiners_82 (by decide) (fun c19 => ?_) (fun c19 => ?_)
    ·
      replace hw := hw.1 c19
      exact xrv hx hb hr hlk hP hK hD hS ⟨_, hN, hF, rfl, hw⟩ (Nat.le_of_ble_eq_true rfl) (Nat.le_of_ble_eq_true rfl) dX13_findDefiners_127
    ·
      replace hw := hw.2 c19
      refine lv_aload_n hx hb dX13_findDefiners_85 rfl (lv_at hl 0 rfl) ?_
      refine lv_iload_n hx hb dX13_findDefiners_86 rfl (lv_at hl 1 rfl) ?_
      obtain ⟨Q20, hc, hw⟩ := hw
      refine wc_I (X := MX g q lb) (va_runV (As := [.int (I u2)]) (rest := []) ⟨hx, hb, hml, hown, hts⟩ (L_X13_ruleOf l g q lb hlb r_u2 hN hc H.size) (cwV 1 hts (TB_V tw_3129 tw_3131 ts_223 tw_15 co_X13_ruleOf) rfl rfl rfl (by decide +kernel) ⟨Nat.le_of_ble_eq_true rfl, Nat.le_of_ble_eq_true rfl⟩) (preV (q0 := 0) (ci := 13) rfl xT_bl hP hK hNb hD rfl rfl xT_at) rfl rfl hl.1 rfl (lv_room (Nat.le_of_ble_eq_true rfl)) dX13_findDefiners_87 ⟨Nat.le_of_ble_eq_true rfl, Nat.le_of_ble_eq_true rfl⟩) hP hD hS hA (fun x21 τ22 H locs r_x21 hN hf hq hP hD hS => ?_)
      replace hw := hw x21 τ22 r_x21 hN hf hq
      have hF : f_r [42, 45, 46, 47, 48, 49, 50, 51, 52] [65, 66, 71, 72, 73, 74, 75, 76, 77, 78, 79, 80, 81, 82, 83, 84, 85, 86, 87, 88, 89, 90, 91, 92, 93, 94, 95, 97, 98] [3, 4, 5, 6, 7] σ τ22 := f_t hF hf (by decide) (by decide) (by decide)
      have hB := hN
      refine lv_istore_n (lv' := [(3, .int (I x21)), (0, .ref (q 0)), (2, .int (I u2))]) hx hb dX13_findDefiners_90 rfl hl (by decide) rfl (fun ls hl => ?_)
      refine lv_iload_n hx hb dX13_findDefiners_91 rfl (lv_at hl 0 rfl) ?_
      refine lv_iconst (v := I (-1)) hx hb dX13_findDefiners_92 rfl ?_
      refine bi_icmp_eq (tgt := 121) hx hb r_x21 (by decide) dX13_findDefiners_93 (by decide) (fun c23 => ?_) (fun c23 => ?_)
      ·
        replace hw := hw.1 c23
        refine lv_iinc (v := I (u2 + (-1))) (lv' := [(2, .int (I (u2 + (-1)))), (3, .int (I x21)), (0, .ref (q 0))]) hx hb dX13_findDefiners_121 hl (k := 2) rfl (I_add _ _) (by decide) rfl (fun ls hl => ?_)
        refine lv_goto (tgt := 81) hx hb dX13_findDefiners_124 (by decide) ?_
        obtain ⟨c24, hw⟩ := hw
        exact (hP81 _ _).mp hw c24 hN hF H locs ls hP hD hS (lv_sub hl [2, 0] rfl)
      ·
        replace hw := hw.2 c23
        refine lv_aload_n hx hb dX13_findDefiners_96 rfl (lv_at hl 1 rfl) ?_
        refine gfX13_definer hx hb hts hK hP hown (hts _ tw_2163) dX13_findDefiners_97 ?_
        refine lv_iload_n hx hb dX13_findDefiners_100 rfl (lv_at hl 0 rfl) ?_
        obtain ⟨c25, hw⟩ := hw
        refine ldMX13_definer hx hb hK hP hN c25 dX13_findDefiners_101 (fun x26 r_x26 e_x26 => ?_)
        replace hw := hw x26 r_x26 e_x26
        refine lv_iload_n hx hb dX13_findDefiners_102 rfl (lv_at hl 2 rfl) ?_
        refine bi_icmp_ne (tgt := 121) hx hb r_x26 r_u2 dX13_findDefiners_103 (by decide) (fun c27 => ?_) (fun c27 => ?_)
        ·
          replace hw := hw.1 c27
          refine lv_iinc (v := I (u2 + (-1))) (lv' := [(2, .int (I (u2 + (-1)))), (3, .int (I x21)), (0, .ref (q 0))]) hx hb dX13_findDefiners_121 hl (k := 2) rfl (I_add _ _) (by decide) rfl (fun ls hl => ?_)
          refine lv_goto (tgt := 81) hx hb dX13_findDefiners_124 (by decide) ?_
          obtain ⟨c28, hw⟩ := hw
          exact (hP81 _ _).mp hw c28 hN hF H locs ls hP hD hS (lv_sub hl [2, 0] rfl)
        ·
          replace hw := hw.2 c27
          refine lv_aload_n hx hb dX13_findDefiners_106 rfl (lv_at hl 1 rfl) ?_
          refine gfX13_isNeeded hx hb hts hK hP hown (hts _ tw_2164) dX13_findDefiners_107 ?_
          refine lv_iload_n hx hb dX13_findDefiners_110 rfl (lv_at hl 0 rfl) ?_
          refine ldMX13_isNeeded hx hb hK hP hN c25 dX13_findDefiners_111 (fun x29 r_x29 e_x29 => ?_)
          replace hw := hw x29 r_x29 e_x29
          refine bi_if_eq (tgt := 121) hx hb r_x29 dX13_findDefiners_112 (by decide) (fun c30 => ?_) (fun c30 => ?_)
          ·
            replace hw := hw.1 c30
            refine lv_iinc (v := I (u2 + (-1))) (lv' := [(2, .int (I (u2 + (-1)))), (3, .int (I x21)), (0, .ref (q 0))]) hx hb dX13_findDefiners_121 hl (k := 2) rfl (I_add _ _) (by decide) rfl (fun ls hl => ?_)
            refine lv_goto (tgt := 81) hx hb dX13_findDefiners_124 (by decide) ?_
            obtain ⟨c31, hw⟩ := hw
            exact (hP81 _ _).mp hw c31 hN hF H locs ls hP hD hS (lv_sub hl [2, 0] rfl)
          ·
            replace hw := hw.2 c30
            refine lv_aload_n hx hb dX13_findDefiners_115 rfl (lv_at hl 1 rfl) ?_
            refine lv_iload_n hx hb dX13_findDefiners_116 rfl (lv_at hl 2 rfl) ?_
            refine lv_iload_n hx hb dX13_findDefiners_117 rfl (lv_at hl 0 rfl) ?_
            obtain ⟨Q32, hc, hw⟩ := hw
            refine wc_V (X := MX g q lb) (va_runV (As := [.int (I u2), .int (I x21)]) (rest := []) ⟨hx, hb, hml, hown, hts⟩ (L_X13_needRules l g q lb hlb r_u2 r_x21 hN hc H.size) (cwV 2 hts (TB_V tw_3133 tw_3135 ts_224 tw_15 co_X13_needRules) rfl rfl rfl (by decide +kernel) ⟨Nat.le_of_ble_eq_true rfl, Nat.le_of_ble_eq_true rfl⟩) (preV (q0 := 0) (ci := 13) rfl xT_bl hP hK hNb hD rfl rfl xT_at) rfl rfl hl.1 rfl (lv_room (Nat.le_of_ble_eq_true rfl)) dX13_findDefiners_118 ⟨Nat.le_of_ble_eq_true rfl, Nat.le_of_ble_eq_true rfl⟩) hP hD hS hA (fun τ34 H locs hN hf hq hP hD hS => ?_)
            replace hw := hw τ34 hN hf hq
            have hF : f_r [42, 45, 46, 47, 48, 49, 50, 51, 52] [65, 66, 71, 72, 73, 74, 75, 76, 77, 78, 79, 80, 81, 82, 83, 84, 85, 86, 87, 88, 89, 90, 91, 92, 93, 94, 95, 97, 98] [3, 4, 5, 6, 7] σ τ34 := f_t hF hf (by decide) (by decide) (by decide)
            have hB := hN
            refine lv_iinc (v := I (u2 + (-1))) (lv' := [(2, .int (I (u2 + (-1)))), (3, .int (I x21)), (0, .ref (q 0))]) hx hb dX13_findDefiners_121 hl (k := 2) rfl (I_add _ _) (by decide) rfl (fun ls hl => ?_)
            refine lv_goto (tgt := 81) hx hb dX13_findDefiners_124 (by decide) ?_
            obtain ⟨c35, hw⟩ := hw
            exact (hP81 _ _).mp hw c35 hN hF H locs ls hP hD hS (lv_sub hl [2, 0] rfl)
def W_X13_addTask (n1 : Int) (σ : S0) (Q : S0 → Prop) : Prop :=
  (0 ≤ σ.1 54 ∧ σ.1 54 < 1300) ∧ (rg (σ.1 54 + 1) ∧ Q (s_v (s_a σ 102 (σ.1 54) n1) 54 (σ.1 54 + 1)))
set_option maxRecDepth 100000 in
set_option maxHeartbeats 4000000 in
theorem L_X13_addTask (l : Launch) (g : gG) (q : Nat → Nat) (lb : Nat) (hlb : lb < 2 ^ 31) {n1 : Int} {σ : S0} {Q : S0 → Prop} (r_n1 : rg n1) (hN : n_m σ) (hw : W_X13_addTask n1 σ Q) (sz : Nat) : MetV l yX13_addTask cX13_addTask 2 { frames := 0, cells := 0, slots := 0, locals := 0 } g [.ref (q 0), .int (I n1)] (MX g q lb σ) sz xT (p_V (MX g q lb) [54] [102] [] σ Q) 0 0 := by
  refine mkMet (Qc := fun A => QV g A (p_V (MX g q lb) [54] [102] [] σ Q)) (by decide) (Nat.le_of_ble_eq_true rfl) ?_
  intro p e s m below meth c A H ls hx hb hr hml hown hts hlk hnm hsz hP hK hNb hD hA hAe hS hX hl
  have hl : lv_has ls 2 [(0, .ref (q 0)), (1, .int (I n1))] := hl
  have hB := hN
  have hF : f_r [54] [102] [] σ σ := f_0
  obtain ⟨locs, hlocs⟩ : ∃ z : List Loc, z = [] := ⟨_, rfl⟩
  rw [← hlocs] at hS ⊢
  refine lv_aload_n hx hb dX13_addTask_0 rfl (lv_at hl 0 rfl) ?_
  refine gfX13_tasks hx hb hts hK hP hown (hts _ tw_2169) dX13_addTask_1 ?_
  refine lv_aload_n hx hb dX13_addTask_4 rfl (lv_at hl 0 rfl) ?_
  refine gfX13_taskMany hx hb hts hK hP hown (hts _ tw_2170) (x := σ.1 54) rfl dX13_addTask_5 ?_
  refine lv_iload_n hx hb dX13_addTask_8 rfl (lv_at hl 1 rfl) ?_
  obtain ⟨c1, hw⟩ := hw
  refine sdMX13_tasks hx hb hK hP hD hS c1 dX13_addTask_9 (fun H locs hP hD hS => ?_)
  have hN : n_m (s_a σ 102 (σ.1 54) n1) := n_a (k := 102) (j := σ.1 54) hN (r_n1 : rg n1)
  have hF : f_r [54] [102] [] σ (s_a σ 102 (σ.1 54) n1) := f_a hF (by decide)
  refine lv_aload_n hx hb dX13_addTask_10 rfl (lv_at hl 0 rfl) ?_
  refine lv_dup hx hb dX13_addTask_11 rfl ?_
  refine gfX13_taskMany hx hb hts hK hP hown (hts _ tw_2170) (x := σ.1 54) rfl dX13_addTask_12 ?_
  refine lv_iconst (v := I 1) hx hb dX13_addTask_15 rfl ?_
  refine bi_iadd hx hb dX13_addTask_16 ?_
  obtain ⟨c2, hw⟩ := hw
  refine pfX13_taskMany hx hb hts hK hP hD hS hown (hts _ tw_2170) dX13_addTask_17 (fun H locs hP hD hS => ?_)
  have hN : n_m (s_v (s_a σ 102 (σ.1 54) n1) 54 (σ.1 54 + 1)) := n_v (i := 54) hN (c2 : rg (σ.1 54 + 1))
  have hF : f_r [54] [102] [] σ (s_v (s_a σ 102 (σ.1 54) n1) 54 (σ.1 54 + 1)) := f_v hF (by decide)
  exact xrv hx hb hr hlk hP hK hD hS ⟨_, hN, hF, rfl, hw⟩ (Nat.le_of_ble_eq_true rfl) (Nat.le_of_ble_eq_true rfl) dX13_addTask_20
def W_X13_leafOf (n1 : Int) (n2 : Int) (σ : S0) (Q : Int → Prop) : Prop :=
  ∀ (P28 : Int → Int → Int → Prop),
  (∀ (u1 : Int) (u2 : Int) (u3 : Int), ((0 ≤ u2 ∧ u2 < 60000) ∧ (∀ (x9 : Int), rg x9 → x9 = σ.2.1 87 u2 → ((0 ≤ (x9 + u3) ∧ (x9 + u3) < 120000) ∧ (∀ (x11 : Int), rg x11 → x11 = σ.2.1 91 (x9 + u3) → ((0 ≤ x11 ∧ x11 < 60000) ∧ (∀ (x13 : Int), rg x13 → x13 = σ.2.1 86 x11 → ((0 ≤ u1 ∧ u1 < 60000) ∧ (∀ (x15 : Int), rg x15 → x15 = σ.2.1 86 u1 → ((x13 = x15 → rg ((-1) - u3) ∧ Q ((-1) - u3)) ∧ (¬ x13 = x15 → rg (u3 + 1) ∧ P28 u1 u2 (u3 + 1))))))))))) → P28 u1 u2 u3) →
  (¬ n2 = (-1) → P28 n1 n2 0) ∧ (n2 = (-1) → (0 ≤ n1 ∧ n1 < 60000) ∧ (∀ (x3 : Int), rg x3 → x3 = σ.2.1 86 n1 → ((0 ≤ ((-1) - x3) ∧ ((-1) - x3) < 1501) ∧ (∀ (x5 : Int), rg x5 → x5 = σ.2.1 14 ((-1) - x3) → ((0 ≤ (x5 + 1) ∧ (x5 + 1) < 30400) ∧ (∀ (x7 : Int), rg x7 → x7 = σ.2.1 16 (x5 + 1) → (Q x7)))))))
set_option maxRecDepth 100000 in
set_option maxHeartbeats 4000000 in
theorem L_X13_leafOf (l : Launch) (g : gG) (q : Nat → Nat) (lb : Nat) (hlb : lb < 2 ^ 31) {n1 : Int} {n2 : Int} {σ : S0} {Q : Int → Prop} (r_n1 : rg n1) (r_n2 : rg n2) (hN : n_m σ) (hw : W_X13_leafOf n1 n2 σ Q) (sz : Nat) : MetI l yX13_leafOf cX13_leafOf 4 (some .int) { frames := 0, cells := 0, slots := 0, locals := 0 } g [.ref (q 0), .int (I n1), .int (I n2)] (MX g q lb σ) sz xT (p_i (MX g q lb) σ Q) 0 0 := by
  refine mkMet (Qc := fun A => QI g A (p_i (MX g q lb) σ Q)) (by decide) (Nat.le_of_ble_eq_true rfl) ?_
  intro p e s m below meth c A H ls hx hb hr hml hown hts hlk hnm hsz hP hK hNb hD hA hAe hS hX hl
  have hl : lv_has ls 4 [(0, .ref (q 0)), (1, .int (I n1)), (2, .int (I n2))] := hl
  have hB := hN
  obtain ⟨locs, hlocs⟩ : ∃ z : List Loc, z = [] := ⟨_, rfl⟩
  rw [← hlocs] at hS ⊢
  obtain ⟨P28, hP28⟩ : ∃ P : Int → Int → Int → Prop, ∀ (u1 : Int) (u2 : Int) (u3 : Int), (P u1 u2 u3 ↔ (rg u1 → rg u2 → rg u3 → ∀ (H : Heap) (locs : List Loc) (ls : Array Slot), KP g (MX g q lb σ) H → va_D A (MX g q lb σ) → va_S A s.heap H locs → lv_has ls 4 [(0, .ref (q 0)), (1, .int (I u1)), (2, .int (I u2)), (3, .int (I u3))] → W p l e ({ frames := 0, cells := 0, slots := 0, locals := 0 }) s m [.ref (q 0), .int (I n1), .int (I n2)].toArray below meth c H locs 0 0 (MQ below (QI g A (p_i (MX g q lb) σ Q)) [.ref (q 0), .int (I n1), .int (I n2)].toArray s 0 0 A) (F0 m 28 ls []))) := ⟨_, fun _ _ _ => Iff.rfl⟩
  refine (fun hw => ?_) (hw P28 ?_)
  ·
    refine lv_iload_n hx hb dX13_leafOf_0 rfl (lv_at hl 2 rfl) ?_
    refine lv_iconst (v := I (-1)) hx hb dX13_leafOf_1 rfl ?_
    refine bi_icmp_ne (tgt := 26) hx hb r_n2 (by decide) dX13_leafOf_2 (by decide) (fun c1 => ?_) (fun c1 => ?_)
    ·
      replace hw := hw.1 c1
      refine lv_iconst (v := I 0) hx hb dX13_leafOf_26 rfl ?_
      refine lv_istore_n (lv' := [(3, .int (I 0)), (0, .ref (q 0)), (1, .int (I n1)), (2, .int (I n2))]) hx hb dX13_leafOf_27 rfl hl (by decide) rfl (fun ls hl => ?_)
      exact (hP28 _ _ _).mp hw r_n1 r_n2 (by decide)  H locs ls hP hD hS (lv_sub hl [1, 2, 3, 0] rfl)
    ·
      replace hw := hw.2 c1
      refine lv_aload_n hx hb dX13_leafOf_5 rfl (lv_at hl 0 rfl) ?_
      refine gfX13_texts hx hb hts hK hP hown (hts _ tw_2028) dX13_leafOf_6 ?_
      refine lv_aload_n hx hb dX13_leafOf_9 rfl (lv_at hl 0 rfl) ?_
      refine gfX13_textAt hx hb hts hK hP hown (hts _ tw_2026) dX13_leafOf_10 ?_
      refine lv_iconst (v := I (-1)) hx hb dX13_leafOf_13 rfl ?_
      refine lv_aload_n hx hb dX13_leafOf_14 rfl (lv_at hl 0 rfl) ?_
      refine gfX13_nodeIs hx hb hts hK hP hown (hts _ tw_2149) dX13_leafOf_15 ?_
      refine lv_iload_n hx hb dX13_leafOf_18 rfl (lv_at hl 1 rfl) ?_
      obtain ⟨c2, hw⟩ := hw
      refine ldMX13_nodeIs hx hb hK hP hN c2 dX13_leafOf_19 (fun x3 r_x3 e_x3 => ?_)
      replace hw := hw x3 r_x3 e_x3
      refine bi_isub hx hb dX13_leafOf_20 ?_
      obtain ⟨c4, hw⟩ := hw
      refine ldMX13_textAt hx hb hK hP hN c4 dX13_leafOf_21 (fun x5 r_x5 e_x5 => ?_)
      replace hw := hw x5 r_x5 e_x5
      refine lv_iconst (v := I 1) hx hb dX13_leafOf_22 rfl ?_
      refine bi_iadd hx hb dX13_leafOf_23 ?_
      obtain ⟨c6, hw⟩ := hw
      refine ldMX13_texts hx hb hK hP hN c6 dX13_leafOf_24 (fun x7 r_x7 e_x7 => ?_)
      replace hw := hw x7 r_x7 e_x7
      exact xri hx hb hr hlk hP hK hD hS ⟨_, r_x7, rfl, rfl, hw⟩ (Nat.le_of_ble_eq_true rfl) (Nat.le_of_ble_eq_true rfl) dX13_leafOf_25
  ·
    intro u1 u2 u3 hw
    refine (hP28 _ _ _).mpr ?_
    intro r_u1 r_u2 r_u3 H locs ls hP hD hS hl
    refine lv_aload_n hx hb dX13_leafOf_28 rfl (lv_at hl 0 rfl) ?_
    refine gfX13_nodeIs hx hb hts hK hP hown (hts _ tw_2149) dX13_leafOf_29 ?_
    refine lv_aload_n hx hb dX13_leafOf_32 rfl (lv_at hl 0 rfl) ?_
    refine gfX13_kids hx hb hts hK hP hown (hts _ tw_2154) dX13_leafOf_33 ?_
    refine lv_aload_n hx hb dX13_leafOf_36 rfl (lv_at hl 0 rfl) ?_
    refine gfX13_nodeKids hx hb hts hK hP hown (hts _ tw_2150) dX13_leafOf_37 ?_
    refine lv_iload_n hx hb dX13_leafOf_40 rfl (lv_at hl 2 rfl) ?_
    obtain ⟨c8, hw⟩ := hw
    refine ldMX13_nodeKids hx hb hK hP hN c8 dX13_leafOf_41 (fun x9 r_x9 e_x9 => ?_)
    replace hw := hw x9 r_x9 e_x9
    refine lv_iload_n hx hb dX13_leafOf_42 rfl (lv_at hl 3 rfl) ?_
    refine bi_iadd hx hb dX13_leafOf_43 ?_
    obtain ⟨c10, hw⟩ := hw
    refine ldMX13_kids hx hb hK hP hN c10 dX13_leafOf_44 (fun x11 r_x11 e_x11 => ?_)
    replace hw := hw x11 r_x11 e_x11
    obtain ⟨c12, hw⟩ := hw
    refine ldMX13_nodeIs hx hb hK hP hN c12 dX13_leafOf_45 (fun x13 r_x13 e_x13 => ?_)
    replace hw := hw x13 r_x13 e_x13
    refine lv_aload_n hx hb dX13_leafOf_46 rfl (lv_at hl 0 rfl) ?_
    refine gfX13_nodeIs hx hb hts hK hP hown (hts _ tw_2149) dX13_leafOf_47 ?_
    refine lv_iload_n hx hb dX13_leafOf_50 rfl (lv_at hl 1 rfl) ?_
    obtain ⟨c14, hw⟩ := hw
    refine ldMX13_nodeIs hx hb hK hP hN c14 dX13_leafOf_51 (fun x15 r_x15 e_x15 => ?_)
    replace hw := hw x15 r_x15 e_x15
    refine bi_icmp_eq (tgt := 61) hx hb r_x13 r_x15 dX13_leafOf_52 (by decide) (fun c16 => ?_) (fun c16 => ?_)
    ·
      replace hw := hw.1 c16
      refine lv_iconst (v := I (-1)) hx hb dX13_leafOf_61 rfl ?_
      refine lv_iload_n hx hb dX13_leafOf_62 rfl (lv_at hl 3 rfl) ?_
      refine bi_isub hx hb dX13_leafOf_63 ?_
      obtain ⟨c17, hw⟩ := hw
      exact xri hx hb hr hlk hP hK hD hS ⟨_, c17, rfl, rfl, hw⟩ (Nat.le_of_ble_eq_true rfl) (Nat.le_of_ble_eq_true rfl) dX13_leafOf_64
    ·
      replace hw := hw.2 c16
      refine lv_iinc (v := I (u3 + 1)) (lv' := [(3, .int (I (u3 + 1))), (0, .ref (q 0)), (1, .int (I u1)), (2, .int (I u2))]) hx hb dX13_leafOf_55 hl (k := 3) rfl (I_add _ _) (by decide) rfl (fun ls hl => ?_)
      refine lv_goto (tgt := 28) hx hb dX13_leafOf_58 (by decide) ?_
      obtain ⟨c18, hw⟩ := hw
      exact (hP28 _ _ _).mp hw r_u1 r_u2 c18  H locs ls hP hD hS (lv_sub hl [1, 2, 3, 0] rfl)
def W_X13_spread (n1 : Int) (σ : S0) (Q : Int → S0 → Prop) : Prop :=
  ∀ (P26 : Int → Int → Int → S0 → Prop) (P74 : Int → Int → Int → Int → S0 → Prop) (P115 : Int → Int → Int → S0 → Prop) (P174 : Int → Int → Int → Int → S0 → Prop),
  (∀ (u1 : Int) (u2 : Int) (u3 : Int) (τ : S0), ((u3 < 0 → (0 ≤ u2 ∧ u2 < 1501) ∧ (∀ (x31 : Int), rg x31 → x31 = τ.2.1 100 u2 → ((x31 = (-1) → Q 0 τ) ∧ (¬ x31 = (-1) → Q 1 τ)))) ∧ (0 ≤ u3 → (0 ≤ u2 ∧ u2 < 1501) ∧ (∀ (x34 : Int), rg x34 → x34 = τ.2.1 99 u2 → ((0 ≤ (x34 + u3) ∧ (x34 + u3) < 460000) ∧ (∀ (x36 : Int), rg x36 → x36 = τ.2.1 101 (x34 + u3) → ((0 ≤ x36 → rg ((-1) - x36) ∧ P74 u1 u2 u3 ((-1) - x36) τ) ∧ (x36 < 0 → (0 ≤ u1 ∧ u1 < 60000) ∧ (∀ (x40 : Int), rg x40 → x40 = τ.2.1 87 u1 → ((0 ≤ ((x40 - 1) - x36) ∧ ((x40 - 1) - x36) < 120000) ∧ (∀ (x42 : Int), rg x42 → x42 = τ.2.1 91 ((x40 - 1) - x36) → (P74 u1 u2 u3 x42 τ))))))))))) → P26 u1 u2 u3 τ) →
  (∀ (u1 : Int) (u2 : Int) (u3 : Int) (k1 : Int) (τ : S0), (∃ (Q47 : S0 → Prop), W_X13_addTask k1 τ Q47 ∧ ∀ (τ49 : S0), n_m τ49 → f_r [54] [102] [] τ τ49 → Q47 τ49 → (rg (u3 + (-1)) ∧ P26 u1 u2 (u3 + (-1)) τ49)) → P74 u1 u2 u3 k1 τ) →
  (∀ (u1 : Int) (u2 : Int) (u3 : Int) (τ : S0), ((0 ≤ u2 ∧ u2 < 1501) ∧ (∀ (x12 : Int), rg x12 → x12 = τ.2.1 14 u2 → ((u3 ≤ x12 → Q 1 τ) ∧ (x12 < u3 → (0 ≤ u3 ∧ u3 < 30400) ∧ (∀ (x15 : Int), rg x15 → x15 = τ.2.1 16 u3 → ((0 ≤ x15 ∧ x15 < 1001) ∧ (∀ (x17 : Int), rg x17 → x17 = τ.2.1 8 x15 → ((x17 = 0 → ∀ (x19 : Int), rg x19 → x19 = τ.2.1 16 u3 → (rg ((-1) - x19) ∧ P174 u1 u2 u3 ((-1) - x19) τ)) ∧ (¬ x17 = 0 → (0 ≤ u1 ∧ u1 < 60000) ∧ (∀ (x22 : Int), rg x22 → x22 = τ.2.1 87 u1 → (∀ (x23 : Int), rg x23 → x23 = τ.2.1 16 u3 → (∃ (Q24 : Int → Prop), W_X13_hypOf u2 x23 τ Q24 ∧ ∀ (x25 : Int), rg x25 → Q24 x25 → ((0 ≤ (x22 + x25) ∧ (x22 + x25) < 120000) ∧ (∀ (x28 : Int), rg x28 → x28 = τ.2.1 91 (x22 + x25) → (P174 u1 u2 u3 x28 τ))))))))))))))) → P115 u1 u2 u3 τ) →
  (∀ (u1 : Int) (u2 : Int) (u3 : Int) (k1 : Int) (τ : S0), (∃ (Q43 : S0 → Prop), W_X13_addTask k1 τ Q43 ∧ ∀ (τ45 : S0), n_m τ45 → f_r [54] [102] [] τ τ45 → Q43 τ45 → (rg (u3 + (-1)) ∧ P115 u1 u2 (u3 + (-1)) τ45)) → P174 u1 u2 u3 k1 τ) →
  (0 ≤ n1 ∧ n1 < 60000) ∧ (∀ (x2 : Int), rg x2 → x2 = σ.2.1 86 n1 → ((0 ≤ x2 ∧ x2 < 1501) ∧ (∀ (x4 : Int), rg x4 → x4 = σ.2.1 97 x2 → ((x4 = (-1) → ∀ (x6 : Int), rg x6 → x6 = σ.2.1 14 x2 → (∀ (x7 : Int), rg x7 → x7 = σ.2.1 15 x2 → (rg ((x6 + x7) - 1) ∧ P115 n1 x2 ((x6 + x7) - 1) σ))) ∧ (¬ x4 = (-1) → ∀ (x9 : Int), rg x9 → x9 = σ.2.1 100 x2 → (rg (x9 - 1) ∧ P26 n1 x2 (x9 - 1) σ))))))
set_option maxRecDepth 100000 in
set_option maxHeartbeats 4000000 in
theorem L_X13_spread (l : Launch) (g : gG) (q : Nat → Nat) (lb : Nat) (hlb : lb < 2 ^ 31) {n1 : Int} {σ : S0} {Q : Int → S0 → Prop} (r_n1 : rg n1) (hN : n_m σ) (hw : W_X13_spread n1 σ Q) (sz : Nat) : MetI l yX13_spread cX13_spread 5 (some .boolean) { frames := 1, cells := 0, slots := 0, locals := 23 } g [.ref (q 0), .int (I n1)] (MX g q lb σ) sz xT (p_I (MX g q lb) [54] [102] [] σ Q) 0 0 := by
  refine mkMet (Qc := fun A => QI g A (p_I (MX g q lb) [54] [102] [] σ Q)) (by decide) (Nat.le_of_ble_eq_true rfl) ?_
  intro p e s m below meth c A H ls hx hb hr hml hown hts hlk hnm hsz hP hK hNb hD hA hAe hS hX hl
  have hl : lv_has ls 5 [(0, .ref (q 0)), (1, .int (I n1))] := hl
  have hB := hN
  have hF : f_r [54] [102] [] σ σ := f_0
  obtain ⟨locs, hlocs⟩ : ∃ z : List Loc, z = [] := ⟨_, rfl⟩
  rw [← hlocs] at hS ⊢
  obtain ⟨P26, hP26⟩ : ∃ P : Int → Int → Int → S0 → Prop, ∀ (u1 : Int) (u2 : Int) (u3 : Int) (τ : S0), (P u1 u2 u3 τ ↔ (rg u1 → rg u2 → rg u3 → n_m τ → f_r [54] [102] [] σ τ → ∀ (H : Heap) (locs : List Loc) (ls : Array Slot), KP g (MX g q lb τ) H → va_D A (MX g q lb τ) → va_S A s.heap H locs → lv_has ls 5 [(0, .ref (q 0)), (1, .int (I u1)), (2, .int (I u2)), (3, .int (I u3))] → W p l e ({ frames := 1, cells := 0, slots := 0, locals := 23 }) s m [.ref (q 0), .int (I n1)].toArray below meth c H locs 0 0 (MQ below (QI g A (p_I (MX g q lb) [54] [102] [] σ Q)) [.ref (q 0), .int (I n1)].toArray s 0 0 A) (F0 m 26 ls []))) := ⟨_, fun _ _ _ _ => Iff.rfl⟩
  obtain ⟨P74, hP74⟩ : ∃ P : Int → Int → Int → Int → S0 → Prop, ∀ (u1 : Int) (u2 : Int) (u3 : Int) (k1 : Int) (τ : S0), (P u1 u2 u3 k1 τ ↔ (rg u1 → rg u2 → rg u3 → rg k1 → n_m τ → f_r [54] [102] [] σ τ → ∀ (H : Heap) (locs : List Loc) (ls : Array Slot), KP g (MX g q lb τ) H → va_D A (MX g q lb τ) → va_S A s.heap H locs → lv_has ls 5 [(0, .ref (q 0)), (1, .int (I u1)), (2, .int (I u2)), (3, .int (I u3))] → W p l e ({ frames := 1, cells := 0, slots := 0, locals := 23 }) s m [.ref (q 0), .int (I n1)].toArray below meth c H locs 0 0 (MQ below (QI g A (p_I (MX g q lb) [54] [102] [] σ Q)) [.ref (q 0), .int (I n1)].toArray s 0 0 A) (F0 m 74 ls [.int (I k1), .ref (q 0)]))) := ⟨_, fun _ _ _ _ _ => Iff.rfl⟩
  obtain ⟨P115, hP115⟩ : ∃ P : Int → Int → Int → S0 → Prop, ∀ (u1 : Int) (u2 : Int) (u3 : Int) (τ : S0), (P u1 u2 u3 τ ↔ (rg u1 → rg u2 → rg u3 → n_m τ → f_r [54] [102] [] σ τ → ∀ (H : Heap) (locs : List Loc) (ls : Array Slot), KP g (MX g q lb τ) H → va_D A (MX g q lb τ) → va_S A s.heap H locs → lv_has ls 5 [(0, .ref (q 0)), (1, .int (I u1)), (2, .int (I u2)), (3, .int (I u3))] → W p l e ({ frames := 1, cells := 0, slots := 0, locals := 23 }) s m [.ref (q 0), .int (I n1)].toArray below meth c H locs 0 0 (MQ below (QI g A (p_I (MX g q lb) [54] [102] [] σ Q)) [.ref (q 0), .int (I n1)].toArray s 0 0 A) (F0 m 115 ls []))) := ⟨_, fun _ _ _ _ => Iff.rfl⟩
  obtain ⟨P174, hP174⟩ : ∃ P : Int → Int → Int → Int → S0 → Prop, ∀ (u1 : Int) (u2 : Int) (u3 : Int) (k1 : Int) (τ : S0), (P u1 u2 u3 k1 τ ↔ (rg u1 → rg u2 → rg u3 → rg k1 → n_m τ → f_r [54] [102] [] σ τ → ∀ (H : Heap) (locs : List Loc) (ls : Array Slot), KP g (MX g q lb τ) H → va_D A (MX g q lb τ) → va_S A s.heap H locs → lv_has ls 5 [(0, .ref (q 0)), (1, .int (I u1)), (2, .int (I u2)), (3, .int (I u3))] → W p l e ({ frames := 1, cells := 0, slots := 0, locals := 23 }) s m [.ref (q 0), .int (I n1)].toArray below meth c H locs 0 0 (MQ below (QI g A (p_I (MX g q lb) [54] [102] [] σ Q)) [.ref (q 0), .int (I n1)].toArray s 0 0 A) (F0 m 174 ls [.int (I k1), .ref (q 0)]))) := ⟨_, fun _ _ _ _ _ => Iff.rfl⟩
  refine (fun hw => ?_) (hw P26 P74 P115 P174 ?_ ?_ ?_ ?_)
  ·
    refine lv_aload_n hx hb dX13_spread_0 rfl (lv_at hl 0 rfl) ?_
    refine gfX13_nodeIs hx hb hts hK hP hown (hts _ tw_2149) dX13_spread_1 ?_
    refine lv_iload_n hx hb dX13_spread_4 rfl (lv_at hl 1 rfl) ?_
    obtain ⟨c1, hw⟩ := hw
    refine ldMX13_nodeIs hx hb hK hP hN c1 dX13_spread_5 (fun x2 r_x2 e_x2 => ?_)
    replace hw := hw x2 r_x2 e_x2
    refine lv_istore_n (lv' := [(2, .int (I x2)), (0, .ref (q 0)), (1, .int (I n1))]) hx hb dX13_spread_6 rfl hl (by decide) rfl (fun ls hl => ?_)
    refine lv_aload_n hx hb dX13_spread_7 rfl (lv_at hl 1 rfl) ?_
    refine gfX13_definer hx hb hts hK hP hown (hts _ tw_2163) dX13_spread_8 ?_
    refine lv_iload_n hx hb dX13_spread_11 rfl (lv_at hl 0 rfl) ?_
    obtain ⟨c3, hw⟩ := hw
    refine ldMX13_definer hx hb hK hP hN c3 dX13_spread_12 (fun x4 r_x4 e_x4 => ?_)
    replace hw := hw x4 r_x4 e_x4
    refine lv_iconst (v := I (-1)) hx hb dX13_spread_13 rfl ?_
    refine bi_icmp_eq (tgt := 99) hx hb r_x4 (by decide) dX13_spread_14 (by decide) (fun c5 => ?_) (fun c5 => ?_)
    ·
      replace hw := hw.1 c5
      refine lv_aload_n hx hb dX13_spread_99 rfl (lv_at hl 1 rfl) ?_
      refine gfX13_textAt hx hb hts hK hP hown (hts _ tw_2026) dX13_spread_100 ?_
      refine lv_iload_n hx hb dX13_spread_103 rfl (lv_at hl 0 rfl) ?_
      refine ldMX13_textAt hx hb hK hP hN c3 dX13_spread_104 (fun x6 r_x6 e_x6 => ?_)
      replace hw := hw x6 r_x6 e_x6
      refine lv_aload_n hx hb dX13_spread_105 rfl (lv_at hl 1 rfl) ?_
      refine gfX13_textSize hx hb hts hK hP hown (hts _ tw_2027) dX13_spread_106 ?_
      refine lv_iload_n hx hb dX13_spread_109 rfl (lv_at hl 0 rfl) ?_
      refine ldMX13_textSize hx hb hK hP hN c3 dX13_spread_110 (fun x7 r_x7 e_x7 => ?_)
      replace hw := hw x7 r_x7 e_x7
      refine bi_iadd hx hb dX13_spread_111 ?_
      refine lv_iconst (v := I 1) hx hb dX13_spread_112 rfl ?_
      refine bi_isub hx hb dX13_spread_113 ?_
      refine lv_istore_n (lv' := [(3, .int (I ((x6 + x7) - 1))), (2, .int (I x2)), (0, .ref (q 0)), (1, .int (I n1))]) hx hb dX13_spread_114 rfl hl (by decide) rfl (fun ls hl => ?_)
      obtain ⟨c8, hw⟩ := hw
      exact (hP115 _ _ _ _).mp hw r_n1 r_x2 c8 hN hF H locs ls hP hD hS (lv_sub hl [2, 3, 1, 0] rfl)
    ·
      replace hw := hw.2 c5
      refine lv_aload_n hx hb dX13_spread_17 rfl (lv_at hl 1 rfl) ?_
      refine gfX13_bareMany hx hb hts hK hP hown (hts _ tw_2166) dX13_spread_18 ?_
      refine lv_iload_n hx hb dX13_spread_21 rfl (lv_at hl 0 rfl) ?_
      refine ldMX13_bareMany hx hb hK hP hN c3 dX13_spread_22 (fun x9 r_x9 e_x9 => ?_)
      replace hw := hw x9 r_x9 e_x9
      refine lv_iconst (v := I 1) hx hb dX13_spread_23 rfl ?_
      refine bi_isub hx hb dX13_spread_24 ?_
      refine lv_istore_n (lv' := [(3, .int (I (x9 - 1))), (2, .int (I x2)), (0, .ref (q 0)), (1, .int (I n1))]) hx hb dX13_spread_25 rfl hl (by decide) rfl (fun ls hl => ?_)
      obtain ⟨c10, hw⟩ := hw
      exact (hP26 _ _ _ _).mp hw r_n1 r_x2 c10 hN hF H locs ls hP hD hS (lv_sub hl [2, 3, 1, 0] rfl)
  ·
    intro u1 u2 u3 τ hw
    refine (hP26 _ _ _ _).mpr ?_
    intro r_u1 r_u2 r_u3 hN hF H locs ls hP hD hS hl
    have hB := hN
    refine lv_iload_n hx hb dX13_spread_26 rfl (lv_at hl 3 rfl) ?_
    refine bi_if_lt (tgt := 83) hx hb r_u3 dX13_spread_27 (by decide) (fun c29 => ?_) (fun c29 => ?_)
    ·
      replace hw := hw.1 c29
      refine lv_aload_n hx hb dX13_spread_83 rfl (lv_at hl 0 rfl) ?_
      refine gfX13_bareMany hx hb hts hK hP hown (hts _ tw_2166) dX13_spread_84 ?_
      refine lv_iload_n hx hb dX13_spread_87 rfl (lv_at hl 2 rfl) ?_
      obtain ⟨c30, hw⟩ := hw
      refine ldMX13_bareMany hx hb hK hP hN c30 dX13_spread_88 (fun x31 r_x31 e_x31 => ?_)
      replace hw := hw x31 r_x31 e_x31
      refine lv_iconst (v := I (-1)) hx hb dX13_spread_89 rfl ?_
      refine bi_icmp_eq (tgt := 97) hx hb r_x31 (by decide) dX13_spread_90 (by decide) (fun c32 => ?_) (fun c32 => ?_)
      ·
        replace hw := hw.1 c32
        refine lv_iconst (v := I 0) hx hb dX13_spread_97 rfl ?_
        exact xrz hx hb hr (by decide) hlk hP hK hD hS ⟨_, _, (by decide), rfl, hN, hF, rfl, hw⟩ (Nat.le_of_ble_eq_true rfl) (Nat.le_of_ble_eq_true rfl) dX13_spread_98
      ·
        replace hw := hw.2 c32
        refine lv_iconst (v := I 1) hx hb dX13_spread_93 rfl ?_
        refine lv_goto (tgt := 98) hx hb dX13_spread_94 (by decide) ?_
        exact xrz hx hb hr (by decide) hlk hP hK hD hS ⟨_, _, (by decide), rfl, hN, hF, rfl, hw⟩ (Nat.le_of_ble_eq_true rfl) (Nat.le_of_ble_eq_true rfl) dX13_spread_98
    ·
      replace hw := hw.2 c29
      refine lv_aload_n hx hb dX13_spread_30 rfl (lv_at hl 0 rfl) ?_
      refine gfX13_bare hx hb hts hK hP hown (hts _ tw_2167) dX13_spread_31 ?_
      refine lv_aload_n hx hb dX13_spread_34 rfl (lv_at hl 0 rfl) ?_
      refine gfX13_bareAt hx hb hts hK hP hown (hts _ tw_2165) dX13_spread_35 ?_
      refine lv_iload_n hx hb dX13_spread_38 rfl (lv_at hl 2 rfl) ?_
      obtain ⟨c33, hw⟩ := hw
      refine ldMX13_bareAt hx hb hK hP hN c33 dX13_spread_39 (fun x34 r_x34 e_x34 => ?_)
      replace hw := hw x34 r_x34 e_x34
      refine lv_iload_n hx hb dX13_spread_40 rfl (lv_at hl 3 rfl) ?_
      refine bi_iadd hx hb dX13_spread_41 ?_
      obtain ⟨c35, hw⟩ := hw
      refine ldMX13_bare hx hb hK hP hN c35 dX13_spread_42 (fun x36 r_x36 e_x36 => ?_)
      replace hw := hw x36 r_x36 e_x36
      refine lv_istore (lv' := [(4, .int (I x36)), (0, .ref (q 0)), (1, .int (I u1)), (2, .int (I u2)), (3, .int (I u3))]) hx hb dX13_spread_43 hl (by decide) rfl (fun ls hl => ?_)
      refine lv_aload_n hx hb dX13_spread_45 rfl (lv_at hl 1 rfl) ?_
      refine lv_iload hx hb dX13_spread_46 (lv_at hl 0 rfl) ?_
      refine bi_if_ge (tgt := 70) hx hb r_x36 dX13_spread_48 (by decide) (fun c37 => ?_) (fun c37 => ?_)
      ·
        replace hw := hw.1 c37
        refine lv_iconst (v := I (-1)) hx hb dX13_spread_70 rfl ?_
        refine lv_iload hx hb dX13_spread_71 (lv_at hl 0 rfl) ?_
        refine bi_isub hx hb dX13_spread_73 ?_
        obtain ⟨c38, hw⟩ := hw
        exact (hP74 _ _ _ _ _).mp hw r_u1 r_u2 r_u3 c38 hN hF H locs ls hP hD hS (lv_sub hl [1, 2, 3, 4] rfl)
      ·
        replace hw := hw.2 c37
        refine lv_aload_n hx hb dX13_spread_51 rfl (lv_at hl 1 rfl) ?_
        refine gfX13_kids hx hb hts hK hP hown (hts _ tw_2154) dX13_spread_52 ?_
        refine lv_aload_n hx hb dX13_spread_55 rfl (lv_at hl 1 rfl) ?_
        refine gfX13_nodeKids hx hb hts hK hP hown (hts _ tw_2150) dX13_spread_56 ?_
        refine lv_iload_n hx hb dX13_spread_59 rfl (lv_at hl 2 rfl) ?_
        obtain ⟨c39, hw⟩ := hw
        refine ldMX13_nodeKids hx hb hK hP hN c39 dX13_spread_60 (fun x40 r_x40 e_x40 => ?_)
        replace hw := hw x40 r_x40 e_x40
        refine lv_iconst (v := I 1) hx hb dX13_spread_61 rfl ?_
        refine bi_isub hx hb dX13_spread_62 ?_
        refine lv_iload hx hb dX13_spread_63 (lv_at hl 0 rfl) ?_
        refine bi_isub hx hb dX13_spread_65 ?_
        obtain ⟨c41, hw⟩ := hw
        refine ldMX13_kids hx hb hK hP hN c41 dX13_spread_66 (fun x42 r_x42 e_x42 => ?_)
        replace hw := hw x42 r_x42 e_x42
        refine lv_goto (tgt := 74) hx hb dX13_spread_67 (by decide) ?_
        exact (hP74 _ _ _ _ _).mp hw r_u1 r_u2 r_u3 r_x42 hN hF H locs ls hP hD hS (lv_sub hl [1, 2, 3, 4] rfl)
  ·
    intro u1 u2 u3 k1 τ hw
    refine (hP74 _ _ _ _ _).mpr ?_
    intro r_u1 r_u2 r_u3 r_k1 hN hF H locs ls hP hD hS hl
    have hB := hN
    obtain ⟨Q47, hc, hw⟩ := hw
    refine wc_V (X := MX g q lb) (va_runV (As := [.int (I k1)]) (rest := []) ⟨hx, hb, hml, hown, hts⟩ (L_X13_addTask l g q lb hlb r_k1 hN hc H.size) (cwV 1 hts (TB_V tw_3141 tw_3143 ts_226 tw_15 co_X13_addTask) rfl rfl rfl (by decide +kernel) ⟨Nat.le_of_ble_eq_true rfl, Nat.le_of_ble_eq_true rfl⟩) (preV (q0 := 0) (ci := 13) rfl xT_bl hP hK hNb hD rfl rfl xT_at) rfl rfl hl.1 rfl (lv_room (Nat.le_of_ble_eq_true rfl)) dX13_spread_74 ⟨Nat.le_of_ble_eq_true rfl, Nat.le_of_ble_eq_true rfl⟩) hP hD hS hA (fun τ49 H locs hN hf hq hP hD hS => ?_)
    replace hw := hw τ49 hN hf hq
    have hF : f_r [54] [102] [] σ τ49 := f_t hF hf (by decide) (by decide) (by decide)
    have hB := hN
    refine lv_iinc (v := I (u3 + (-1))) (lv' := [(3, .int (I (u3 + (-1)))), (0, .ref (q 0)), (1, .int (I u1)), (2, .int (I u2))]) hx hb dX13_spread_77 hl (k := 3) rfl (I_add _ _) (by decide) rfl (fun ls hl => ?_)
    refine lv_goto (tgt := 26) hx hb dX13_spread_80 (by decide) ?_
    obtain ⟨c50, hw⟩ := hw
    exact (hP26 _ _ _ _).mp hw r_u1 r_u2 c50 hN hF H locs ls hP hD hS (lv_sub hl [1, 2, 3, 0] rfl)
  ·
    intro u1 u2 u3 τ hw
    refine (hP115 _ _ _ _).mpr ?_
    intro r_u1 r_u2 r_u3 hN hF H locs ls hP hD hS hl
    have hB := hN
    refine lv_iload_n hx hb dX13_spread_115 rfl (lv_at hl 3 rfl) ?_
    refine lv_aload_n hx hb dX13_spread_116 rfl (lv_at hl 0 rfl) ?_
    refine gfX13_textAt hx hb hts hK hP hown (hts _ tw_2026) dX13_spread_117 ?_
    refine lv_iload_n hx hb dX13_spread_120 rfl (lv_at hl 2 rfl) ?_
    obtain ⟨c11, hw⟩ := hw
    refine ldMX13_textAt hx hb hK hP hN c11 dX13_spread_121 (fun x12 r_x12 e_x12 => ?_)
    replace hw := hw x12 r_x12 e_x12
    refine bi_icmp_le (tgt := 183) hx hb r_u3 r_x12 dX13_spread_122 (by decide) (fun c13 => ?_) (fun c13 => ?_)
    ·
      replace hw := hw.1 c13
      refine lv_iconst (v := I 1) hx hb dX13_spread_183 rfl ?_
      exact xrz hx hb hr (by decide) hlk hP hK hD hS ⟨_, _, (by decide), rfl, hN, hF, rfl, hw⟩ (Nat.le_of_ble_eq_true rfl) (Nat.le_of_ble_eq_true rfl) dX13_spread_184
    ·
      replace hw := hw.2 c13
      refine lv_aload_n hx hb dX13_spread_125 rfl (lv_at hl 0 rfl) ?_
      refine lv_aload_n hx hb dX13_spread_126 rfl (lv_at hl 0 rfl) ?_
      refine gfX13_isVariable hx hb hts hK hP hown (hts _ tw_2018) dX13_spread_127 ?_
      refine lv_aload_n hx hb dX13_spread_130 rfl (lv_at hl 0 rfl) ?_
      refine gfX13_texts hx hb hts hK hP hown (hts _ tw_2028) dX13_spread_131 ?_
      refine lv_iload_n hx hb dX13_spread_134 rfl (lv_at hl 3 rfl) ?_
      obtain ⟨c14, hw⟩ := hw
      refine ldMX13_texts hx hb hK hP hN c14 dX13_spread_135 (fun x15 r_x15 e_x15 => ?_)
      replace hw := hw x15 r_x15 e_x15
      obtain ⟨c16, hw⟩ := hw
      refine ldMX13_isVariable hx hb hK hP hN c16 dX13_spread_136 (fun x17 r_x17 e_x17 => ?_)
      replace hw := hw x17 r_x17 e_x17
      refine bi_if_eq (tgt := 166) hx hb r_x17 dX13_spread_137 (by decide) (fun c18 => ?_) (fun c18 => ?_)
      ·
        replace hw := hw.1 c18
        refine lv_iconst (v := I (-1)) hx hb dX13_spread_166 rfl ?_
        refine lv_aload_n hx hb dX13_spread_167 rfl (lv_at hl 0 rfl) ?_
        refine gfX13_texts hx hb hts hK hP hown (hts _ tw_2028) dX13_spread_168 ?_
        refine lv_iload_n hx hb dX13_spread_171 rfl (lv_at hl 3 rfl) ?_
        refine ldMX13_texts hx hb hK hP hN c14 dX13_spread_172 (fun x19 r_x19 e_x19 => ?_)
        replace hw := hw x19 r_x19 e_x19
        refine bi_isub hx hb dX13_spread_173 ?_
        obtain ⟨c20, hw⟩ := hw
        exact (hP174 _ _ _ _ _).mp hw r_u1 r_u2 r_u3 c20 hN hF H locs ls hP hD hS (lv_sub hl [0, 1, 2, 3] rfl)
      ·
        replace hw := hw.2 c18
        refine lv_aload_n hx hb dX13_spread_140 rfl (lv_at hl 0 rfl) ?_
        refine gfX13_kids hx hb hts hK hP hown (hts _ tw_2154) dX13_spread_141 ?_
        refine lv_aload_n hx hb dX13_spread_144 rfl (lv_at hl 0 rfl) ?_
        refine gfX13_nodeKids hx hb hts hK hP hown (hts _ tw_2150) dX13_spread_145 ?_
        refine lv_iload_n hx hb dX13_spread_148 rfl (lv_at hl 1 rfl) ?_
        obtain ⟨c21, hw⟩ := hw
        refine ldMX13_nodeKids hx hb hK hP hN c21 dX13_spread_149 (fun x22 r_x22 e_x22 => ?_)
        replace hw := hw x22 r_x22 e_x22
        refine lv_aload_n hx hb dX13_spread_150 rfl (lv_at hl 0 rfl) ?_
        refine lv_iload_n hx hb dX13_spread_151 rfl (lv_at hl 2 rfl) ?_
        refine lv_aload_n hx hb dX13_spread_152 rfl (lv_at hl 0 rfl) ?_
        refine gfX13_texts hx hb hts hK hP hown (hts _ tw_2028) dX13_spread_153 ?_
        refine lv_iload_n hx hb dX13_spread_156 rfl (lv_at hl 3 rfl) ?_
        refine ldMX13_texts hx hb hK hP hN c14 dX13_spread_157 (fun x23 r_x23 e_x23 => ?_)
        replace hw := hw x23 r_x23 e_x23
        obtain ⟨Q24, hc, hw⟩ := hw
        refine wc_i (X := MX g q lb) (va_runV (As := [.int (I u2), .int (I x23)]) (rest := [.int (I x22), .ref (q 99), .ref (q 0)]) ⟨hx, hb, hml, hown, hts⟩ (L_X13_hypOf l g q lb hlb r_u2 r_x23 hN hc H.size) (cwV 2 hts (TB_V tw_3003 tw_3005 ts_195 tw_15 co_X13_hypOf) rfl rfl rfl (by decide +kernel) ⟨Nat.le_of_ble_eq_true rfl, Nat.le_of_ble_eq_true rfl⟩) (preV (q0 := 0) (ci := 13) rfl xT_bl hP hK hNb hD rfl rfl xT_at) rfl rfl hl.1 rfl (lv_room (Nat.le_of_ble_eq_true rfl)) dX13_spread_158 ⟨Nat.le_of_ble_eq_true rfl, Nat.le_of_ble_eq_true rfl⟩) hP hD hS hA (fun x25 H locs r_x25 hq hP hD hS => ?_)
        replace hw := hw x25 r_x25 hq
        refine bi_iadd hx hb dX13_spread_161 ?_
        obtain ⟨c27, hw⟩ := hw
        refine ldMX13_kids hx hb hK hP hN c27 dX13_spread_162 (fun x28 r_x28 e_x28 => ?_)
        replace hw := hw x28 r_x28 e_x28
        refine lv_goto (tgt := 174) hx hb dX13_spread_163 (by decide) ?_
        exact (hP174 _ _ _ _ _).mp hw r_u1 r_u2 r_u3 r_x28 hN hF H locs ls hP hD hS (lv_sub hl [0, 1, 2, 3] rfl)
  ·
    intro u1 u2 u3 k1 τ hw
    refine (hP174 _ _ _ _ _).mpr ?_
    intro r_u1 r_u2 r_u3 r_k1 hN hF H locs ls hP hD hS hl
    have hB := hN
    obtain ⟨Q43, hc, hw⟩ := hw
    refine wc_V (X := MX g q lb) (va_runV (As := [.int (I k1)]) (rest := []) ⟨hx, hb, hml, hown, hts⟩ (L_X13_addTask l g q lb hlb r_k1 hN hc H.size) (cwV 1 hts (TB_V tw_3141 tw_3143 ts_226 tw_15 co_X13_addTask) rfl rfl rfl (by decide +kernel) ⟨Nat.le_of_ble_eq_true rfl, Nat.le_of_ble_eq_true rfl⟩) (preV (q0 := 0) (ci := 13) rfl xT_bl hP hK hNb hD rfl rfl xT_at) rfl rfl hl.1 rfl (lv_room (Nat.le_of_ble_eq_true rfl)) dX13_spread_174 ⟨Nat.le_of_ble_eq_true rfl, Nat.le_of_ble_eq_true rfl⟩) hP hD hS hA (fun τ45 H locs hN hf hq hP hD hS => ?_)
    replace hw := hw τ45 hN hf hq
    have hF : f_r [54] [102] [] σ τ45 := f_t hF hf (by decide) (by decide) (by decide)
    have hB := hN
    refine lv_iinc (v := I (u3 + (-1))) (lv' := [(3, .int (I (u3 + (-1)))), (0, .ref (q 0)), (1, .int (I u1)), (2, .int (I u2))]) hx hb dX13_spread_177 hl (k := 3) rfl (I_add _ _) (by decide) rfl (fun ls hl => ?_)
    refine lv_goto (tgt := 115) hx hb dX13_spread_180 (by decide) ?_
    obtain ⟨c46, hw⟩ := hw
    exact (hP115 _ _ _ _).mp hw r_u1 r_u2 c46 hN hF H locs ls hP hD hS (lv_sub hl [1, 2, 3, 0] rfl)
def W_X13_tellBare (n1 : Int) (n2 : Int) (σ : S0) (Q : Int → S0 → Prop) : Prop :=
  ∀ (P15 : Int → Int → S0 → Prop) (P82 : Int → Int → Int → S0 → Prop) (P109 : Int → Int → Int → Int → S0 → Prop),
  (∀ (u2 : Int) (u3 : Int) (τ : S0), ((τ.1 54 ≤ 0 → rg (τ.1 53 - u3) ∧ Q (τ.1 53 - u3) τ) ∧ (0 < τ.1 54 → rg ((τ.1 53 - u3) + τ.1 54) ∧ (((τ.1 53 - u3) + τ.1 54) ≤ 599 → rg (τ.1 54 - 1) ∧ (0 ≤ (τ.1 54 - 1) ∧ (τ.1 54 - 1) < 1300) ∧ (∀ (x11 : Int), rg x11 → x11 = τ.2.1 102 (τ.1 54 - 1) → ((x11 < 0 → P82 u2 u3 x11 (s_v τ 54 (τ.1 54 - 1))) ∧ (0 ≤ x11 → (0 ≤ x11 ∧ x11 < 60000) ∧ (∀ (x14 : Int), rg x14 → x14 = τ.2.1 86 x11 → ((0 ≤ x14 → ∃ (Q16 : Int → S0 → Prop), W_X13_spread x11 (s_v τ 54 (τ.1 54 - 1)) Q16 ∧ ∀ (x17 : Int) (τ18 : S0), rg x17 → n_m τ18 → f_r [54] [102] [] (s_v τ 54 (τ.1 54 - 1)) τ18 → Q16 x17 τ18 → ((¬ x17 = 0 → P15 u2 u3 τ18) ∧ (x17 = 0 → Q (-1) (s_v τ18 53 u3)))) ∧ (x14 < 0 → P82 u2 u3 x11 (s_v τ 54 (τ.1 54 - 1))))))))) ∧ (599 < ((τ.1 53 - u3) + τ.1 54) → Q (-1) (s_v τ 53 u3)))) → P15 u2 u3 τ) →
  (∀ (u2 : Int) (u3 : Int) (u4 : Int) (τ : S0), ((0 ≤ u4 → ∃ (Q21 : Int → Prop), W_X13_leafOf u4 u2 τ Q21 ∧ ∀ (x22 : Int), rg x22 → Q21 x22 → (P109 u2 u3 (τ.1 53) x22 τ)) ∧ (u4 < 0 → rg ((-1) - u4) ∧ P109 u2 u3 (τ.1 53) ((-1) - u4) τ)) → P82 u2 u3 u4 τ) →
  (∀ (u2 : Int) (u3 : Int) (k1 : Int) (k2 : Int) (τ : S0), ((0 ≤ k1 ∧ k1 < 460000) ∧ (rg (τ.1 53 + 1) ∧ P15 u2 u3 (s_v (s_a τ 101 k1 k2) 53 (τ.1 53 + 1)))) → P109 u2 u3 k1 k2 τ) →
  ∃ (Q1 : S0 → Prop), W_X13_addTask n1 (s_v σ 54 0) Q1 ∧ ∀ (τ3 : S0), n_m τ3 → f_r [54] [102] [] (s_v σ 54 0) τ3 → Q1 τ3 → (rg (σ.1 53) ∧ P15 n2 (σ.1 53) τ3)
set_option maxRecDepth 100000 in
set_option maxHeartbeats 4000000 in
theorem L_X13_tellBare (l : Launch) (g : gG) (q : Nat → Nat) (lb : Nat) (hlb : lb < 2 ^ 31) {n1 : Int} {n2 : Int} {σ : S0} {Q : Int → S0 → Prop} (r_n1 : rg n1) (r_n2 : rg n2) (hN : n_m σ) (hw : W_X13_tellBare n1 n2 σ Q) (sz : Nat) : MetI l yX13_tellBare cX13_tellBare 5 (some .int) { frames := 2, cells := 0, slots := 0, locals := 47 } g [.ref (q 0), .int (I n1), .int (I n2)] (MX g q lb σ) sz xT (p_I (MX g q lb) [53, 54] [101, 102] [] σ Q) 0 0 := by
  refine mkMet (Qc := fun A => QI g A (p_I (MX g q lb) [53, 54] [101, 102] [] σ Q)) (by decide) (Nat.le_of_ble_eq_true rfl) ?_
  intro p e s m below meth c A H ls hx hb hr hml hown hts hlk hnm hsz hP hK hNb hD hA hAe hS hX hl
  have hl : lv_has ls 5 [(0, .ref (q 0)), (1, .int (I n1)), (2, .int (I n2))] := hl
  have hB := hN
  have hF : f_r [53, 54] [101, 102] [] σ σ := f_0
  obtain ⟨locs, hlocs⟩ : ∃ z : List Loc, z = [] := ⟨_, rfl⟩
  rw [← hlocs] at hS ⊢
  obtain ⟨P15, hP15⟩ : ∃ P : Int → Int → S0 → Prop, ∀ (u2 : Int) (u3 : Int) (τ : S0), (P u2 u3 τ ↔ (rg u2 → rg u3 → n_m τ → f_r [53, 54] [101, 102] [] σ τ → ∀ (H : Heap) (locs : List Loc) (ls : Array Slot), KP g (MX g q lb τ) H → va_D A (MX g q lb τ) → va_S A s.heap H locs → lv_has ls 5 [(0, .ref (q 0)), (2, .int (I u2)), (3, .int (I u3))] → W p l e ({ frames := 2, cells := 0, slots := 0, locals := 47 }) s m [.ref (q 0), .int (I n1), .int (I n2)].toArray below meth c H locs 0 0 (MQ below (QI g A (p_I (MX g q lb) [53, 54] [101, 102] [] σ Q)) [.ref (q 0), .int (I n1), .int (I n2)].toArray s 0 0 A) (F0 m 15 ls []))) := ⟨_, fun _ _ _ => Iff.rfl⟩
  obtain ⟨P82, hP82⟩ : ∃ P : Int → Int → Int → S0 → Prop, ∀ (u2 : Int) (u3 : Int) (u4 : Int) (τ : S0), (P u2 u3 u4 τ ↔ (rg u2 → rg u3 → rg u4 → n_m τ → f_r [53, 54] [101, 102] [] σ τ → ∀ (H : Heap) (locs : List Loc) (ls : Array Slot), KP g (MX g q lb τ) H → va_D A (MX g q lb τ) → va_S A s.heap H locs → lv_has ls 5 [(0, .ref (q 0)), (2, .int (I u2)), (3, .int (I u3)), (4, .int (I u4))] → W p l e ({ frames := 2, cells := 0, slots := 0, locals := 47 }) s m [.ref (q 0), .int (I n1), .int (I n2)].toArray below meth c H locs 0 0 (MQ below (QI g A (p_I (MX g q lb) [53, 54] [101, 102] [] σ Q)) [.ref (q 0), .int (I n1), .int (I n2)].toArray s 0 0 A) (F0 m 82 ls []))) := ⟨_, fun _ _ _ _ => Iff.rfl⟩
  obtain ⟨P109, hP109⟩ : ∃ P : Int → Int → Int → Int → S0 → Prop, ∀ (u2 : Int) (u3 : Int) (k1 : Int) (k2 : Int) (τ : S0), (P u2 u3 k1 k2 τ ↔ (rg u2 → rg u3 → rg k1 → rg k2 → n_m τ → f_r [53, 54] [101, 102] [] σ τ → ∀ (H : Heap) (locs : List Loc) (ls : Array Slot), KP g (MX g q lb τ) H → va_D A (MX g q lb τ) → va_S A s.heap H locs → lv_has ls 5 [(0, .ref (q 0)), (2, .int (I u2)), (3, .int (I u3))] → W p l e ({ frames := 2, cells := 0, slots := 0, locals := 47 }) s m [.ref (q 0), .int (I n1), .int (I n2)].toArray below meth c H locs 0 0 (MQ below (QI g A (p_I (MX g q lb) [53, 54] [101, 102] [] σ Q)) [.ref (q 0), .int (I n1), .int (I n2)].toArray s 0 0 A) (F0 m 109 ls [.int (I k2), .int (I k1), .ref (q 110)]))) := ⟨_, fun _ _ _ _ _ => Iff.rfl⟩
  refine (fun hw => ?_) (hw P15 P82 P109 ?_ ?_ ?_)
  ·
    refine lv_aload_n hx hb dX13_tellBare_0 rfl (lv_at hl 0 rfl) ?_
    refine gfX13_bareSize hx hb hts hK hP hown (hts _ tw_2168) (x := σ.1 53) rfl dX13_tellBare_1 ?_
    refine lv_istore_n (lv' := [(3, .int (I (σ.1 53))), (0, .ref (q 0)), (1, .int (I n1)), (2, .int (I n2))]) hx hb dX13_tellBare_4 rfl hl (by decide) rfl (fun ls hl => ?_)
    refine lv_aload_n hx hb dX13_tellBare_5 rfl (lv_at hl 1 rfl) ?_
    refine lv_iconst (v := I 0) hx hb dX13_tellBare_6 rfl ?_
    refine pfX13_taskMany hx hb hts hK hP hD hS hown (hts _ tw_2170) dX13_tellBare_7 (fun H locs hP hD hS => ?_)
    have hN : n_m (s_v σ 54 0) := n_v (i := 54) hN ((by decide) : rg 0)
    have hF : f_r [53, 54] [101, 102] [] σ (s_v σ 54 0) := f_v hF (by decide)
    refine lv_aload_n hx hb dX13_tellBare_10 rfl (lv_at hl 1 rfl) ?_
    refine lv_iload_n hx hb dX13_tellBare_11 rfl (lv_at hl 2 rfl) ?_
    obtain ⟨Q1, hc, hw⟩ := hw
    refine wc_V (X := MX g q lb) (va_runV (As := [.int (I n1)]) (rest := []) ⟨hx, hb, hml, hown, hts⟩ (L_X13_addTask l g q lb hlb r_n1 hN hc H.size) (cwV 1 hts (TB_V tw_3141 tw_3143 ts_226 tw_15 co_X13_addTask) rfl rfl rfl (by decide +kernel) ⟨Nat.le_of_ble_eq_true rfl, Nat.le_of_ble_eq_true rfl⟩) (preV (q0 := 0) (ci := 13) rfl xT_bl hP hK hNb hD rfl rfl xT_at) rfl rfl hl.1 rfl (lv_room (Nat.le_of_ble_eq_true rfl)) dX13_tellBare_12 ⟨Nat.le_of_ble_eq_true rfl, Nat.le_of_ble_eq_true rfl⟩) hP hD hS hA (fun τ3 H locs hN hf hq hP hD hS => ?_)
    replace hw := hw τ3 hN hf hq
    have hF : f_r [53, 54] [101, 102] [] σ τ3 := f_t hF hf (by decide) (by decide) (by decide)
    have hB := hN
    obtain ⟨c4, hw⟩ := hw
    exact (hP15 _ _ _).mp hw r_n2 c4 hN hF H locs ls hP hD hS (lv_sub hl [1, 3, 0] rfl)
  ·
    intro u2 u3 τ hw
    refine (hP15 _ _ _).mpr ?_
    intro r_u2 r_u3 hN hF H locs ls hP hD hS hl
    have hB := hN
    refine lv_aload_n hx hb dX13_tellBare_15 rfl (lv_at hl 0 rfl) ?_
    refine gfX13_taskMany hx hb hts hK hP hown (hts _ tw_2170) (x := τ.1 54) rfl dX13_tellBare_16 ?_
    refine bi_if_le (tgt := 142) hx hb (hB.1 54) dX13_tellBare_19 (by decide) (fun c5 => ?_) (fun c5 => ?_)
    ·
      replace hw := hw.1 c5
      refine lv_aload_n hx hb dX13_tellBare_142 rfl (lv_at hl 0 rfl) ?_
      refine gfX13_bareSize hx hb hts hK hP hown (hts _ tw_2168) (x := τ.1 53) rfl dX13_tellBare_143 ?_
      refine lv_iload_n hx hb dX13_tellBare_146 rfl (lv_at hl 2 rfl) ?_
      refine bi_isub hx hb dX13_tellBare_147 ?_
      obtain ⟨c6, hw⟩ := hw
      exact xri hx hb hr hlk hP hK hD hS ⟨_, _, c6, rfl, hN, hF, rfl, hw⟩ (Nat.le_of_ble_eq_true rfl) (Nat.le_of_ble_eq_true rfl) dX13_tellBare_148
    ·
      replace hw := hw.2 c5
      refine lv_aload_n hx hb dX13_tellBare_22 rfl (lv_at hl 0 rfl) ?_
      refine gfX13_bareSize hx hb hts hK hP hown (hts _ tw_2168) (x := τ.1 53) rfl dX13_tellBare_23 ?_
      refine lv_iload_n hx hb dX13_tellBare_26 rfl (lv_at hl 2 rfl) ?_
      refine bi_isub hx hb dX13_tellBare_27 ?_
      refine lv_aload_n hx hb dX13_tellBare_28 rfl (lv_at hl 0 rfl) ?_
      refine gfX13_taskMany hx hb hts hK hP hown (hts _ tw_2170) (x := τ.1 54) rfl dX13_tellBare_29 ?_
      refine bi_iadd hx hb dX13_tellBare_32 ?_
      refine lv_sipush (v := I 599) hx hb dX13_tellBare_33 (by decide) ?_
      obtain ⟨c7, hw⟩ := hw
      refine bi_icmp_le (tgt := 46) hx hb c7 (by decide) dX13_tellBare_36 (by decide) (fun c8 => ?_) (fun c8 => ?_)
      ·
        replace hw := hw.1 c8
        refine lv_aload_n hx hb dX13_tellBare_46 rfl (lv_at hl 0 rfl) ?_
        refine lv_dup hx hb dX13_tellBare_47 rfl ?_
        refine gfX13_taskMany hx hb hts hK hP hown (hts _ tw_2170) (x := τ.1 54) rfl dX13_tellBare_48 ?_
        refine lv_iconst (v := I 1) hx hb dX13_tellBare_51 rfl ?_
        refine bi_isub hx hb dX13_tellBare_52 ?_
        obtain ⟨c9, hw⟩ := hw
        refine pfX13_taskMany hx hb hts hK hP hD hS hown (hts _ tw_2170) dX13_tellBare_53 (fun H locs hP hD hS => ?_)
        have hN : n_m (s_v τ 54 (τ.1 54 - 1)) := n_v (i := 54) hN (c9 : rg (τ.1 54 - 1))
        have hF : f_r [53, 54] [101, 102] [] σ (s_v τ 54 (τ.1 54 - 1)) := f_v hF (by decide)
        refine lv_aload_n hx hb dX13_tellBare_56 rfl (lv_at hl 0 rfl) ?_
        refine gfX13_tasks hx hb hts hK hP hown (hts _ tw_2169) dX13_tellBare_57 ?_
        refine lv_aload_n hx hb dX13_tellBare_60 rfl (lv_at hl 0 rfl) ?_
        refine gfX13_taskMany hx hb hts hK hP hown (hts _ tw_2170) (x := (τ.1 54 - 1)) rfl dX13_tellBare_61 ?_
        obtain ⟨c10, hw⟩ := hw
        refine ldMX13_tasks hx hb hK hP hN c10 dX13_tellBare_64 (fun x11 r_x11 e_x11 => ?_)
        replace hw := hw x11 r_x11 e_x11
        refine lv_istore (lv' := [(4, .int (I x11)), (0, .ref (q 0)), (2, .int (I u2)), (3, .int (I u3))]) hx hb dX13_tellBare_65 hl (by decide) rfl (fun ls hl => ?_)
        refine lv_iload hx hb dX13_tellBare_67 (lv_at hl 0 rfl) ?_
        refine bi_if_lt (tgt := 82) hx hb r_x11 dX13_tellBare_69 (by decide) (fun c12 => ?_) (fun c12 => ?_)
        ·
          replace hw := hw.1 c12
          exact (hP82 _ _ _ _).mp hw r_u2 r_u3 r_x11 hN hF H locs ls hP hD hS (lv_sub hl [1, 2, 3, 0] rfl)
        ·
          replace hw := hw.2 c12
          refine lv_aload_n hx hb dX13_tellBare_72 rfl (lv_at hl 1 rfl) ?_
          refine gfX13_nodeIs hx hb hts hK hP hown (hts _ tw_2149) dX13_tellBare_73 ?_
          refine lv_iload hx hb dX13_tellBare_76 (lv_at hl 0 rfl) ?_
          obtain ⟨c13, hw⟩ := hw
          refine ldMX13_nodeIs hx hb hK hP hN c13 dX13_tellBare_78 (fun x14 r_x14 e_x14 => ?_)
          replace hw := hw x14 r_x14 e_x14
          refine bi_if_ge (tgt := 123) hx hb r_x14 dX13_tellBare_79 (by decide) (fun c15 => ?_) (fun c15 => ?_)
          ·
            replace hw := hw.1 c15
            refine lv_aload_n hx hb dX13_tellBare_123 rfl (lv_at hl 1 rfl) ?_
            refine lv_iload hx hb dX13_tellBare_124 (lv_at hl 0 rfl) ?_
            obtain ⟨Q16, hc, hw⟩ := hw
            refine wc_I (X := MX g q lb) (va_runV (As := [.int (I x11)]) (rest := []) ⟨hx, hb, hml, hown, hts⟩ (L_X13_spread l g q lb hlb r_x11 hN hc H.size) (cwV 1 hts (TB_V tw_3149 tw_3151 ts_228 tw_15 co_X13_spread) rfl rfl rfl (by decide +kernel) ⟨Nat.le_of_ble_eq_true rfl, Nat.le_of_ble_eq_true rfl⟩) (preV (q0 := 0) (ci := 13) rfl xT_bl hP hK hNb hD rfl rfl xT_at) rfl rfl hl.1 rfl (lv_room (Nat.le_of_ble_eq_true rfl)) dX13_tellBare_126 ⟨Nat.le_of_ble_eq_true rfl, Nat.le_of_ble_eq_true rfl⟩) hP hD hS hA (fun x17 τ18 H locs r_x17 hN hf hq hP hD hS => ?_)
            replace hw := hw x17 τ18 r_x17 hN hf hq
            have hF : f_r [53, 54] [101, 102] [] σ τ18 := f_t hF hf (by decide) (by decide) (by decide)
            have hB := hN
            refine bi_if_ne (tgt := 139) hx hb r_x17 dX13_tellBare_129 (by decide) (fun c19 => ?_) (fun c19 => ?_)
            ·
              replace hw := hw.1 c19
              refine lv_goto (tgt := 15) hx hb dX13_tellBare_139 (by decide) ?_
              exact (hP15 _ _ _).mp hw r_u2 r_u3 hN hF H locs ls hP hD hS (lv_sub hl [1, 2, 3] rfl)
            ·
              replace hw := hw.2 c19
              refine lv_aload_n hx hb dX13_tellBare_132 rfl (lv_at hl 1 rfl) ?_
              refine lv_iload_n hx hb dX13_tellBare_133 rfl (lv_at hl 3 rfl) ?_
              refine pfX13_bareSize hx hb hts hK hP hD hS hown (hts _ tw_2168) dX13_tellBare_134 (fun H locs hP hD hS => ?_)
              have hN : n_m (s_v τ18 53 u3) := n_v (i := 53) hN (r_u3 : rg u3)
              have hF : f_r [53, 54] [101, 102] [] σ (s_v τ18 53 u3) := f_v hF (by decide)
              refine lv_iconst (v := I (-1)) hx hb dX13_tellBare_137 rfl ?_
              exact xri hx hb hr hlk hP hK hD hS ⟨_, _, (by decide), rfl, hN, hF, rfl, hw⟩ (Nat.le_of_ble_eq_true rfl) (Nat.le_of_ble_eq_true rfl) dX13_tellBare_138
          ·
            replace hw := hw.2 c15
            exact (hP82 _ _ _ _).mp hw r_u2 r_u3 r_x11 hN hF H locs ls hP hD hS (lv_sub hl [1, 2, 3, 0] rfl)
      ·
        replace hw := hw.2 c8
        refine lv_aload_n hx hb dX13_tellBare_39 rfl (lv_at hl 0 rfl) ?_
        refine lv_iload_n hx hb dX13_tellBare_40 rfl (lv_at hl 2 rfl) ?_
        refine pfX13_bareSize hx hb hts hK hP hD hS hown (hts _ tw_2168) dX13_tellBare_41 (fun H locs hP hD hS => ?_)
        have hN : n_m (s_v τ 53 u3) := n_v (i := 53) hN (r_u3 : rg u3)
        have hF : f_r [53, 54] [101, 102] [] σ (s_v τ 53 u3) := f_v hF (by decide)
        refine lv_iconst (v := I (-1)) hx hb dX13_tellBare_44 rfl ?_
        exact xri hx hb hr hlk hP hK hD hS ⟨_, _, (by decide), rfl, hN, hF, rfl, hw⟩ (Nat.le_of_ble_eq_true rfl) (Nat.le_of_ble_eq_true rfl) dX13_tellBare_45
  ·
    intro u2 u3 u4 τ hw
    refine (hP82 _ _ _ _).mpr ?_
    intro r_u2 r_u3 r_u4 hN hF H locs ls hP hD hS hl
    have hB := hN
    refine lv_aload_n hx hb dX13_tellBare_82 rfl (lv_at hl 0 rfl) ?_
    refine gfX13_bare hx hb hts hK hP hown (hts _ tw_2167) dX13_tellBare_83 ?_
    refine lv_aload_n hx hb dX13_tellBare_86 rfl (lv_at hl 0 rfl) ?_
    refine gfX13_bareSize hx hb hts hK hP hown (hts _ tw_2168) (x := τ.1 53) rfl dX13_tellBare_87 ?_
    refine lv_iload hx hb dX13_tellBare_90 (lv_at hl 3 rfl) ?_
    refine bi_if_ge (tgt := 102) hx hb r_u4 dX13_tellBare_92 (by decide) (fun c20 => ?_) (fun c20 => ?_)
    ·
      replace hw := hw.1 c20
      refine lv_aload_n hx hb dX13_tellBare_102 rfl (lv_at hl 0 rfl) ?_
      refine lv_iload hx hb dX13_tellBare_103 (lv_at hl 3 rfl) ?_
      refine lv_iload_n hx hb dX13_tellBare_105 rfl (lv_at hl 1 rfl) ?_
      obtain ⟨Q21, hc, hw⟩ := hw
      refine wc_i (X := MX g q lb) (va_runV (As := [.int (I u4), .int (I u2)]) (rest := [.int (I (τ.1 53)), .ref (q 110)]) ⟨hx, hb, hml, hown, hts⟩ (L_X13_leafOf l g q lb hlb r_u4 r_u2 hN hc H.size) (cwV 2 hts (TB_V tw_3145 tw_3147 ts_227 tw_15 co_X13_leafOf) rfl rfl rfl (by decide +kernel) ⟨Nat.le_of_ble_eq_true rfl, Nat.le_of_ble_eq_true rfl⟩) (preV (q0 := 0) (ci := 13) rfl xT_bl hP hK hNb hD rfl rfl xT_at) rfl rfl hl.1 rfl (lv_room (Nat.le_of_ble_eq_true rfl)) dX13_tellBare_106 ⟨Nat.le_of_ble_eq_true rfl, Nat.le_of_ble_eq_true rfl⟩) hP hD hS hA (fun x22 H locs r_x22 hq hP hD hS => ?_)
      replace hw := hw x22 r_x22 hq
      exact (hP109 _ _ _ _ _).mp hw r_u2 r_u3 (hB.1 53) r_x22 hN hF H locs ls hP hD hS (lv_sub hl [0, 1, 2] rfl)
    ·
      replace hw := hw.2 c20
      refine lv_iconst (v := I (-1)) hx hb dX13_tellBare_95 rfl ?_
      refine lv_iload hx hb dX13_tellBare_96 (lv_at hl 3 rfl) ?_
      refine bi_isub hx hb dX13_tellBare_98 ?_
      refine lv_goto (tgt := 109) hx hb dX13_tellBare_99 (by decide) ?_
      obtain ⟨c24, hw⟩ := hw
      exact (hP109 _ _ _ _ _).mp hw r_u2 r_u3 (hB.1 53) c24 hN hF H locs ls hP hD hS (lv_sub hl [0, 1, 2] rfl)
  ·
    intro u2 u3 k1 k2 τ hw
    refine (hP109 _ _ _ _ _).mpr ?_
    intro r_u2 r_u3 r_k1 r_k2 hN hF H locs ls hP hD hS hl
    have hB := hN
    obtain ⟨c25, hw⟩ := hw
    refine sdMX13_bare hx hb hK hP hD hS c25 dX13_tellBare_109 (fun H locs hP hD hS => ?_)
    have hN : n_m (s_a τ 101 k1 k2) := n_a (k := 101) (j := k1) hN (r_k2 : rg k2)
    have hF : f_r [53, 54] [101, 102] [] σ (s_a τ 101 k1 k2) := f_a hF (by decide)
    refine lv_aload_n hx hb dX13_tellBare_110 rfl (lv_at hl 0 rfl) ?_
    refine lv_dup hx hb dX13_tellBare_111 rfl ?_
    refine gfX13_bareSize hx hb hts hK hP hown (hts _ tw_2168) (x := τ.1 53) rfl dX13_tellBare_112 ?_
    refine lv_iconst (v := I 1) hx hb dX13_tellBare_115 rfl ?_
    refine bi_iadd hx hb dX13_tellBare_116 ?_
    obtain ⟨c26, hw⟩ := hw
    refine pfX13_bareSize hx hb hts hK hP hD hS hown (hts _ tw_2168) dX13_tellBare_117 (fun H locs hP hD hS => ?_)
    have hN : n_m (s_v (s_a τ 101 k1 k2) 53 (τ.1 53 + 1)) := n_v (i := 53) hN (c26 : rg (τ.1 53 + 1))
    have hF : f_r [53, 54] [101, 102] [] σ (s_v (s_a τ 101 k1 k2) 53 (τ.1 53 + 1)) := f_v hF (by decide)
    refine lv_goto (tgt := 139) hx hb dX13_tellBare_120 (by decide) ?_
    refine lv_goto (tgt := 15) hx hb dX13_tellBare_139 (by decide) ?_
    exact (hP15 _ _ _).mp hw r_u2 r_u3 hN hF H locs ls hP hD hS (lv_sub hl [0, 1, 2] rfl)
def W_X13_printBare (n1 : Int) (σ : S0) (Q : Int → S0 → Prop) : Prop :=
  ∀ (P12 : Int → Int → S0 → Prop) (P175 : Int → Int → Int → S0 → Prop),
  (∀ (u1 : Int) (u2 : Int) (τ : S0), ((u1 ≤ u2 → ∃ (Q5 : S0 → Prop), W_X13_beginTrees τ Q5 ∧ ∀ (τ7 : S0), n_m τ7 → f_r [51, 52] [] [] τ τ7 → Q5 τ7 → (∃ (Q8 : Int → S0 → Prop), W_X13_treeOf u1 τ7 Q8 ∧ ∀ (x9 : Int) (τ10 : S0), rg x9 → n_m τ10 → f_r [45, 46, 47, 48, 49, 50, 51, 52] [71, 72, 73, 74, 75, 76, 77, 78, 79, 80, 81, 82, 83, 84, 85, 86, 87, 88, 89, 90, 91, 92, 93, 94] [3, 4, 5, 6] τ7 τ10 → Q8 x9 τ10 → (∃ (Q11 : Int → S0 → Prop), W_X13_tellBare x9 (-1) τ10 Q11 ∧ ∀ (x12 : Int) (τ13 : S0), rg x12 → n_m τ13 → f_r [53, 54] [101, 102] [] τ10 τ13 → Q11 x12 τ13 → ((¬ x12 = (-1) → (0 ≤ u1 ∧ u1 < 1501) ∧ (∀ (x16 : Int), rg x16 → x16 = τ13.2.1 14 u1 → ((0 ≤ x16 ∧ x16 < 30400) ∧ (∀ (x18 : Int), rg x18 → x18 = τ13.2.1 16 x16 → (∃ (Q19 : S0 → Prop), W_X13_putSymbol x18 τ13 Q19 ∧ ∀ (τ21 : S0), n_m τ21 → f_r [39] [59] [] τ13 τ21 → Q19 τ21 → (rg (τ7.1 53) ∧ P175 (τ7.1 53) x12 0 τ21)))))) ∧ (x12 = (-1) → Q (-2) τ13))))) ∧ (u2 < u1 → ∃ (Q23 : Int → S0 → Prop), W_X13_ruleOf u2 τ Q23 ∧ ∀ (x24 : Int) (τ25 : S0), rg x24 → n_m τ25 → f_r [42, 45, 46, 47, 48, 49, 50, 51, 52] [65, 66, 71, 72, 73, 74, 75, 76, 77, 78, 79, 80, 81, 82, 83, 84, 85, 86, 87, 88, 89, 90, 91, 92, 93, 94, 95] [3, 4, 5, 6, 7] τ τ25 → Q23 x24 τ25 → ((x24 = (-1) → rg (u2 + 1) ∧ P12 u1 (u2 + 1) τ25) ∧ (¬ x24 = (-1) → (0 ≤ x24 ∧ x24 < 1501) ∧ (∀ (x29 : Int), rg x29 → x29 = τ25.2.1 97 x24 → ((¬ x29 = u2 → rg (u2 + 1) ∧ P12 u1 (u2 + 1) τ25) ∧ (x29 = u2 → ∀ (x32 : Int), rg x32 → x32 = τ25.2.1 98 x24 → ((x32 = 0 → rg (u2 + 1) ∧ P12 u1 (u2 + 1) τ25) ∧ (¬ x32 = 0 → ∃ (Q35 : S0 → Prop), W_X13_beginTrees τ25 Q35 ∧ ∀ (τ37 : S0), n_m τ37 → f_r [51, 52] [] [] τ25 τ37 → Q35 τ37 → (∃ (Q38 : Int → S0 → Prop), W_X13_treeOf u2 τ37 Q38 ∧ ∀ (x39 : Int) (τ40 : S0), rg x39 → n_m τ40 → f_r [45, 46, 47, 48, 49, 50, 51, 52] [71, 72, 73, 74, 75, 76, 77, 78, 79, 80, 81, 82, 83, 84, 85, 86, 87, 88, 89, 90, 91, 92, 93, 94] [3, 4, 5, 6] τ37 τ40 → Q38 x39 τ40 → ((0 ≤ x39 ∧ x39 < 60000) ∧ (∀ (x42 : Int), rg x42 → x42 = τ40.2.1 86 x39 → (∃ (Q43 : Int → Prop), W_X13_firstSide x42 τ40 Q43 ∧ ∀ (x44 : Int), rg x44 → Q43 x44 → (∀ (x46 : Int), rg x46 → x46 = τ40.2.1 87 x39 → ((0 ≤ ((x46 + 1) - x44) ∧ ((x46 + 1) - x44) < 120000) ∧ (∀ (x48 : Int), rg x48 → x48 = τ40.2.1 91 ((x46 + 1) - x44) → (∀ (x49 : Int), rg x49 → x49 = τ40.2.1 87 x39 → ((0 ≤ (x49 + x44) ∧ (x49 + x44) < 120000) ∧ (∀ (x51 : Int), rg x51 → x51 = τ40.2.1 91 (x49 + x44) → (∃ (Q52 : Int → S0 → Prop), W_X13_tellBare x48 x51 (s_a τ40 99 x24 (τ40.1 53)) Q52 ∧ ∀ (x53 : Int) (τ54 : S0), rg x53 → n_m τ54 → f_r [53, 54] [101, 102] [] (s_a τ40 99 x24 (τ40.1 53)) τ54 → Q52 x53 τ54 → (rg (u2 + 1) ∧ P12 u1 (u2 + 1) (s_a τ54 100 x24 x53)))))))))))))))))))))) → P12 u1 u2 τ) →
  (∀ (u2 : Int) (u3 : Int) (u4 : Int) (τ : S0), ((u3 ≤ u4 → ∃ (Q57 : Int → S0 → Prop), W_X13_keepDraft τ Q57 ∧ ∀ (x58 : Int) (τ59 : S0), rg x58 → n_m τ59 → f_r [40] [60] [] τ τ59 → Q57 x58 τ59 → (Q x58 τ59)) ∧ (u4 < u3 → (0 ≤ (u2 + u4) ∧ (u2 + u4) < 460000) ∧ (∀ (x61 : Int), rg x61 → x61 = τ.2.1 101 (u2 + u4) → (∃ (Q62 : S0 → Prop), W_X13_putSymbol x61 τ Q62 ∧ ∀ (τ64 : S0), n_m τ64 → f_r [39] [59] [] τ τ64 → Q62 τ64 → (rg (u4 + 1) ∧ P175 u2 u3 (u4 + 1) τ64))))) → P175 u2 u3 u4 τ) →
  ∃ (Q1 : S0 → Prop), W_X13_findDefiners n1 σ Q1 ∧ ∀ (τ3 : S0), n_m τ3 → f_r [42, 45, 46, 47, 48, 49, 50, 51, 52] [65, 66, 71, 72, 73, 74, 75, 76, 77, 78, 79, 80, 81, 82, 83, 84, 85, 86, 87, 88, 89, 90, 91, 92, 93, 94, 95, 97, 98] [3, 4, 5, 6, 7] σ τ3 → Q1 τ3 → (P12 n1 0 (s_v τ3 53 0))
set_option maxRecDepth 100000 in
set_option maxHeartbeats 4000000 in
theorem L_X13_printBare (l : Launch) (g : gG) (q : Nat → Nat) (lb : Nat) (hlb : lb < 2 ^ 31) {n1 : Int} {σ : S0} {Q : Int → S0 → Prop} (r_n1 : rg n1) (hN : n_m σ) (hw : W_X13_printBare n1 σ Q) (sz : Nat) : MetI l yX13_printBare cX13_printBare 6 (some .int) { frames := 12, cells := 0, slots := 0, locals := 303 } g [.ref (q 0), .int (I n1)] (MX g q lb σ) sz xT (p_I (MX g q lb) [39, 40, 42, 45, 46, 47, 48, 49, 50, 51, 52, 53, 54] [59, 60, 65, 66, 71, 72, 73, 74, 75, 76, 77, 78, 79, 80, 81, 82, 83, 84, 85, 86, 87, 88, 89, 90, 91, 92, 93, 94, 95, 97, 98, 99, 100, 101, 102] [3, 4, 5, 6, 7] σ Q) 0 0 := by
  refine mkMet (Qc := fun A => QI g A (p_I (MX g q lb) [39, 40, 42, 45, 46, 47, 48, 49, 50, 51, 52, 53, 54] [59, 60, 65, 66, 71, 72, 73, 74, 75, 76, 77, 78, 79, 80, 81, 82, 83, 84, 85, 86, 87, 88, 89, 90, 91, 92, 93, 94, 95, 97, 98, 99, 100, 101, 102] [3, 4, 5, 6, 7] σ Q)) (by decide) (Nat.le_of_ble_eq_true rfl) ?_
  intro p e s m below meth c A H ls hx hb hr hml hown hts hlk hnm hsz hP hK hNb hD hA hAe hS hX hl
  have hl : lv_has ls 6 [(0, .ref (q 0)), (1, .int (I n1))] := hl
  have hB := hN
  have hF : f_r [39, 40, 42, 45, 46, 47, 48, 49, 50, 51, 52, 53, 54] [59, 60, 65, 66, 71, 72, 73, 74, 75, 76, 77, 78, 79, 80, 81, 82, 83, 84, 85, 86, 87, 88, 89, 90, 91, 92, 93, 94, 95, 97, 98, 99, 100, 101, 102] [3, 4, 5, 6, 7] σ σ := f_0
  obtain ⟨locs, hlocs⟩ : ∃ z : List Loc, z = [] := ⟨_, rfl⟩
  rw [← hlocs] at hS ⊢
  obtain ⟨P12, hP12⟩ : ∃ P : Int → Int → S0 → Prop, ∀ (u1 : Int) (u2 : Int) (τ : S0), (P u1 u2 τ ↔ (rg u1 → rg u2 → n_m τ → f_r [39, 40, 42, 45, 46, 47, 48, 49, 50, 51, 52, 53, 54] [59, 60, 65, 66, 71, 72, 73, 74, 75, 76, 77, 78, 79, 80, 81, 82, 83, 84, 85, 86, 87, 88, 89, 90, 91, 92, 93, 94, 95, 97, 98, 99, 100, 101, 102] [3, 4, 5, 6, 7] σ τ → ∀ (H : Heap) (locs : List Loc) (ls : Array Slot), KP g (MX g q lb τ) H → va_D A (MX g q lb τ) → va_S A s.heap H locs → lv_has ls 6 [(0, .ref (q 0)), (1, .int (I u1)), (2, .int (I u2))] → W p l e ({ frames := 12, cells := 0, slots := 0, locals := 303 }) s m [.ref (q 0), .int (I n1)].toArray below meth c H locs 0 0 (MQ below (QI g A (p_I (MX g q lb) [39, 40, 42, 45, 46, 47, 48, 49, 50, 51, 52, 53, 54] [59, 60, 65, 66, 71, 72, 73, 74, 75, 76, 77, 78, 79, 80, 81, 82, 83, 84, 85, 86, 87, 88, 89, 90, 91, 92, 93, 94, 95, 97, 98, 99, 100, 101, 102] [3, 4, 5, 6, 7] σ Q)) [.ref (q 0), .int (I n1)].toArray s 0 0 A) (F0 m 12 ls []))) := ⟨_, fun _ _ _ => Iff.rfl⟩
  obtain ⟨P175, hP175⟩ : ∃ P : Int → Int → Int → S0 → Prop, ∀ (u2 : Int) (u3 : Int) (u4 : Int) (τ : S0), (P u2 u3 u4 τ ↔ (rg u2 → rg u3 → rg u4 → n_m τ → f_r [39, 40, 42, 45, 46, 47, 48, 49, 50, 51, 52, 53, 54] [59, 60, 65, 66, 71, 72, 73, 74, 75, 76, 77, 78, 79, 80, 81, 82, 83, 84, 85, 86, 87, 88, 89, 90, 91, 92, 93, 94, 95, 97, 98, 99, 100, 101, 102] [3, 4, 5, 6, 7] σ τ → ∀ (H : Heap) (locs : List Loc) (ls : Array Slot), KP g (MX g q lb τ) H → va_D A (MX g q lb τ) → va_S A s.heap H locs → lv_has ls 6 [(0, .ref (q 0)), (2, .int (I u2)), (3, .int (I u3)), (4, .int (I u4))] → W p l e ({ frames := 12, cells := 0, slots := 0, locals := 303 }) s m [.ref (q 0), .int (I n1)].toArray below meth c H locs 0 0 (MQ below (QI g A (p_I (MX g q lb) [39, 40, 42, 45, 46, 47, 48, 49, 50, 51, 52, 53, 54] [59, 60, 65, 66, 71, 72, 73, 74, 75, 76, 77, 78, 79, 80, 81, 82, 83, 84, 85, 86, 87, 88, 89, 90, 91, 92, 93, 94, 95, 97, 98, 99, 100, 101, 102] [3, 4, 5, 6, 7] σ Q)) [.ref (q 0), .int (I n1)].toArray s 0 0 A) (F0 m 175 ls []))) := ⟨_, fun _ _ _ _ => Iff.rfl⟩
  refine (fun hw => ?_) (hw P12 P175 ?_ ?_)
  ·
    refine lv_aload_n hx hb dX13_printBare_0 rfl (lv_at hl 0 rfl) ?_
    refine lv_iload_n hx hb dX13_printBare_1 rfl (lv_at hl 1 rfl) ?_
    obtain ⟨Q1, hc, hw⟩ := hw
    refine wc_V (X := MX g q lb) (va_runV (As := [.int (I n1)]) (rest := []) ⟨hx, hb, hml, hown, hts⟩ (L_X13_findDefiners l g q lb hlb r_n1 hN hc H.size) (cwV 1 hts (TB_V tw_3125 tw_3127 ts_222 tw_15 co_X13_findDefiners) rfl rfl rfl (by decide +kernel) ⟨Nat.le_of_ble_eq_true rfl, Nat.le_of_ble_eq_true rfl⟩) (preV (q0 := 0) (ci := 13) rfl xT_bl hP hK hNb hD rfl rfl xT_at) rfl rfl hl.1 rfl (lv_room (Nat.le_of_ble_eq_true rfl)) dX13_printBare_2 ⟨Nat.le_of_ble_eq_true rfl, Nat.le_of_ble_eq_true rfl⟩) hP hD hS hA (fun τ3 H locs hN hf hq hP hD hS => ?_)
    replace hw := hw τ3 hN hf hq
    have hF : f_r [39, 40, 42, 45, 46, 47, 48, 49, 50, 51, 52, 53, 54] [59, 60, 65, 66, 71, 72, 73, 74, 75, 76, 77, 78, 79, 80, 81, 82, 83, 84, 85, 86, 87, 88, 89, 90, 91, 92, 93, 94, 95, 97, 98, 99, 100, 101, 102] [3, 4, 5, 6, 7] σ τ3 := f_t hF hf (by decide) (by decide) (by decide)
    have hB := hN
    refine lv_aload_n hx hb dX13_printBare_5 rfl (lv_at hl 0 rfl) ?_
    refine lv_iconst (v := I 0) hx hb dX13_printBare_6 rfl ?_
    refine pfX13_bareSize hx hb hts hK hP hD hS hown (hts _ tw_2168) dX13_printBare_7 (fun H locs hP hD hS => ?_)
    have hN : n_m (s_v τ3 53 0) := n_v (i := 53) hN ((by decide) : rg 0)
    have hF : f_r [39, 40, 42, 45, 46, 47, 48, 49, 50, 51, 52, 53, 54] [59, 60, 65, 66, 71, 72, 73, 74, 75, 76, 77, 78, 79, 80, 81, 82, 83, 84, 85, 86, 87, 88, 89, 90, 91, 92, 93, 94, 95, 97, 98, 99, 100, 101, 102] [3, 4, 5, 6, 7] σ (s_v τ3 53 0) := f_v hF (by decide)
    refine lv_iconst (v := I 0) hx hb dX13_printBare_10 rfl ?_
    refine lv_istore_n (lv' := [(2, .int (I 0)), (0, .ref (q 0)), (1, .int (I n1))]) hx hb dX13_printBare_11 rfl hl (by decide) rfl (fun ls hl => ?_)
    exact (hP12 _ _ _).mp hw r_n1 (by decide) hN hF H locs ls hP hD hS (lv_sub hl [1, 2, 0] rfl)
  ·
    intro u1 u2 τ hw
    refine (hP12 _ _ _).mpr ?_
    intro r_u1 r_u2 hN hF H locs ls hP hD hS hl
    have hB := hN
    refine lv_iload_n hx hb dX13_printBare_12 rfl (lv_at hl 2 rfl) ?_
    refine lv_iload_n hx hb dX13_printBare_13 rfl (lv_at hl 1 rfl) ?_
    refine bi_icmp_ge (tgt := 129) hx hb r_u2 r_u1 dX13_printBare_14 (by decide) (fun c4 => ?_) (fun c4 => ?_)
    ·
      replace hw := hw.1 c4
      refine lv_aload_n hx hb dX13_printBare_129 rfl (lv_at hl 0 rfl) ?_
      obtain ⟨Q5, hc, hw⟩ := hw
      refine wc_V (X := MX g q lb) (va_runV (As := []) (rest := []) ⟨hx, hb, hml, hown, hts⟩ (L_X13_beginTrees l g q lb hlb  hN hc H.size) (cwV 0 hts (TB_V tw_3055 tw_3057 ts_205 tw_15 co_X13_beginTrees) rfl rfl rfl (by decide +kernel) ⟨Nat.le_of_ble_eq_true rfl, Nat.le_of_ble_eq_true rfl⟩) (preV (q0 := 0) (ci := 13) rfl xT_bl hP hK hNb hD rfl rfl xT_at) rfl rfl hl.1 rfl (lv_room (Nat.le_of_ble_eq_true rfl)) dX13_printBare_130 ⟨Nat.le_of_ble_eq_true rfl, Nat.le_of_ble_eq_true rfl⟩) hP hD hS hA (fun τ7 H locs hN hf hq hP hD hS => ?_)
      replace hw := hw τ7 hN hf hq
      have hF : f_r [39, 40, 42, 45, 46, 47, 48, 49, 50, 51, 52, 53, 54] [59, 60, 65, 66, 71, 72, 73, 74, 75, 76, 77, 78, 79, 80, 81, 82, 83, 84, 85, 86, 87, 88, 89, 90, 91, 92, 93, 94, 95, 97, 98, 99, 100, 101, 102] [3, 4, 5, 6, 7] σ τ7 := f_t hF hf (by decide) (by decide) (by decide)
      have hB := hN
      refine lv_aload_n hx hb dX13_printBare_133 rfl (lv_at hl 0 rfl) ?_
      refine gfX13_bareSize hx hb hts hK hP hown (hts _ tw_2168) (x := τ7.1 53) rfl dX13_printBare_134 ?_
      refine lv_istore_n (lv' := [(2, .int (I (τ7.1 53))), (0, .ref (q 0)), (1, .int (I u1))]) hx hb dX13_printBare_137 rfl hl (by decide) rfl (fun ls hl => ?_)
      refine lv_aload_n hx hb dX13_printBare_138 rfl (lv_at hl 1 rfl) ?_
      refine lv_aload_n hx hb dX13_printBare_139 rfl (lv_at hl 1 rfl) ?_
      refine lv_iload_n hx hb dX13_printBare_140 rfl (lv_at hl 2 rfl) ?_
      obtain ⟨Q8, hc, hw⟩ := hw
      refine wc_I (X := MX g q lb) (va_runV (As := [.int (I u1)]) (rest := [.ref (q 0)]) ⟨hx, hb, hml, hown, hts⟩ (L_X13_treeOf l g q lb hlb r_u1 hN hc H.size) (cwV 1 hts (TB_V tw_2908 tw_2910 ts_172 tw_15 co_X13_treeOf) rfl rfl rfl (by decide +kernel) ⟨Nat.le_of_ble_eq_true rfl, Nat.le_of_ble_eq_true rfl⟩) (preV (q0 := 0) (ci := 13) rfl xT_bl hP hK hNb hD rfl rfl xT_at) rfl rfl hl.1 rfl (lv_room (Nat.le_of_ble_eq_true rfl)) dX13_printBare_141 ⟨Nat.le_of_ble_eq_true rfl, Nat.le_of_ble_eq_true rfl⟩) hP hD hS hA (fun x9 τ10 H locs r_x9 hN hf hq hP hD hS => ?_)
      replace hw := hw x9 τ10 r_x9 hN hf hq
      have hF : f_r [39, 40, 42, 45, 46, 47, 48, 49, 50, 51, 52, 53, 54] [59, 60, 65, 66, 71, 72, 73, 74, 75, 76, 77, 78, 79, 80, 81, 82, 83, 84, 85, 86, 87, 88, 89, 90, 91, 92, 93, 94, 95, 97, 98, 99, 100, 101, 102] [3, 4, 5, 6, 7] σ τ10 := f_t hF hf (by decide) (by decide) (by decide)
      have hB := hN
      refine lv_iconst (v := I (-1)) hx hb dX13_printBare_144 rfl ?_
      obtain ⟨Q11, hc, hw⟩ := hw
      refine wc_I (X := MX g q lb) (va_runV (As := [.int (I x9), .int (I (-1))]) (rest := []) ⟨hx, hb, hml, hown, hts⟩ (L_X13_tellBare l g q lb hlb r_x9 (by decide) hN hc H.size) (cwV 2 hts (TB_V tw_3137 tw_3139 ts_225 tw_15 co_X13_tellBare) rfl rfl rfl (by decide +kernel) ⟨Nat.le_of_ble_eq_true rfl, Nat.le_of_ble_eq_true rfl⟩) (preV (q0 := 0) (ci := 13) rfl xT_bl hP hK hNb hD rfl rfl xT_at) rfl rfl hl.1 rfl (lv_room (Nat.le_of_ble_eq_true rfl)) dX13_printBare_145 ⟨Nat.le_of_ble_eq_true rfl, Nat.le_of_ble_eq_true rfl⟩) hP hD hS hA (fun x12 τ13 H locs r_x12 hN hf hq hP hD hS => ?_)
      replace hw := hw x12 τ13 r_x12 hN hf hq
      have hF : f_r [39, 40, 42, 45, 46, 47, 48, 49, 50, 51, 52, 53, 54] [59, 60, 65, 66, 71, 72, 73, 74, 75, 76, 77, 78, 79, 80, 81, 82, 83, 84, 85, 86, 87, 88, 89, 90, 91, 92, 93, 94, 95, 97, 98, 99, 100, 101, 102] [3, 4, 5, 6, 7] σ τ13 := f_t hF hf (by decide) (by decide) (by decide)
      have hB := hN
      refine lv_istore_n (lv' := [(3, .int (I x12)), (2, .int (I (τ7.1 53))), (0, .ref (q 0)), (1, .int (I u1))]) hx hb dX13_printBare_148 rfl hl (by decide) rfl (fun ls hl => ?_)
      refine lv_iload_n hx hb dX13_printBare_149 rfl (lv_at hl 0 rfl) ?_
      refine lv_iconst (v := I (-1)) hx hb dX13_printBare_150 rfl ?_
      refine bi_icmp_ne (tgt := 157) hx hb r_x12 (by decide) dX13_printBare_151 (by decide) (fun c14 => ?_) (fun c14 => ?_)
      ·
        replace hw := hw.1 c14
        refine lv_aload_n hx hb dX13_printBare_157 rfl (lv_at hl 2 rfl) ?_
        refine lv_aload_n hx hb dX13_printBare_158 rfl (lv_at hl 2 rfl) ?_
        refine gfX13_texts hx hb hts hK hP hown (hts _ tw_2028) dX13_printBare_159 ?_
        refine lv_aload_n hx hb dX13_printBare_162 rfl (lv_at hl 2 rfl) ?_
        refine gfX13_textAt hx hb hts hK hP hown (hts _ tw_2026) dX13_printBare_163 ?_
        refine lv_iload_n hx hb dX13_printBare_166 rfl (lv_at hl 3 rfl) ?_
        obtain ⟨c15, hw⟩ := hw
        refine ldMX13_textAt hx hb hK hP hN c15 dX13_printBare_167 (fun x16 r_x16 e_x16 => ?_)
        replace hw := hw x16 r_x16 e_x16
        obtain ⟨c17, hw⟩ := hw
        refine ldMX13_texts hx hb hK hP hN c17 dX13_printBare_168 (fun x18 r_x18 e_x18 => ?_)
        replace hw := hw x18 r_x18 e_x18
        obtain ⟨Q19, hc, hw⟩ := hw
        refine wc_V (X := MX g q lb) (va_runV (As := [.int (I x18)]) (rest := []) ⟨hx, hb, hml, hown, hts⟩ (L_X13_putSymbol l g q lb hlb r_x18 hN hc H.size) (cwV 1 hts (TB_V tw_3079 tw_3081 ts_211 tw_15 co_X13_putSymbol) rfl rfl rfl (by decide +kernel) ⟨Nat.le_of_ble_eq_true rfl, Nat.le_of_ble_eq_true rfl⟩) (preV (q0 := 0) (ci := 13) rfl xT_bl hP hK hNb hD rfl rfl xT_at) rfl rfl hl.1 rfl (lv_room (Nat.le_of_ble_eq_true rfl)) dX13_printBare_169 ⟨Nat.le_of_ble_eq_true rfl, Nat.le_of_ble_eq_true rfl⟩) hP hD hS hA (fun τ21 H locs hN hf hq hP hD hS => ?_)
        replace hw := hw τ21 hN hf hq
        have hF : f_r [39, 40, 42, 45, 46, 47, 48, 49, 50, 51, 52, 53, 54] [59, 60, 65, 66, 71, 72, 73, 74, 75, 76, 77, 78, 79, 80, 81, 82, 83, 84, 85, 86, 87, 88, 89, 90, 91, 92, 93, 94, 95, 97, 98, 99, 100, 101, 102] [3, 4, 5, 6, 7] σ τ21 := f_t hF hf (by decide) (by decide) (by decide)
        have hB := hN
        refine lv_iconst (v := I 0) hx hb dX13_printBare_172 rfl ?_
        refine lv_istore (lv' := [(4, .int (I 0)), (3, .int (I x12)), (2, .int (I (τ7.1 53))), (0, .ref (q 0)), (1, .int (I u1))]) hx hb dX13_printBare_173 hl (by decide) rfl (fun ls hl => ?_)
        obtain ⟨c22, hw⟩ := hw
        exact (hP175 _ _ _ _).mp hw c22 r_x12 (by decide) hN hF H locs ls hP hD hS (lv_sub hl [3, 2, 1, 0] rfl)
      ·
        replace hw := hw.2 c14
        refine lv_bipush (v := I (-2)) hx hb dX13_printBare_154 (by decide) ?_
        exact xri hx hb hr hlk hP hK hD hS ⟨_, _, (by decide), rfl, hN, hF, rfl, hw⟩ (Nat.le_of_ble_eq_true rfl) (Nat.le_of_ble_eq_true rfl) dX13_printBare_156
    ·
      replace hw := hw.2 c4
      refine lv_aload_n hx hb dX13_printBare_17 rfl (lv_at hl 0 rfl) ?_
      refine lv_iload_n hx hb dX13_printBare_18 rfl (lv_at hl 2 rfl) ?_
      obtain ⟨Q23, hc, hw⟩ := hw
      refine wc_I (X := MX g q lb) (va_runV (As := [.int (I u2)]) (rest := []) ⟨hx, hb, hml, hown, hts⟩ (L_X13_ruleOf l g q lb hlb r_u2 hN hc H.size) (cwV 1 hts (TB_V tw_3129 tw_3131 ts_223 tw_15 co_X13_ruleOf) rfl rfl rfl (by decide +kernel) ⟨Nat.le_of_ble_eq_true rfl, Nat.le_of_ble_eq_true rfl⟩) (preV (q0 := 0) (ci := 13) rfl xT_bl hP hK hNb hD rfl rfl xT_at) rfl rfl hl.1 rfl (lv_room (Nat.le_of_ble_eq_true rfl)) dX13_printBare_19 ⟨Nat.le_of_ble_eq_true rfl, Nat.le_of_ble_eq_true rfl⟩) hP hD hS hA (fun x24 τ25 H locs r_x24 hN hf hq hP hD hS => ?_)
      replace hw := hw x24 τ25 r_x24 hN hf hq
      have hF : f_r [39, 40, 42, 45, 46, 47, 48, 49, 50, 51, 52, 53, 54] [59, 60, 65, 66, 71, 72, 73, 74, 75, 76, 77, 78, 79, 80, 81, 82, 83, 84, 85, 86, 87, 88, 89, 90, 91, 92, 93, 94, 95, 97, 98, 99, 100, 101, 102] [3, 4, 5, 6, 7] σ τ25 := f_t hF hf (by decide) (by decide) (by decide)
      have hB := hN
      refine lv_istore_n (lv' := [(3, .int (I x24)), (0, .ref (q 0)), (1, .int (I u1)), (2, .int (I u2))]) hx hb dX13_printBare_22 rfl hl (by decide) rfl (fun ls hl => ?_)
      refine lv_iload_n hx hb dX13_printBare_23 rfl (lv_at hl 0 rfl) ?_
      refine lv_iconst (v := I (-1)) hx hb dX13_printBare_24 rfl ?_
      refine bi_icmp_eq (tgt := 123) hx hb r_x24 (by decide) dX13_printBare_25 (by decide) (fun c26 => ?_) (fun c26 => ?_)
      ·
        replace hw := hw.1 c26
        refine lv_iinc (v := I (u2 + 1)) (lv' := [(2, .int (I (u2 + 1))), (3, .int (I x24)), (0, .ref (q 0)), (1, .int (I u1))]) hx hb dX13_printBare_123 hl (k := 3) rfl (I_add _ _) (by decide) rfl (fun ls hl => ?_)
        refine lv_goto (tgt := 12) hx hb dX13_printBare_126 (by decide) ?_
        obtain ⟨c27, hw⟩ := hw
        exact (hP12 _ _ _).mp hw r_u1 c27 hN hF H locs ls hP hD hS (lv_sub hl [2, 3, 0] rfl)
      ·
        replace hw := hw.2 c26
        refine lv_aload_n hx hb dX13_printBare_28 rfl (lv_at hl 1 rfl) ?_
        refine gfX13_definer hx hb hts hK hP hown (hts _ tw_2163) dX13_printBare_29 ?_
        refine lv_iload_n hx hb dX13_printBare_32 rfl (lv_at hl 0 rfl) ?_
        obtain ⟨c28, hw⟩ := hw
        refine ldMX13_definer hx hb hK hP hN c28 dX13_printBare_33 (fun x29 r_x29 e_x29 => ?_)
        replace hw := hw x29 r_x29 e_x29
        refine lv_iload_n hx hb dX13_printBare_34 rfl (lv_at hl 3 rfl) ?_
        refine bi_icmp_ne (tgt := 123) hx hb r_x29 r_u2 dX13_printBare_35 (by decide) (fun c30 => ?_) (fun c30 => ?_)
        ·
          replace hw := hw.1 c30
          refine lv_iinc (v := I (u2 + 1)) (lv' := [(2, .int (I (u2 + 1))), (3, .int (I x24)), (0, .ref (q 0)), (1, .int (I u1))]) hx hb dX13_printBare_123 hl (k := 3) rfl (I_add _ _) (by decide) rfl (fun ls hl => ?_)
          refine lv_goto (tgt := 12) hx hb dX13_printBare_126 (by decide) ?_
          obtain ⟨c31, hw⟩ := hw
          exact (hP12 _ _ _).mp hw r_u1 c31 hN hF H locs ls hP hD hS (lv_sub hl [2, 3, 0] rfl)
        ·
          replace hw := hw.2 c30
          refine lv_aload_n hx hb dX13_printBare_38 rfl (lv_at hl 1 rfl) ?_
          refine gfX13_isNeeded hx hb hts hK hP hown (hts _ tw_2164) dX13_printBare_39 ?_
          refine lv_iload_n hx hb dX13_printBare_42 rfl (lv_at hl 0 rfl) ?_
          refine ldMX13_isNeeded hx hb hK hP hN c28 dX13_printBare_43 (fun x32 r_x32 e_x32 => ?_)
          replace hw := hw x32 r_x32 e_x32
          refine bi_if_eq (tgt := 123) hx hb r_x32 dX13_printBare_44 (by decide) (fun c33 => ?_) (fun c33 => ?_)
          ·
            replace hw := hw.1 c33
            refine lv_iinc (v := I (u2 + 1)) (lv' := [(2, .int (I (u2 + 1))), (3, .int (I x24)), (0, .ref (q 0)), (1, .int (I u1))]) hx hb dX13_printBare_123 hl (k := 3) rfl (I_add _ _) (by decide) rfl (fun ls hl => ?_)
            refine lv_goto (tgt := 12) hx hb dX13_printBare_126 (by decide) ?_
            obtain ⟨c34, hw⟩ := hw
            exact (hP12 _ _ _).mp hw r_u1 c34 hN hF H locs ls hP hD hS (lv_sub hl [2, 3, 0] rfl)
          ·
            replace hw := hw.2 c33
            refine lv_aload_n hx hb dX13_printBare_47 rfl (lv_at hl 1 rfl) ?_
            obtain ⟨Q35, hc, hw⟩ := hw
            refine wc_V (X := MX g q lb) (va_runV (As := []) (rest := []) ⟨hx, hb, hml, hown, hts⟩ (L_X13_beginTrees l g q lb hlb  hN hc H.size) (cwV 0 hts (TB_V tw_3055 tw_3057 ts_205 tw_15 co_X13_beginTrees) rfl rfl rfl (by decide +kernel) ⟨Nat.le_of_ble_eq_true rfl, Nat.le_of_ble_eq_true rfl⟩) (preV (q0 := 0) (ci := 13) rfl xT_bl hP hK hNb hD rfl rfl xT_at) rfl rfl hl.1 rfl (lv_room (Nat.le_of_ble_eq_true rfl)) dX13_printBare_48 ⟨Nat.le_of_ble_eq_true rfl, Nat.le_of_ble_eq_true rfl⟩) hP hD hS hA (fun τ37 H locs hN hf hq hP hD hS => ?_)
            replace hw := hw τ37 hN hf hq
            have hF : f_r [39, 40, 42, 45, 46, 47, 48, 49, 50, 51, 52, 53, 54] [59, 60, 65, 66, 71, 72, 73, 74, 75, 76, 77, 78, 79, 80, 81, 82, 83, 84, 85, 86, 87, 88, 89, 90, 91, 92, 93, 94, 95, 97, 98, 99, 100, 101, 102] [3, 4, 5, 6, 7] σ τ37 := f_t hF hf (by decide) (by decide) (by decide)
            have hB := hN
            refine lv_aload_n hx hb dX13_printBare_51 rfl (lv_at hl 1 rfl) ?_
            refine lv_iload_n hx hb dX13_printBare_52 rfl (lv_at hl 3 rfl) ?_
            obtain ⟨Q38, hc, hw⟩ := hw
            refine wc_I (X := MX g q lb) (va_runV (As := [.int (I u2)]) (rest := []) ⟨hx, hb, hml, hown, hts⟩ (L_X13_treeOf l g q lb hlb r_u2 hN hc H.size) (cwV 1 hts (TB_V tw_2908 tw_2910 ts_172 tw_15 co_X13_treeOf) rfl rfl rfl (by decide +kernel) ⟨Nat.le_of_ble_eq_true rfl, Nat.le_of_ble_eq_true rfl⟩) (preV (q0 := 0) (ci := 13) rfl xT_bl hP hK hNb hD rfl rfl xT_at) rfl rfl hl.1 rfl (lv_room (Nat.le_of_ble_eq_true rfl)) dX13_printBare_53 ⟨Nat.le_of_ble_eq_true rfl, Nat.le_of_ble_eq_true rfl⟩) hP hD hS hA (fun x39 τ40 H locs r_x39 hN hf hq hP hD hS => ?_)
            replace hw := hw x39 τ40 r_x39 hN hf hq
            have hF : f_r [39, 40, 42, 45, 46, 47, 48, 49, 50, 51, 52, 53, 54] [59, 60, 65, 66, 71, 72, 73, 74, 75, 76, 77, 78, 79, 80, 81, 82, 83, 84, 85, 86, 87, 88, 89, 90, 91, 92, 93, 94, 95, 97, 98, 99, 100, 101, 102] [3, 4, 5, 6, 7] σ τ40 := f_t hF hf (by decide) (by decide) (by decide)
            have hB := hN
            refine lv_istore (lv' := [(4, .int (I x39)), (3, .int (I x24)), (0, .ref (q 0)), (1, .int (I u1)), (2, .int (I u2))]) hx hb dX13_printBare_56 hl (by decide) rfl (fun ls hl => ?_)
            refine lv_aload_n hx hb dX13_printBare_58 rfl (lv_at hl 2 rfl) ?_
            refine lv_aload_n hx hb dX13_printBare_59 rfl (lv_at hl 2 rfl) ?_
            refine gfX13_nodeIs hx hb hts hK hP hown (hts _ tw_2149) dX13_printBare_60 ?_
            refine lv_iload hx hb dX13_printBare_63 (lv_at hl 0 rfl) ?_
            obtain ⟨c41, hw⟩ := hw
            refine ldMX13_nodeIs hx hb hK hP hN c41 dX13_printBare_65 (fun x42 r_x42 e_x42 => ?_)
            replace hw := hw x42 r_x42 e_x42
            obtain ⟨Q43, hc, hw⟩ := hw
            refine wc_i (X := MX g q lb) (va_runV (As := [.int (I x42)]) (rest := []) ⟨hx, hb, hml, hown, hts⟩ (L_X13_firstSide l g q lb hlb r_x42 hN hc H.size) (cwV 1 hts (TB_V tw_3027 tw_3029 ts_199 tw_15 co_X13_firstSide) rfl rfl rfl (by decide +kernel) ⟨Nat.le_of_ble_eq_true rfl, Nat.le_of_ble_eq_true rfl⟩) (preV (q0 := 0) (ci := 13) rfl xT_bl hP hK hNb hD rfl rfl xT_at) rfl rfl hl.1 rfl (lv_room (Nat.le_of_ble_eq_true rfl)) dX13_printBare_66 ⟨Nat.le_of_ble_eq_true rfl, Nat.le_of_ble_eq_true rfl⟩) hP hD hS hA (fun x44 H locs r_x44 hq hP hD hS => ?_)
            replace hw := hw x44 r_x44 hq
            refine lv_istore (lv' := [(5, .int (I x44)), (4, .int (I x39)), (3, .int (I x24)), (0, .ref (q 0)), (1, .int (I u1)), (2, .int (I u2))]) hx hb dX13_printBare_69 hl (by decide) rfl (fun ls hl => ?_)
            refine lv_aload_n hx hb dX13_printBare_71 rfl (lv_at hl 3 rfl) ?_
            refine gfX13_bareAt hx hb hts hK hP hown (hts _ tw_2165) dX13_printBare_72 ?_
            refine lv_iload_n hx hb dX13_printBare_75 rfl (lv_at hl 2 rfl) ?_
            refine lv_aload_n hx hb dX13_printBare_76 rfl (lv_at hl 3 rfl) ?_
            refine gfX13_bareSize hx hb hts hK hP hown (hts _ tw_2168) (x := τ40.1 53) rfl dX13_printBare_77 ?_
            refine sdMX13_bareAt hx hb hK hP hD hS c28 dX13_printBare_80 (fun H locs hP hD hS => ?_)
            have hN : n_m (s_a τ40 99 x24 (τ40.1 53)) := n_a (k := 99) (j := x24) hN ((hB.1 53) : rg (τ40.1 53))
            have hF : f_r [39, 40, 42, 45, 46, 47, 48, 49, 50, 51, 52, 53, 54] [59, 60, 65, 66, 71, 72, 73, 74, 75, 76, 77, 78, 79, 80, 81, 82, 83, 84, 85, 86, 87, 88, 89, 90, 91, 92, 93, 94, 95, 97, 98, 99, 100, 101, 102] [3, 4, 5, 6, 7] σ (s_a τ40 99 x24 (τ40.1 53)) := f_a hF (by decide)
            refine lv_aload_n hx hb dX13_printBare_81 rfl (lv_at hl 3 rfl) ?_
            refine gfX13_bareMany hx hb hts hK hP hown (hts _ tw_2166) dX13_printBare_82 ?_
            refine lv_iload_n hx hb dX13_printBare_85 rfl (lv_at hl 2 rfl) ?_
            refine lv_aload_n hx hb dX13_printBare_86 rfl (lv_at hl 3 rfl) ?_
            refine lv_aload_n hx hb dX13_printBare_87 rfl (lv_at hl 3 rfl) ?_
            refine gfX13_kids hx hb hts hK hP hown (hts _ tw_2154) dX13_printBare_88 ?_
            refine lv_aload_n hx hb dX13_printBare_91 rfl (lv_at hl 3 rfl) ?_
            refine gfX13_nodeKids hx hb hts hK hP hown (hts _ tw_2150) dX13_printBare_92 ?_
            refine lv_iload hx hb dX13_printBare_95 (lv_at hl 1 rfl) ?_
            refine ldMX13_nodeKids hx hb hK hP hN c41 dX13_printBare_97 (fun x46 r_x46 e_x46 => ?_)
            replace hw := hw x46 r_x46 e_x46
            refine lv_iconst (v := I 1) hx hb dX13_printBare_98 rfl ?_
            refine bi_iadd hx hb dX13_printBare_99 ?_
            refine lv_iload hx hb dX13_printBare_100 (lv_at hl 0 rfl) ?_
            refine bi_isub hx hb dX13_printBare_102 ?_
            obtain ⟨c47, hw⟩ := hw
            refine ldMX13_kids hx hb hK hP hN c47 dX13_printBare_103 (fun x48 r_x48 e_x48 => ?_)
            replace hw := hw x48 r_x48 e_x48
            refine lv_aload_n hx hb dX13_printBare_104 rfl (lv_at hl 3 rfl) ?_
            refine gfX13_kids hx hb hts hK hP hown (hts _ tw_2154) dX13_printBare_105 ?_
            refine lv_aload_n hx hb dX13_printBare_108 rfl (lv_at hl 3 rfl) ?_
            refine gfX13_nodeKids hx hb hts hK hP hown (hts _ tw_2150) dX13_printBare_109 ?_
            refine lv_iload hx hb dX13_printBare_112 (lv_at hl 1 rfl) ?_
            refine ldMX13_nodeKids hx hb hK hP hN c41 dX13_printBare_114 (fun x49 r_x49 e_x49 => ?_)
            replace hw := hw x49 r_x49 e_x49
            refine lv_iload hx hb dX13_printBare_115 (lv_at hl 0 rfl) ?_
            refine bi_iadd hx hb dX13_printBare_117 ?_
            obtain ⟨c50, hw⟩ := hw
            refine ldMX13_kids hx hb hK hP hN c50 dX13_printBare_118 (fun x51 r_x51 e_x51 => ?_)
            replace hw := hw x51 r_x51 e_x51
            obtain ⟨Q52, hc, hw⟩ := hw
            refine wc_I (X := MX g q lb) (va_runV (As := [.int (I x48), .int (I x51)]) (rest := [.int (I x24), .ref (q 109)]) ⟨hx, hb, hml, hown, hts⟩ (L_X13_tellBare l g q lb hlb r_x48 r_x51 hN hc H.size) (cwV 2 hts (TB_V tw_3137 tw_3139 ts_225 tw_15 co_X13_tellBare) rfl rfl rfl (by decide +kernel) ⟨Nat.le_of_ble_eq_true rfl, Nat.le_of_ble_eq_true rfl⟩) (preV (q0 := 0) (ci := 13) rfl xT_bl hP hK hNb hD rfl rfl xT_at) rfl rfl hl.1 rfl (lv_room (Nat.le_of_ble_eq_true rfl)) dX13_printBare_119 ⟨Nat.le_of_ble_eq_true rfl, Nat.le_of_ble_eq_true rfl⟩) hP hD hS hA (fun x53 τ54 H locs r_x53 hN hf hq hP hD hS => ?_)
            replace hw := hw x53 τ54 r_x53 hN hf hq
            have hF : f_r [39, 40, 42, 45, 46, 47, 48, 49, 50, 51, 52, 53, 54] [59, 60, 65, 66, 71, 72, 73, 74, 75, 76, 77, 78, 79, 80, 81, 82, 83, 84, 85, 86, 87, 88, 89, 90, 91, 92, 93, 94, 95, 97, 98, 99, 100, 101, 102] [3, 4, 5, 6, 7] σ τ54 := f_t hF hf (by decide) (by decide) (by decide)
            have hB := hN
            refine sdMX13_bareMany hx hb hK hP hD hS c28 dX13_printBare_122 (fun H locs hP hD hS => ?_)
            have hN : n_m (s_a τ54 100 x24 x53) := n_a (k := 100) (j := x24) hN (r_x53 : rg x53)
            have hF : f_r [39, 40, 42, 45, 46, 47, 48, 49, 50, 51, 52, 53, 54] [59, 60, 65, 66, 71, 72, 73, 74, 75, 76, 77, 78, 79, 80, 81, 82, 83, 84, 85, 86, 87, 88, 89, 90, 91, 92, 93, 94, 95, 97, 98, 99, 100, 101, 102] [3, 4, 5, 6, 7] σ (s_a τ54 100 x24 x53) := f_a hF (by decide)
            refine lv_iinc (v := I (u2 + 1)) (lv' := [(2, .int (I (u2 + 1))), (5, .int (I x44)), (4, .int (I x39)), (3, .int (I x24)), (0, .ref (q 0)), (1, .int (I u1))]) hx hb dX13_printBare_123 hl (k := 5) rfl (I_add _ _) (by decide) rfl (fun ls hl => ?_)
            refine lv_goto (tgt := 12) hx hb dX13_printBare_126 (by decide) ?_
            obtain ⟨c55, hw⟩ := hw
            exact (hP12 _ _ _).mp hw r_u1 c55 hN hF H locs ls hP hD hS (lv_sub hl [4, 5, 0] rfl)
  ·
    intro u2 u3 u4 τ hw
    refine (hP175 _ _ _ _).mpr ?_
    intro r_u2 r_u3 r_u4 hN hF H locs ls hP hD hS hl
    have hB := hN
    refine lv_iload hx hb dX13_printBare_175 (lv_at hl 3 rfl) ?_
    refine lv_iload_n hx hb dX13_printBare_177 rfl (lv_at hl 2 rfl) ?_
    refine bi_icmp_ge (tgt := 200) hx hb r_u4 r_u3 dX13_printBare_178 (by decide) (fun c56 => ?_) (fun c56 => ?_)
    ·
      replace hw := hw.1 c56
      refine lv_aload_n hx hb dX13_printBare_200 rfl (lv_at hl 0 rfl) ?_
      obtain ⟨Q57, hc, hw⟩ := hw
      refine wc_I (X := MX g q lb) (va_runV (As := []) (rest := []) ⟨hx, hb, hml, hown, hts⟩ (L_X13_keepDraft l g q lb hlb  hN hc H.size) (cwV 0 hts (TB_V tw_3075 tw_3077 ts_210 tw_15 co_X13_keepDraft) rfl rfl rfl (by decide +kernel) ⟨Nat.le_of_ble_eq_true rfl, Nat.le_of_ble_eq_true rfl⟩) (preV (q0 := 0) (ci := 13) rfl xT_bl hP hK hNb hD rfl rfl xT_at) rfl rfl hl.1 rfl (lv_room (Nat.le_of_ble_eq_true rfl)) dX13_printBare_201 ⟨Nat.le_of_ble_eq_true rfl, Nat.le_of_ble_eq_true rfl⟩) hP hD hS hA (fun x58 τ59 H locs r_x58 hN hf hq hP hD hS => ?_)
      replace hw := hw x58 τ59 r_x58 hN hf hq
      have hF : f_r [39, 40, 42, 45, 46, 47, 48, 49, 50, 51, 52, 53, 54] [59, 60, 65, 66, 71, 72, 73, 74, 75, 76, 77, 78, 79, 80, 81, 82, 83, 84, 85, 86, 87, 88, 89, 90, 91, 92, 93, 94, 95, 97, 98, 99, 100, 101, 102] [3, 4, 5, 6, 7] σ τ59 := f_t hF hf (by decide) (by decide) (by decide)
      have hB := hN
      exact xri hx hb hr hlk hP hK hD hS ⟨_, _, r_x58, rfl, hN, hF, rfl, hw⟩ (Nat.le_of_ble_eq_true rfl) (Nat.le_of_ble_eq_true rfl) dX13_printBare_204
    ·
      replace hw := hw.2 c56
      refine lv_aload_n hx hb dX13_printBare_181 rfl (lv_at hl 0 rfl) ?_
      refine lv_aload_n hx hb dX13_printBare_182 rfl (lv_at hl 0 rfl) ?_
      refine gfX13_bare hx hb hts hK hP hown (hts _ tw_2167) dX13_printBare_183 ?_
      refine lv_iload_n hx hb dX13_printBare_186 rfl (lv_at hl 1 rfl) ?_
      refine lv_iload hx hb dX13_printBare_187 (lv_at hl 3 rfl) ?_
      refine bi_iadd hx hb dX13_printBare_189 ?_
      obtain ⟨c60, hw⟩ := hw
      refine ldMX13_bare hx hb hK hP hN c60 dX13_printBare_190 (fun x61 r_x61 e_x61 => ?_)
      replace hw := hw x61 r_x61 e_x61
      obtain ⟨Q62, hc, hw⟩ := hw
      refine wc_V (X := MX g q lb) (va_runV (As := [.int (I x61)]) (rest := []) ⟨hx, hb, hml, hown, hts⟩ (L_X13_putSymbol l g q lb hlb r_x61 hN hc H.size) (cwV 1 hts (TB_V tw_3079 tw_3081 ts_211 tw_15 co_X13_putSymbol) rfl rfl rfl (by decide +kernel) ⟨Nat.le_of_ble_eq_true rfl, Nat.le_of_ble_eq_true rfl⟩) (preV (q0 := 0) (ci := 13) rfl xT_bl hP hK hNb hD rfl rfl xT_at) rfl rfl hl.1 rfl (lv_room (Nat.le_of_ble_eq_true rfl)) dX13_printBare_191 ⟨Nat.le_of_ble_eq_true rfl, Nat.le_of_ble_eq_true rfl⟩) hP hD hS hA (fun τ64 H locs hN hf hq hP hD hS => ?_)
      replace hw := hw τ64 hN hf hq
      have hF : f_r [39, 40, 42, 45, 46, 47, 48, 49, 50, 51, 52, 53, 54] [59, 60, 65, 66, 71, 72, 73, 74, 75, 76, 77, 78, 79, 80, 81, 82, 83, 84, 85, 86, 87, 88, 89, 90, 91, 92, 93, 94, 95, 97, 98, 99, 100, 101, 102] [3, 4, 5, 6, 7] σ τ64 := f_t hF hf (by decide) (by decide) (by decide)
      have hB := hN
      refine lv_iinc (v := I (u4 + 1)) (lv' := [(4, .int (I (u4 + 1))), (0, .ref (q 0)), (2, .int (I u2)), (3, .int (I u3))]) hx hb dX13_printBare_194 hl (k := 3) rfl (I_add _ _) (by decide) rfl (fun ls hl => ?_)
      refine lv_goto (tgt := 175) hx hb dX13_printBare_197 (by decide) ?_
      obtain ⟨c65, hw⟩ := hw
      exact (hP175 _ _ _ _).mp hw r_u2 r_u3 c65 hN hF H locs ls hP hD hS (lv_sub hl [1, 2, 3, 0] rfl)
def W_X13_printTree (n1 : Int) (n2 : Int) (σ : S0) (Q : Int → S0 → Prop) : Prop :=
  (0 ≤ n2 ∧ n2 < 1501) ∧ (∀ (x2 : Int), rg x2 → x2 = σ.2.1 15 n2 → ((x2 ≤ 60 → ∃ (Q4 : S0 → Prop), W_X13_beginTrees σ Q4 ∧ ∀ (τ6 : S0), n_m τ6 → f_r [51, 52] [] [] σ τ6 → Q4 τ6 → (∃ (Q7 : Int → S0 → Prop), W_X13_countTrees n2 τ6 Q7 ∧ ∀ (x8 : Int) (τ9 : S0), rg x8 → n_m τ9 → f_r [45, 46, 47, 48, 49, 50, 51, 52] [71, 72, 73, 74, 75, 76, 77, 78, 79, 80, 81, 82, 83, 84, 85, 86, 87, 88, 89, 90, 91, 92, 93, 94] [3, 4, 5, 6, 7] τ6 τ9 → Q7 x8 τ9 → ((x8 = 1 → (¬ n1 = 7 → ∃ (Q12 : Int → S0 → Prop), W_X13_treeOf n2 τ9 Q12 ∧ ∀ (x13 : Int) (τ14 : S0), rg x13 → n_m τ14 → f_r [45, 46, 47, 48, 49, 50, 51, 52] [71, 72, 73, 74, 75, 76, 77, 78, 79, 80, 81, 82, 83, 84, 85, 86, 87, 88, 89, 90, 91, 92, 93, 94] [3, 4, 5, 6] τ9 τ14 → Q12 x13 τ14 → (∃ (Q15 : S0 → Prop), W_X13_putTree x13 τ14 Q15 ∧ ∀ (τ17 : S0), n_m τ17 → f_r [39, 42] [59, 65, 66] [] τ14 τ17 → Q15 τ17 → (∃ (Q18 : Int → S0 → Prop), W_X13_keepDraft τ17 Q18 ∧ ∀ (x19 : Int) (τ20 : S0), rg x19 → n_m τ20 → f_r [40] [60] [] τ17 τ20 → Q18 x19 τ20 → (Q x19 τ20)))) ∧ (n1 = 7 → ∃ (Q21 : Int → S0 → Prop), W_X13_printBare n2 τ9 Q21 ∧ ∀ (x22 : Int) (τ23 : S0), rg x22 → n_m τ23 → f_r [39, 40, 42, 45, 46, 47, 48, 49, 50, 51, 52, 53, 54] [59, 60, 65, 66, 71, 72, 73, 74, 75, 76, 77, 78, 79, 80, 81, 82, 83, 84, 85, 86, 87, 88, 89, 90, 91, 92, 93, 94, 95, 97, 98, 99, 100, 101, 102] [3, 4, 5, 6, 7] τ9 τ23 → Q21 x22 τ23 → (Q x22 τ23))) ∧ (¬ x8 = 1 → Q (-1) τ9)))) ∧ (60 < x2 → Q (-2) σ)))
set_option maxRecDepth 100000 in
set_option maxHeartbeats 4000000 in
theorem L_X13_printTree (l : Launch) (g : gG) (q : Nat → Nat) (lb : Nat) (hlb : lb < 2 ^ 31) {n1 : Int} {n2 : Int} {σ : S0} {Q : Int → S0 → Prop} (r_n1 : rg n1) (r_n2 : rg n2) (hN : n_m σ) (hw : W_X13_printTree n1 n2 σ Q) (sz : Nat) : MetI l yX13_printTree cX13_printTree 3 (some .int) { frames := 13, cells := 0, slots := 0, locals := 328 } g [.ref (q 0), .int (I n1), .int (I n2)] (MX g q lb σ) sz xT (p_I (MX g q lb) [39, 40, 42, 45, 46, 47, 48, 49, 50, 51, 52, 53, 54] [59, 60, 65, 66, 71, 72, 73, 74, 75, 76, 77, 78, 79, 80, 81, 82, 83, 84, 85, 86, 87, 88, 89, 90, 91, 92, 93, 94, 95, 97, 98, 99, 100, 101, 102] [3, 4, 5, 6, 7] σ Q) 0 0 := by
  refine mkMet (Qc := fun A => QI g A (p_I (MX g q lb) [39, 40, 42, 45, 46, 47, 48, 49, 50, 51, 52, 53, 54] [59, 60, 65, 66, 71, 72, 73, 74, 75, 76, 77, 78, 79, 80, 81, 82, 83, 84, 85, 86, 87, 88, 89, 90, 91, 92, 93, 94, 95, 97, 98, 99, 100, 101, 102] [3, 4, 5, 6, 7] σ Q)) (by decide) (Nat.le_of_ble_eq_true rfl) ?_
  intro p e s m below meth c A H ls hx hb hr hml hown hts hlk hnm hsz hP hK hNb hD hA hAe hS hX hl
  have hl : lv_has ls 3 [(0, .ref (q 0)), (1, .int (I n1)), (2, .int (I n2))] := hl
  have hB := hN
  have hF : f_r [39, 40, 42, 45, 46, 47, 48, 49, 50, 51, 52, 53, 54] [59, 60, 65, 66, 71, 72, 73, 74, 75, 76, 77, 78, 79, 80, 81, 82, 83, 84, 85, 86, 87, 88, 89, 90, 91, 92, 93, 94, 95, 97, 98, 99, 100, 101, 102] [3, 4, 5, 6, 7] σ σ := f_0
  obtain ⟨locs, hlocs⟩ : ∃ z : List Loc, z = [] := ⟨_, rfl⟩
  rw [← hlocs] at hS ⊢
  refine lv_aload_n hx hb dX13_printTree_0 rfl (lv_at hl 0 rfl) ?_
  refine gfX13_textSize hx hb hts hK hP hown (hts _ tw_2027) dX13_printTree_1 ?_
  refine lv_iload_n hx hb dX13_printTree_4 rfl (lv_at hl 2 rfl) ?_
  obtain ⟨c1, hw⟩ := hw
  refine ldMX13_textSize hx hb hK hP hN c1 dX13_printTree_5 (fun x2 r_x2 e_x2 => ?_)
  replace hw := hw x2 r_x2 e_x2
  refine lv_bipush (v := I 60) hx hb dX13_printTree_6 (by decide) ?_
  refine bi_icmp_le (tgt := 14) hx hb r_x2 (by decide) dX13_printTree_8 (by decide) (fun c3 => ?_) (fun c3 => ?_)
  ·
    replace hw := hw.1 c3
    refine lv_aload_n hx hb dX13_printTree_14 rfl (lv_at hl 0 rfl) ?_
    obtain ⟨Q4, hc, hw⟩ := hw
    refine wc_V (X := MX g q lb) (va_runV (As := []) (rest := []) ⟨hx, hb, hml, hown, hts⟩ (L_X13_beginTrees l g q lb hlb  hN hc H.size) (cwV 0 hts (TB_V tw_3055 tw_3057 ts_205 tw_15 co_X13_beginTrees) rfl rfl rfl (by decide +kernel) ⟨Nat.le_of_ble_eq_true rfl, Nat.le_of_ble_eq_true rfl⟩) (preV (q0 := 0) (ci := 13) rfl xT_bl hP hK hNb hD rfl rfl xT_at) rfl rfl hl.1 rfl (lv_room (Nat.le_of_ble_eq_true rfl)) dX13_printTree_15 ⟨Nat.le_of_ble_eq_true rfl, Nat.le_of_ble_eq_true rfl⟩) hP hD hS hA (fun τ6 H locs hN hf hq hP hD hS => ?_)
    replace hw := hw τ6 hN hf hq
    have hF : f_r [39, 40, 42, 45, 46, 47, 48, 49, 50, 51, 52, 53, 54] [59, 60, 65, 66, 71, 72, 73, 74, 75, 76, 77, 78, 79, 80, 81, 82, 83, 84, 85, 86, 87, 88, 89, 90, 91, 92, 93, 94, 95, 97, 98, 99, 100, 101, 102] [3, 4, 5, 6, 7] σ τ6 := f_t hF hf (by decide) (by decide) (by decide)
    have hB := hN
    refine lv_aload_n hx hb dX13_printTree_18 rfl (lv_at hl 0 rfl) ?_
    refine lv_iload_n hx hb dX13_printTree_19 rfl (lv_at hl 2 rfl) ?_
    obtain ⟨Q7, hc, hw⟩ := hw
    refine wc_I (X := MX g q lb) (va_runV (As := [.int (I n2)]) (rest := []) ⟨hx, hb, hml, hown, hts⟩ (L_X13_countTrees l g q lb hlb r_n2 hN hc H.size) (cwV 1 hts (TB_V tw_2904 tw_2906 ts_171 tw_15 co_X13_countTrees) rfl rfl rfl (by decide +kernel) ⟨Nat.le_of_ble_eq_true rfl, Nat.le_of_ble_eq_true rfl⟩) (preV (q0 := 0) (ci := 13) rfl xT_bl hP hK hNb hD rfl rfl xT_at) rfl rfl hl.1 rfl (lv_room (Nat.le_of_ble_eq_true rfl)) dX13_printTree_20 ⟨Nat.le_of_ble_eq_true rfl, Nat.le_of_ble_eq_true rfl⟩) hP hD hS hA (fun x8 τ9 H locs r_x8 hN hf hq hP hD hS => ?_)
    replace hw := hw x8 τ9 r_x8 hN hf hq
    have hF : f_r [39, 40, 42, 45, 46, 47, 48, 49, 50, 51, 52, 53, 54] [59, 60, 65, 66, 71, 72, 73, 74, 75, 76, 77, 78, 79, 80, 81, 82, 83, 84, 85, 86, 87, 88, 89, 90, 91, 92, 93, 94, 95, 97, 98, 99, 100, 101, 102] [3, 4, 5, 6, 7] σ τ9 := f_t hF hf (by decide) (by decide) (by decide)
    have hB := hN
    refine lv_iconst (v := I 1) hx hb dX13_printTree_23 rfl ?_
    refine bi_icmp_eq (tgt := 29) hx hb r_x8 (by decide) dX13_printTree_24 (by decide) (fun c10 => ?_) (fun c10 => ?_)
    ·
      replace hw := hw.1 c10
      refine lv_iload_n hx hb dX13_printTree_29 rfl (lv_at hl 1 rfl) ?_
      refine lv_bipush (v := I 7) hx hb dX13_printTree_30 (by decide) ?_
      refine bi_icmp_ne (tgt := 41) hx hb r_n1 (by decide) dX13_printTree_32 (by decide) (fun c11 => ?_) (fun c11 => ?_)
      ·
        replace hw := hw.1 c11
        refine lv_aload_n hx hb dX13_printTree_41 rfl (lv_at hl 0 rfl) ?_
        refine lv_aload_n hx hb dX13_printTree_42 rfl (lv_at hl 0 rfl) ?_
        refine lv_iload_n hx hb dX13_printTree_43 rfl (lv_at hl 2 rfl) ?_
        obtain ⟨Q12, hc, hw⟩ := hw
        refine wc_I (X := MX g q lb) (va_runV (As := [.int (I n2)]) (rest := [.ref (q 0)]) ⟨hx, hb, hml, hown, hts⟩ (L_X13_treeOf l g q lb hlb r_n2 hN hc H.size) (cwV 1 hts (TB_V tw_2908 tw_2910 ts_172 tw_15 co_X13_treeOf) rfl rfl rfl (by decide +kernel) ⟨Nat.le_of_ble_eq_true rfl, Nat.le_of_ble_eq_true rfl⟩) (preV (q0 := 0) (ci := 13) rfl xT_bl hP hK hNb hD rfl rfl xT_at) rfl rfl hl.1 rfl (lv_room (Nat.le_of_ble_eq_true rfl)) dX13_printTree_44 ⟨Nat.le_of_ble_eq_true rfl, Nat.le_of_ble_eq_true rfl⟩) hP hD hS hA (fun x13 τ14 H locs r_x13 hN hf hq hP hD hS => ?_)
        replace hw := hw x13 τ14 r_x13 hN hf hq
        have hF : f_r [39, 40, 42, 45, 46, 47, 48, 49, 50, 51, 52, 53, 54] [59, 60, 65, 66, 71, 72, 73, 74, 75, 76, 77, 78, 79, 80, 81, 82, 83, 84, 85, 86, 87, 88, 89, 90, 91, 92, 93, 94, 95, 97, 98, 99, 100, 101, 102] [3, 4, 5, 6, 7] σ τ14 := f_t hF hf (by decide) (by decide) (by decide)
        have hB := hN
        obtain ⟨Q15, hc, hw⟩ := hw
        refine wc_V (X := MX g q lb) (va_runV (As := [.int (I x13)]) (rest := []) ⟨hx, hb, hml, hown, hts⟩ (L_X13_putTree l g q lb hlb r_x13 hN hc H.size) (cwV 1 hts (TB_V tw_3153 tw_3155 ts_229 tw_15 co_X13_putTree) rfl rfl rfl (by decide +kernel) ⟨Nat.le_of_ble_eq_true rfl, Nat.le_of_ble_eq_true rfl⟩) (preV (q0 := 0) (ci := 13) rfl xT_bl hP hK hNb hD rfl rfl xT_at) rfl rfl hl.1 rfl (lv_room (Nat.le_of_ble_eq_true rfl)) dX13_printTree_47 ⟨Nat.le_of_ble_eq_true rfl, Nat.le_of_ble_eq_true rfl⟩) hP hD hS hA (fun τ17 H locs hN hf hq hP hD hS => ?_)
        replace hw := hw τ17 hN hf hq
        have hF : f_r [39, 40, 42, 45, 46, 47, 48, 49, 50, 51, 52, 53, 54] [59, 60, 65, 66, 71, 72, 73, 74, 75, 76, 77, 78, 79, 80, 81, 82, 83, 84, 85, 86, 87, 88, 89, 90, 91, 92, 93, 94, 95, 97, 98, 99, 100, 101, 102] [3, 4, 5, 6, 7] σ τ17 := f_t hF hf (by decide) (by decide) (by decide)
        have hB := hN
        refine lv_aload_n hx hb dX13_printTree_50 rfl (lv_at hl 0 rfl) ?_
        obtain ⟨Q18, hc, hw⟩ := hw
        refine wc_I (X := MX g q lb) (va_runV (As := []) (rest := []) ⟨hx, hb, hml, hown, hts⟩ (L_X13_keepDraft l g q lb hlb  hN hc H.size) (cwV 0 hts (TB_V tw_3075 tw_3077 ts_210 tw_15 co_X13_keepDraft) rfl rfl rfl (by decide +kernel) ⟨Nat.le_of_ble_eq_true rfl, Nat.le_of_ble_eq_true rfl⟩) (preV (q0 := 0) (ci := 13) rfl xT_bl hP hK hNb hD rfl rfl xT_at) rfl rfl hl.1 rfl (lv_room (Nat.le_of_ble_eq_true rfl)) dX13_printTree_51 ⟨Nat.le_of_ble_eq_true rfl, Nat.le_of_ble_eq_true rfl⟩) hP hD hS hA (fun x19 τ20 H locs r_x19 hN hf hq hP hD hS => ?_)
        replace hw := hw x19 τ20 r_x19 hN hf hq
        have hF : f_r [39, 40, 42, 45, 46, 47, 48, 49, 50, 51, 52, 53, 54] [59, 60, 65, 66, 71, 72, 73, 74, 75, 76, 77, 78, 79, 80, 81, 82, 83, 84, 85, 86, 87, 88, 89, 90, 91, 92, 93, 94, 95, 97, 98, 99, 100, 101, 102] [3, 4, 5, 6, 7] σ τ20 := f_t hF hf (by decide) (by decide) (by decide)
        have hB := hN
        exact xri hx hb hr hlk hP hK hD hS ⟨_, _, r_x19, rfl, hN, hF, rfl, hw⟩ (Nat.le_of_ble_eq_true rfl) (Nat.le_of_ble_eq_true rfl) dX13_printTree_54
      ·
        replace hw := hw.2 c11
        refine lv_aload_n hx hb dX13_printTree_35 rfl (lv_at hl 0 rfl) ?_
        refine lv_iload_n hx hb dX13_printTree_36 rfl (lv_at hl 2 rfl) ?_
        obtain ⟨Q21, hc, hw⟩ := hw
        refine wc_I (X := MX g q lb) (va_runV (As := [.int (I n2)]) (rest := []) ⟨hx, hb, hml, hown, hts⟩ (L_X13_printBare l g q lb hlb r_n2 hN hc H.size) (cwV 1 hts (TB_V tw_3121 tw_3123 ts_221 tw_15 co_X13_printBare) rfl rfl rfl (by decide +kernel) ⟨Nat.le_of_ble_eq_true rfl, Nat.le_of_ble_eq_true rfl⟩) (preV (q0 := 0) (ci := 13) rfl xT_bl hP hK hNb hD rfl rfl xT_at) rfl rfl hl.1 rfl (lv_room (Nat.le_of_ble_eq_true rfl)) dX13_printTree_37 ⟨Nat.le_of_ble_eq_true rfl, Nat.le_of_ble_eq_true rfl⟩) hP hD hS hA (fun x22 τ23 H locs r_x22 hN hf hq hP hD hS => ?_)
        replace hw := hw x22 τ23 r_x22 hN hf hq
        have hF : f_r [39, 40, 42, 45, 46, 47, 48, 49, 50, 51, 52, 53, 54] [59, 60, 65, 66, 71, 72, 73, 74, 75, 76, 77, 78, 79, 80, 81, 82, 83, 84, 85, 86, 87, 88, 89, 90, 91, 92, 93, 94, 95, 97, 98, 99, 100, 101, 102] [3, 4, 5, 6, 7] σ τ23 := f_t hF hf (by decide) (by decide) (by decide)
        have hB := hN
        exact xri hx hb hr hlk hP hK hD hS ⟨_, _, r_x22, rfl, hN, hF, rfl, hw⟩ (Nat.le_of_ble_eq_true rfl) (Nat.le_of_ble_eq_true rfl) dX13_printTree_40
    ·
      replace hw := hw.2 c10
      refine lv_iconst (v := I (-1)) hx hb dX13_printTree_27 rfl ?_
      exact xri hx hb hr hlk hP hK hD hS ⟨_, _, (by decide), rfl, hN, hF, rfl, hw⟩ (Nat.le_of_ble_eq_true rfl) (Nat.le_of_ble_eq_true rfl) dX13_printTree_28
  ·
    replace hw := hw.2 c3
    refine lv_bipush (v := I (-2)) hx hb dX13_printTree_11 (by decide) ?_
    exact xri hx hb hr hlk hP hK hD hS ⟨_, _, (by decide), rfl, hN, hF, rfl, hw⟩ (Nat.le_of_ble_eq_true rfl) (Nat.le_of_ble_eq_true rfl) dX13_printTree_13
def W_X13_print (n1 : Int) (n2 : Int) (n3 : Int) (σ : S0) (Q : Int → S0 → Prop) : Prop :=
  ∀ (P178 : Int → Int → S0 → Prop),
  (∀ (u1 : Int) (u2 : Int) (τ : S0), (∃ (Q54 : Int → Prop), W_X13_isStatement u2 τ Q54 ∧ ∀ (x55 : Int), rg x55 → Q54 x55 → ((x55 = 0 → Q (-1) τ) ∧ (¬ x55 = 0 → ∃ (Q58 : Int → S0 → Prop), W_X13_printTree u1 u2 τ Q58 ∧ ∀ (x59 : Int) (τ60 : S0), rg x59 → n_m τ60 → f_r [39, 40, 42, 45, 46, 47, 48, 49, 50, 51, 52, 53, 54] [59, 60, 65, 66, 71, 72, 73, 74, 75, 76, 77, 78, 79, 80, 81, 82, 83, 84, 85, 86, 87, 88, 89, 90, 91, 92, 93, 94, 95, 97, 98, 99, 100, 101, 102] [3, 4, 5, 6, 7] τ τ60 → Q58 x59 τ60 → (Q x59 τ60)))) → P178 u1 u2 τ) →
  ∃ (Q1 : S0 → Prop), W_X13_beginTrees (s_v σ 39 0) Q1 ∧ ∀ (τ3 : S0), n_m τ3 → f_r [51, 52] [] [] (s_v σ 39 0) τ3 → Q1 τ3 → ((n1 < 0 ∨ 7 < n1 → Q (-1) τ3) ∧ (n1 = 0 → ∃ (Q5 : Int → Prop), W_X13_isStatement n2 τ3 Q5 ∧ ∀ (x6 : Int), rg x6 → Q5 x6 → ((¬ x6 = 0 → ∃ (Q9 : S0 → Prop), W_X13_putLabel n2 τ3 Q9 ∧ ∀ (τ11 : S0), n_m τ11 → f_r [39] [59] [] τ3 τ11 → Q9 τ11 → (∃ (Q12 : Int → S0 → Prop), W_X13_keepDraft τ11 Q12 ∧ ∀ (x13 : Int) (τ14 : S0), rg x13 → n_m τ14 → f_r [40] [60] [] τ11 τ14 → Q12 x13 τ14 → (Q x13 τ14))) ∧ (x6 = 0 → Q (-1) τ3))) ∧ (n1 = 1 → rg (τ3.1 3 - 1) ∧ ∃ (Q16 : Int → Prop), W_X13_isIn (j_of n2) 0 (j_of (τ3.1 3 - 1)) τ3 Q16 ∧ ∀ (x17 : Int), rg x17 → Q16 x17 → ((¬ x17 = 0 → ∃ (Q20 : S0 → Prop), W_X13_putSymbol n2 τ3 Q20 ∧ ∀ (τ22 : S0), n_m τ22 → f_r [39] [59] [] τ3 τ22 → Q20 τ22 → (∃ (Q23 : Int → S0 → Prop), W_X13_keepDraft τ22 Q23 ∧ ∀ (x24 : Int) (τ25 : S0), rg x24 → n_m τ25 → f_r [40] [60] [] τ22 τ25 → Q23 x24 τ25 → (Q x24 τ25))) ∧ (x17 = 0 → Q (-1) τ3))) ∧ (n1 = 2 → ∃ (Q26 : Int → Prop), W_X13_isStatement n2 τ3 Q26 ∧ ∀ (x27 : Int), rg x27 → Q26 x27 → ((x27 = 0 → Q (-1) τ3) ∧ (¬ x27 = 0 → ∃ (Q30 : Int → S0 → Prop), W_X13_printTexts n2 τ3 Q30 ∧ ∀ (x31 : Int) (τ32 : S0), rg x31 → n_m τ32 → f_r [39, 40] [59, 60] [] τ3 τ32 → Q30 x31 τ32 → (Q x31 τ32)))) ∧ (n1 = 3 → ∃ (Q33 : Int → S0 → Prop), W_X13_isRow n2 n3 τ3 Q33 ∧ ∀ (x34 : Int) (τ35 : S0), rg x34 → n_m τ35 → f_r [30, 32, 36, 37, 38] [42, 46, 56, 57, 58] [] τ3 τ35 → Q33 x34 τ35 → ((x34 = 0 → Q (-1) τ35) ∧ (¬ x34 = 0 → ∃ (Q37 : Int → S0 → Prop), W_X13_printRow n2 n3 τ35 Q37 ∧ ∀ (x38 : Int) (τ39 : S0), rg x38 → n_m τ39 → f_r [30, 31, 32, 33, 34, 35, 39, 40] [40, 41, 42, 43, 44, 45, 46, 47, 48, 49, 50, 59, 60] [] τ35 τ39 → Q37 x38 τ39 → (Q x38 τ39)))) ∧ (n1 = 4 → ∃ (Q40 : Int → Prop), W_X13_isProved n2 τ3 Q40 ∧ ∀ (x41 : Int), rg x41 → Q40 x41 → ((x41 = 0 → Q (-1) τ3) ∧ (¬ x41 = 0 → ∃ (Q44 : Int → S0 → Prop), W_X13_printPacked n2 τ3 Q44 ∧ ∀ (x45 : Int) (τ46 : S0), rg x45 → n_m τ46 → f_r [30, 32, 36, 37, 38, 39, 40, 42, 43, 44] [42, 46, 56, 57, 58, 59, 60, 61, 62, 63, 65, 66, 67, 68, 69, 70] [] τ3 τ46 → Q44 x45 τ46 → (Q x45 τ46)))) ∧ (n1 = 5 → ∃ (Q47 : Int → Prop), W_X13_isProved n2 τ3 Q47 ∧ ∀ (x48 : Int), rg x48 → Q47 x48 → ((x48 = 0 → Q (-1) τ3) ∧ (¬ x48 = 0 → ∃ (Q51 : Int → S0 → Prop), W_X13_printPlain n2 τ3 Q51 ∧ ∀ (x52 : Int) (τ53 : S0), rg x52 → n_m τ53 → f_r [30, 32, 36, 37, 38, 39, 40, 42] [42, 46, 56, 57, 58, 59, 60, 65, 66] [2] τ3 τ53 → Q51 x52 τ53 → (Q x52 τ53)))) ∧ (n1 = 6 → P178 n1 n2 τ3) ∧ (n1 = 7 → P178 n1 n2 τ3))
set_option maxRecDepth 100000 in
set_option maxHeartbeats 4000000 in
theorem L_X13_print (l : Launch) (g : gG) (q : Nat → Nat) (lb : Nat) (hlb : lb < 2 ^ 31) {n1 : Int} {n2 : Int} {n3 : Int} {σ : S0} {Q : Int → S0 → Prop} (r_n1 : rg n1) (r_n2 : rg n2) (r_n3 : rg n3) (hN : n_m σ) (hw : W_X13_print n1 n2 n3 σ Q) (sz : Nat) : MetI l yX13_print cX13_print 4 (some .int) { frames := 14, cells := 0, slots := 0, locals := 350 } g [.ref (q 0), .int (I n1), .int (I n2), .int (I n3)] (MX g q lb σ) sz xT (p_I (MX g q lb) [30, 31, 32, 33, 34, 35, 36, 37, 38, 39, 40, 42, 43, 44, 45, 46, 47, 48, 49, 50, 51, 52, 53, 54] [40, 41, 42, 43, 44, 45, 46, 47, 48, 49, 50, 56, 57, 58, 59, 60, 61, 62, 63, 65, 66, 67, 68, 69, 70, 71, 72, 73, 74, 75, 76, 77, 78, 79, 80, 81, 82, 83, 84, 85, 86, 87, 88, 89, 90, 91, 92, 93, 94, 95, 97, 98, 99, 100, 101, 102] [2, 3, 4, 5, 6, 7] σ Q) 0 0 := by
  refine mkMet (Qc := fun A => QI g A (p_I (MX g q lb) [30, 31, 32, 33, 34, 35, 36, 37, 38, 39, 40, 42, 43, 44, 45, 46, 47, 48, 49, 50, 51, 52, 53, 54] [40, 41, 42, 43, 44, 45, 46, 47, 48, 49, 50, 56, 57, 58, 59, 60, 61, 62, 63, 65, 66, 67, 68, 69, 70, 71, 72, 73, 74, 75, 76, 77, 78, 79, 80, 81, 82, 83, 84, 85, 86, 87, 88, 89, 90, 91, 92, 93, 94, 95, 97, 98, 99, 100, 101, 102] [2, 3, 4, 5, 6, 7] σ Q)) (by decide) (Nat.le_of_ble_eq_true rfl) ?_
  intro p e s m below meth c A H ls hx hb hr hml hown hts hlk hnm hsz hP hK hNb hD hA hAe hS hX hl
  have hl : lv_has ls 4 [(0, .ref (q 0)), (1, .int (I n1)), (2, .int (I n2)), (3, .int (I n3))] := hl
  have hB := hN
  have hF : f_r [30, 31, 32, 33, 34, 35, 36, 37, 38, 39, 40, 42, 43, 44, 45, 46, 47, 48, 49, 50, 51, 52, 53, 54] [40, 41, 42, 43, 44, 45, 46, 47, 48, 49, 50, 56, 57, 58, 59, 60, 61, 62, 63, 65, 66, 67, 68, 69, 70, 71, 72, 73, 74, 75, 76, 77, 78, 79, 80, 81, 82, 83, 84, 85, 86, 87, 88, 89, 90, 91, 92, 93, 94, 95, 97, 98, 99, 100, 101, 102] [2, 3, 4, 5, 6, 7] σ σ := f_0
  obtain ⟨locs, hlocs⟩ : ∃ z : List Loc, z = [] := ⟨_, rfl⟩
  rw [← hlocs] at hS ⊢
  obtain ⟨P178, hP178⟩ : ∃ P : Int → Int → S0 → Prop, ∀ (u1 : Int) (u2 : Int) (τ : S0), (P u1 u2 τ ↔ (rg u1 → rg u2 → n_m τ → f_r [30, 31, 32, 33, 34, 35, 36, 37, 38, 39, 40, 42, 43, 44, 45, 46, 47, 48, 49, 50, 51, 52, 53, 54] [40, 41, 42, 43, 44, 45, 46, 47, 48, 49, 50, 56, 57, 58, 59, 60, 61, 62, 63, 65, 66, 67, 68, 69, 70, 71, 72, 73, 74, 75, 76, 77, 78, 79, 80, 81, 82, 83, 84, 85, 86, 87, 88, 89, 90, 91, 92, 93, 94, 95, 97, 98, 99, 100, 101, 102] [2, 3, 4, 5, 6, 7] σ τ → ∀ (H : Heap) (locs : List Loc) (ls : Array Slot), KP g (MX g q lb τ) H → va_D A (MX g q lb τ) → va_S A s.heap H locs → lv_has ls 4 [(0, .ref (q 0)), (1, .int (I u1)), (2, .int (I u2))] → W p l e ({ frames := 14, cells := 0, slots := 0, locals := 350 }) s m [.ref (q 0), .int (I n1), .int (I n2), .int (I n3)].toArray below meth c H locs 0 0 (MQ below (QI g A (p_I (MX g q lb) [30, 31, 32, 33, 34, 35, 36, 37, 38, 39, 40, 42, 43, 44, 45, 46, 47, 48, 49, 50, 51, 52, 53, 54] [40, 41, 42, 43, 44, 45, 46, 47, 48, 49, 50, 56, 57, 58, 59, 60, 61, 62, 63, 65, 66, 67, 68, 69, 70, 71, 72, 73, 74, 75, 76, 77, 78, 79, 80, 81, 82, 83, 84, 85, 86, 87, 88, 89, 90, 91, 92, 93, 94, 95, 97, 98, 99, 100, 101, 102] [2, 3, 4, 5, 6, 7] σ Q)) [.ref (q 0), .int (I n1), .int (I n2), .int (I n3)].toArray s 0 0 A) (F0 m 178 ls []))) := ⟨_, fun _ _ _ => Iff.rfl⟩
  refine (fun hw => ?_) (hw P178 ?_)
  ·
    refine lv_aload_n hx hb dX13_print_0 rfl (lv_at hl 0 rfl) ?_
    refine lv_iconst (v := I 0) hx hb dX13_print_1 rfl ?_
    refine pfX13_draftSize hx hb hts hK hP hD hS hown (hts _ tw_2108) dX13_print_2 (fun H locs hP hD hS => ?_)
    have hN : n_m (s_v σ 39 0) := n_v (i := 39) hN ((by decide) : rg 0)
    have hF : f_r [30, 31, 32, 33, 34, 35, 36, 37, 38, 39, 40, 42, 43, 44, 45, 46, 47, 48, 49, 50, 51, 52, 53, 54] [40, 41, 42, 43, 44, 45, 46, 47, 48, 49, 50, 56, 57, 58, 59, 60, 61, 62, 63, 65, 66, 67, 68, 69, 70, 71, 72, 73, 74, 75, 76, 77, 78, 79, 80, 81, 82, 83, 84, 85, 86, 87, 88, 89, 90, 91, 92, 93, 94, 95, 97, 98, 99, 100, 101, 102] [2, 3, 4, 5, 6, 7] σ (s_v σ 39 0) := f_v hF (by decide)
    refine lv_aload_n hx hb dX13_print_5 rfl (lv_at hl 0 rfl) ?_
    obtain ⟨Q1, hc, hw⟩ := hw
    refine wc_V (X := MX g q lb) (va_runV (As := []) (rest := []) ⟨hx, hb, hml, hown, hts⟩ (L_X13_beginTrees l g q lb hlb  hN hc H.size) (cwV 0 hts (TB_V tw_3055 tw_3057 ts_205 tw_15 co_X13_beginTrees) rfl rfl rfl (by decide +kernel) ⟨Nat.le_of_ble_eq_true rfl, Nat.le_of_ble_eq_true rfl⟩) (preV (q0 := 0) (ci := 13) rfl xT_bl hP hK hNb hD rfl rfl xT_at) rfl rfl hl.1 rfl (lv_room (Nat.le_of_ble_eq_true rfl)) dX13_print_6 ⟨Nat.le_of_ble_eq_true rfl, Nat.le_of_ble_eq_true rfl⟩) hP hD hS hA (fun τ3 H locs hN hf hq hP hD hS => ?_)
    replace hw := hw τ3 hN hf hq
    have hF : f_r [30, 31, 32, 33, 34, 35, 36, 37, 38, 39, 40, 42, 43, 44, 45, 46, 47, 48, 49, 50, 51, 52, 53, 54] [40, 41, 42, 43, 44, 45, 46, 47, 48, 49, 50, 56, 57, 58, 59, 60, 61, 62, 63, 65, 66, 67, 68, 69, 70, 71, 72, 73, 74, 75, 76, 77, 78, 79, 80, 81, 82, 83, 84, 85, 86, 87, 88, 89, 90, 91, 92, 93, 94, 95, 97, 98, 99, 100, 101, 102] [2, 3, 4, 5, 6, 7] σ τ3 := f_t hF hf (by decide) (by decide) (by decide)
    have hB := hN
    refine lv_iload_n hx hb dX13_print_9 rfl (lv_at hl 1 rfl) ?_
    have rr := (r_n1 : rg n1)
    rcases bi_sw (x := n1) 0 7 with c4 | c4
    ·
      replace hw := hw.1 c4
      refine lv_tableOut (tgt := 197) hx hb dX13_print_10 (by rw [I_toInt rr.1 rr.2]; exact c4) (by decide) ?_
      refine lv_iconst (v := I (-1)) hx hb dX13_print_197 rfl ?_
      exact xri hx hb hr hlk hP hK hD hS ⟨_, _, (by decide), rfl, hN, hF, rfl, hw⟩ (Nat.le_of_ble_eq_true rfl) (Nat.le_of_ble_eq_true rfl) dX13_print_198
    ·
      obtain ⟨k, hk, ec4⟩ := c4
      replace hw := hw.2
      rcases (show k = 0 ∨ k = 1 ∨ k = 2 ∨ k = 3 ∨ k = 4 ∨ k = 5 ∨ k = 6 ∨ k = 7 by omega) with rfl | rfl | rfl | rfl | rfl | rfl | rfl | rfl
      ·
        have e9 : n1 = 0 := ec4
        refine lv_tableIn (tgt := 56) hx hb dX13_print_10 (by rw [I_toInt rr.1 rr.2, e9]; decide) (by rw [I_toInt rr.1 rr.2, e9]; decide) (by rw [I_toInt rr.1 rr.2, e9]; rfl) (by decide) ?_
        replace hw := hw.1 e9
        refine lv_aload_n hx hb dX13_print_56 rfl (lv_at hl 0 rfl) ?_
        refine lv_iload_n hx hb dX13_print_57 rfl (lv_at hl 2 rfl) ?_
        obtain ⟨Q5, hc, hw⟩ := hw
        refine wc_i (X := MX g q lb) (va_runV (As := [.int (I n2)]) (rest := []) ⟨hx, hb, hml, hown, hts⟩ (L_X13_isStatement l g q lb hlb r_n2 hN hc H.size) (cwV 1 hts (TB_V tw_2803 tw_2805 ts_161 tw_15 co_X13_isStatement) rfl rfl rfl (by decide +kernel) ⟨Nat.le_of_ble_eq_true rfl, Nat.le_of_ble_eq_true rfl⟩) (preV (q0 := 0) (ci := 13) rfl xT_bl hP hK hNb hD rfl rfl xT_at) rfl rfl hl.1 rfl (lv_room (Nat.le_of_ble_eq_true rfl)) dX13_print_58 ⟨Nat.le_of_ble_eq_true rfl, Nat.le_of_ble_eq_true rfl⟩) hP hD hS hA (fun x6 H locs r_x6 hq hP hD hS => ?_)
        replace hw := hw x6 r_x6 hq
        refine bi_if_ne (tgt := 66) hx hb r_x6 dX13_print_61 (by decide) (fun c8 => ?_) (fun c8 => ?_)
        ·
          replace hw := hw.1 c8
          refine lv_aload_n hx hb dX13_print_66 rfl (lv_at hl 0 rfl) ?_
          refine lv_iload_n hx hb dX13_print_67 rfl (lv_at hl 2 rfl) ?_
          obtain ⟨Q9, hc, hw⟩ := hw
          refine wc_V (X := MX g q lb) (va_runV (As := [.int (I n2)]) (rest := []) ⟨hx, hb, hml, hown, hts⟩ (L_X13_putLabel l g q lb hlb r_n2 hN hc H.size) (cwV 1 hts (TB_V tw_3059 tw_3061 ts_206 tw_15 co_X13_putLabel) rfl rfl rfl (by decide +kernel) ⟨Nat.le_of_ble_eq_true rfl, Nat.le_of_ble_eq_true rfl⟩) (preV (q0 := 0) (ci := 13) rfl xT_bl hP hK hNb hD rfl rfl xT_at) rfl rfl hl.1 rfl (lv_room (Nat.le_of_ble_eq_true rfl)) dX13_print_68 ⟨Nat.le_of_ble_eq_true rfl, Nat.le_of_ble_eq_true rfl⟩) hP hD hS hA (fun τ11 H locs hN hf hq hP hD hS => ?_)
          replace hw := hw τ11 hN hf hq
          have hF : f_r [30, 31, 32, 33, 34, 35, 36, 37, 38, 39, 40, 42, 43, 44, 45, 46, 47, 48, 49, 50, 51, 52, 53, 54] [40, 41, 42, 43, 44, 45, 46, 47, 48, 49, 50, 56, 57, 58, 59, 60, 61, 62, 63, 65, 66, 67, 68, 69, 70, 71, 72, 73, 74, 75, 76, 77, 78, 79, 80, 81, 82, 83, 84, 85, 86, 87, 88, 89, 90, 91, 92, 93, 94, 95, 97, 98, 99, 100, 101, 102] [2, 3, 4, 5, 6, 7] σ τ11 := f_t hF hf (by decide) (by decide) (by decide)
          have hB := hN
          refine lv_aload_n hx hb dX13_print_71 rfl (lv_at hl 0 rfl) ?_
          obtain ⟨Q12, hc, hw⟩ := hw
          refine wc_I (X := MX g q lb) (va_runV (As := []) (rest := []) ⟨hx, hb, hml, hown, hts⟩ (L_X13_keepDraft l g q lb hlb  hN hc H.size) (cwV 0 hts (TB_V tw_3075 tw_3077 ts_210 tw_15 co_X13_keepDraft) rfl rfl rfl (by decide +kernel) ⟨Nat.le_of_ble_eq_true rfl, Nat.le_of_ble_eq_true rfl⟩) (preV (q0 := 0) (ci := 13) rfl xT_bl hP hK hNb hD rfl rfl xT_at) rfl rfl hl.1 rfl (lv_room (Nat.le_of_ble_eq_true rfl)) dX13_print_72 ⟨Nat.le_of_ble_eq_true rfl, Nat.le_of_ble_eq_true rfl⟩) hP hD hS hA (fun x13 τ14 H locs r_x13 hN hf hq hP hD hS => ?_)
          replace hw := hw x13 τ14 r_x13 hN hf hq
          have hF : f_r [30, 31, 32, 33, 34, 35, 36, 37, 38, 39, 40, 42, 43, 44, 45, 46, 47, 48, 49, 50, 51, 52, 53, 54] [40, 41, 42, 43, 44, 45, 46, 47, 48, 49, 50, 56, 57, 58, 59, 60, 61, 62, 63, 65, 66, 67, 68, 69, 70, 71, 72, 73, 74, 75, 76, 77, 78, 79, 80, 81, 82, 83, 84, 85, 86, 87, 88, 89, 90, 91, 92, 93, 94, 95, 97, 98, 99, 100, 101, 102] [2, 3, 4, 5, 6, 7] σ τ14 := f_t hF hf (by decide) (by decide) (by decide)
          have hB := hN
          exact xri hx hb hr hlk hP hK hD hS ⟨_, _, r_x13, rfl, hN, hF, rfl, hw⟩ (Nat.le_of_ble_eq_true rfl) (Nat.le_of_ble_eq_true rfl) dX13_print_75
        ·
          replace hw := hw.2 c8
          refine lv_iconst (v := I (-1)) hx hb dX13_print_64 rfl ?_
          exact xri hx hb hr hlk hP hK hD hS ⟨_, _, (by decide), rfl, hN, hF, rfl, hw⟩ (Nat.le_of_ble_eq_true rfl) (Nat.le_of_ble_eq_true rfl) dX13_print_65
      ·
        have e9 : n1 = 1 := ec4
        refine lv_tableIn (tgt := 76) hx hb dX13_print_10 (by rw [I_toInt rr.1 rr.2, e9]; decide) (by rw [I_toInt rr.1 rr.2, e9]; decide) (by rw [I_toInt rr.1 rr.2, e9]; rfl) (by decide) ?_
        replace hw := hw.2.1 e9
        refine lv_iload_n hx hb dX13_print_76 rfl (lv_at hl 2 rfl) ?_
        refine bi_i2l hx hb r_n2 dX13_print_77 ?_
        refine lv_lconst (v := 0) hx hb dX13_print_78 (by decide) ?_
        refine lv_aload_n hx hb dX13_print_79 rfl (lv_at hl 0 rfl) ?_
        refine gfX13_symbols hx hb hts hK hP hown (hts _ tw_2013) (x := τ3.1 3) rfl dX13_print_80 ?_
        refine lv_iconst (v := I 1) hx hb dX13_print_83 rfl ?_
        refine bi_isub hx hb dX13_print_84 ?_
        obtain ⟨c15, hw⟩ := hw
        refine bi_i2l hx hb c15 dX13_print_85 ?_
        obtain ⟨Q16, hc, hw⟩ := hw
        refine wc_i (X := MX g q lb) (va_runS (As := [.long (j_of n2), .long 0, .long (j_of (τ3.1 3 - 1))]) (rest := []) ⟨hx, hb, hml, hown, hts⟩ (L_X13_isIn l g q lb hlb  hN hc H.size) (cwS 3 hts (TB_S tw_2525 tw_2526 tw_15 co_X13_isIn) rfl rfl rfl (by decide +kernel) ⟨Nat.le_of_ble_eq_true rfl, Nat.le_of_ble_eq_true rfl⟩) (preS xT_bl hP hK hNb hD xT_at) rfl rfl hl.1 rfl (lv_room (Nat.le_of_ble_eq_true rfl)) dX13_print_86 ⟨Nat.le_of_ble_eq_true rfl, Nat.le_of_ble_eq_true rfl⟩) hP hD hS hA (fun x17 H locs r_x17 hq hP hD hS => ?_)
        replace hw := hw x17 r_x17 hq
        refine bi_if_ne (tgt := 94) hx hb r_x17 dX13_print_89 (by decide) (fun c19 => ?_) (fun c19 => ?_)
        ·
          replace hw := hw.1 c19
          refine lv_aload_n hx hb dX13_print_94 rfl (lv_at hl 0 rfl) ?_
          refine lv_iload_n hx hb dX13_print_95 rfl (lv_at hl 2 rfl) ?_
          obtain ⟨Q20, hc, hw⟩ := hw
          refine wc_V (X := MX g q lb) (va_runV (As := [.int (I n2)]) (rest := []) ⟨hx, hb, hml, hown, hts⟩ (L_X13_putSymbol l g q lb hlb r_n2 hN hc H.size) (cwV 1 hts (TB_V tw_3079 tw_3081 ts_211 tw_15 co_X13_putSymbol) rfl rfl rfl (by decide +kernel) ⟨Nat.le_of_ble_eq_true rfl, Nat.le_of_ble_eq_true rfl⟩) (preV (q0 := 0) (ci := 13) rfl xT_bl hP hK hNb hD rfl rfl xT_at) rfl rfl hl.1 rfl (lv_room (Nat.le_of_ble_eq_true rfl)) dX13_print_96 ⟨Nat.le_of_ble_eq_true rfl, Nat.le_of_ble_eq_true rfl⟩) hP hD hS hA (fun τ22 H locs hN hf hq hP hD hS => ?_)
          replace hw := hw τ22 hN hf hq
          have hF : f_r [30, 31, 32, 33, 34, 35, 36, 37, 38, 39, 40, 42, 43, 44, 45, 46, 47, 48, 49, 50, 51, 52, 53, 54] [40, 41, 42, 43, 44, 45, 46, 47, 48, 49, 50, 56, 57, 58, 59, 60, 61, 62, 63, 65, 66, 67, 68, 69, 70, 71, 72, 73, 74, 75, 76, 77, 78, 79, 80, 81, 82, 83, 84, 85, 86, 87, 88, 89, 90, 91, 92, 93, 94, 95, 97, 98, 99, 100, 101, 102] [2, 3, 4, 5, 6, 7] σ τ22 := f_t hF hf (by decide) (by decide) (by decide)
          have hB := hN
          refine lv_aload_n hx hb dX13_print_99 rfl (lv_at hl 0 rfl) ?_
          obtain ⟨Q23, hc, hw⟩ := hw
          refine wc_I (X := MX g q lb) (va_runV (As := []) (rest := []) ⟨hx, hb, hml, hown, hts⟩ (L_X13_keepDraft l g q lb hlb  hN hc H.size) (cwV 0 hts (TB_V tw_3075 tw_3077 ts_210 tw_15 co_X13_keepDraft) rfl rfl rfl (by decide +kernel) ⟨Nat.le_of_ble_eq_true rfl, Nat.le_of_ble_eq_true rfl⟩) (preV (q0 := 0) (ci := 13) rfl xT_bl hP hK hNb hD rfl rfl xT_at) rfl rfl hl.1 rfl (lv_room (Nat.le_of_ble_eq_true rfl)) dX13_print_100 ⟨Nat.le_of_ble_eq_true rfl, Nat.le_of_ble_eq_true rfl⟩) hP hD hS hA (fun x24 τ25 H locs r_x24 hN hf hq hP hD hS => ?_)
          replace hw := hw x24 τ25 r_x24 hN hf hq
          have hF : f_r [30, 31, 32, 33, 34, 35, 36, 37, 38, 39, 40, 42, 43, 44, 45, 46, 47, 48, 49, 50, 51, 52, 53, 54] [40, 41, 42, 43, 44, 45, 46, 47, 48, 49, 50, 56, 57, 58, 59, 60, 61, 62, 63, 65, 66, 67, 68, 69, 70, 71, 72, 73, 74, 75, 76, 77, 78, 79, 80, 81, 82, 83, 84, 85, 86, 87, 88, 89, 90, 91, 92, 93, 94, 95, 97, 98, 99, 100, 101, 102] [2, 3, 4, 5, 6, 7] σ τ25 := f_t hF hf (by decide) (by decide) (by decide)
          have hB := hN
          exact xri hx hb hr hlk hP hK hD hS ⟨_, _, r_x24, rfl, hN, hF, rfl, hw⟩ (Nat.le_of_ble_eq_true rfl) (Nat.le_of_ble_eq_true rfl) dX13_print_103
        ·
          replace hw := hw.2 c19
          refine lv_iconst (v := I (-1)) hx hb dX13_print_92 rfl ?_
          exact xri hx hb hr hlk hP hK hD hS ⟨_, _, (by decide), rfl, hN, hF, rfl, hw⟩ (Nat.le_of_ble_eq_true rfl) (Nat.le_of_ble_eq_true rfl) dX13_print_93
      ·
        have e9 : n1 = 2 := ec4
        refine lv_tableIn (tgt := 104) hx hb dX13_print_10 (by rw [I_toInt rr.1 rr.2, e9]; decide) (by rw [I_toInt rr.1 rr.2, e9]; decide) (by rw [I_toInt rr.1 rr.2, e9]; rfl) (by decide) ?_
        replace hw := hw.2.2.1 e9
        refine lv_aload_n hx hb dX13_print_104 rfl (lv_at hl 0 rfl) ?_
        refine lv_iload_n hx hb dX13_print_105 rfl (lv_at hl 2 rfl) ?_
        obtain ⟨Q26, hc, hw⟩ := hw
        refine wc_i (X := MX g q lb) (va_runV (As := [.int (I n2)]) (rest := []) ⟨hx, hb, hml, hown, hts⟩ (L_X13_isStatement l g q lb hlb r_n2 hN hc H.size) (cwV 1 hts (TB_V tw_2803 tw_2805 ts_161 tw_15 co_X13_isStatement) rfl rfl rfl (by decide +kernel) ⟨Nat.le_of_ble_eq_true rfl, Nat.le_of_ble_eq_true rfl⟩) (preV (q0 := 0) (ci := 13) rfl xT_bl hP hK hNb hD rfl rfl xT_at) rfl rfl hl.1 rfl (lv_room (Nat.le_of_ble_eq_true rfl)) dX13_print_106 ⟨Nat.le_of_ble_eq_true rfl, Nat.le_of_ble_eq_true rfl⟩) hP hD hS hA (fun x27 H locs r_x27 hq hP hD hS => ?_)
        replace hw := hw x27 r_x27 hq
        refine bi_if_eq (tgt := 120) hx hb r_x27 dX13_print_109 (by decide) (fun c29 => ?_) (fun c29 => ?_)
        ·
          replace hw := hw.1 c29
          refine lv_iconst (v := I (-1)) hx hb dX13_print_120 rfl ?_
          exact xri hx hb hr hlk hP hK hD hS ⟨_, _, (by decide), rfl, hN, hF, rfl, hw⟩ (Nat.le_of_ble_eq_true rfl) (Nat.le_of_ble_eq_true rfl) dX13_print_121
        ·
          replace hw := hw.2 c29
          refine lv_aload_n hx hb dX13_print_112 rfl (lv_at hl 0 rfl) ?_
          refine lv_iload_n hx hb dX13_print_113 rfl (lv_at hl 2 rfl) ?_
          obtain ⟨Q30, hc, hw⟩ := hw
          refine wc_I (X := MX g q lb) (va_runV (As := [.int (I n2)]) (rest := []) ⟨hx, hb, hml, hown, hts⟩ (L_X13_printTexts l g q lb hlb r_n2 hN hc H.size) (cwV 1 hts (TB_V tw_3083 tw_3085 ts_212 tw_15 co_X13_printTexts) rfl rfl rfl (by decide +kernel) ⟨Nat.le_of_ble_eq_true rfl, Nat.le_of_ble_eq_true rfl⟩) (preV (q0 := 0) (ci := 13) rfl xT_bl hP hK hNb hD rfl rfl xT_at) rfl rfl hl.1 rfl (lv_room (Nat.le_of_ble_eq_true rfl)) dX13_print_114 ⟨Nat.le_of_ble_eq_true rfl, Nat.le_of_ble_eq_true rfl⟩) hP hD hS hA (fun x31 τ32 H locs r_x31 hN hf hq hP hD hS => ?_)
          replace hw := hw x31 τ32 r_x31 hN hf hq
          have hF : f_r [30, 31, 32, 33, 34, 35, 36, 37, 38, 39, 40, 42, 43, 44, 45, 46, 47, 48, 49, 50, 51, 52, 53, 54] [40, 41, 42, 43, 44, 45, 46, 47, 48, 49, 50, 56, 57, 58, 59, 60, 61, 62, 63, 65, 66, 67, 68, 69, 70, 71, 72, 73, 74, 75, 76, 77, 78, 79, 80, 81, 82, 83, 84, 85, 86, 87, 88, 89, 90, 91, 92, 93, 94, 95, 97, 98, 99, 100, 101, 102] [2, 3, 4, 5, 6, 7] σ τ32 := f_t hF hf (by decide) (by decide) (by decide)
          have hB := hN
          refine lv_goto (tgt := 121) hx hb dX13_print_117 (by decide) ?_
          exact xri hx hb hr hlk hP hK hD hS ⟨_, _, r_x31, rfl, hN, hF, rfl, hw⟩ (Nat.le_of_ble_eq_true rfl) (Nat.le_of_ble_eq_true rfl) dX13_print_121
      ·
        have e9 : n1 = 3 := ec4
        refine lv_tableIn (tgt := 122) hx hb dX13_print_10 (by rw [I_toInt rr.1 rr.2, e9]; decide) (by rw [I_toInt rr.1 rr.2, e9]; decide) (by rw [I_toInt rr.1 rr.2, e9]; rfl) (by decide) ?_
        replace hw := hw.2.2.2.1 e9
        refine lv_aload_n hx hb dX13_print_122 rfl (lv_at hl 0 rfl) ?_
        refine lv_iload_n hx hb dX13_print_123 rfl (lv_at hl 2 rfl) ?_
        refine lv_iload_n hx hb dX13_print_124 rfl (lv_at hl 3 rfl) ?_
        obtain ⟨Q33, hc, hw⟩ := hw
        refine wc_I (X := MX g q lb) (va_runV (As := [.int (I n2), .int (I n3)]) (rest := []) ⟨hx, hb, hml, hown, hts⟩ (L_X13_isRow l g q lb hlb r_n2 r_n3 hN hc H.size) (cwV 2 hts (TB_V tw_2868 tw_2870 ts_168 tw_15 co_X13_isRow) rfl rfl rfl (by decide +kernel) ⟨Nat.le_of_ble_eq_true rfl, Nat.le_of_ble_eq_true rfl⟩) (preV (q0 := 0) (ci := 13) rfl xT_bl hP hK hNb hD rfl rfl xT_at) rfl rfl hl.1 rfl (lv_room (Nat.le_of_ble_eq_true rfl)) dX13_print_125 ⟨Nat.le_of_ble_eq_true rfl, Nat.le_of_ble_eq_true rfl⟩) hP hD hS hA (fun x34 τ35 H locs r_x34 hN hf hq hP hD hS => ?_)
        replace hw := hw x34 τ35 r_x34 hN hf hq
        have hF : f_r [30, 31, 32, 33, 34, 35, 36, 37, 38, 39, 40, 42, 43, 44, 45, 46, 47, 48, 49, 50, 51, 52, 53, 54] [40, 41, 42, 43, 44, 45, 46, 47, 48, 49, 50, 56, 57, 58, 59, 60, 61, 62, 63, 65, 66, 67, 68, 69, 70, 71, 72, 73, 74, 75, 76, 77, 78, 79, 80, 81, 82, 83, 84, 85, 86, 87, 88, 89, 90, 91, 92, 93, 94, 95, 97, 98, 99, 100, 101, 102] [2, 3, 4, 5, 6, 7] σ τ35 := f_t hF hf (by decide) (by decide) (by decide)
        have hB := hN
        refine bi_if_eq (tgt := 140) hx hb r_x34 dX13_print_128 (by decide) (fun c36 => ?_) (fun c36 => ?_)
        ·
          replace hw := hw.1 c36
          refine lv_iconst (v := I (-1)) hx hb dX13_print_140 rfl ?_
          exact xri hx hb hr hlk hP hK hD hS ⟨_, _, (by decide), rfl, hN, hF, rfl, hw⟩ (Nat.le_of_ble_eq_true rfl) (Nat.le_of_ble_eq_true rfl) dX13_print_141
        ·
          replace hw := hw.2 c36
          refine lv_aload_n hx hb dX13_print_131 rfl (lv_at hl 0 rfl) ?_
          refine lv_iload_n hx hb dX13_print_132 rfl (lv_at hl 2 rfl) ?_
          refine lv_iload_n hx hb dX13_print_133 rfl (lv_at hl 3 rfl) ?_
          obtain ⟨Q37, hc, hw⟩ := hw
          refine wc_I (X := MX g q lb) (va_runV (As := [.int (I n2), .int (I n3)]) (rest := []) ⟨hx, hb, hml, hown, hts⟩ (L_X13_printRow l g q lb hlb r_n2 r_n3 hN hc H.size) (cwV 2 hts (TB_V tw_3087 tw_3089 ts_213 tw_15 co_X13_printRow) rfl rfl rfl (by decide +kernel) ⟨Nat.le_of_ble_eq_true rfl, Nat.le_of_ble_eq_true rfl⟩) (preV (q0 := 0) (ci := 13) rfl xT_bl hP hK hNb hD rfl rfl xT_at) rfl rfl hl.1 rfl (lv_room (Nat.le_of_ble_eq_true rfl)) dX13_print_134 ⟨Nat.le_of_ble_eq_true rfl, Nat.le_of_ble_eq_true rfl⟩) hP hD hS hA (fun x38 τ39 H locs r_x38 hN hf hq hP hD hS => ?_)
          replace hw := hw x38 τ39 r_x38 hN hf hq
          have hF : f_r [30, 31, 32, 33, 34, 35, 36, 37, 38, 39, 40, 42, 43, 44, 45, 46, 47, 48, 49, 50, 51, 52, 53, 54] [40, 41, 42, 43, 44, 45, 46, 47, 48, 49, 50, 56, 57, 58, 59, 60, 61, 62, 63, 65, 66, 67, 68, 69, 70, 71, 72, 73, 74, 75, 76, 77, 78, 79, 80, 81, 82, 83, 84, 85, 86, 87, 88, 89, 90, 91, 92, 93, 94, 95, 97, 98, 99, 100, 101, 102] [2, 3, 4, 5, 6, 7] σ τ39 := f_t hF hf (by decide) (by decide) (by decide)
          have hB := hN
          refine lv_goto (tgt := 141) hx hb dX13_print_137 (by decide) ?_
          exact xri hx hb hr hlk hP hK hD hS ⟨_, _, r_x38, rfl, hN, hF, rfl, hw⟩ (Nat.le_of_ble_eq_true rfl) (Nat.le_of_ble_eq_true rfl) dX13_print_141
      ·
        have e9 : n1 = 4 := ec4
        refine lv_tableIn (tgt := 142) hx hb dX13_print_10 (by rw [I_toInt rr.1 rr.2, e9]; decide) (by rw [I_toInt rr.1 rr.2, e9]; decide) (by rw [I_toInt rr.1 rr.2, e9]; rfl) (by decide) ?_
        replace hw := hw.2.2.2.2.1 e9
        refine lv_aload_n hx hb dX13_print_142 rfl (lv_at hl 0 rfl) ?_
        refine lv_iload_n hx hb dX13_print_143 rfl (lv_at hl 2 rfl) ?_
        obtain ⟨Q40, hc, hw⟩ := hw
        refine wc_i (X := MX g q lb) (va_runV (As := [.int (I n2)]) (rest := []) ⟨hx, hb, hml, hown, hts⟩ (L_X13_isProved l g q lb hlb r_n2 hN hc H.size) (cwV 1 hts (TB_V tw_2856 tw_2858 ts_166 tw_15 co_X13_isProved) rfl rfl rfl (by decide +kernel) ⟨Nat.le_of_ble_eq_true rfl, Nat.le_of_ble_eq_true rfl⟩) (preV (q0 := 0) (ci := 13) rfl xT_bl hP hK hNb hD rfl rfl xT_at) rfl rfl hl.1 rfl (lv_room (Nat.le_of_ble_eq_true rfl)) dX13_print_144 ⟨Nat.le_of_ble_eq_true rfl, Nat.le_of_ble_eq_true rfl⟩) hP hD hS hA (fun x41 H locs r_x41 hq hP hD hS => ?_)
        replace hw := hw x41 r_x41 hq
        refine bi_if_eq (tgt := 158) hx hb r_x41 dX13_print_147 (by decide) (fun c43 => ?_) (fun c43 => ?_)
        ·
          replace hw := hw.1 c43
          refine lv_iconst (v := I (-1)) hx hb dX13_print_158 rfl ?_
          exact xri hx hb hr hlk hP hK hD hS ⟨_, _, (by decide), rfl, hN, hF, rfl, hw⟩ (Nat.le_of_ble_eq_true rfl) (Nat.le_of_ble_eq_true rfl) dX13_print_159
        ·
          replace hw := hw.2 c43
          refine lv_aload_n hx hb dX13_print_150 rfl (lv_at hl 0 rfl) ?_
          refine lv_iload_n hx hb dX13_print_151 rfl (lv_at hl 2 rfl) ?_
          obtain ⟨Q44, hc, hw⟩ := hw
          refine wc_I (X := MX g q lb) (va_runV (As := [.int (I n2)]) (rest := []) ⟨hx, hb, hml, hown, hts⟩ (L_X13_printPacked l g q lb hlb r_n2 hN hc H.size) (cwV 1 hts (TB_V tw_3091 tw_3093 ts_214 tw_15 co_X13_printPacked) rfl rfl rfl (by decide +kernel) ⟨Nat.le_of_ble_eq_true rfl, Nat.le_of_ble_eq_true rfl⟩) (preV (q0 := 0) (ci := 13) rfl xT_bl hP hK hNb hD rfl rfl xT_at) rfl rfl hl.1 rfl (lv_room (Nat.le_of_ble_eq_true rfl)) dX13_print_152 ⟨Nat.le_of_ble_eq_true rfl, Nat.le_of_ble_eq_true rfl⟩) hP hD hS hA (fun x45 τ46 H locs r_x45 hN hf hq hP hD hS => ?_)
          replace hw := hw x45 τ46 r_x45 hN hf hq
          have hF : f_r [30, 31, 32, 33, 34, 35, 36, 37, 38, 39, 40, 42, 43, 44, 45, 46, 47, 48, 49, 50, 51, 52, 53, 54] [40, 41, 42, 43, 44, 45, 46, 47, 48, 49, 50, 56, 57, 58, 59, 60, 61, 62, 63, 65, 66, 67, 68, 69, 70, 71, 72, 73, 74, 75, 76, 77, 78, 79, 80, 81, 82, 83, 84, 85, 86, 87, 88, 89, 90, 91, 92, 93, 94, 95, 97, 98, 99, 100, 101, 102] [2, 3, 4, 5, 6, 7] σ τ46 := f_t hF hf (by decide) (by decide) (by decide)
          have hB := hN
          refine lv_goto (tgt := 159) hx hb dX13_print_155 (by decide) ?_
          exact xri hx hb hr hlk hP hK hD hS ⟨_, _, r_x45, rfl, hN, hF, rfl, hw⟩ (Nat.le_of_ble_eq_true rfl) (Nat.le_of_ble_eq_true rfl) dX13_print_159
      ·
        have e9 : n1 = 5 := ec4
        refine lv_tableIn (tgt := 160) hx hb dX13_print_10 (by rw [I_toInt rr.1 rr.2, e9]; decide) (by rw [I_toInt rr.1 rr.2, e9]; decide) (by rw [I_toInt rr.1 rr.2, e9]; rfl) (by decide) ?_
        replace hw := hw.2.2.2.2.2.1 e9
        refine lv_aload_n hx hb dX13_print_160 rfl (lv_at hl 0 rfl) ?_
        refine lv_iload_n hx hb dX13_print_161 rfl (lv_at hl 2 rfl) ?_
        obtain ⟨Q47, hc, hw⟩ := hw
        refine wc_i (X := MX g q lb) (va_runV (As := [.int (I n2)]) (rest := []) ⟨hx, hb, hml, hown, hts⟩ (L_X13_isProved l g q lb hlb r_n2 hN hc H.size) (cwV 1 hts (TB_V tw_2856 tw_2858 ts_166 tw_15 co_X13_isProved) rfl rfl rfl (by decide +kernel) ⟨Nat.le_of_ble_eq_true rfl, Nat.le_of_ble_eq_true rfl⟩) (preV (q0 := 0) (ci := 13) rfl xT_bl hP hK hNb hD rfl rfl xT_at) rfl rfl hl.1 rfl (lv_room (Nat.le_of_ble_eq_true rfl)) dX13_print_162 ⟨Nat.le_of_ble_eq_true rfl, Nat.le_of_ble_eq_true rfl⟩) hP hD hS hA (fun x48 H locs r_x48 hq hP hD hS => ?_)
        replace hw := hw x48 r_x48 hq
        refine bi_if_eq (tgt := 176) hx hb r_x48 dX13_print_165 (by decide) (fun c50 => ?_) (fun c50 => ?_)
        ·
          replace hw := hw.1 c50
          refine lv_iconst (v := I (-1)) hx hb dX13_print_176 rfl ?_
          exact xri hx hb hr hlk hP hK hD hS ⟨_, _, (by decide), rfl, hN, hF, rfl, hw⟩ (Nat.le_of_ble_eq_true rfl) (Nat.le_of_ble_eq_true rfl) dX13_print_177
        ·
          replace hw := hw.2 c50
          refine lv_aload_n hx hb dX13_print_168 rfl (lv_at hl 0 rfl) ?_
          refine lv_iload_n hx hb dX13_print_169 rfl (lv_at hl 2 rfl) ?_
          obtain ⟨Q51, hc, hw⟩ := hw
          refine wc_I (X := MX g q lb) (va_runV (As := [.int (I n2)]) (rest := []) ⟨hx, hb, hml, hown, hts⟩ (L_X13_printPlain l g q lb hlb r_n2 hN hc H.size) (cwV 1 hts (TB_V tw_3112 tw_3114 ts_219 tw_15 co_X13_printPlain) rfl rfl rfl (by decide +kernel) ⟨Nat.le_of_ble_eq_true rfl, Nat.le_of_ble_eq_true rfl⟩) (preV (q0 := 0) (ci := 13) rfl xT_bl hP hK hNb hD rfl rfl xT_at) rfl rfl hl.1 rfl (lv_room (Nat.le_of_ble_eq_true rfl)) dX13_print_170 ⟨Nat.le_of_ble_eq_true rfl, Nat.le_of_ble_eq_true rfl⟩) hP hD hS hA (fun x52 τ53 H locs r_x52 hN hf hq hP hD hS => ?_)
          replace hw := hw x52 τ53 r_x52 hN hf hq
          have hF : f_r [30, 31, 32, 33, 34, 35, 36, 37, 38, 39, 40, 42, 43, 44, 45, 46, 47, 48, 49, 50, 51, 52, 53, 54] [40, 41, 42, 43, 44, 45, 46, 47, 48, 49, 50, 56, 57, 58, 59, 60, 61, 62, 63, 65, 66, 67, 68, 69, 70, 71, 72, 73, 74, 75, 76, 77, 78, 79, 80, 81, 82, 83, 84, 85, 86, 87, 88, 89, 90, 91, 92, 93, 94, 95, 97, 98, 99, 100, 101, 102] [2, 3, 4, 5, 6, 7] σ τ53 := f_t hF hf (by decide) (by decide) (by decide)
          have hB := hN
          refine lv_goto (tgt := 177) hx hb dX13_print_173 (by decide) ?_
          exact xri hx hb hr hlk hP hK hD hS ⟨_, _, r_x52, rfl, hN, hF, rfl, hw⟩ (Nat.le_of_ble_eq_true rfl) (Nat.le_of_ble_eq_true rfl) dX13_print_177
      ·
        have e9 : n1 = 6 := ec4
        refine lv_tableIn (tgt := 178) hx hb dX13_print_10 (by rw [I_toInt rr.1 rr.2, e9]; decide) (by rw [I_toInt rr.1 rr.2, e9]; decide) (by rw [I_toInt rr.1 rr.2, e9]; rfl) (by decide) ?_
        replace hw := hw.2.2.2.2.2.2.1 e9
        exact (hP178 _ _ _).mp hw r_n1 r_n2 hN hF H locs ls hP hD hS (lv_sub hl [0, 1, 2] rfl)
      ·
        have e9 : n1 = 7 := ec4
        refine lv_tableIn (tgt := 178) hx hb dX13_print_10 (by rw [I_toInt rr.1 rr.2, e9]; decide) (by rw [I_toInt rr.1 rr.2, e9]; decide) (by rw [I_toInt rr.1 rr.2, e9]; rfl) (by decide) ?_
        replace hw := hw.2.2.2.2.2.2.2 e9
        exact (hP178 _ _ _).mp hw r_n1 r_n2 hN hF H locs ls hP hD hS (lv_sub hl [0, 1, 2] rfl)
  ·
    intro u1 u2 τ hw
    refine (hP178 _ _ _).mpr ?_
    intro r_u1 r_u2 hN hF H locs ls hP hD hS hl
    have hB := hN
    refine lv_aload_n hx hb dX13_print_178 rfl (lv_at hl 0 rfl) ?_
    refine lv_iload_n hx hb dX13_print_179 rfl (lv_at hl 2 rfl) ?_
    obtain ⟨Q54, hc, hw⟩ := hw
    refine wc_i (X := MX g q lb) (va_runV (As := [.int (I u2)]) (rest := []) ⟨hx, hb, hml, hown, hts⟩ (L_X13_isStatement l g q lb hlb r_u2 hN hc H.size) (cwV 1 hts (TB_V tw_2803 tw_2805 ts_161 tw_15 co_X13_isStatement) rfl rfl rfl (by decide +kernel) ⟨Nat.le_of_ble_eq_true rfl, Nat.le_of_ble_eq_true rfl⟩) (preV (q0 := 0) (ci := 13) rfl xT_bl hP hK hNb hD rfl rfl xT_at) rfl rfl hl.1 rfl (lv_room (Nat.le_of_ble_eq_true rfl)) dX13_print_180 ⟨Nat.le_of_ble_eq_true rfl, Nat.le_of_ble_eq_true rfl⟩) hP hD hS hA (fun x55 H locs r_x55 hq hP hD hS => ?_)
    replace hw := hw x55 r_x55 hq
    refine bi_if_eq (tgt := 195) hx hb r_x55 dX13_print_183 (by decide) (fun c57 => ?_) (fun c57 => ?_)
    ·
      replace hw := hw.1 c57
      refine lv_iconst (v := I (-1)) hx hb dX13_print_195 rfl ?_
      exact xri hx hb hr hlk hP hK hD hS ⟨_, _, (by decide), rfl, hN, hF, rfl, hw⟩ (Nat.le_of_ble_eq_true rfl) (Nat.le_of_ble_eq_true rfl) dX13_print_196
    ·
      replace hw := hw.2 c57
      refine lv_aload_n hx hb dX13_print_186 rfl (lv_at hl 0 rfl) ?_
      refine lv_iload_n hx hb dX13_print_187 rfl (lv_at hl 1 rfl) ?_
      refine lv_iload_n hx hb dX13_print_188 rfl (lv_at hl 2 rfl) ?_
      obtain ⟨Q58, hc, hw⟩ := hw
      refine wc_I (X := MX g q lb) (va_runV (As := [.int (I u1), .int (I u2)]) (rest := []) ⟨hx, hb, hml, hown, hts⟩ (L_X13_printTree l g q lb hlb r_u1 r_u2 hN hc H.size) (cwV 2 hts (TB_V tw_3117 tw_3119 ts_220 tw_15 co_X13_printTree) rfl rfl rfl (by decide +kernel) ⟨Nat.le_of_ble_eq_true rfl, Nat.le_of_ble_eq_true rfl⟩) (preV (q0 := 0) (ci := 13) rfl xT_bl hP hK hNb hD rfl rfl xT_at) rfl rfl hl.1 rfl (lv_room (Nat.le_of_ble_eq_true rfl)) dX13_print_189 ⟨Nat.le_of_ble_eq_true rfl, Nat.le_of_ble_eq_true rfl⟩) hP hD hS hA (fun x59 τ60 H locs r_x59 hN hf hq hP hD hS => ?_)
      replace hw := hw x59 τ60 r_x59 hN hf hq
      have hF : f_r [30, 31, 32, 33, 34, 35, 36, 37, 38, 39, 40, 42, 43, 44, 45, 46, 47, 48, 49, 50, 51, 52, 53, 54] [40, 41, 42, 43, 44, 45, 46, 47, 48, 49, 50, 56, 57, 58, 59, 60, 61, 62, 63, 65, 66, 67, 68, 69, 70, 71, 72, 73, 74, 75, 76, 77, 78, 79, 80, 81, 82, 83, 84, 85, 86, 87, 88, 89, 90, 91, 92, 93, 94, 95, 97, 98, 99, 100, 101, 102] [2, 3, 4, 5, 6, 7] σ τ60 := f_t hF hf (by decide) (by decide) (by decide)
      have hB := hN
      refine lv_goto (tgt := 196) hx hb dX13_print_192 (by decide) ?_
      exact xri hx hb hr hlk hP hK hD hS ⟨_, _, r_x59, rfl, hN, hF, rfl, hw⟩ (Nat.le_of_ble_eq_true rfl) (Nat.le_of_ble_eq_true rfl) dX13_print_196
def W_X13_takeRow (σ : S0) (Q : Int → S0 → Prop) : Prop :=
  ∀ (P19 : Int → Int → Int → S0 → Prop) (P45 : Int → Int → Int → S0 → Prop) (P64 : Int → Int → S0 → Prop) (P79 : Int → Int → Int → S0 → Prop),
  (∀ (u1 : Int) (u2 : Int) (u3 : Int) (τ : S0), ((¬ u2 = 1 → P79 u1 u2 u3 τ) ∧ (u2 = 1 → (u3 = 0 → P79 u1 u2 u3 τ) ∧ (¬ u3 = 0 → ∃ (Q7 : Int → Prop), W_X13_symbolHere τ Q7 ∧ ∀ (x8 : Int), rg x8 → Q7 x8 → ((x8 = (-1) → P45 u1 x8 0 τ) ∧ (¬ x8 = (-1) → P45 u1 x8 1 τ))))) → P19 u1 u2 u3 τ) →
  (∀ (u1 : Int) (u4 : Int) (k0 : Int) (τ : S0), ((k0 = 0 → P64 u1 k0 τ) ∧ (¬ k0 = 0 → (60 ≤ u1 → P64 u1 k0 τ) ∧ (u1 < 60 → (0 ≤ u1 ∧ u1 < 64) ∧ (P64 u1 k0 (s_a τ 103 u1 u4))))) → P45 u1 u4 k0 τ) →
  (∀ (u1 : Int) (u3 : Int) (τ : S0), (∃ (Q16 : Int → S0 → Prop), W_X13_rowFrom (τ.1 16) τ Q16 ∧ ∀ (x17 : Int) (τ18 : S0), rg x17 → n_m τ18 → f_r [16, 17, 18] [] [] τ τ18 → Q16 x17 τ18 → (rg (u1 + 1) ∧ P19 (u1 + 1) x17 u3 τ18)) → P64 u1 u3 τ) →
  (∀ (u1 : Int) (u2 : Int) (u3 : Int) (τ : S0), ((u3 = 0 → Q (-1) τ) ∧ (¬ u3 = 0 → (¬ u2 = 0 → Q (-1) τ) ∧ (u2 = 0 → Q u1 τ))) → P79 u1 u2 u3 τ) →
  ∃ (Q1 : Int → S0 → Prop), W_X13_rowFrom 0 σ Q1 ∧ ∀ (x2 : Int) (τ3 : S0), rg x2 → n_m τ3 → f_r [16, 17, 18] [] [] σ τ3 → Q1 x2 τ3 → ((¬ x2 = 1 → P19 0 x2 0 τ3) ∧ (x2 = 1 → P19 0 x2 1 τ3))
set_option maxRecDepth 100000 in
set_option maxHeartbeats 4000000 in
theorem L_X13_takeRow (l : Launch) (g : gG) (q : Nat → Nat) (lb : Nat) (hlb : lb < 2 ^ 31) {σ : S0} {Q : Int → S0 → Prop} (hN : n_m σ) (hw : W_X13_takeRow σ Q) (sz : Nat) : MetI l yX13_takeRow cX13_takeRow 5 (some .int) { frames := 3, cells := 0, slots := 0, locals := 71 } g [.ref (q 0)] (MX g q lb σ) sz xT (p_I (MX g q lb) [16, 17, 18] [103] [] σ Q) 0 0 := by
  refine mkMet (Qc := fun A => QI g A (p_I (MX g q lb) [16, 17, 18] [103] [] σ Q)) (by decide) (Nat.le_of_ble_eq_true rfl) ?_
  intro p e s m below meth c A H ls hx hb hr hml hown hts hlk hnm hsz hP hK hNb hD hA hAe hS hX hl
  have hl : lv_has ls 5 [(0, .ref (q 0))] := hl
  have hB := hN
  have hF : f_r [16, 17, 18] [103] [] σ σ := f_0
  obtain ⟨locs, hlocs⟩ : ∃ z : List Loc, z = [] := ⟨_, rfl⟩
  rw [← hlocs] at hS ⊢
  obtain ⟨P19, hP19⟩ : ∃ P : Int → Int → Int → S0 → Prop, ∀ (u1 : Int) (u2 : Int) (u3 : Int) (τ : S0), (P u1 u2 u3 τ ↔ (rg u1 → rg u2 → rg u3 → n_m τ → f_r [16, 17, 18] [103] [] σ τ → ∀ (H : Heap) (locs : List Loc) (ls : Array Slot), KP g (MX g q lb τ) H → va_D A (MX g q lb τ) → va_S A s.heap H locs → lv_has ls 5 [(0, .ref (q 0)), (1, .int (I u1)), (2, .int (I u2)), (3, .int (I u3))] → W p l e ({ frames := 3, cells := 0, slots := 0, locals := 71 }) s m [.ref (q 0)].toArray below meth c H locs 0 0 (MQ below (QI g A (p_I (MX g q lb) [16, 17, 18] [103] [] σ Q)) [.ref (q 0)].toArray s 0 0 A) (F0 m 19 ls []))) := ⟨_, fun _ _ _ _ => Iff.rfl⟩
  obtain ⟨P45, hP45⟩ : ∃ P : Int → Int → Int → S0 → Prop, ∀ (u1 : Int) (u4 : Int) (k0 : Int) (τ : S0), (P u1 u4 k0 τ ↔ (rg u1 → rg u4 → rg k0 → n_m τ → f_r [16, 17, 18] [103] [] σ τ → ∀ (H : Heap) (locs : List Loc) (ls : Array Slot), KP g (MX g q lb τ) H → va_D A (MX g q lb τ) → va_S A s.heap H locs → lv_has ls 5 [(0, .ref (q 0)), (1, .int (I u1)), (4, .int (I u4))] → W p l e ({ frames := 3, cells := 0, slots := 0, locals := 71 }) s m [.ref (q 0)].toArray below meth c H locs 0 0 (MQ below (QI g A (p_I (MX g q lb) [16, 17, 18] [103] [] σ Q)) [.ref (q 0)].toArray s 0 0 A) (F0 m 45 ls [.int (I k0)]))) := ⟨_, fun _ _ _ _ => Iff.rfl⟩
  obtain ⟨P64, hP64⟩ : ∃ P : Int → Int → S0 → Prop, ∀ (u1 : Int) (u3 : Int) (τ : S0), (P u1 u3 τ ↔ (rg u1 → rg u3 → n_m τ → f_r [16, 17, 18] [103] [] σ τ → ∀ (H : Heap) (locs : List Loc) (ls : Array Slot), KP g (MX g q lb τ) H → va_D A (MX g q lb τ) → va_S A s.heap H locs → lv_has ls 5 [(0, .ref (q 0)), (1, .int (I u1)), (3, .int (I u3))] → W p l e ({ frames := 3, cells := 0, slots := 0, locals := 71 }) s m [.ref (q 0)].toArray below meth c H locs 0 0 (MQ below (QI g A (p_I (MX g q lb) [16, 17, 18] [103] [] σ Q)) [.ref (q 0)].toArray s 0 0 A) (F0 m 64 ls []))) := ⟨_, fun _ _ _ => Iff.rfl⟩
  obtain ⟨P79, hP79⟩ : ∃ P : Int → Int → Int → S0 → Prop, ∀ (u1 : Int) (u2 : Int) (u3 : Int) (τ : S0), (P u1 u2 u3 τ ↔ (rg u1 → rg u2 → rg u3 → n_m τ → f_r [16, 17, 18] [103] [] σ τ → ∀ (H : Heap) (locs : List Loc) (ls : Array Slot), KP g (MX g q lb τ) H → va_D A (MX g q lb τ) → va_S A s.heap H locs → lv_has ls 5 [(1, .int (I u1)), (2, .int (I u2)), (3, .int (I u3))] → W p l e ({ frames := 3, cells := 0, slots := 0, locals := 71 }) s m [.ref (q 0)].toArray below meth c H locs 0 0 (MQ below (QI g A (p_I (MX g q lb) [16, 17, 18] [103] [] σ Q)) [.ref (q 0)].toArray s 0 0 A) (F0 m 79 ls []))) := ⟨_, fun _ _ _ _ => Iff.rfl⟩
  refine (fun hw => ?_) (hw P19 P45 P64 P79 ?_ ?_ ?_ ?_)
  ·
    refine lv_iconst (v := I 0) hx hb dX13_takeRow_0 rfl ?_
    refine lv_istore_n (lv' := [(1, .int (I 0)), (0, .ref (q 0))]) hx hb dX13_takeRow_1 rfl hl (by decide) rfl (fun ls hl => ?_)
    refine lv_aload_n hx hb dX13_takeRow_2 rfl (lv_at hl 1 rfl) ?_
    refine lv_iconst (v := I 0) hx hb dX13_takeRow_3 rfl ?_
    obtain ⟨Q1, hc, hw⟩ := hw
    refine wc_I (X := MX g q lb) (va_runV (As := [.int (I 0)]) (rest := []) ⟨hx, hb, hml, hown, hts⟩ (L_X13_rowFrom l g q lb hlb (by decide) hN hc H.size) (cwV 1 hts (TB_V tw_2823 tw_2825 ts_162 tw_15 co_X13_rowFrom) rfl rfl rfl (by decide +kernel) ⟨Nat.le_of_ble_eq_true rfl, Nat.le_of_ble_eq_true rfl⟩) (preV (q0 := 0) (ci := 13) rfl xT_bl hP hK hNb hD rfl rfl xT_at) rfl rfl hl.1 rfl (lv_room (Nat.le_of_ble_eq_true rfl)) dX13_takeRow_4 ⟨Nat.le_of_ble_eq_true rfl, Nat.le_of_ble_eq_true rfl⟩) hP hD hS hA (fun x2 τ3 H locs r_x2 hN hf hq hP hD hS => ?_)
    replace hw := hw x2 τ3 r_x2 hN hf hq
    have hF : f_r [16, 17, 18] [103] [] σ τ3 := f_t hF hf (by decide) (by decide) (by decide)
    have hB := hN
    refine lv_istore_n (lv' := [(2, .int (I x2)), (1, .int (I 0)), (0, .ref (q 0))]) hx hb dX13_takeRow_7 rfl hl (by decide) rfl (fun ls hl => ?_)
    refine lv_iload_n hx hb dX13_takeRow_8 rfl (lv_at hl 0 rfl) ?_
    refine lv_iconst (v := I 1) hx hb dX13_takeRow_9 rfl ?_
    refine bi_icmp_ne (tgt := 17) hx hb r_x2 (by decide) dX13_takeRow_10 (by decide) (fun c4 => ?_) (fun c4 => ?_)
    ·
      replace hw := hw.1 c4
      refine lv_iconst (v := I 0) hx hb dX13_takeRow_17 rfl ?_
      refine lv_istore_n (lv' := [(3, .int (I 0)), (2, .int (I x2)), (1, .int (I 0)), (0, .ref (q 0))]) hx hb dX13_takeRow_18 rfl hl (by decide) rfl (fun ls hl => ?_)
      exact (hP19 _ _ _ _).mp hw (by decide) r_x2 (by decide) hN hF H locs ls hP hD hS (lv_sub hl [3, 2, 1, 0] rfl)
    ·
      replace hw := hw.2 c4
      refine lv_iconst (v := I 1) hx hb dX13_takeRow_13 rfl ?_
      refine lv_goto (tgt := 18) hx hb dX13_takeRow_14 (by decide) ?_
      refine lv_istore_n (lv' := [(3, .int (I 1)), (2, .int (I x2)), (1, .int (I 0)), (0, .ref (q 0))]) hx hb dX13_takeRow_18 rfl hl (by decide) rfl (fun ls hl => ?_)
      exact (hP19 _ _ _ _).mp hw (by decide) r_x2 (by decide) hN hF H locs ls hP hD hS (lv_sub hl [3, 2, 1, 0] rfl)
  ·
    intro u1 u2 u3 τ hw
    refine (hP19 _ _ _ _).mpr ?_
    intro r_u1 r_u2 r_u3 hN hF H locs ls hP hD hS hl
    have hB := hN
    refine lv_iload_n hx hb dX13_takeRow_19 rfl (lv_at hl 2 rfl) ?_
    refine lv_iconst (v := I 1) hx hb dX13_takeRow_20 rfl ?_
    refine bi_icmp_ne (tgt := 79) hx hb r_u2 (by decide) dX13_takeRow_21 (by decide) (fun c5 => ?_) (fun c5 => ?_)
    ·
      replace hw := hw.1 c5
      exact (hP79 _ _ _ _).mp hw r_u1 r_u2 r_u3 hN hF H locs ls hP hD hS (lv_sub hl [1, 2, 3] rfl)
    ·
      replace hw := hw.2 c5
      refine lv_iload_n hx hb dX13_takeRow_24 rfl (lv_at hl 3 rfl) ?_
      refine bi_if_eq (tgt := 79) hx hb r_u3 dX13_takeRow_25 (by decide) (fun c6 => ?_) (fun c6 => ?_)
      ·
        replace hw := hw.1 c6
        exact (hP79 _ _ _ _).mp hw r_u1 r_u2 r_u3 hN hF H locs ls hP hD hS (lv_sub hl [1, 2, 3] rfl)
      ·
        replace hw := hw.2 c6
        refine lv_aload_n hx hb dX13_takeRow_28 rfl (lv_at hl 0 rfl) ?_
        obtain ⟨Q7, hc, hw⟩ := hw
        refine wc_i (X := MX g q lb) (va_runV (As := []) (rest := []) ⟨hx, hb, hml, hown, hts⟩ (L_X13_symbolHere l g q lb hlb  hN hc H.size) (cwV 0 hts (TB_V tw_2609 tw_2611 ts_117 tw_15 co_X13_symbolHere) rfl rfl rfl (by decide +kernel) ⟨Nat.le_of_ble_eq_true rfl, Nat.le_of_ble_eq_true rfl⟩) (preV (q0 := 0) (ci := 13) rfl xT_bl hP hK hNb hD rfl rfl xT_at) rfl rfl hl.1 rfl (lv_room (Nat.le_of_ble_eq_true rfl)) dX13_takeRow_29 ⟨Nat.le_of_ble_eq_true rfl, Nat.le_of_ble_eq_true rfl⟩) hP hD hS hA (fun x8 H locs r_x8 hq hP hD hS => ?_)
        replace hw := hw x8 r_x8 hq
        refine lv_istore (lv' := [(4, .int (I x8)), (0, .ref (q 0)), (1, .int (I u1)), (2, .int (I u2)), (3, .int (I u3))]) hx hb dX13_takeRow_32 hl (by decide) rfl (fun ls hl => ?_)
        refine lv_iload hx hb dX13_takeRow_34 (lv_at hl 0 rfl) ?_
        refine lv_iconst (v := I (-1)) hx hb dX13_takeRow_36 rfl ?_
        refine bi_icmp_eq (tgt := 44) hx hb r_x8 (by decide) dX13_takeRow_37 (by decide) (fun c10 => ?_) (fun c10 => ?_)
        ·
          replace hw := hw.1 c10
          refine lv_iconst (v := I 0) hx hb dX13_takeRow_44 rfl ?_
          exact (hP45 _ _ _ _).mp hw r_u1 r_x8 (by decide) hN hF H locs ls hP hD hS (lv_sub hl [1, 2, 0] rfl)
        ·
          replace hw := hw.2 c10
          refine lv_iconst (v := I 1) hx hb dX13_takeRow_40 rfl ?_
          refine lv_goto (tgt := 45) hx hb dX13_takeRow_41 (by decide) ?_
          exact (hP45 _ _ _ _).mp hw r_u1 r_x8 (by decide) hN hF H locs ls hP hD hS (lv_sub hl [1, 2, 0] rfl)
  ·
    intro u1 u4 k0 τ hw
    refine (hP45 _ _ _ _).mpr ?_
    intro r_u1 r_u4 r_k0 hN hF H locs ls hP hD hS hl
    have hB := hN
    refine lv_istore_n (lv' := [(3, .int (I k0)), (0, .ref (q 0)), (1, .int (I u1)), (4, .int (I u4))]) hx hb dX13_takeRow_45 rfl hl (by decide) rfl (fun ls hl => ?_)
    refine lv_iload_n hx hb dX13_takeRow_46 rfl (lv_at hl 0 rfl) ?_
    refine bi_if_eq (tgt := 64) hx hb r_k0 dX13_takeRow_47 (by decide) (fun c13 => ?_) (fun c13 => ?_)
    ·
      replace hw := hw.1 c13
      exact (hP64 _ _ _).mp hw r_u1 r_k0 hN hF H locs ls hP hD hS (lv_sub hl [1, 2, 0] rfl)
    ·
      replace hw := hw.2 c13
      refine lv_iload_n hx hb dX13_takeRow_50 rfl (lv_at hl 2 rfl) ?_
      refine lv_bipush (v := I 60) hx hb dX13_takeRow_51 (by decide) ?_
      refine bi_icmp_ge (tgt := 64) hx hb r_u1 (by decide) dX13_takeRow_53 (by decide) (fun c14 => ?_) (fun c14 => ?_)
      ·
        replace hw := hw.1 c14
        exact (hP64 _ _ _).mp hw r_u1 r_k0 hN hF H locs ls hP hD hS (lv_sub hl [1, 2, 0] rfl)
      ·
        replace hw := hw.2 c14
        refine lv_aload_n hx hb dX13_takeRow_56 rfl (lv_at hl 1 rfl) ?_
        refine gfX13_given hx hb hts hK hP hown (hts _ tw_2171) dX13_takeRow_57 ?_
        refine lv_iload_n hx hb dX13_takeRow_60 rfl (lv_at hl 2 rfl) ?_
        refine lv_iload hx hb dX13_takeRow_61 (lv_at hl 3 rfl) ?_
        obtain ⟨c15, hw⟩ := hw
        refine sdMX13_given hx hb hK hP hD hS c15 dX13_takeRow_63 (fun H locs hP hD hS => ?_)
        have hN : n_m (s_a τ 103 u1 u4) := n_a (k := 103) (j := u1) hN (r_u4 : rg u4)
        have hF : f_r [16, 17, 18] [103] [] σ (s_a τ 103 u1 u4) := f_a hF (by decide)
        exact (hP64 _ _ _).mp hw r_u1 r_k0 hN hF H locs ls hP hD hS (lv_sub hl [1, 2, 0] rfl)
  ·
    intro u1 u3 τ hw
    refine (hP64 _ _ _).mpr ?_
    intro r_u1 r_u3 hN hF H locs ls hP hD hS hl
    have hB := hN
    refine lv_iinc (v := I (u1 + 1)) (lv' := [(1, .int (I (u1 + 1))), (0, .ref (q 0)), (3, .int (I u3))]) hx hb dX13_takeRow_64 hl (k := 1) rfl (I_add _ _) (by decide) rfl (fun ls hl => ?_)
    refine lv_aload_n hx hb dX13_takeRow_67 rfl (lv_at hl 1 rfl) ?_
    refine lv_aload_n hx hb dX13_takeRow_68 rfl (lv_at hl 1 rfl) ?_
    refine gfX13_at hx hb hts hK hP hown (hts _ tw_2061) (x := τ.1 16) rfl dX13_takeRow_69 ?_
    obtain ⟨Q16, hc, hw⟩ := hw
    refine wc_I (X := MX g q lb) (va_runV (As := [.int (I (τ.1 16))]) (rest := []) ⟨hx, hb, hml, hown, hts⟩ (L_X13_rowFrom l g q lb hlb (hB.1 16) hN hc H.size) (cwV 1 hts (TB_V tw_2823 tw_2825 ts_162 tw_15 co_X13_rowFrom) rfl rfl rfl (by decide +kernel) ⟨Nat.le_of_ble_eq_true rfl, Nat.le_of_ble_eq_true rfl⟩) (preV (q0 := 0) (ci := 13) rfl xT_bl hP hK hNb hD rfl rfl xT_at) rfl rfl hl.1 rfl (lv_room (Nat.le_of_ble_eq_true rfl)) dX13_takeRow_72 ⟨Nat.le_of_ble_eq_true rfl, Nat.le_of_ble_eq_true rfl⟩) hP hD hS hA (fun x17 τ18 H locs r_x17 hN hf hq hP hD hS => ?_)
    replace hw := hw x17 τ18 r_x17 hN hf hq
    have hF : f_r [16, 17, 18] [103] [] σ τ18 := f_t hF hf (by decide) (by decide) (by decide)
    have hB := hN
    refine lv_istore_n (lv' := [(2, .int (I x17)), (1, .int (I (u1 + 1))), (0, .ref (q 0)), (3, .int (I u3))]) hx hb dX13_takeRow_75 rfl hl (by decide) rfl (fun ls hl => ?_)
    refine lv_goto (tgt := 19) hx hb dX13_takeRow_76 (by decide) ?_
    obtain ⟨c19, hw⟩ := hw
    exact (hP19 _ _ _ _).mp hw c19 r_x17 r_u3 hN hF H locs ls hP hD hS (lv_sub hl [2, 1, 0, 3] rfl)
  ·
    intro u1 u2 u3 τ hw
    refine (hP79 _ _ _ _).mpr ?_
    intro r_u1 r_u2 r_u3 hN hF H locs ls hP hD hS hl
    have hB := hN
    refine lv_iload_n hx hb dX13_takeRow_79 rfl (lv_at hl 2 rfl) ?_
    refine bi_if_eq (tgt := 91) hx hb r_u3 dX13_takeRow_80 (by decide) (fun c11 => ?_) (fun c11 => ?_)
    ·
      replace hw := hw.1 c11
      refine lv_iconst (v := I (-1)) hx hb dX13_takeRow_91 rfl ?_
      exact xri hx hb hr hlk hP hK hD hS ⟨_, _, (by decide), rfl, hN, hF, rfl, hw⟩ (Nat.le_of_ble_eq_true rfl) (Nat.le_of_ble_eq_true rfl) dX13_takeRow_92
    ·
      replace hw := hw.2 c11
      refine lv_iload_n hx hb dX13_takeRow_83 rfl (lv_at hl 1 rfl) ?_
      refine bi_if_ne (tgt := 91) hx hb r_u2 dX13_takeRow_84 (by decide) (fun c12 => ?_) (fun c12 => ?_)
      ·
        replace hw := hw.1 c12
        refine lv_iconst (v := I (-1)) hx hb dX13_takeRow_91 rfl ?_
        exact xri hx hb hr hlk hP hK hD hS ⟨_, _, (by decide), rfl, hN, hF, rfl, hw⟩ (Nat.le_of_ble_eq_true rfl) (Nat.le_of_ble_eq_true rfl) dX13_takeRow_92
      ·
        replace hw := hw.2 c12
        refine lv_iload_n hx hb dX13_takeRow_87 rfl (lv_at hl 0 rfl) ?_
        refine lv_goto (tgt := 92) hx hb dX13_takeRow_88 (by decide) ?_
        exact xri hx hb hr hlk hP hK hD hS ⟨_, _, r_u1, rfl, hN, hF, rfl, hw⟩ (Nat.le_of_ble_eq_true rfl) (Nat.le_of_ble_eq_true rfl) dX13_takeRow_92
def W_X13_isSameStretch (n1 : Int) (n2 : Int) (n3 : Int) (n4 : Int) (σ : S0) (Q : Int → Prop) : Prop :=
  ∀ (P20 : Int → Int → Int → Int → Int → Prop),
  (∀ (u1 : Int) (u2 : Int) (u3 : Int) (u5 : Int) (u6 : Int), (rg (u2 - u1) ∧ ((u2 - u1) ≤ u6 → (0 ≤ u5 ∧ u5 ≤ 1) ∧ Q u5) ∧ (u6 < (u2 - u1) → (u5 = 0 → (0 ≤ u5 ∧ u5 ≤ 1) ∧ Q u5) ∧ (¬ u5 = 0 → (0 ≤ ((1 + u1) + u6) ∧ ((1 + u1) + u6) < 64) ∧ (∀ (x10 : Int), rg x10 → x10 = σ.2.1 103 ((1 + u1) + u6) → ((0 ≤ ((1 + u3) + u6) ∧ ((1 + u3) + u6) < 64) ∧ (∀ (x12 : Int), rg x12 → x12 = σ.2.1 103 ((1 + u3) + u6) → ((¬ x10 = x12 → rg (u6 + 1) ∧ P20 u1 u2 u3 0 (u6 + 1)) ∧ (x10 = x12 → rg (u6 + 1) ∧ P20 u1 u2 u3 1 (u6 + 1))))))))) → P20 u1 u2 u3 u5 u6) →
  rg (n2 - n1) ∧ rg (n4 - n3) ∧ (¬ (n2 - n1) = (n4 - n3) → P20 n1 n2 n3 0 0) ∧ ((n2 - n1) = (n4 - n3) → P20 n1 n2 n3 1 0)
set_option maxRecDepth 100000 in
set_option maxHeartbeats 4000000 in
theorem L_X13_isSameStretch (l : Launch) (g : gG) (q : Nat → Nat) (lb : Nat) (hlb : lb < 2 ^ 31) {n1 : Int} {n2 : Int} {n3 : Int} {n4 : Int} {σ : S0} {Q : Int → Prop} (r_n1 : rg n1) (r_n2 : rg n2) (r_n3 : rg n3) (r_n4 : rg n4) (hN : n_m σ) (hw : W_X13_isSameStretch n1 n2 n3 n4 σ Q) (sz : Nat) : MetI l yX13_isSameStretch cX13_isSameStretch 7 (some .boolean) { frames := 0, cells := 0, slots := 0, locals := 0 } g [.ref (q 0), .int (I n1), .int (I n2), .int (I n3), .int (I n4)] (MX g q lb σ) sz xT (p_i (MX g q lb) σ Q) 0 0 := by
  refine mkMet (Qc := fun A => QI g A (p_i (MX g q lb) σ Q)) (by decide) (Nat.le_of_ble_eq_true rfl) ?_
  intro p e s m below meth c A H ls hx hb hr hml hown hts hlk hnm hsz hP hK hNb hD hA hAe hS hX hl
  have hl : lv_has ls 7 [(0, .ref (q 0)), (1, .int (I n1)), (2, .int (I n2)), (3, .int (I n3)), (4, .int (I n4))] := hl
  have hB := hN
  obtain ⟨locs, hlocs⟩ : ∃ z : List Loc, z = [] := ⟨_, rfl⟩
  rw [← hlocs] at hS ⊢
  obtain ⟨P20, hP20⟩ : ∃ P : Int → Int → Int → Int → Int → Prop, ∀ (u1 : Int) (u2 : Int) (u3 : Int) (u5 : Int) (u6 : Int), (P u1 u2 u3 u5 u6 ↔ (rg u1 → rg u2 → rg u3 → rg u5 → rg u6 → ∀ (H : Heap) (locs : List Loc) (ls : Array Slot), KP g (MX g q lb σ) H → va_D A (MX g q lb σ) → va_S A s.heap H locs → lv_has ls 7 [(0, .ref (q 0)), (1, .int (I u1)), (2, .int (I u2)), (3, .int (I u3)), (5, .int (I u5)), (6, .int (I u6))] → W p l e ({ frames := 0, cells := 0, slots := 0, locals := 0 }) s m [.ref (q 0), .int (I n1), .int (I n2), .int (I n3), .int (I n4)].toArray below meth c H locs 0 0 (MQ below (QI g A (p_i (MX g q lb) σ Q)) [.ref (q 0), .int (I n1), .int (I n2), .int (I n3), .int (I n4)].toArray s 0 0 A) (F0 m 20 ls []))) := ⟨_, fun _ _ _ _ _ => Iff.rfl⟩
  refine (fun hw => ?_) (hw P20 ?_)
  ·
    refine lv_iload_n hx hb dX13_isSameStretch_0 rfl (lv_at hl 2 rfl) ?_
    refine lv_iload_n hx hb dX13_isSameStretch_1 rfl (lv_at hl 1 rfl) ?_
    refine bi_isub hx hb dX13_isSameStretch_2 ?_
    refine lv_iload hx hb dX13_isSameStretch_3 (lv_at hl 4 rfl) ?_
    refine lv_iload_n hx hb dX13_isSameStretch_5 rfl (lv_at hl 3 rfl) ?_
    refine bi_isub hx hb dX13_isSameStretch_6 ?_
    obtain ⟨c1, hw⟩ := hw
    obtain ⟨c2, hw⟩ := hw
    refine bi_icmp_ne (tgt := 14) hx hb c1 c2 dX13_isSameStretch_7 (by decide) (fun c3 => ?_) (fun c3 => ?_)
    ·
      replace hw := hw.1 c3
      refine lv_iconst (v := I 0) hx hb dX13_isSameStretch_14 rfl ?_
      refine lv_istore (lv' := [(5, .int (I 0)), (0, .ref (q 0)), (1, .int (I n1)), (2, .int (I n2)), (3, .int (I n3)), (4, .int (I n4))]) hx hb dX13_isSameStretch_15 hl (by decide) rfl (fun ls hl => ?_)
      refine lv_iconst (v := I 0) hx hb dX13_isSameStretch_17 rfl ?_
      refine lv_istore (lv' := [(6, .int (I 0)), (5, .int (I 0)), (0, .ref (q 0)), (1, .int (I n1)), (2, .int (I n2)), (3, .int (I n3)), (4, .int (I n4))]) hx hb dX13_isSameStretch_18 hl (by decide) rfl (fun ls hl => ?_)
      exact (hP20 _ _ _ _ _).mp hw r_n1 r_n2 r_n3 (by decide) (by decide)  H locs ls hP hD hS (lv_sub hl [2, 3, 4, 5, 1, 0] rfl)
    ·
      replace hw := hw.2 c3
      refine lv_iconst (v := I 1) hx hb dX13_isSameStretch_10 rfl ?_
      refine lv_goto (tgt := 15) hx hb dX13_isSameStretch_11 (by decide) ?_
      refine lv_istore (lv' := [(5, .int (I 1)), (0, .ref (q 0)), (1, .int (I n1)), (2, .int (I n2)), (3, .int (I n3)), (4, .int (I n4))]) hx hb dX13_isSameStretch_15 hl (by decide) rfl (fun ls hl => ?_)
      refine lv_iconst (v := I 0) hx hb dX13_isSameStretch_17 rfl ?_
      refine lv_istore (lv' := [(6, .int (I 0)), (5, .int (I 1)), (0, .ref (q 0)), (1, .int (I n1)), (2, .int (I n2)), (3, .int (I n3)), (4, .int (I n4))]) hx hb dX13_isSameStretch_18 hl (by decide) rfl (fun ls hl => ?_)
      exact (hP20 _ _ _ _ _).mp hw r_n1 r_n2 r_n3 (by decide) (by decide)  H locs ls hP hD hS (lv_sub hl [2, 3, 4, 5, 1, 0] rfl)
  ·
    intro u1 u2 u3 u5 u6 hw
    refine (hP20 _ _ _ _ _).mpr ?_
    intro r_u1 r_u2 r_u3 r_u5 r_u6 H locs ls hP hD hS hl
    refine lv_iload hx hb dX13_isSameStretch_20 (lv_at hl 5 rfl) ?_
    refine lv_iload_n hx hb dX13_isSameStretch_22 rfl (lv_at hl 2 rfl) ?_
    refine lv_iload_n hx hb dX13_isSameStretch_23 rfl (lv_at hl 1 rfl) ?_
    refine bi_isub hx hb dX13_isSameStretch_24 ?_
    obtain ⟨c4, hw⟩ := hw
    refine bi_icmp_ge (tgt := 71) hx hb r_u6 c4 dX13_isSameStretch_25 (by decide) (fun c5 => ?_) (fun c5 => ?_)
    ·
      replace hw := hw.1 c5
      refine lv_iload hx hb dX13_isSameStretch_71 (lv_at hl 4 rfl) ?_
      obtain ⟨c6, hw⟩ := hw
      exact xrz hx hb hr (nzI c6.1 c6.2) hlk hP hK hD hS ⟨_, r_u5, rfl, rfl, hw⟩ (Nat.le_of_ble_eq_true rfl) (Nat.le_of_ble_eq_true rfl) dX13_isSameStretch_73
    ·
      replace hw := hw.2 c5
      refine lv_iload hx hb dX13_isSameStretch_28 (lv_at hl 4 rfl) ?_
      refine bi_if_eq (tgt := 71) hx hb r_u5 dX13_isSameStretch_30 (by decide) (fun c7 => ?_) (fun c7 => ?_)
      ·
        replace hw := hw.1 c7
        refine lv_iload hx hb dX13_isSameStretch_71 (lv_at hl 4 rfl) ?_
        obtain ⟨c8, hw⟩ := hw
        exact xrz hx hb hr (nzI c8.1 c8.2) hlk hP hK hD hS ⟨_, r_u5, rfl, rfl, hw⟩ (Nat.le_of_ble_eq_true rfl) (Nat.le_of_ble_eq_true rfl) dX13_isSameStretch_73
      ·
        replace hw := hw.2 c7
        refine lv_aload_n hx hb dX13_isSameStretch_33 rfl (lv_at hl 0 rfl) ?_
        refine gfX13_given hx hb hts hK hP hown (hts _ tw_2171) dX13_isSameStretch_34 ?_
        refine lv_iconst (v := I 1) hx hb dX13_isSameStretch_37 rfl ?_
        refine lv_iload_n hx hb dX13_isSameStretch_38 rfl (lv_at hl 1 rfl) ?_
        refine bi_iadd hx hb dX13_isSameStretch_39 ?_
        refine lv_iload hx hb dX13_isSameStretch_40 (lv_at hl 5 rfl) ?_
        refine bi_iadd hx hb dX13_isSameStretch_42 ?_
        obtain ⟨c9, hw⟩ := hw
        refine ldMX13_given hx hb hK hP hN c9 dX13_isSameStretch_43 (fun x10 r_x10 e_x10 => ?_)
        replace hw := hw x10 r_x10 e_x10
        refine lv_aload_n hx hb dX13_isSameStretch_44 rfl (lv_at hl 0 rfl) ?_
        refine gfX13_given hx hb hts hK hP hown (hts _ tw_2171) dX13_isSameStretch_45 ?_
        refine lv_iconst (v := I 1) hx hb dX13_isSameStretch_48 rfl ?_
        refine lv_iload_n hx hb dX13_isSameStretch_49 rfl (lv_at hl 3 rfl) ?_
        refine bi_iadd hx hb dX13_isSameStretch_50 ?_
        refine lv_iload hx hb dX13_isSameStretch_51 (lv_at hl 5 rfl) ?_
        refine bi_iadd hx hb dX13_isSameStretch_53 ?_
        obtain ⟨c11, hw⟩ := hw
        refine ldMX13_given hx hb hK hP hN c11 dX13_isSameStretch_54 (fun x12 r_x12 e_x12 => ?_)
        replace hw := hw x12 r_x12 e_x12
        refine bi_icmp_ne (tgt := 62) hx hb r_x10 r_x12 dX13_isSameStretch_55 (by decide) (fun c13 => ?_) (fun c13 => ?_)
        ·
          replace hw := hw.1 c13
          refine lv_iconst (v := I 0) hx hb dX13_isSameStretch_62 rfl ?_
          refine lv_istore (lv' := [(5, .int (I 0)), (0, .ref (q 0)), (1, .int (I u1)), (2, .int (I u2)), (3, .int (I u3)), (6, .int (I u6))]) hx hb dX13_isSameStretch_63 hl (by decide) rfl (fun ls hl => ?_)
          refine lv_iinc (v := I (u6 + 1)) (lv' := [(6, .int (I (u6 + 1))), (5, .int (I 0)), (0, .ref (q 0)), (1, .int (I u1)), (2, .int (I u2)), (3, .int (I u3))]) hx hb dX13_isSameStretch_65 hl (k := 5) rfl (I_add _ _) (by decide) rfl (fun ls hl => ?_)
          refine lv_goto (tgt := 20) hx hb dX13_isSameStretch_68 (by decide) ?_
          obtain ⟨c14, hw⟩ := hw
          exact (hP20 _ _ _ _ _).mp hw r_u1 r_u2 r_u3 (by decide) c14  H locs ls hP hD hS (lv_sub hl [2, 3, 4, 5, 1, 0] rfl)
        ·
          replace hw := hw.2 c13
          refine lv_iconst (v := I 1) hx hb dX13_isSameStretch_58 rfl ?_
          refine lv_goto (tgt := 63) hx hb dX13_isSameStretch_59 (by decide) ?_
          refine lv_istore (lv' := [(5, .int (I 1)), (0, .ref (q 0)), (1, .int (I u1)), (2, .int (I u2)), (3, .int (I u3)), (6, .int (I u6))]) hx hb dX13_isSameStretch_63 hl (by decide) rfl (fun ls hl => ?_)
          refine lv_iinc (v := I (u6 + 1)) (lv' := [(6, .int (I (u6 + 1))), (5, .int (I 1)), (0, .ref (q 0)), (1, .int (I u1)), (2, .int (I u2)), (3, .int (I u3))]) hx hb dX13_isSameStretch_65 hl (k := 5) rfl (I_add _ _) (by decide) rfl (fun ls hl => ?_)
          refine lv_goto (tgt := 20) hx hb dX13_isSameStretch_68 (by decide) ?_
          obtain ⟨c15, hw⟩ := hw
          exact (hP20 _ _ _ _ _).mp hw r_u1 r_u2 r_u3 (by decide) c15  H locs ls hP hD hS (lv_sub hl [2, 3, 4, 5, 1, 0] rfl)
def W_X13_fits (n1 : Int) (n2 : Int) (σ : S0) (Q : Int → S0 → Prop) : Prop :=
  ∀ (P24 : S0 → Prop) (P189 : Int → Int → Int → Int → S0 → Prop),
  (∀ (τ : S0), ((τ.1 42 ≤ 0 → Q 1 τ) ∧ (0 < τ.1 42 → rg (τ.1 42 - 1) ∧ (0 ≤ (τ.1 42 - 1) ∧ (τ.1 42 - 1) < 40002) ∧ (∀ (x4 : Int), rg x4 → x4 = τ.2.1 65 (τ.1 42 - 1) → (∀ (x5 : Int), rg x5 → x5 = τ.2.1 106 (τ.1 42 - 1) → ((0 ≤ x4 ∧ x4 < 60000) ∧ (∀ (x7 : Int), rg x7 → x7 = τ.2.1 86 x4 → ((0 ≤ x7 → (0 ≤ x5 ∧ x5 < 60000) ∧ (∀ (x10 : Int), rg x10 → x10 = τ.2.1 86 x5 → ((x10 = x7 → P189 x4 x5 x7 0 (s_v τ 42 (τ.1 42 - 1))) ∧ (¬ x10 = x7 → Q 0 (s_v τ 42 (τ.1 42 - 1)))))) ∧ (x7 < 0 → (0 ≤ ((-1) - x7) ∧ ((-1) - x7) < 1501) ∧ (∀ (x13 : Int), rg x13 → x13 = τ.2.1 14 ((-1) - x7) → ((0 ≤ (x13 + 1) ∧ (x13 + 1) < 30400) ∧ (∀ (x15 : Int), rg x15 → x15 = τ.2.1 16 (x13 + 1) → ((0 ≤ x15 ∧ x15 < 1001) ∧ (∀ (x17 : Int), rg x17 → x17 = τ.2.1 104 x15 → ((¬ x17 = (-1) → ∀ (x19 : Int), rg x19 → x19 = τ.2.1 104 x15 → (∀ (x20 : Int), rg x20 → x20 = τ.2.1 105 x15 → ((0 ≤ x5 ∧ x5 < 60000) ∧ (∀ (x22 : Int), rg x22 → x22 = τ.2.1 88 x5 → (∀ (x23 : Int), rg x23 → x23 = τ.2.1 89 x5 → (∃ (Q24 : Int → Prop), W_X13_isSameStretch x19 x20 x22 x23 (s_v τ 42 (τ.1 42 - 1)) Q24 ∧ ∀ (x25 : Int), rg x25 → Q24 x25 → ((¬ x25 = 0 → P24 (s_v τ 42 (τ.1 42 - 1))) ∧ (x25 = 0 → Q 0 (s_v τ 42 (τ.1 42 - 1)))))))))) ∧ (x17 = (-1) → (0 ≤ x5 ∧ x5 < 60000) ∧ (∀ (x29 : Int), rg x29 → x29 = τ.2.1 88 x5 → (∀ (x30 : Int), rg x30 → x30 = τ.2.1 89 x5 → (P24 (s_a (s_a (s_v τ 42 (τ.1 42 - 1)) 104 x15 x29) 105 x15 x30))))))))))))))))))) → P24 τ) →
  (∀ (u3 : Int) (u4 : Int) (u5 : Int) (u6 : Int) (τ : S0), ((0 ≤ u5 ∧ u5 < 1501) ∧ (∀ (x32 : Int), rg x32 → x32 = τ.2.1 19 u5 → ((x32 ≤ u6 → P24 τ) ∧ (u6 < x32 → (0 ≤ u3 ∧ u3 < 60000) ∧ (∀ (x35 : Int), rg x35 → x35 = τ.2.1 87 u3 → ((0 ≤ (x35 + u6) ∧ (x35 + u6) < 120000) ∧ (∀ (x37 : Int), rg x37 → x37 = τ.2.1 91 (x35 + u6) → ((0 ≤ τ.1 42 ∧ τ.1 42 < 40002) ∧ ((0 ≤ u4 ∧ u4 < 60000) ∧ (∀ (x40 : Int), rg x40 → x40 = τ.2.1 87 u4 → ((0 ≤ (x40 + u6) ∧ (x40 + u6) < 120000) ∧ (∀ (x42 : Int), rg x42 → x42 = τ.2.1 91 (x40 + u6) → (rg (τ.1 42 + 1) ∧ rg (u6 + 1) ∧ P189 u3 u4 u5 (u6 + 1) (s_v (s_a (s_a τ 65 (τ.1 42) x37) 106 (τ.1 42) x42) 42 (τ.1 42 + 1))))))))))))))) → P189 u3 u4 u5 u6 τ) →
  P24 (s_v (s_a (s_a (s_v σ 42 0) 65 0 n1) 106 0 n2) 42 1)
set_option maxRecDepth 100000 in
set_option maxHeartbeats 4000000 in
theorem L_X13_fits (l : Launch) (g : gG) (q : Nat → Nat) (lb : Nat) (hlb : lb < 2 ^ 31) {n1 : Int} {n2 : Int} {σ : S0} {Q : Int → S0 → Prop} (r_n1 : rg n1) (r_n2 : rg n2) (hN : n_m σ) (hw : W_X13_fits n1 n2 σ Q) (sz : Nat) : MetI l yX13_fits cX13_fits 7 (some .boolean) { frames := 1, cells := 0, slots := 0, locals := 26 } g [.ref (q 0), .int (I n1), .int (I n2)] (MX g q lb σ) sz xT (p_I (MX g q lb) [42] [65, 104, 105, 106] [] σ Q) 0 0 := by
  refine mkMet (Qc := fun A => QI g A (p_I (MX g q lb) [42] [65, 104, 105, 106] [] σ Q)) (by decide) (Nat.le_of_ble_eq_true rfl) ?_
  intro p e s m below meth c A H ls hx hb hr hml hown hts hlk hnm hsz hP hK hNb hD hA hAe hS hX hl
  have hl : lv_has ls 7 [(0, .ref (q 0)), (1, .int (I n1)), (2, .int (I n2))] := hl
  have hB := hN
  have hF : f_r [42] [65, 104, 105, 106] [] σ σ := f_0
  obtain ⟨locs, hlocs⟩ : ∃ z : List Loc, z = [] := ⟨_, rfl⟩
  rw [← hlocs] at hS ⊢
  obtain ⟨P24, hP24⟩ : ∃ P : S0 → Prop, ∀ (τ : S0), (P τ ↔ (n_m τ → f_r [42] [65, 104, 105, 106] [] σ τ → ∀ (H : Heap) (locs : List Loc) (ls : Array Slot), KP g (MX g q lb τ) H → va_D A (MX g q lb τ) → va_S A s.heap H locs → lv_has ls 7 [(0, .ref (q 0))] → W p l e ({ frames := 1, cells := 0, slots := 0, locals := 26 }) s m [.ref (q 0), .int (I n1), .int (I n2)].toArray below meth c H locs 0 0 (MQ below (QI g A (p_I (MX g q lb) [42] [65, 104, 105, 106] [] σ Q)) [.ref (q 0), .int (I n1), .int (I n2)].toArray s 0 0 A) (F0 m 24 ls []))) := ⟨_, fun _ => Iff.rfl⟩
  obtain ⟨P189, hP189⟩ : ∃ P : Int → Int → Int → Int → S0 → Prop, ∀ (u3 : Int) (u4 : Int) (u5 : Int) (u6 : Int) (τ : S0), (P u3 u4 u5 u6 τ ↔ (rg u3 → rg u4 → rg u5 → rg u6 → n_m τ → f_r [42] [65, 104, 105, 106] [] σ τ → ∀ (H : Heap) (locs : List Loc) (ls : Array Slot), KP g (MX g q lb τ) H → va_D A (MX g q lb τ) → va_S A s.heap H locs → lv_has ls 7 [(0, .ref (q 0)), (3, .int (I u3)), (4, .int (I u4)), (5, .int (I u5)), (6, .int (I u6))] → W p l e ({ frames := 1, cells := 0, slots := 0, locals := 26 }) s m [.ref (q 0), .int (I n1), .int (I n2)].toArray below meth c H locs 0 0 (MQ below (QI g A (p_I (MX g q lb) [42] [65, 104, 105, 106] [] σ Q)) [.ref (q 0), .int (I n1), .int (I n2)].toArray s 0 0 A) (F0 m 189 ls []))) := ⟨_, fun _ _ _ _ _ => Iff.rfl⟩
  refine (fun hw => ?_) (hw P24 P189 ?_ ?_)
  ·
    refine lv_aload_n hx hb dX13_fits_0 rfl (lv_at hl 0 rfl) ?_
    refine lv_iconst (v := I 0) hx hb dX13_fits_1 rfl ?_
    refine pfX13_walked hx hb hts hK hP hD hS hown (hts _ tw_2117) dX13_fits_2 (fun H locs hP hD hS => ?_)
    have hN : n_m (s_v σ 42 0) := n_v (i := 42) hN ((by decide) : rg 0)
    have hF : f_r [42] [65, 104, 105, 106] [] σ (s_v σ 42 0) := f_v hF (by decide)
    refine lv_aload_n hx hb dX13_fits_5 rfl (lv_at hl 0 rfl) ?_
    refine gfX13_walk hx hb hts hK hP hown (hts _ tw_2115) dX13_fits_6 ?_
    refine lv_iconst (v := I 0) hx hb dX13_fits_9 rfl ?_
    refine lv_iload_n hx hb dX13_fits_10 rfl (lv_at hl 1 rfl) ?_
    refine sdMX13_walk hx hb hK hP hD hS (by decide) dX13_fits_11 (fun H locs hP hD hS => ?_)
    have hN : n_m (s_a (s_v σ 42 0) 65 0 n1) := n_a (k := 65) (j := 0) hN (r_n1 : rg n1)
    have hF : f_r [42] [65, 104, 105, 106] [] σ (s_a (s_v σ 42 0) 65 0 n1) := f_a hF (by decide)
    refine lv_aload_n hx hb dX13_fits_12 rfl (lv_at hl 0 rfl) ?_
    refine gfX13_otherWalk hx hb hts hK hP hown (hts _ tw_2174) dX13_fits_13 ?_
    refine lv_iconst (v := I 0) hx hb dX13_fits_16 rfl ?_
    refine lv_iload_n hx hb dX13_fits_17 rfl (lv_at hl 2 rfl) ?_
    refine sdMX13_otherWalk hx hb hK hP hD hS (by decide) dX13_fits_18 (fun H locs hP hD hS => ?_)
    have hN : n_m (s_a (s_a (s_v σ 42 0) 65 0 n1) 106 0 n2) := n_a (k := 106) (j := 0) hN (r_n2 : rg n2)
    have hF : f_r [42] [65, 104, 105, 106] [] σ (s_a (s_a (s_v σ 42 0) 65 0 n1) 106 0 n2) := f_a hF (by decide)
    refine lv_aload_n hx hb dX13_fits_19 rfl (lv_at hl 0 rfl) ?_
    refine lv_iconst (v := I 1) hx hb dX13_fits_20 rfl ?_
    refine pfX13_walked hx hb hts hK hP hD hS hown (hts _ tw_2117) dX13_fits_21 (fun H locs hP hD hS => ?_)
    have hN : n_m (s_v (s_a (s_a (s_v σ 42 0) 65 0 n1) 106 0 n2) 42 1) := n_v (i := 42) hN ((by decide) : rg 1)
    have hF : f_r [42] [65, 104, 105, 106] [] σ (s_v (s_a (s_a (s_v σ 42 0) 65 0 n1) 106 0 n2) 42 1) := f_v hF (by decide)
    exact (hP24 _).mp hw hN hF H locs ls hP hD hS (lv_sub hl [0] rfl)
  ·
    intro τ hw
    refine (hP24 _).mpr ?_
    intro hN hF H locs ls hP hD hS hl
    have hB := hN
    refine lv_aload_n hx hb dX13_fits_24 rfl (lv_at hl 0 rfl) ?_
    refine gfX13_walked hx hb hts hK hP hown (hts _ tw_2117) (x := τ.1 42) rfl dX13_fits_25 ?_
    refine bi_if_le (tgt := 267) hx hb (hB.1 42) dX13_fits_28 (by decide) (fun c1 => ?_) (fun c1 => ?_)
    ·
      replace hw := hw.1 c1
      refine lv_iconst (v := I 1) hx hb dX13_fits_267 rfl ?_
      exact xrz hx hb hr (by decide) hlk hP hK hD hS ⟨_, _, (by decide), rfl, hN, hF, rfl, hw⟩ (Nat.le_of_ble_eq_true rfl) (Nat.le_of_ble_eq_true rfl) dX13_fits_268
    ·
      replace hw := hw.2 c1
      refine lv_aload_n hx hb dX13_fits_31 rfl (lv_at hl 0 rfl) ?_
      refine lv_dup hx hb dX13_fits_32 rfl ?_
      refine gfX13_walked hx hb hts hK hP hown (hts _ tw_2117) (x := τ.1 42) rfl dX13_fits_33 ?_
      refine lv_iconst (v := I 1) hx hb dX13_fits_36 rfl ?_
      refine bi_isub hx hb dX13_fits_37 ?_
      obtain ⟨c2, hw⟩ := hw
      refine pfX13_walked hx hb hts hK hP hD hS hown (hts _ tw_2117) dX13_fits_38 (fun H locs hP hD hS => ?_)
      have hN : n_m (s_v τ 42 (τ.1 42 - 1)) := n_v (i := 42) hN (c2 : rg (τ.1 42 - 1))
      have hF : f_r [42] [65, 104, 105, 106] [] σ (s_v τ 42 (τ.1 42 - 1)) := f_v hF (by decide)
      refine lv_aload_n hx hb dX13_fits_41 rfl (lv_at hl 0 rfl) ?_
      refine gfX13_walk hx hb hts hK hP hown (hts _ tw_2115) dX13_fits_42 ?_
      refine lv_aload_n hx hb dX13_fits_45 rfl (lv_at hl 0 rfl) ?_
      refine gfX13_walked hx hb hts hK hP hown (hts _ tw_2117) (x := (τ.1 42 - 1)) rfl dX13_fits_46 ?_
      obtain ⟨c3, hw⟩ := hw
      refine ldMX13_walk hx hb hK hP hN c3 dX13_fits_49 (fun x4 r_x4 e_x4 => ?_)
      replace hw := hw x4 r_x4 e_x4
      refine lv_istore_n (lv' := [(3, .int (I x4)), (0, .ref (q 0))]) hx hb dX13_fits_50 rfl hl (by decide) rfl (fun ls hl => ?_)
      refine lv_aload_n hx hb dX13_fits_51 rfl (lv_at hl 1 rfl) ?_
      refine gfX13_otherWalk hx hb hts hK hP hown (hts _ tw_2174) dX13_fits_52 ?_
      refine lv_aload_n hx hb dX13_fits_55 rfl (lv_at hl 1 rfl) ?_
      refine gfX13_walked hx hb hts hK hP hown (hts _ tw_2117) (x := (τ.1 42 - 1)) rfl dX13_fits_56 ?_
      refine ldMX13_otherWalk hx hb hK hP hN c3 dX13_fits_59 (fun x5 r_x5 e_x5 => ?_)
      replace hw := hw x5 r_x5 e_x5
      refine lv_istore (lv' := [(4, .int (I x5)), (3, .int (I x4)), (0, .ref (q 0))]) hx hb dX13_fits_60 hl (by decide) rfl (fun ls hl => ?_)
      refine lv_aload_n hx hb dX13_fits_62 rfl (lv_at hl 2 rfl) ?_
      refine gfX13_nodeIs hx hb hts hK hP hown (hts _ tw_2149) dX13_fits_63 ?_
      refine lv_iload_n hx hb dX13_fits_66 rfl (lv_at hl 1 rfl) ?_
      obtain ⟨c6, hw⟩ := hw
      refine ldMX13_nodeIs hx hb hK hP hN c6 dX13_fits_67 (fun x7 r_x7 e_x7 => ?_)
      replace hw := hw x7 r_x7 e_x7
      refine lv_istore (lv' := [(5, .int (I x7)), (4, .int (I x5)), (3, .int (I x4)), (0, .ref (q 0))]) hx hb dX13_fits_68 hl (by decide) rfl (fun ls hl => ?_)
      refine lv_iload hx hb dX13_fits_70 (lv_at hl 0 rfl) ?_
      refine bi_if_ge (tgt := 172) hx hb r_x7 dX13_fits_72 (by decide) (fun c8 => ?_) (fun c8 => ?_)
      ·
        replace hw := hw.1 c8
        refine lv_aload_n hx hb dX13_fits_172 rfl (lv_at hl 3 rfl) ?_
        refine gfX13_nodeIs hx hb hts hK hP hown (hts _ tw_2149) dX13_fits_173 ?_
        refine lv_iload hx hb dX13_fits_176 (lv_at hl 1 rfl) ?_
        obtain ⟨c9, hw⟩ := hw
        refine ldMX13_nodeIs hx hb hK hP hN c9 dX13_fits_178 (fun x10 r_x10 e_x10 => ?_)
        replace hw := hw x10 r_x10 e_x10
        refine lv_iload hx hb dX13_fits_179 (lv_at hl 0 rfl) ?_
        refine bi_icmp_eq (tgt := 186) hx hb r_x10 r_x7 dX13_fits_181 (by decide) (fun c11 => ?_) (fun c11 => ?_)
        ·
          replace hw := hw.1 c11
          refine lv_iconst (v := I 0) hx hb dX13_fits_186 rfl ?_
          refine lv_istore (lv' := [(6, .int (I 0)), (5, .int (I x7)), (4, .int (I x5)), (3, .int (I x4)), (0, .ref (q 0))]) hx hb dX13_fits_187 hl (by decide) rfl (fun ls hl => ?_)
          exact (hP189 _ _ _ _ _).mp hw r_x4 r_x5 r_x7 (by decide) hN hF H locs ls hP hD hS (lv_sub hl [4, 3, 2, 1, 0] rfl)
        ·
          replace hw := hw.2 c11
          refine lv_iconst (v := I 0) hx hb dX13_fits_184 rfl ?_
          exact xrz hx hb hr (by decide) hlk hP hK hD hS ⟨_, _, (by decide), rfl, hN, hF, rfl, hw⟩ (Nat.le_of_ble_eq_true rfl) (Nat.le_of_ble_eq_true rfl) dX13_fits_185
      ·
        replace hw := hw.2 c8
        refine lv_aload_n hx hb dX13_fits_75 rfl (lv_at hl 3 rfl) ?_
        refine gfX13_texts hx hb hts hK hP hown (hts _ tw_2028) dX13_fits_76 ?_
        refine lv_aload_n hx hb dX13_fits_79 rfl (lv_at hl 3 rfl) ?_
        refine gfX13_textAt hx hb hts hK hP hown (hts _ tw_2026) dX13_fits_80 ?_
        refine lv_iconst (v := I (-1)) hx hb dX13_fits_83 rfl ?_
        refine lv_iload hx hb dX13_fits_84 (lv_at hl 0 rfl) ?_
        refine bi_isub hx hb dX13_fits_86 ?_
        obtain ⟨c12, hw⟩ := hw
        refine ldMX13_textAt hx hb hK hP hN c12 dX13_fits_87 (fun x13 r_x13 e_x13 => ?_)
        replace hw := hw x13 r_x13 e_x13
        refine lv_iconst (v := I 1) hx hb dX13_fits_88 rfl ?_
        refine bi_iadd hx hb dX13_fits_89 ?_
        obtain ⟨c14, hw⟩ := hw
        refine ldMX13_texts hx hb hK hP hN c14 dX13_fits_90 (fun x15 r_x15 e_x15 => ?_)
        replace hw := hw x15 r_x15 e_x15
        refine lv_istore (lv' := [(6, .int (I x15)), (5, .int (I x7)), (4, .int (I x5)), (3, .int (I x4)), (0, .ref (q 0))]) hx hb dX13_fits_91 hl (by decide) rfl (fun ls hl => ?_)
        refine lv_aload_n hx hb dX13_fits_93 rfl (lv_at hl 4 rfl) ?_
        refine gfX13_boundFrom hx hb hts hK hP hown (hts _ tw_2172) dX13_fits_94 ?_
        refine lv_iload hx hb dX13_fits_97 (lv_at hl 0 rfl) ?_
        obtain ⟨c16, hw⟩ := hw
        refine ldMX13_boundFrom hx hb hK hP hN c16 dX13_fits_99 (fun x17 r_x17 e_x17 => ?_)
        replace hw := hw x17 r_x17 e_x17
        refine lv_iconst (v := I (-1)) hx hb dX13_fits_100 rfl ?_
        refine bi_icmp_ne (tgt := 135) hx hb r_x17 (by decide) dX13_fits_101 (by decide) (fun c18 => ?_) (fun c18 => ?_)
        ·
          replace hw := hw.1 c18
          refine lv_aload_n hx hb dX13_fits_135 rfl (lv_at hl 4 rfl) ?_
          refine lv_aload_n hx hb dX13_fits_136 rfl (lv_at hl 4 rfl) ?_
          refine gfX13_boundFrom hx hb hts hK hP hown (hts _ tw_2172) dX13_fits_137 ?_
          refine lv_iload hx hb dX13_fits_140 (lv_at hl 0 rfl) ?_
          refine ldMX13_boundFrom hx hb hK hP hN c16 dX13_fits_142 (fun x19 r_x19 e_x19 => ?_)
          replace hw := hw x19 r_x19 e_x19
          refine lv_aload_n hx hb dX13_fits_143 rfl (lv_at hl 4 rfl) ?_
          refine gfX13_boundTo hx hb hts hK hP hown (hts _ tw_2173) dX13_fits_144 ?_
          refine lv_iload hx hb dX13_fits_147 (lv_at hl 0 rfl) ?_
          refine ldMX13_boundTo hx hb hK hP hN c16 dX13_fits_149 (fun x20 r_x20 e_x20 => ?_)
          replace hw := hw x20 r_x20 e_x20
          refine lv_aload_n hx hb dX13_fits_150 rfl (lv_at hl 4 rfl) ?_
          refine gfX13_nodeFrom hx hb hts hK hP hown (hts _ tw_2151) dX13_fits_151 ?_
          refine lv_iload hx hb dX13_fits_154 (lv_at hl 2 rfl) ?_
          obtain ⟨c21, hw⟩ := hw
          refine ldMX13_nodeFrom hx hb hK hP hN c21 dX13_fits_156 (fun x22 r_x22 e_x22 => ?_)
          replace hw := hw x22 r_x22 e_x22
          refine lv_aload_n hx hb dX13_fits_157 rfl (lv_at hl 4 rfl) ?_
          refine gfX13_nodeTo hx hb hts hK hP hown (hts _ tw_2152) dX13_fits_158 ?_
          refine lv_iload hx hb dX13_fits_161 (lv_at hl 2 rfl) ?_
          refine ldMX13_nodeTo hx hb hK hP hN c21 dX13_fits_163 (fun x23 r_x23 e_x23 => ?_)
          replace hw := hw x23 r_x23 e_x23
          obtain ⟨Q24, hc, hw⟩ := hw
          refine wc_i (X := MX g q lb) (va_runV (As := [.int (I x19), .int (I x20), .int (I x22), .int (I x23)]) (rest := []) ⟨hx, hb, hml, hown, hts⟩ (L_X13_isSameStretch l g q lb hlb r_x19 r_x20 r_x22 r_x23 hN hc H.size) (cwV 4 hts (TB_V tw_3173 tw_3175 ts_233 tw_15 co_X13_isSameStretch) rfl rfl rfl (by decide +kernel) ⟨Nat.le_of_ble_eq_true rfl, Nat.le_of_ble_eq_true rfl⟩) (preV (q0 := 0) (ci := 13) rfl xT_bl hP hK hNb hD rfl rfl xT_at) rfl rfl hl.1 rfl (lv_room (Nat.le_of_ble_eq_true rfl)) dX13_fits_164 ⟨Nat.le_of_ble_eq_true rfl, Nat.le_of_ble_eq_true rfl⟩) hP hD hS hA (fun x25 H locs r_x25 hq hP hD hS => ?_)
          replace hw := hw x25 r_x25 hq
          refine bi_if_ne (tgt := 24) hx hb r_x25 dX13_fits_167 (by decide) (fun c27 => ?_) (fun c27 => ?_)
          ·
            replace hw := hw.1 c27
            exact (hP24 _).mp hw hN hF H locs ls hP hD hS (lv_sub hl [4] rfl)
          ·
            replace hw := hw.2 c27
            refine lv_iconst (v := I 0) hx hb dX13_fits_170 rfl ?_
            exact xrz hx hb hr (by decide) hlk hP hK hD hS ⟨_, _, (by decide), rfl, hN, hF, rfl, hw⟩ (Nat.le_of_ble_eq_true rfl) (Nat.le_of_ble_eq_true rfl) dX13_fits_171
        ·
          replace hw := hw.2 c18
          refine lv_aload_n hx hb dX13_fits_104 rfl (lv_at hl 4 rfl) ?_
          refine gfX13_boundFrom hx hb hts hK hP hown (hts _ tw_2172) dX13_fits_105 ?_
          refine lv_iload hx hb dX13_fits_108 (lv_at hl 0 rfl) ?_
          refine lv_aload_n hx hb dX13_fits_110 rfl (lv_at hl 4 rfl) ?_
          refine gfX13_nodeFrom hx hb hts hK hP hown (hts _ tw_2151) dX13_fits_111 ?_
          refine lv_iload hx hb dX13_fits_114 (lv_at hl 2 rfl) ?_
          obtain ⟨c28, hw⟩ := hw
          refine ldMX13_nodeFrom hx hb hK hP hN c28 dX13_fits_116 (fun x29 r_x29 e_x29 => ?_)
          replace hw := hw x29 r_x29 e_x29
          refine sdMX13_boundFrom hx hb hK hP hD hS c16 dX13_fits_117 (fun H locs hP hD hS => ?_)
          have hN : n_m (s_a (s_v τ 42 (τ.1 42 - 1)) 104 x15 x29) := n_a (k := 104) (j := x15) hN (r_x29 : rg x29)
          have hF : f_r [42] [65, 104, 105, 106] [] σ (s_a (s_v τ 42 (τ.1 42 - 1)) 104 x15 x29) := f_a hF (by decide)
          refine lv_aload_n hx hb dX13_fits_118 rfl (lv_at hl 4 rfl) ?_
          refine gfX13_boundTo hx hb hts hK hP hown (hts _ tw_2173) dX13_fits_119 ?_
          refine lv_iload hx hb dX13_fits_122 (lv_at hl 0 rfl) ?_
          refine lv_aload_n hx hb dX13_fits_124 rfl (lv_at hl 4 rfl) ?_
          refine gfX13_nodeTo hx hb hts hK hP hown (hts _ tw_2152) dX13_fits_125 ?_
          refine lv_iload hx hb dX13_fits_128 (lv_at hl 2 rfl) ?_
          refine ldMX13_nodeTo hx hb hK hP hN c28 dX13_fits_130 (fun x30 r_x30 e_x30 => ?_)
          replace hw := hw x30 r_x30 e_x30
          refine sdMX13_boundTo hx hb hK hP hD hS c16 dX13_fits_131 (fun H locs hP hD hS => ?_)
          have hN : n_m (s_a (s_a (s_v τ 42 (τ.1 42 - 1)) 104 x15 x29) 105 x15 x30) := n_a (k := 105) (j := x15) hN (r_x30 : rg x30)
          have hF : f_r [42] [65, 104, 105, 106] [] σ (s_a (s_a (s_v τ 42 (τ.1 42 - 1)) 104 x15 x29) 105 x15 x30) := f_a hF (by decide)
          refine lv_goto (tgt := 24) hx hb dX13_fits_132 (by decide) ?_
          exact (hP24 _).mp hw hN hF H locs ls hP hD hS (lv_sub hl [4] rfl)
  ·
    intro u3 u4 u5 u6 τ hw
    refine (hP189 _ _ _ _ _).mpr ?_
    intro r_u3 r_u4 r_u5 r_u6 hN hF H locs ls hP hD hS hl
    have hB := hN
    refine lv_iload hx hb dX13_fits_189 (lv_at hl 4 rfl) ?_
    refine lv_aload_n hx hb dX13_fits_191 rfl (lv_at hl 0 rfl) ?_
    refine gfX13_hypSize hx hb hts hK hP hown (hts _ tw_2032) dX13_fits_192 ?_
    refine lv_iload hx hb dX13_fits_195 (lv_at hl 3 rfl) ?_
    obtain ⟨c31, hw⟩ := hw
    refine ldMX13_hypSize hx hb hK hP hN c31 dX13_fits_197 (fun x32 r_x32 e_x32 => ?_)
    replace hw := hw x32 r_x32 e_x32
    refine bi_icmp_ge (tgt := 264) hx hb r_u6 r_x32 dX13_fits_198 (by decide) (fun c33 => ?_) (fun c33 => ?_)
    ·
      replace hw := hw.1 c33
      refine lv_goto (tgt := 24) hx hb dX13_fits_264 (by decide) ?_
      exact (hP24 _).mp hw hN hF H locs ls hP hD hS (lv_sub hl [0] rfl)
    ·
      replace hw := hw.2 c33
      refine lv_aload_n hx hb dX13_fits_201 rfl (lv_at hl 0 rfl) ?_
      refine gfX13_walk hx hb hts hK hP hown (hts _ tw_2115) dX13_fits_202 ?_
      refine lv_aload_n hx hb dX13_fits_205 rfl (lv_at hl 0 rfl) ?_
      refine gfX13_walked hx hb hts hK hP hown (hts _ tw_2117) (x := τ.1 42) rfl dX13_fits_206 ?_
      refine lv_aload_n hx hb dX13_fits_209 rfl (lv_at hl 0 rfl) ?_
      refine gfX13_kids hx hb hts hK hP hown (hts _ tw_2154) dX13_fits_210 ?_
      refine lv_aload_n hx hb dX13_fits_213 rfl (lv_at hl 0 rfl) ?_
      refine gfX13_nodeKids hx hb hts hK hP hown (hts _ tw_2150) dX13_fits_214 ?_
      refine lv_iload_n hx hb dX13_fits_217 rfl (lv_at hl 1 rfl) ?_
      obtain ⟨c34, hw⟩ := hw
      refine ldMX13_nodeKids hx hb hK hP hN c34 dX13_fits_218 (fun x35 r_x35 e_x35 => ?_)
      replace hw := hw x35 r_x35 e_x35
      refine lv_iload hx hb dX13_fits_219 (lv_at hl 4 rfl) ?_
      refine bi_iadd hx hb dX13_fits_221 ?_
      obtain ⟨c36, hw⟩ := hw
      refine ldMX13_kids hx hb hK hP hN c36 dX13_fits_222 (fun x37 r_x37 e_x37 => ?_)
      replace hw := hw x37 r_x37 e_x37
      obtain ⟨c38, hw⟩ := hw
      refine sdMX13_walk hx hb hK hP hD hS c38 dX13_fits_223 (fun H locs hP hD hS => ?_)
      have hN : n_m (s_a τ 65 (τ.1 42) x37) := n_a (k := 65) (j := τ.1 42) hN (r_x37 : rg x37)
      have hF : f_r [42] [65, 104, 105, 106] [] σ (s_a τ 65 (τ.1 42) x37) := f_a hF (by decide)
      refine lv_aload_n hx hb dX13_fits_224 rfl (lv_at hl 0 rfl) ?_
      refine gfX13_otherWalk hx hb hts hK hP hown (hts _ tw_2174) dX13_fits_225 ?_
      refine lv_aload_n hx hb dX13_fits_228 rfl (lv_at hl 0 rfl) ?_
      refine gfX13_walked hx hb hts hK hP hown (hts _ tw_2117) (x := τ.1 42) rfl dX13_fits_229 ?_
      refine lv_aload_n hx hb dX13_fits_232 rfl (lv_at hl 0 rfl) ?_
      refine gfX13_kids hx hb hts hK hP hown (hts _ tw_2154) dX13_fits_233 ?_
      refine lv_aload_n hx hb dX13_fits_236 rfl (lv_at hl 0 rfl) ?_
      refine gfX13_nodeKids hx hb hts hK hP hown (hts _ tw_2150) dX13_fits_237 ?_
      refine lv_iload hx hb dX13_fits_240 (lv_at hl 2 rfl) ?_
      obtain ⟨c39, hw⟩ := hw
      refine ldMX13_nodeKids hx hb hK hP hN c39 dX13_fits_242 (fun x40 r_x40 e_x40 => ?_)
      replace hw := hw x40 r_x40 e_x40
      refine lv_iload hx hb dX13_fits_243 (lv_at hl 4 rfl) ?_
      refine bi_iadd hx hb dX13_fits_245 ?_
      obtain ⟨c41, hw⟩ := hw
      refine ldMX13_kids hx hb hK hP hN c41 dX13_fits_246 (fun x42 r_x42 e_x42 => ?_)
      replace hw := hw x42 r_x42 e_x42
      refine sdMX13_otherWalk hx hb hK hP hD hS c38 dX13_fits_247 (fun H locs hP hD hS => ?_)
      have hN : n_m (s_a (s_a τ 65 (τ.1 42) x37) 106 (τ.1 42) x42) := n_a (k := 106) (j := τ.1 42) hN (r_x42 : rg x42)
      have hF : f_r [42] [65, 104, 105, 106] [] σ (s_a (s_a τ 65 (τ.1 42) x37) 106 (τ.1 42) x42) := f_a hF (by decide)
      refine lv_aload_n hx hb dX13_fits_248 rfl (lv_at hl 0 rfl) ?_
      refine lv_dup hx hb dX13_fits_249 rfl ?_
      refine gfX13_walked hx hb hts hK hP hown (hts _ tw_2117) (x := τ.1 42) rfl dX13_fits_250 ?_
      refine lv_iconst (v := I 1) hx hb dX13_fits_253 rfl ?_
      refine bi_iadd hx hb dX13_fits_254 ?_
      obtain ⟨c43, hw⟩ := hw
      refine pfX13_walked hx hb hts hK hP hD hS hown (hts _ tw_2117) dX13_fits_255 (fun H locs hP hD hS => ?_)
      have hN : n_m (s_v (s_a (s_a τ 65 (τ.1 42) x37) 106 (τ.1 42) x42) 42 (τ.1 42 + 1)) := n_v (i := 42) hN (c43 : rg (τ.1 42 + 1))
      have hF : f_r [42] [65, 104, 105, 106] [] σ (s_v (s_a (s_a τ 65 (τ.1 42) x37) 106 (τ.1 42) x42) 42 (τ.1 42 + 1)) := f_v hF (by decide)
      refine lv_iinc (v := I (u6 + 1)) (lv' := [(6, .int (I (u6 + 1))), (0, .ref (q 0)), (3, .int (I u3)), (4, .int (I u4)), (5, .int (I u5))]) hx hb dX13_fits_258 hl (k := 4) rfl (I_add _ _) (by decide) rfl (fun ls hl => ?_)
      refine lv_goto (tgt := 189) hx hb dX13_fits_261 (by decide) ?_
      obtain ⟨c44, hw⟩ := hw
      exact (hP189 _ _ _ _ _).mp hw r_u3 r_u4 r_u5 c44 hN hF H locs ls hP hD hS (lv_sub hl [1, 2, 3, 4, 0] rfl)
def W_X13_rowTree (n1 : Int) (σ : S0) (Q : Int → S0 → Prop) : Prop :=
  ∀ (P13 : Int → S0 → Prop) (P76 : Int → Int → Int → Int → S0 → Prop),
  (∀ (u2 : Int) (τ : S0), ((τ.1 45 ≤ u2 → ∀ (x6 : Int), rg x6 → x6 = τ.2.1 103 0 → (∃ (Q7 : Int → Prop), W_X13_treeSort x6 τ Q7 ∧ ∀ (x8 : Int), rg x8 → Q7 x8 → (∃ (Q10 : Int → S0 → Prop), W_X13_countWays x8 (τ.1 5) τ Q10 ∧ ∀ (x11 : Int) (τ12 : S0), rg x11 → n_m τ12 → f_r [47, 48, 49, 50] [75, 76, 77, 78, 79, 80, 81, 82, 83, 84, 92, 93] [3, 4, 5, 6] τ τ12 → Q10 x11 τ12 → ((¬ x11 = 1 → Q (-1) τ12) ∧ (x11 = 1 → ∃ (Q14 : Int → S0 → Prop), W_X13_makeTree x8 τ12 Q14 ∧ ∀ (x15 : Int) (τ16 : S0), rg x15 → n_m τ16 → f_r [51, 52] [85, 86, 87, 88, 89, 90, 91] [] τ12 τ16 → Q14 x15 τ16 → (Q x15 τ16)))))) ∧ (u2 < τ.1 45 → (0 ≤ (1 + u2) ∧ (1 + u2) < 64) ∧ (∀ (x18 : Int), rg x18 → x18 = τ.2.1 103 (1 + u2) → ((0 ≤ u2 ∧ u2 < 64) ∧ ((0 ≤ x18 ∧ x18 < 1001) ∧ (∀ (x21 : Int), rg x21 → x21 = τ.2.1 8 x18 → ((x21 = 0 → P76 u2 x18 u2 (-1) (s_a τ 72 u2 x18)) ∧ (¬ x21 = 0 → ∀ (x23 : Int), rg x23 → x23 = τ.2.1 10 x18 → ((x23 = (-1) → P76 u2 x18 u2 (-1) (s_a τ 72 u2 x18)) ∧ (¬ x23 = (-1) → ∀ (x25 : Int), rg x25 → x25 = τ.2.1 10 x18 → ((0 ≤ x25 ∧ x25 < 1001) ∧ (∀ (x27 : Int), rg x27 → x27 = τ.2.1 71 x25 → (P76 u2 x18 u2 x27 (s_a τ 72 u2 x18)))))))))))))) → P13 u2 τ) →
  (∀ (u2 : Int) (u3 : Int) (k1 : Int) (k2 : Int) (τ : S0), ((0 ≤ k1 ∧ k1 < 64) ∧ ((0 ≤ u2 ∧ u2 < 64) ∧ (rg (u2 + 1) ∧ P13 (u2 + 1) (s_a (s_a τ 73 k1 k2) 74 u2 u3)))) → P76 u2 u3 k1 k2 τ) →
  ∃ (Q1 : S0 → Prop), W_X13_findSorts σ Q1 ∧ ∀ (τ3 : S0), n_m τ3 → f_r [46] [71] [] σ τ3 → Q1 τ3 → (rg (n1 - 1) ∧ P13 0 (s_v τ3 45 (n1 - 1)))
set_option maxRecDepth 100000 in
set_option maxHeartbeats 4000000 in
theorem L_X13_rowTree (l : Launch) (g : gG) (q : Nat → Nat) (lb : Nat) (hlb : lb < 2 ^ 31) {n1 : Int} {σ : S0} {Q : Int → S0 → Prop} (r_n1 : rg n1) (hN : n_m σ) (hw : W_X13_rowTree n1 σ Q) (sz : Nat) : MetI l yX13_rowTree cX13_rowTree 4 (some .int) { frames := 5, cells := 0, slots := 0, locals := 136 } g [.ref (q 0), .int (I n1)] (MX g q lb σ) sz xT (p_I (MX g q lb) [45, 46, 47, 48, 49, 50, 51, 52] [71, 72, 73, 74, 75, 76, 77, 78, 79, 80, 81, 82, 83, 84, 85, 86, 87, 88, 89, 90, 91, 92, 93] [3, 4, 5, 6] σ Q) 0 0 := by
  refine mkMet (Qc := fun A => QI g A (p_I (MX g q lb) [45, 46, 47, 48, 49, 50, 51, 52] [71, 72, 73, 74, 75, 76, 77, 78, 79, 80, 81, 82, 83, 84, 85, 86, 87, 88, 89, 90, 91, 92, 93] [3, 4, 5, 6] σ Q)) (by decide) (Nat.le_of_ble_eq_true rfl) ?_
  intro p e s m below meth c A H ls hx hb hr hml hown hts hlk hnm hsz hP hK hNb hD hA hAe hS hX hl
  have hl : lv_has ls 4 [(0, .ref (q 0)), (1, .int (I n1))] := hl
  have hB := hN
  have hF : f_r [45, 46, 47, 48, 49, 50, 51, 52] [71, 72, 73, 74, 75, 76, 77, 78, 79, 80, 81, 82, 83, 84, 85, 86, 87, 88, 89, 90, 91, 92, 93] [3, 4, 5, 6] σ σ := f_0
  obtain ⟨locs, hlocs⟩ : ∃ z : List Loc, z = [] := ⟨_, rfl⟩
  rw [← hlocs] at hS ⊢
  obtain ⟨P13, hP13⟩ : ∃ P : Int → S0 → Prop, ∀ (u2 : Int) (τ : S0), (P u2 τ ↔ (rg u2 → n_m τ → f_r [45, 46, 47, 48, 49, 50, 51, 52] [71, 72, 73, 74, 75, 76, 77, 78, 79, 80, 81, 82, 83, 84, 85, 86, 87, 88, 89, 90, 91, 92, 93] [3, 4, 5, 6] σ τ → ∀ (H : Heap) (locs : List Loc) (ls : Array Slot), KP g (MX g q lb τ) H → va_D A (MX g q lb τ) → va_S A s.heap H locs → lv_has ls 4 [(0, .ref (q 0)), (2, .int (I u2))] → W p l e ({ frames := 5, cells := 0, slots := 0, locals := 136 }) s m [.ref (q 0), .int (I n1)].toArray below meth c H locs 0 0 (MQ below (QI g A (p_I (MX g q lb) [45, 46, 47, 48, 49, 50, 51, 52] [71, 72, 73, 74, 75, 76, 77, 78, 79, 80, 81, 82, 83, 84, 85, 86, 87, 88, 89, 90, 91, 92, 93] [3, 4, 5, 6] σ Q)) [.ref (q 0), .int (I n1)].toArray s 0 0 A) (F0 m 13 ls []))) := ⟨_, fun _ _ => Iff.rfl⟩
  obtain ⟨P76, hP76⟩ : ∃ P : Int → Int → Int → Int → S0 → Prop, ∀ (u2 : Int) (u3 : Int) (k1 : Int) (k2 : Int) (τ : S0), (P u2 u3 k1 k2 τ ↔ (rg u2 → rg u3 → rg k1 → rg k2 → n_m τ → f_r [45, 46, 47, 48, 49, 50, 51, 52] [71, 72, 73, 74, 75, 76, 77, 78, 79, 80, 81, 82, 83, 84, 85, 86, 87, 88, 89, 90, 91, 92, 93] [3, 4, 5, 6] σ τ → ∀ (H : Heap) (locs : List Loc) (ls : Array Slot), KP g (MX g q lb τ) H → va_D A (MX g q lb τ) → va_S A s.heap H locs → lv_has ls 4 [(0, .ref (q 0)), (2, .int (I u2)), (3, .int (I u3))] → W p l e ({ frames := 5, cells := 0, slots := 0, locals := 136 }) s m [.ref (q 0), .int (I n1)].toArray below meth c H locs 0 0 (MQ below (QI g A (p_I (MX g q lb) [45, 46, 47, 48, 49, 50, 51, 52] [71, 72, 73, 74, 75, 76, 77, 78, 79, 80, 81, 82, 83, 84, 85, 86, 87, 88, 89, 90, 91, 92, 93] [3, 4, 5, 6] σ Q)) [.ref (q 0), .int (I n1)].toArray s 0 0 A) (F0 m 76 ls [.int (I k2), .int (I k1), .ref (q 77)]))) := ⟨_, fun _ _ _ _ _ => Iff.rfl⟩
  refine (fun hw => ?_) (hw P13 P76 ?_ ?_)
  ·
    refine lv_aload_n hx hb dX13_rowTree_0 rfl (lv_at hl 0 rfl) ?_
    obtain ⟨Q1, hc, hw⟩ := hw
    refine wc_V (X := MX g q lb) (va_runV (As := []) (rest := []) ⟨hx, hb, hml, hown, hts⟩ (L_X13_findSorts l g q lb hlb  hN hc H.size) (cwV 0 hts (TB_V tw_2916 tw_2918 ts_174 tw_15 co_X13_findSorts) rfl rfl rfl (by decide +kernel) ⟨Nat.le_of_ble_eq_true rfl, Nat.le_of_ble_eq_true rfl⟩) (preV (q0 := 0) (ci := 13) rfl xT_bl hP hK hNb hD rfl rfl xT_at) rfl rfl hl.1 rfl (lv_room (Nat.le_of_ble_eq_true rfl)) dX13_rowTree_1 ⟨Nat.le_of_ble_eq_true rfl, Nat.le_of_ble_eq_true rfl⟩) hP hD hS hA (fun τ3 H locs hN hf hq hP hD hS => ?_)
    replace hw := hw τ3 hN hf hq
    have hF : f_r [45, 46, 47, 48, 49, 50, 51, 52] [71, 72, 73, 74, 75, 76, 77, 78, 79, 80, 81, 82, 83, 84, 85, 86, 87, 88, 89, 90, 91, 92, 93] [3, 4, 5, 6] σ τ3 := f_t hF hf (by decide) (by decide) (by decide)
    have hB := hN
    refine lv_aload_n hx hb dX13_rowTree_4 rfl (lv_at hl 0 rfl) ?_
    refine lv_iload_n hx hb dX13_rowTree_5 rfl (lv_at hl 1 rfl) ?_
    refine lv_iconst (v := I 1) hx hb dX13_rowTree_6 rfl ?_
    refine bi_isub hx hb dX13_rowTree_7 ?_
    obtain ⟨c4, hw⟩ := hw
    refine pfX13_rowSize hx hb hts hK hP hD hS hown (hts _ tw_2126) dX13_rowTree_8 (fun H locs hP hD hS => ?_)
    have hN : n_m (s_v τ3 45 (n1 - 1)) := n_v (i := 45) hN (c4 : rg (n1 - 1))
    have hF : f_r [45, 46, 47, 48, 49, 50, 51, 52] [71, 72, 73, 74, 75, 76, 77, 78, 79, 80, 81, 82, 83, 84, 85, 86, 87, 88, 89, 90, 91, 92, 93] [3, 4, 5, 6] σ (s_v τ3 45 (n1 - 1)) := f_v hF (by decide)
    refine lv_iconst (v := I 0) hx hb dX13_rowTree_11 rfl ?_
    refine lv_istore_n (lv' := [(2, .int (I 0)), (0, .ref (q 0)), (1, .int (I n1))]) hx hb dX13_rowTree_12 rfl hl (by decide) rfl (fun ls hl => ?_)
    exact (hP13 _ _).mp hw (by decide) hN hF H locs ls hP hD hS (lv_sub hl [1, 0] rfl)
  ·
    intro u2 τ hw
    refine (hP13 _ _).mpr ?_
    intro r_u2 hN hF H locs ls hP hD hS hl
    have hB := hN
    refine lv_iload_n hx hb dX13_rowTree_13 rfl (lv_at hl 1 rfl) ?_
    refine lv_aload_n hx hb dX13_rowTree_14 rfl (lv_at hl 0 rfl) ?_
    refine gfX13_rowSize hx hb hts hK hP hown (hts _ tw_2126) (x := τ.1 45) rfl dX13_rowTree_15 ?_
    refine bi_icmp_ge (tgt := 90) hx hb r_u2 (hB.1 45) dX13_rowTree_18 (by decide) (fun c5 => ?_) (fun c5 => ?_)
    ·
      replace hw := hw.1 c5
      refine lv_aload_n hx hb dX13_rowTree_90 rfl (lv_at hl 0 rfl) ?_
      refine lv_aload_n hx hb dX13_rowTree_91 rfl (lv_at hl 0 rfl) ?_
      refine gfX13_given hx hb hts hK hP hown (hts _ tw_2171) dX13_rowTree_92 ?_
      refine lv_iconst (v := I 0) hx hb dX13_rowTree_95 rfl ?_
      refine ldMX13_given hx hb hK hP hN (by decide) dX13_rowTree_96 (fun x6 r_x6 e_x6 => ?_)
      replace hw := hw x6 r_x6 e_x6
      obtain ⟨Q7, hc, hw⟩ := hw
      refine wc_i (X := MX g q lb) (va_runV (As := [.int (I x6)]) (rest := []) ⟨hx, hb, hml, hown, hts⟩ (L_X13_treeSort l g q lb hlb r_x6 hN hc H.size) (cwV 1 hts (TB_V tw_2924 tw_2926 ts_176 tw_15 co_X13_treeSort) rfl rfl rfl (by decide +kernel) ⟨Nat.le_of_ble_eq_true rfl, Nat.le_of_ble_eq_true rfl⟩) (preV (q0 := 0) (ci := 13) rfl xT_bl hP hK hNb hD rfl rfl xT_at) rfl rfl hl.1 rfl (lv_room (Nat.le_of_ble_eq_true rfl)) dX13_rowTree_97 ⟨Nat.le_of_ble_eq_true rfl, Nat.le_of_ble_eq_true rfl⟩) hP hD hS hA (fun x8 H locs r_x8 hq hP hD hS => ?_)
      replace hw := hw x8 r_x8 hq
      refine lv_istore_n (lv' := [(2, .int (I x8)), (0, .ref (q 0))]) hx hb dX13_rowTree_100 rfl hl (by decide) rfl (fun ls hl => ?_)
      refine lv_aload_n hx hb dX13_rowTree_101 rfl (lv_at hl 1 rfl) ?_
      refine lv_iload_n hx hb dX13_rowTree_102 rfl (lv_at hl 0 rfl) ?_
      refine lv_aload_n hx hb dX13_rowTree_103 rfl (lv_at hl 1 rfl) ?_
      refine gfX13_statements hx hb hts hK hP hown (hts _ tw_2024) (x := τ.1 5) rfl dX13_rowTree_104 ?_
      obtain ⟨Q10, hc, hw⟩ := hw
      refine wc_I (X := MX g q lb) (va_runV (As := [.int (I x8), .int (I (τ.1 5))]) (rest := []) ⟨hx, hb, hml, hown, hts⟩ (L_X13_countWays l g q lb hlb r_x8 (hB.1 5) hN hc H.size) (cwV 2 hts (TB_V tw_2928 tw_2930 ts_177 tw_15 co_X13_countWays) rfl rfl rfl (by decide +kernel) ⟨Nat.le_of_ble_eq_true rfl, Nat.le_of_ble_eq_true rfl⟩) (preV (q0 := 0) (ci := 13) rfl xT_bl hP hK hNb hD rfl rfl xT_at) rfl rfl hl.1 rfl (lv_room (Nat.le_of_ble_eq_true rfl)) dX13_rowTree_107 ⟨Nat.le_of_ble_eq_true rfl, Nat.le_of_ble_eq_true rfl⟩) hP hD hS hA (fun x11 τ12 H locs r_x11 hN hf hq hP hD hS => ?_)
      replace hw := hw x11 τ12 r_x11 hN hf hq
      have hF : f_r [45, 46, 47, 48, 49, 50, 51, 52] [71, 72, 73, 74, 75, 76, 77, 78, 79, 80, 81, 82, 83, 84, 85, 86, 87, 88, 89, 90, 91, 92, 93] [3, 4, 5, 6] σ τ12 := f_t hF hf (by decide) (by decide) (by decide)
      have hB := hN
      refine lv_iconst (v := I 1) hx hb dX13_rowTree_110 rfl ?_
      refine bi_icmp_ne (tgt := 122) hx hb r_x11 (by decide) dX13_rowTree_111 (by decide) (fun c13 => ?_) (fun c13 => ?_)
      ·
        replace hw := hw.1 c13
        refine lv_iconst (v := I (-1)) hx hb dX13_rowTree_122 rfl ?_
        exact xri hx hb hr hlk hP hK hD hS ⟨_, _, (by decide), rfl, hN, hF, rfl, hw⟩ (Nat.le_of_ble_eq_true rfl) (Nat.le_of_ble_eq_true rfl) dX13_rowTree_123
      ·
        replace hw := hw.2 c13
        refine lv_aload_n hx hb dX13_rowTree_114 rfl (lv_at hl 1 rfl) ?_
        refine lv_iload_n hx hb dX13_rowTree_115 rfl (lv_at hl 0 rfl) ?_
        obtain ⟨Q14, hc, hw⟩ := hw
        refine wc_I (X := MX g q lb) (va_runV (As := [.int (I x8)]) (rest := []) ⟨hx, hb, hml, hown, hts⟩ (L_X13_makeTree l g q lb hlb r_x8 hN hc H.size) (cwV 1 hts (TB_V tw_2983 tw_2985 ts_190 tw_15 co_X13_makeTree) rfl rfl rfl (by decide +kernel) ⟨Nat.le_of_ble_eq_true rfl, Nat.le_of_ble_eq_true rfl⟩) (preV (q0 := 0) (ci := 13) rfl xT_bl hP hK hNb hD rfl rfl xT_at) rfl rfl hl.1 rfl (lv_room (Nat.le_of_ble_eq_true rfl)) dX13_rowTree_116 ⟨Nat.le_of_ble_eq_true rfl, Nat.le_of_ble_eq_true rfl⟩) hP hD hS hA (fun x15 τ16 H locs r_x15 hN hf hq hP hD hS => ?_)
        replace hw := hw x15 τ16 r_x15 hN hf hq
        have hF : f_r [45, 46, 47, 48, 49, 50, 51, 52] [71, 72, 73, 74, 75, 76, 77, 78, 79, 80, 81, 82, 83, 84, 85, 86, 87, 88, 89, 90, 91, 92, 93] [3, 4, 5, 6] σ τ16 := f_t hF hf (by decide) (by decide) (by decide)
        have hB := hN
        refine lv_goto (tgt := 123) hx hb dX13_rowTree_119 (by decide) ?_
        exact xri hx hb hr hlk hP hK hD hS ⟨_, _, r_x15, rfl, hN, hF, rfl, hw⟩ (Nat.le_of_ble_eq_true rfl) (Nat.le_of_ble_eq_true rfl) dX13_rowTree_123
    ·
      replace hw := hw.2 c5
      refine lv_aload_n hx hb dX13_rowTree_21 rfl (lv_at hl 0 rfl) ?_
      refine gfX13_given hx hb hts hK hP hown (hts _ tw_2171) dX13_rowTree_22 ?_
      refine lv_iconst (v := I 1) hx hb dX13_rowTree_25 rfl ?_
      refine lv_iload_n hx hb dX13_rowTree_26 rfl (lv_at hl 1 rfl) ?_
      refine bi_iadd hx hb dX13_rowTree_27 ?_
      obtain ⟨c17, hw⟩ := hw
      refine ldMX13_given hx hb hK hP hN c17 dX13_rowTree_28 (fun x18 r_x18 e_x18 => ?_)
      replace hw := hw x18 r_x18 e_x18
      refine lv_istore_n (lv' := [(3, .int (I x18)), (0, .ref (q 0)), (2, .int (I u2))]) hx hb dX13_rowTree_29 rfl hl (by decide) rfl (fun ls hl => ?_)
      refine lv_aload_n hx hb dX13_rowTree_30 rfl (lv_at hl 1 rfl) ?_
      refine gfX13_stretch hx hb hts hK hP hown (hts _ tw_2125) dX13_rowTree_31 ?_
      refine lv_iload_n hx hb dX13_rowTree_34 rfl (lv_at hl 2 rfl) ?_
      refine lv_iload_n hx hb dX13_rowTree_35 rfl (lv_at hl 0 rfl) ?_
      obtain ⟨c19, hw⟩ := hw
      refine sdMX13_stretch hx hb hK hP hD hS c19 dX13_rowTree_36 (fun H locs hP hD hS => ?_)
      have hN : n_m (s_a τ 72 u2 x18) := n_a (k := 72) (j := u2) hN (r_x18 : rg x18)
      have hF : f_r [45, 46, 47, 48, 49, 50, 51, 52] [71, 72, 73, 74, 75, 76, 77, 78, 79, 80, 81, 82, 83, 84, 85, 86, 87, 88, 89, 90, 91, 92, 93] [3, 4, 5, 6] σ (s_a τ 72 u2 x18) := f_a hF (by decide)
      refine lv_aload_n hx hb dX13_rowTree_37 rfl (lv_at hl 1 rfl) ?_
      refine gfX13_leafSort hx hb hts hK hP hown (hts _ tw_2127) dX13_rowTree_38 ?_
      refine lv_iload_n hx hb dX13_rowTree_41 rfl (lv_at hl 2 rfl) ?_
      refine lv_aload_n hx hb dX13_rowTree_42 rfl (lv_at hl 1 rfl) ?_
      refine gfX13_isVariable hx hb hts hK hP hown (hts _ tw_2018) dX13_rowTree_43 ?_
      refine lv_iload_n hx hb dX13_rowTree_46 rfl (lv_at hl 0 rfl) ?_
      obtain ⟨c20, hw⟩ := hw
      refine ldMX13_isVariable hx hb hK hP hN c20 dX13_rowTree_47 (fun x21 r_x21 e_x21 => ?_)
      replace hw := hw x21 r_x21 e_x21
      refine bi_if_eq (tgt := 75) hx hb r_x21 dX13_rowTree_48 (by decide) (fun c22 => ?_) (fun c22 => ?_)
      ·
        replace hw := hw.1 c22
        refine lv_iconst (v := I (-1)) hx hb dX13_rowTree_75 rfl ?_
        exact (hP76 _ _ _ _ _).mp hw r_u2 r_x18 r_u2 (by decide) hN hF H locs ls hP hD hS (lv_sub hl [1, 2, 0] rfl)
      ·
        replace hw := hw.2 c22
        refine lv_aload_n hx hb dX13_rowTree_51 rfl (lv_at hl 1 rfl) ?_
        refine gfX13_typeOf hx hb hts hK hP hown (hts _ tw_2020) dX13_rowTree_52 ?_
        refine lv_iload_n hx hb dX13_rowTree_55 rfl (lv_at hl 0 rfl) ?_
        refine ldMX13_typeOf hx hb hK hP hN c20 dX13_rowTree_56 (fun x23 r_x23 e_x23 => ?_)
        replace hw := hw x23 r_x23 e_x23
        refine lv_iconst (v := I (-1)) hx hb dX13_rowTree_57 rfl ?_
        refine bi_icmp_eq (tgt := 75) hx hb r_x23 (by decide) dX13_rowTree_58 (by decide) (fun c24 => ?_) (fun c24 => ?_)
        ·
          replace hw := hw.1 c24
          refine lv_iconst (v := I (-1)) hx hb dX13_rowTree_75 rfl ?_
          exact (hP76 _ _ _ _ _).mp hw r_u2 r_x18 r_u2 (by decide) hN hF H locs ls hP hD hS (lv_sub hl [1, 2, 0] rfl)
        ·
          replace hw := hw.2 c24
          refine lv_aload_n hx hb dX13_rowTree_61 rfl (lv_at hl 1 rfl) ?_
          refine gfX13_sortOf hx hb hts hK hP hown (hts _ tw_2124) dX13_rowTree_62 ?_
          refine lv_aload_n hx hb dX13_rowTree_65 rfl (lv_at hl 1 rfl) ?_
          refine gfX13_typeOf hx hb hts hK hP hown (hts _ tw_2020) dX13_rowTree_66 ?_
          refine lv_iload_n hx hb dX13_rowTree_69 rfl (lv_at hl 0 rfl) ?_
          refine ldMX13_typeOf hx hb hK hP hN c20 dX13_rowTree_70 (fun x25 r_x25 e_x25 => ?_)
          replace hw := hw x25 r_x25 e_x25
          obtain ⟨c26, hw⟩ := hw
          refine ldMX13_sortOf hx hb hK hP hN c26 dX13_rowTree_71 (fun x27 r_x27 e_x27 => ?_)
          replace hw := hw x27 r_x27 e_x27
          refine lv_goto (tgt := 76) hx hb dX13_rowTree_72 (by decide) ?_
          exact (hP76 _ _ _ _ _).mp hw r_u2 r_x18 r_u2 r_x27 hN hF H locs ls hP hD hS (lv_sub hl [1, 2, 0] rfl)
  ·
    intro u2 u3 k1 k2 τ hw
    refine (hP76 _ _ _ _ _).mpr ?_
    intro r_u2 r_u3 r_k1 r_k2 hN hF H locs ls hP hD hS hl
    have hB := hN
    obtain ⟨c28, hw⟩ := hw
    refine sdMX13_leafSort hx hb hK hP hD hS c28 dX13_rowTree_76 (fun H locs hP hD hS => ?_)
    have hN : n_m (s_a τ 73 k1 k2) := n_a (k := 73) (j := k1) hN (r_k2 : rg k2)
    have hF : f_r [45, 46, 47, 48, 49, 50, 51, 52] [71, 72, 73, 74, 75, 76, 77, 78, 79, 80, 81, 82, 83, 84, 85, 86, 87, 88, 89, 90, 91, 92, 93] [3, 4, 5, 6] σ (s_a τ 73 k1 k2) := f_a hF (by decide)
    refine lv_aload_n hx hb dX13_rowTree_77 rfl (lv_at hl 0 rfl) ?_
    refine gfX13_leafIs hx hb hts hK hP hown (hts _ tw_2128) dX13_rowTree_78 ?_
    refine lv_iload_n hx hb dX13_rowTree_81 rfl (lv_at hl 1 rfl) ?_
    refine lv_iload_n hx hb dX13_rowTree_82 rfl (lv_at hl 2 rfl) ?_
    obtain ⟨c29, hw⟩ := hw
    refine sdMX13_leafIs hx hb hK hP hD hS c29 dX13_rowTree_83 (fun H locs hP hD hS => ?_)
    have hN : n_m (s_a (s_a τ 73 k1 k2) 74 u2 u3) := n_a (k := 74) (j := u2) hN (r_u3 : rg u3)
    have hF : f_r [45, 46, 47, 48, 49, 50, 51, 52] [71, 72, 73, 74, 75, 76, 77, 78, 79, 80, 81, 82, 83, 84, 85, 86, 87, 88, 89, 90, 91, 92, 93] [3, 4, 5, 6] σ (s_a (s_a τ 73 k1 k2) 74 u2 u3) := f_a hF (by decide)
    refine lv_iinc (v := I (u2 + 1)) (lv' := [(2, .int (I (u2 + 1))), (0, .ref (q 0)), (3, .int (I u3))]) hx hb dX13_rowTree_84 hl (k := 1) rfl (I_add _ _) (by decide) rfl (fun ls hl => ?_)
    refine lv_goto (tgt := 13) hx hb dX13_rowTree_87 (by decide) ?_
    obtain ⟨c30, hw⟩ := hw
    exact (hP13 _ _).mp hw c30 hN hF H locs ls hP hD hS (lv_sub hl [1, 0] rfl)
