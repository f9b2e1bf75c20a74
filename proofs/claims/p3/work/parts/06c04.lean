-- methods told as propositions, and tied to the machine
def W_X7_endDeclaration (n1 : Int) (σ : S0) (Q : Int → S0 → Prop) : Prop :=
  (n1 ≤ σ.1 36 → Q 0 (s_v σ 35 0)) ∧ (σ.1 36 < n1 → Q 4 (s_v σ 35 0))
set_option maxRecDepth 100000 in
set_option maxHeartbeats 4000000 in
theorem L_X7_endDeclaration (l : Launch) (g : gG) (q : Nat → Nat) (lb : Nat) (hlb : lb < 2 ^ 31) {n1 : Int} {σ : S0} {Q : Int → S0 → Prop} (r_n1 : rg n1) (hN : n_m σ) (hw : W_X7_endDeclaration n1 σ Q) (sz : Nat) : MetI l yX7_endDeclaration cX7_endDeclaration 2 (some .int) { frames := 0, cells := 0, slots := 0, locals := 0 } g [.ref (q 6), .int (I n1)] (CX g q lb σ) sz xT (p_I (CX g q lb) [35] [] [] σ Q) 0 0 := by
  refine mkMet (Qc := fun A => QI g A (p_I (CX g q lb) [35] [] [] σ Q)) (by decide) (Nat.le_of_ble_eq_true rfl) ?_
  intro p e s m below meth c A H ls hx hb hr hml hown hts hlk hnm hsz hP hK hNb hD hA hAe hS hX hl
  have hl : lv_has ls 2 [(0, .ref (q 6)), (1, .int (I n1))] := hl
  have hB := hN
  have hF : f_r [35] [] [] σ σ := f_0
  obtain ⟨locs, hlocs⟩ : ∃ z : List Loc, z = [] := ⟨_, rfl⟩
  rw [← hlocs] at hS ⊢
  refine lv_aload_n hx hb dX7_endDeclaration_0 rfl (lv_at hl 0 rfl) ?_
  refine lv_iconst (v := I 0) hx hb dX7_endDeclaration_1 rfl ?_
  refine pfX7_state hx hb hts hK hP hD hS hown (hts _ tw_493) dX7_endDeclaration_2 (fun H locs hP hD hS => ?_)
  have hN : n_m (s_v σ 35 0) := n_v (i := 35) hN ((by decide) : rg 0)
  have hF : f_r [35] [] [] σ (s_v σ 35 0) := f_v hF (by decide)
  refine lv_aload_n hx hb dX7_endDeclaration_5 rfl (lv_at hl 0 rfl) ?_
  refine gfX7_items hx hb hts hK hP hown (hts _ tw_494) (x := σ.1 36) rfl dX7_endDeclaration_6 ?_
  refine lv_iload_n hx hb dX7_endDeclaration_9 rfl (lv_at hl 1 rfl) ?_
  refine bi_icmp_ge (tgt := 17) hx hb (hB.1 36) r_n1 dX7_endDeclaration_10 (by decide) (fun c1 => ?_) (fun c1 => ?_)
  ·
    replace hw := hw.1 c1
    refine lv_iconst (v := I 0) hx hb dX7_endDeclaration_17 rfl ?_
    exact xri hx hb hr hlk hP hK hD hS ⟨_, _, (by decide), rfl, hN, hF, rfl, hw⟩ (Nat.le_of_ble_eq_true rfl) (Nat.le_of_ble_eq_true rfl) dX7_endDeclaration_18
  ·
    replace hw := hw.2 c1
    refine lv_iconst (v := I 4) hx hb dX7_endDeclaration_13 rfl ?_
    refine lv_goto (tgt := 18) hx hb dX7_endDeclaration_14 (by decide) ?_
    exact xri hx hb hr hlk hP hK hD hS ⟨_, _, (by decide), rfl, hN, hF, rfl, hw⟩ (Nat.le_of_ble_eq_true rfl) (Nat.le_of_ble_eq_true rfl) dX7_endDeclaration_18
def W_X9_addHypothesis (n1 : Int) (σ : S0) (Q : S0 → Prop) : Prop :=
  (0 ≤ n1 ∧ n1 < 1500) ∧ ((0 ≤ σ.1 9 ∧ σ.1 9 < 1500) ∧ (rg (σ.1 9 + 1) ∧ ∀ (x4 : Int), rg x4 → x4 = σ.2.1 13 n1 → ((¬ x4 = 0 → Q (s_v (s_a (s_a σ 21 n1 1) 22 (σ.1 9) n1) 9 (σ.1 9 + 1))) ∧ (x4 = 0 → ∃ (Q6 : Int → Prop), W_X3_variableOf n1 (s_v (s_a (s_a σ 21 n1 1) 22 (σ.1 9) n1) 9 (σ.1 9 + 1)) Q6 ∧ ∀ (x7 : Int), rg x7 → Q6 x7 → ((0 ≤ x7 ∧ x7 < 1000) ∧ (Q (s_a (s_v (s_a (s_a σ 21 n1 1) 22 (σ.1 9) n1) 9 (σ.1 9 + 1)) 19 x7 n1)))))))
set_option maxRecDepth 100000 in
set_option maxHeartbeats 4000000 in
theorem L_X9_addHypothesis (l : Launch) (g : gG) (q : Nat → Nat) (lb : Nat) (hlb : lb < 2 ^ 31) {n1 : Int} {σ : S0} {Q : S0 → Prop} (r_n1 : rg n1) (hN : n_m σ) (hw : W_X9_addHypothesis n1 σ Q) (sz : Nat) : MetV l yX9_addHypothesis cX9_addHypothesis 2 { frames := 1, cells := 0, slots := 0, locals := 21 } g [.ref (q 2), .int (I n1)] (CX g q lb σ) sz xT (p_V (CX g q lb) [9] [19, 21, 22] [] σ Q) 0 0 := by
  refine mkMet (Qc := fun A => QV g A (p_V (CX g q lb) [9] [19, 21, 22] [] σ Q)) (by decide) (Nat.le_of_ble_eq_true rfl) ?_
  intro p e s m below meth c A H ls hx hb hr hml hown hts hlk hnm hsz hP hK hNb hD hA hAe hS hX hl
  have hl : lv_has ls 2 [(0, .ref (q 2)), (1, .int (I n1))] := hl
  have hB := hN
  have hF : f_r [9] [19, 21, 22] [] σ σ := f_0
  obtain ⟨locs, hlocs⟩ : ∃ z : List Loc, z = [] := ⟨_, rfl⟩
  rw [← hlocs] at hS ⊢
  refine lv_aload_n hx hb dX9_addHypothesis_0 rfl (lv_at hl 0 rfl) ?_
  refine gfX9_holds hx hb hts hK hP hown (hts _ tw_171) dX9_addHypothesis_1 ?_
  refine lv_iload_n hx hb dX9_addHypothesis_4 rfl (lv_at hl 1 rfl) ?_
  refine lv_iconst (v := I 1) hx hb dX9_addHypothesis_5 rfl ?_
  obtain ⟨c1, hw⟩ := hw
  refine sdCX9_holds hx hb hK hP hD hS c1 (by decide) dX9_addHypothesis_6 (fun H locs hP hD hS => ?_)
  have hN : n_m (s_a σ 21 n1 1) := n_a (k := 21) (j := n1) hN ((by decide) : rg 1)
  have hF : f_r [9] [19, 21, 22] [] σ (s_a σ 21 n1 1) := f_a hF (by decide)
  refine lv_aload_n hx hb dX9_addHypothesis_7 rfl (lv_at hl 0 rfl) ?_
  refine gfX9_hypotheses hx hb hts hK hP hown (hts _ tw_173) dX9_addHypothesis_8 ?_
  refine lv_aload_n hx hb dX9_addHypothesis_11 rfl (lv_at hl 0 rfl) ?_
  refine gfX9_hypothesisCount hx hb hts hK hP hown (hts _ tw_176) (x := σ.1 9) rfl dX9_addHypothesis_12 ?_
  refine lv_iload_n hx hb dX9_addHypothesis_15 rfl (lv_at hl 1 rfl) ?_
  obtain ⟨c2, hw⟩ := hw
  refine sdCX9_hypotheses hx hb hK hP hD hS c2 dX9_addHypothesis_16 (fun H locs hP hD hS => ?_)
  have hN : n_m (s_a (s_a σ 21 n1 1) 22 (σ.1 9) n1) := n_a (k := 22) (j := σ.1 9) hN (r_n1 : rg n1)
  have hF : f_r [9] [19, 21, 22] [] σ (s_a (s_a σ 21 n1 1) 22 (σ.1 9) n1) := f_a hF (by decide)
  refine lv_aload_n hx hb dX9_addHypothesis_17 rfl (lv_at hl 0 rfl) ?_
  refine lv_dup hx hb dX9_addHypothesis_18 rfl ?_
  refine gfX9_hypothesisCount hx hb hts hK hP hown (hts _ tw_176) (x := σ.1 9) rfl dX9_addHypothesis_19 ?_
  refine lv_iconst (v := I 1) hx hb dX9_addHypothesis_22 rfl ?_
  refine bi_iadd hx hb dX9_addHypothesis_23 ?_
  obtain ⟨c3, hw⟩ := hw
  refine pfX9_hypothesisCount hx hb hts hK hP hD hS hown (hts _ tw_176) dX9_addHypothesis_24 (fun H locs hP hD hS => ?_)
  have hN : n_m (s_v (s_a (s_a σ 21 n1 1) 22 (σ.1 9) n1) 9 (σ.1 9 + 1)) := n_v (i := 9) hN (c3 : rg (σ.1 9 + 1))
  have hF : f_r [9] [19, 21, 22] [] σ (s_v (s_a (s_a σ 21 n1 1) 22 (σ.1 9) n1) 9 (σ.1 9 + 1)) := f_v hF (by decide)
  refine lv_aload_n hx hb dX9_addHypothesis_27 rfl (lv_at hl 0 rfl) ?_
  refine gfX9_library hx hb hts hK hP hown (hts _ tw_165) dX9_addHypothesis_28 ?_
  refine gfNX3_kind hx hb hts hK hP hown (nb_use hNb tn_74) dX9_addHypothesis_31 ?_
  refine lv_iload_n hx hb dX9_addHypothesis_34 rfl (lv_at hl 1 rfl) ?_
  refine ldCX3_kind hx hb hK hP hN c1 dX9_addHypothesis_35 (fun x4 r_x4 e_x4 => ?_)
  replace hw := hw x4 r_x4 e_x4
  refine bi_if_ne (tgt := 53) hx hb r_x4 dX9_addHypothesis_36 (by decide) (fun c5 => ?_) (fun c5 => ?_)
  ·
    replace hw := hw.1 c5
    exact xrv hx hb hr hlk hP hK hD hS ⟨_, hN, hF, rfl, hw⟩ (Nat.le_of_ble_eq_true rfl) (Nat.le_of_ble_eq_true rfl) dX9_addHypothesis_53
  ·
    replace hw := hw.2 c5
    refine lv_aload_n hx hb dX9_addHypothesis_39 rfl (lv_at hl 0 rfl) ?_
    refine gfX9_activeFloat hx hb hts hK hP hown (hts _ tw_167) dX9_addHypothesis_40 ?_
    refine lv_aload_n hx hb dX9_addHypothesis_43 rfl (lv_at hl 0 rfl) ?_
    refine gfX9_library hx hb hts hK hP hown (hts _ tw_165) dX9_addHypothesis_44 ?_
    refine lv_iload_n hx hb dX9_addHypothesis_47 rfl (lv_at hl 1 rfl) ?_
    obtain ⟨Q6, hc, hw⟩ := hw
    refine wc_i (X := CX g q lb) (va_runV (As := [.int (I n1)]) (rest := [.ref (q 32)]) ⟨hx, hb, hml, hown, hts⟩ (L_X3_variableOf l g q lb hlb r_n1 hN hc H.size) (cwV 1 hts (TB_V tw_1042 tw_1022 tw_1023 tw_2 co_X3_variableOf) rfl rfl rfl (by decide +kernel) ⟨Nat.le_of_ble_eq_true rfl, Nat.le_of_ble_eq_true rfl⟩) (preV (q0 := 1) (ci := 3) rfl xT_bl hP hK hNb hD rfl rfl xT_at) rfl rfl hl.1 rfl (lv_room (Nat.le_of_ble_eq_true rfl)) dX9_addHypothesis_48 ⟨Nat.le_of_ble_eq_true rfl, Nat.le_of_ble_eq_true rfl⟩) hP hD hS hA (fun x7 H locs r_x7 hq hP hD hS => ?_)
    replace hw := hw x7 r_x7 hq
    refine lv_iload_n hx hb dX9_addHypothesis_51 rfl (lv_at hl 1 rfl) ?_
    obtain ⟨c9, hw⟩ := hw
    refine sdCX9_activeFloat hx hb hK hP hD hS c9 dX9_addHypothesis_52 (fun H locs hP hD hS => ?_)
    have hN : n_m (s_a (s_v (s_a (s_a σ 21 n1 1) 22 (σ.1 9) n1) 9 (σ.1 9 + 1)) 19 x7 n1) := n_a (k := 19) (j := x7) hN (r_n1 : rg n1)
    have hF : f_r [9] [19, 21, 22] [] σ (s_a (s_v (s_a (s_a σ 21 n1 1) 22 (σ.1 9) n1) 9 (σ.1 9 + 1)) 19 x7 n1) := f_a hF (by decide)
    exact xrv hx hb hr hlk hP hK hD hS ⟨_, hN, hF, rfl, hw⟩ (Nat.le_of_ble_eq_true rfl) (Nat.le_of_ble_eq_true rfl) dX9_addHypothesis_53
def W_X7_endStatement (σ : S0) (Q : Int → S0 → Prop) : Prop :=
  ∀ (P12 : Int → S0 → Prop) (P60 : Int → S0 → Prop) (P87 : S0 → Prop),
  (∀ (k0 : Int) (τ : S0), ((τ.1 36 < k0 → Q 4 τ) ∧ (k0 ≤ τ.1 36 → (¬ τ.1 37 = 3 → (¬ τ.1 37 = 2 → P60 (τ.1 7) τ) ∧ (τ.1 37 = 2 → ∃ (Q5 : Int → S0 → Prop), W_X0_makeFrame (τ.1 7) τ Q5 ∧ ∀ (x6 : Int) (τ7 : S0), rg x6 → n_m τ7 → f_r [12, 13, 14] [26, 27, 28, 29, 30, 31, 32] [2] τ τ7 → Q5 x6 τ7 → ((¬ x6 = 0 → rg (τ.1 7) ∧ P60 (τ.1 7) τ7) ∧ (x6 = 0 → Q 5 τ7)))) ∧ (τ.1 37 = 3 → Q 4 τ))) → P12 k0 τ) →
  (∀ (u2 : Int) (τ : S0), (∃ (Q10 : S0 → Prop), W_X3_add (τ.1 37) τ Q10 ∧ ∀ (τ12 : S0), n_m τ12 → f_r [7] [9, 13] [] τ τ12 → Q10 τ12 → ((τ12.1 37 = 2 → P87 τ12) ∧ (¬ τ12.1 37 = 2 → ∃ (Q14 : S0 → Prop), W_X9_addHypothesis u2 τ12 Q14 ∧ ∀ (τ16 : S0), n_m τ16 → f_r [9] [19, 21, 22] [] τ12 τ16 → Q14 τ16 → (P87 τ16)))) → P60 u2 τ) →
  (∀ (τ : S0), (Q 0 (s_v τ 35 0)) → P87 τ) →
  (¬ σ.1 37 = 0 → P12 1 σ) ∧ (σ.1 37 = 0 → P12 2 σ)
set_option maxRecDepth 100000 in
set_option maxHeartbeats 4000000 in
theorem L_X7_endStatement (l : Launch) (g : gG) (q : Nat → Nat) (lb : Nat) (hlb : lb < 2 ^ 31) {σ : S0} {Q : Int → S0 → Prop} (hN : n_m σ) (hw : W_X7_endStatement σ Q) (sz : Nat) : MetI l yX7_endStatement cX7_endStatement 3 (some .int) { frames := 3, cells := 0, slots := 0, locals := 67 } g [.ref (q 6)] (CX g q lb σ) sz xT (p_I (CX g q lb) [7, 9, 12, 13, 14, 35] [9, 13, 19, 21, 22, 26, 27, 28, 29, 30, 31, 32] [2] σ Q) 0 0 := by
  refine mkMet (Qc := fun A => QI g A (p_I (CX g q lb) [7, 9, 12, 13, 14, 35] [9, 13, 19, 21, 22, 26, 27, 28, 29, 30, 31, 32] [2] σ Q)) (by decide) (Nat.le_of_ble_eq_true rfl) ?_
  intro p e s m below meth c A H ls hx hb hr hml hown hts hlk hnm hsz hP hK hNb hD hA hAe hS hX hl
  have hl : lv_has ls 3 [(0, .ref (q 6))] := hl
  have hB := hN
  have hF : f_r [7, 9, 12, 13, 14, 35] [9, 13, 19, 21, 22, 26, 27, 28, 29, 30, 31, 32] [2] σ σ := f_0
  obtain ⟨locs, hlocs⟩ : ∃ z : List Loc, z = [] := ⟨_, rfl⟩
  rw [← hlocs] at hS ⊢
  obtain ⟨P12, hP12⟩ : ∃ P : Int → S0 → Prop, ∀ (k0 : Int) (τ : S0), (P k0 τ ↔ (rg k0 → n_m τ → f_r [7, 9, 12, 13, 14, 35] [9, 13, 19, 21, 22, 26, 27, 28, 29, 30, 31, 32] [2] σ τ → ∀ (H : Heap) (locs : List Loc) (ls : Array Slot), KP g (CX g q lb τ) H → va_D A (CX g q lb τ) → va_S A s.heap H locs → lv_has ls 3 [(0, .ref (q 6))] → W p l e ({ frames := 3, cells := 0, slots := 0, locals := 67 }) s m [.ref (q 6)].toArray below meth c H locs 0 0 (MQ below (QI g A (p_I (CX g q lb) [7, 9, 12, 13, 14, 35] [9, 13, 19, 21, 22, 26, 27, 28, 29, 30, 31, 32] [2] σ Q)) [.ref (q 6)].toArray s 0 0 A) (F0 m 12 ls [.int (I k0)]))) := ⟨_, fun _ _ => Iff.rfl⟩
  obtain ⟨P60, hP60⟩ : ∃ P : Int → S0 → Prop, ∀ (u2 : Int) (τ : S0), (P u2 τ ↔ (rg u2 → n_m τ → f_r [7, 9, 12, 13, 14, 35] [9, 13, 19, 21, 22, 26, 27, 28, 29, 30, 31, 32] [2] σ τ → ∀ (H : Heap) (locs : List Loc) (ls : Array Slot), KP g (CX g q lb τ) H → va_D A (CX g q lb τ) → va_S A s.heap H locs → lv_has ls 3 [(0, .ref (q 6)), (2, .int (I u2))] → W p l e ({ frames := 3, cells := 0, slots := 0, locals := 67 }) s m [.ref (q 6)].toArray below meth c H locs 0 0 (MQ below (QI g A (p_I (CX g q lb) [7, 9, 12, 13, 14, 35] [9, 13, 19, 21, 22, 26, 27, 28, 29, 30, 31, 32] [2] σ Q)) [.ref (q 6)].toArray s 0 0 A) (F0 m 60 ls []))) := ⟨_, fun _ _ => Iff.rfl⟩
  obtain ⟨P87, hP87⟩ : ∃ P : S0 → Prop, ∀ (τ : S0), (P τ ↔ (n_m τ → f_r [7, 9, 12, 13, 14, 35] [9, 13, 19, 21, 22, 26, 27, 28, 29, 30, 31, 32] [2] σ τ → ∀ (H : Heap) (locs : List Loc) (ls : Array Slot), KP g (CX g q lb τ) H → va_D A (CX g q lb τ) → va_S A s.heap H locs → lv_has ls 3 [(0, .ref (q 6))] → W p l e ({ frames := 3, cells := 0, slots := 0, locals := 67 }) s m [.ref (q 6)].toArray below meth c H locs 0 0 (MQ below (QI g A (p_I (CX g q lb) [7, 9, 12, 13, 14, 35] [9, 13, 19, 21, 22, 26, 27, 28, 29, 30, 31, 32] [2] σ Q)) [.ref (q 6)].toArray s 0 0 A) (F0 m 87 ls []))) := ⟨_, fun _ => Iff.rfl⟩
  refine (fun hw => ?_) (hw P12 P60 P87 ?_ ?_ ?_)
  ·
    refine lv_aload_n hx hb dX7_endStatement_0 rfl (lv_at hl 0 rfl) ?_
    refine gfX7_kind hx hb hts hK hP hown (hts _ tw_495) (x := σ.1 37) rfl dX7_endStatement_1 ?_
    refine bi_if_ne (tgt := 11) hx hb (hB.1 37) dX7_endStatement_4 (by decide) (fun c1 => ?_) (fun c1 => ?_)
    ·
      replace hw := hw.1 c1
      refine lv_iconst (v := I 1) hx hb dX7_endStatement_11 rfl ?_
      exact (hP12 _ _).mp hw (by decide) hN hF H locs ls hP hD hS (lv_sub hl [0] rfl)
    ·
      replace hw := hw.2 c1
      refine lv_iconst (v := I 2) hx hb dX7_endStatement_7 rfl ?_
      refine lv_goto (tgt := 12) hx hb dX7_endStatement_8 (by decide) ?_
      exact (hP12 _ _).mp hw (by decide) hN hF H locs ls hP hD hS (lv_sub hl [0] rfl)
  ·
    intro k0 τ hw
    refine (hP12 _ _).mpr ?_
    intro r_k0 hN hF H locs ls hP hD hS hl
    have hB := hN
    refine lv_istore_n (lv' := [(1, .int (I k0)), (0, .ref (q 6))]) hx hb dX7_endStatement_12 rfl hl (by decide) rfl (fun ls hl => ?_)
    refine lv_aload_n hx hb dX7_endStatement_13 rfl (lv_at hl 1 rfl) ?_
    refine gfX7_items hx hb hts hK hP hown (hts _ tw_494) (x := τ.1 36) rfl dX7_endStatement_14 ?_
    refine lv_iload_n hx hb dX7_endStatement_17 rfl (lv_at hl 0 rfl) ?_
    refine bi_icmp_lt (tgt := 29) hx hb (hB.1 36) r_k0 dX7_endStatement_18 (by decide) (fun c2 => ?_) (fun c2 => ?_)
    ·
      replace hw := hw.1 c2
      refine lv_iconst (v := I 4) hx hb dX7_endStatement_29 rfl ?_
      exact xri hx hb hr hlk hP hK hD hS ⟨_, _, (by decide), rfl, hN, hF, rfl, hw⟩ (Nat.le_of_ble_eq_true rfl) (Nat.le_of_ble_eq_true rfl) dX7_endStatement_30
    ·
      replace hw := hw.2 c2
      refine lv_aload_n hx hb dX7_endStatement_21 rfl (lv_at hl 1 rfl) ?_
      refine gfX7_kind hx hb hts hK hP hown (hts _ tw_495) (x := τ.1 37) rfl dX7_endStatement_22 ?_
      refine lv_iconst (v := I 3) hx hb dX7_endStatement_25 rfl ?_
      refine bi_icmp_ne (tgt := 31) hx hb (hB.1 37) (by decide) dX7_endStatement_26 (by decide) (fun c3 => ?_) (fun c3 => ?_)
      ·
        replace hw := hw.1 c3
        refine lv_aload_n hx hb dX7_endStatement_31 rfl (lv_at hl 1 rfl) ?_
        refine gfX7_library hx hb hts hK hP hown (hts _ tw_484) dX7_endStatement_32 ?_
        refine gfNX3_statements hx hb hts hK hP hown (nb_use hNb tn_107) (x := τ.1 7) rfl dX7_endStatement_35 ?_
        refine lv_istore_n (lv' := [(2, .int (I (τ.1 7))), (1, .int (I k0)), (0, .ref (q 6))]) hx hb dX7_endStatement_38 rfl hl (by decide) rfl (fun ls hl => ?_)
        refine lv_aload_n hx hb dX7_endStatement_39 rfl (lv_at hl 2 rfl) ?_
        refine gfX7_kind hx hb hts hK hP hown (hts _ tw_495) (x := τ.1 37) rfl dX7_endStatement_40 ?_
        refine lv_iconst (v := I 2) hx hb dX7_endStatement_43 rfl ?_
        refine bi_icmp_ne (tgt := 60) hx hb (hB.1 37) (by decide) dX7_endStatement_44 (by decide) (fun c4 => ?_) (fun c4 => ?_)
        ·
          replace hw := hw.1 c4
          exact (hP60 _ _).mp hw (hB.1 7) hN hF H locs ls hP hD hS (lv_sub hl [2, 0] rfl)
        ·
          replace hw := hw.2 c4
          refine lv_aload_n hx hb dX7_endStatement_47 rfl (lv_at hl 2 rfl) ?_
          refine gfX7_assertions hx hb hts hK hP hown (hts _ tw_485) dX7_endStatement_48 ?_
          refine lv_iload_n hx hb dX7_endStatement_51 rfl (lv_at hl 0 rfl) ?_
          obtain ⟨Q5, hc, hw⟩ := hw
          refine wc_I (X := CX g q lb) (va_runV (As := [.int (I (τ.1 7))]) (rest := []) ⟨hx, hb, hml, hown, hts⟩ (L_X0_makeFrame l g q lb hlb (hB.1 7) hN hc H.size) (cwV 1 hts (TB_V tw_1005 tw_1006 tw_1007 tw_5 co_X0_makeFrame) rfl rfl rfl (by decide +kernel) ⟨Nat.le_of_ble_eq_true rfl, Nat.le_of_ble_eq_true rfl⟩) (preV (q0 := 3) (ci := 0) rfl xT_bl hP hK hNb hD rfl rfl xT_at) rfl rfl hl.1 rfl (lv_room (Nat.le_of_ble_eq_true rfl)) dX7_endStatement_52 ⟨Nat.le_of_ble_eq_true rfl, Nat.le_of_ble_eq_true rfl⟩) hP hD hS hA (fun x6 τ7 H locs r_x6 hN hf hq hP hD hS => ?_)
          replace hw := hw x6 τ7 r_x6 hN hf hq
          have hF : f_r [7, 9, 12, 13, 14, 35] [9, 13, 19, 21, 22, 26, 27, 28, 29, 30, 31, 32] [2] σ τ7 := f_t hF hf (by decide) (by decide) (by decide)
          have hB := hN
          refine bi_if_ne (tgt := 60) hx hb r_x6 dX7_endStatement_55 (by decide) (fun c8 => ?_) (fun c8 => ?_)
          ·
            replace hw := hw.1 c8
            obtain ⟨c9, hw⟩ := hw
            exact (hP60 _ _).mp hw c9 hN hF H locs ls hP hD hS (lv_sub hl [2, 0] rfl)
          ·
            replace hw := hw.2 c8
            refine lv_iconst (v := I 5) hx hb dX7_endStatement_58 rfl ?_
            exact xri hx hb hr hlk hP hK hD hS ⟨_, _, (by decide), rfl, hN, hF, rfl, hw⟩ (Nat.le_of_ble_eq_true rfl) (Nat.le_of_ble_eq_true rfl) dX7_endStatement_59
      ·
        replace hw := hw.2 c3
        refine lv_iconst (v := I 4) hx hb dX7_endStatement_29 rfl ?_
        exact xri hx hb hr hlk hP hK hD hS ⟨_, _, (by decide), rfl, hN, hF, rfl, hw⟩ (Nat.le_of_ble_eq_true rfl) (Nat.le_of_ble_eq_true rfl) dX7_endStatement_30
  ·
    intro u2 τ hw
    refine (hP60 _ _).mpr ?_
    intro r_u2 hN hF H locs ls hP hD hS hl
    have hB := hN
    refine lv_aload_n hx hb dX7_endStatement_60 rfl (lv_at hl 0 rfl) ?_
    refine gfX7_library hx hb hts hK hP hown (hts _ tw_484) dX7_endStatement_61 ?_
    refine lv_aload_n hx hb dX7_endStatement_64 rfl (lv_at hl 0 rfl) ?_
    refine gfX7_kind hx hb hts hK hP hown (hts _ tw_495) (x := τ.1 37) rfl dX7_endStatement_65 ?_
    obtain ⟨Q10, hc, hw⟩ := hw
    refine wc_V (X := CX g q lb) (va_runV (As := [.int (I (τ.1 37))]) (rest := []) ⟨hx, hb, hml, hown, hts⟩ (L_X3_add l g q lb hlb (hB.1 37) hN hc H.size) (cwV 1 hts (TB_V tw_1033 tw_1034 tw_1035 tw_2 co_X3_add) rfl rfl rfl (by decide +kernel) ⟨Nat.le_of_ble_eq_true rfl, Nat.le_of_ble_eq_true rfl⟩) (preV (q0 := 1) (ci := 3) rfl xT_bl hP hK hNb hD rfl rfl xT_at) rfl rfl hl.1 rfl (lv_room (Nat.le_of_ble_eq_true rfl)) dX7_endStatement_68 ⟨Nat.le_of_ble_eq_true rfl, Nat.le_of_ble_eq_true rfl⟩) hP hD hS hA (fun τ12 H locs hN hf hq hP hD hS => ?_)
    replace hw := hw τ12 hN hf hq
    have hF : f_r [7, 9, 12, 13, 14, 35] [9, 13, 19, 21, 22, 26, 27, 28, 29, 30, 31, 32] [2] σ τ12 := f_t hF hf (by decide) (by decide) (by decide)
    have hB := hN
    refine lv_aload_n hx hb dX7_endStatement_71 rfl (lv_at hl 0 rfl) ?_
    refine gfX7_kind hx hb hts hK hP hown (hts _ tw_495) (x := τ12.1 37) rfl dX7_endStatement_72 ?_
    refine lv_iconst (v := I 2) hx hb dX7_endStatement_75 rfl ?_
    refine bi_icmp_eq (tgt := 87) hx hb (hB.1 37) (by decide) dX7_endStatement_76 (by decide) (fun c13 => ?_) (fun c13 => ?_)
    ·
      replace hw := hw.1 c13
      exact (hP87 _).mp hw hN hF H locs ls hP hD hS (lv_sub hl [0] rfl)
    ·
      replace hw := hw.2 c13
      refine lv_aload_n hx hb dX7_endStatement_79 rfl (lv_at hl 0 rfl) ?_
      refine gfX7_scopes hx hb hts hK hP hown (hts _ tw_486) dX7_endStatement_80 ?_
      refine lv_iload_n hx hb dX7_endStatement_83 rfl (lv_at hl 1 rfl) ?_
      obtain ⟨Q14, hc, hw⟩ := hw
      refine wc_V (X := CX g q lb) (va_runV (As := [.int (I u2)]) (rest := []) ⟨hx, hb, hml, hown, hts⟩ (L_X9_addHypothesis l g q lb hlb r_u2 hN hc H.size) (cwV 1 hts (TB_V tw_1038 tw_1039 tw_1040 tw_3 co_X9_addHypothesis) rfl rfl rfl (by decide +kernel) ⟨Nat.le_of_ble_eq_true rfl, Nat.le_of_ble_eq_true rfl⟩) (preV (q0 := 2) (ci := 9) rfl xT_bl hP hK hNb hD rfl rfl xT_at) rfl rfl hl.1 rfl (lv_room (Nat.le_of_ble_eq_true rfl)) dX7_endStatement_84 ⟨Nat.le_of_ble_eq_true rfl, Nat.le_of_ble_eq_true rfl⟩) hP hD hS hA (fun τ16 H locs hN hf hq hP hD hS => ?_)
      replace hw := hw τ16 hN hf hq
      have hF : f_r [7, 9, 12, 13, 14, 35] [9, 13, 19, 21, 22, 26, 27, 28, 29, 30, 31, 32] [2] σ τ16 := f_t hF hf (by decide) (by decide) (by decide)
      have hB := hN
      exact (hP87 _).mp hw hN hF H locs ls hP hD hS (lv_sub hl [0] rfl)
  ·
    intro τ hw
    refine (hP87 _).mpr ?_
    intro hN hF H locs ls hP hD hS hl
    have hB := hN
    refine lv_aload_n hx hb dX7_endStatement_87 rfl (lv_at hl 0 rfl) ?_
    refine lv_iconst (v := I 0) hx hb dX7_endStatement_88 rfl ?_
    refine pfX7_state hx hb hts hK hP hD hS hown (hts _ tw_493) dX7_endStatement_89 (fun H locs hP hD hS => ?_)
    have hN : n_m (s_v τ 35 0) := n_v (i := 35) hN ((by decide) : rg 0)
    have hF : f_r [7, 9, 12, 13, 14, 35] [9, 13, 19, 21, 22, 26, 27, 28, 29, 30, 31, 32] [2] σ (s_v τ 35 0) := f_v hF (by decide)
    refine lv_iconst (v := I 0) hx hb dX7_endStatement_92 rfl ?_
    exact xri hx hb hr hlk hP hK hD hS ⟨_, _, (by decide), rfl, hN, hF, rfl, hw⟩ (Nat.le_of_ble_eq_true rfl) (Nat.le_of_ble_eq_true rfl) dX7_endStatement_93
def W_X10_isListing (σ : S0) (Q : Int → Prop) : Prop :=
  (¬ σ.1 25 = 2 → Q 0) ∧ (σ.1 25 = 2 → Q 1)
set_option maxRecDepth 100000 in
set_option maxHeartbeats 4000000 in
theorem L_X10_isListing (l : Launch) (g : gG) (q : Nat → Nat) (lb : Nat) (hlb : lb < 2 ^ 31) {σ : S0} {Q : Int → Prop} (hN : n_m σ) (hw : W_X10_isListing σ Q) (sz : Nat) : MetI l yX10_isListing cX10_isListing 1 (some .boolean) { frames := 0, cells := 0, slots := 0, locals := 0 } g [.ref (q 5)] (CX g q lb σ) sz xT (p_i (CX g q lb) σ Q) 0 0 := by
  refine mkMet (Qc := fun A => QI g A (p_i (CX g q lb) σ Q)) (by decide) (Nat.le_of_ble_eq_true rfl) ?_
  intro p e s m below meth c A H ls hx hb hr hml hown hts hlk hnm hsz hP hK hNb hD hA hAe hS hX hl
  have hl : lv_has ls 1 [(0, .ref (q 5))] := hl
  have hB := hN
  obtain ⟨locs, hlocs⟩ : ∃ z : List Loc, z = [] := ⟨_, rfl⟩
  rw [← hlocs] at hS ⊢
  refine lv_aload_n hx hb dX10_isListing_0 rfl (lv_at hl 0 rfl) ?_
  refine gfX10_form hx hb hts hK hP hown (hts _ tw_425) (x := σ.1 25) rfl dX10_isListing_1 ?_
  refine lv_iconst (v := I 2) hx hb dX10_isListing_4 rfl ?_
  refine bi_icmp_ne (tgt := 12) hx hb (hB.1 25) (by decide) dX10_isListing_5 (by decide) (fun c1 => ?_) (fun c1 => ?_)
  ·
    replace hw := hw.1 c1
    refine lv_iconst (v := I 0) hx hb dX10_isListing_12 rfl ?_
    exact xrz hx hb hr (by decide) hlk hP hK hD hS ⟨_, (by decide), rfl, rfl, hw⟩ (Nat.le_of_ble_eq_true rfl) (Nat.le_of_ble_eq_true rfl) dX10_isListing_13
  ·
    replace hw := hw.2 c1
    refine lv_iconst (v := I 1) hx hb dX10_isListing_8 rfl ?_
    refine lv_goto (tgt := 13) hx hb dX10_isListing_9 (by decide) ?_
    exact xrz hx hb hr (by decide) hlk hP hK hD hS ⟨_, (by decide), rfl, rfl, hw⟩ (Nat.le_of_ble_eq_true rfl) (Nat.le_of_ble_eq_true rfl) dX10_isListing_13
def W_X10_isWithinNumber (σ : S0) (Q : Int → Prop) : Prop :=
  (σ.1 26 ≤ 0 → Q 0) ∧ (0 < σ.1 26 → Q 1)
set_option maxRecDepth 100000 in
set_option maxHeartbeats 4000000 in
theorem L_X10_isWithinNumber (l : Launch) (g : gG) (q : Nat → Nat) (lb : Nat) (hlb : lb < 2 ^ 31) {σ : S0} {Q : Int → Prop} (hN : n_m σ) (hw : W_X10_isWithinNumber σ Q) (sz : Nat) : MetI l yX10_isWithinNumber cX10_isWithinNumber 1 (some .boolean) { frames := 0, cells := 0, slots := 0, locals := 0 } g [.ref (q 5)] (CX g q lb σ) sz xT (p_i (CX g q lb) σ Q) 0 0 := by
  refine mkMet (Qc := fun A => QI g A (p_i (CX g q lb) σ Q)) (by decide) (Nat.le_of_ble_eq_true rfl) ?_
  intro p e s m below meth c A H ls hx hb hr hml hown hts hlk hnm hsz hP hK hNb hD hA hAe hS hX hl
  have hl : lv_has ls 1 [(0, .ref (q 5))] := hl
  have hB := hN
  obtain ⟨locs, hlocs⟩ : ∃ z : List Loc, z = [] := ⟨_, rfl⟩
  rw [← hlocs] at hS ⊢
  refine lv_aload_n hx hb dX10_isWithinNumber_0 rfl (lv_at hl 0 rfl) ?_
  refine gfX10_number hx hb hts hK hP hown (hts _ tw_426) (x := σ.1 26) rfl dX10_isWithinNumber_1 ?_
  refine bi_if_le (tgt := 11) hx hb (hB.1 26) dX10_isWithinNumber_4 (by decide) (fun c1 => ?_) (fun c1 => ?_)
  ·
    replace hw := hw.1 c1
    refine lv_iconst (v := I 0) hx hb dX10_isWithinNumber_11 rfl ?_
    exact xrz hx hb hr (by decide) hlk hP hK hD hS ⟨_, (by decide), rfl, rfl, hw⟩ (Nat.le_of_ble_eq_true rfl) (Nat.le_of_ble_eq_true rfl) dX10_isWithinNumber_12
  ·
    replace hw := hw.2 c1
    refine lv_iconst (v := I 1) hx hb dX10_isWithinNumber_7 rfl ?_
    refine lv_goto (tgt := 12) hx hb dX10_isWithinNumber_8 (by decide) ?_
    exact xrz hx hb hr (by decide) hlk hP hK hD hS ⟨_, (by decide), rfl, rfl, hw⟩ (Nat.le_of_ble_eq_true rfl) (Nat.le_of_ble_eq_true rfl) dX10_isWithinNumber_12
def W_X7_endProof (σ : S0) (Q : Int → S0 → Prop) : Prop :=
  ∃ (Q1 : Int → Prop), W_X10_isListing σ Q1 ∧ ∀ (x2 : Int), rg x2 → Q1 x2 → ((x2 = 0 → ∃ (Q5 : Int → Prop), W_X10_isWithinNumber (s_v σ 35 7) Q5 ∧ ∀ (x6 : Int), rg x6 → Q5 x6 → ((x6 = 0 → Q 0 (s_v σ 35 7)) ∧ (¬ x6 = 0 → Q 14 (s_v σ 35 7)))) ∧ (¬ x2 = 0 → Q 4 σ))
set_option maxRecDepth 100000 in
set_option maxHeartbeats 4000000 in
theorem L_X7_endProof (l : Launch) (g : gG) (q : Nat → Nat) (lb : Nat) (hlb : lb < 2 ^ 31) {σ : S0} {Q : Int → S0 → Prop} (hN : n_m σ) (hw : W_X7_endProof σ Q) (sz : Nat) : MetI l yX7_endProof cX7_endProof 1 (some .int) { frames := 1, cells := 0, slots := 0, locals := 20 } g [.ref (q 6)] (CX g q lb σ) sz xT (p_I (CX g q lb) [35] [] [] σ Q) 0 0 := by
  refine mkMet (Qc := fun A => QI g A (p_I (CX g q lb) [35] [] [] σ Q)) (by decide) (Nat.le_of_ble_eq_true rfl) ?_
  intro p e s m below meth c A H ls hx hb hr hml hown hts hlk hnm hsz hP hK hNb hD hA hAe hS hX hl
  have hl : lv_has ls 1 [(0, .ref (q 6))] := hl
  have hB := hN
  have hF : f_r [35] [] [] σ σ := f_0
  obtain ⟨locs, hlocs⟩ : ∃ z : List Loc, z = [] := ⟨_, rfl⟩
  rw [← hlocs] at hS ⊢
  refine lv_aload_n hx hb dX7_endProof_0 rfl (lv_at hl 0 rfl) ?_
  refine gfX7_steps hx hb hts hK hP hown (hts _ tw_487) dX7_endProof_1 ?_
  obtain ⟨Q1, hc, hw⟩ := hw
  refine wc_i (X := CX g q lb) (va_runV (As := []) (rest := []) ⟨hx, hb, hml, hown, hts⟩ (L_X10_isListing l g q lb hlb  hN hc H.size) (cwV 0 hts (TB_V tw_1047 tw_1048 tw_1049 tw_8 co_X10_isListing) rfl rfl rfl (by decide +kernel) ⟨Nat.le_of_ble_eq_true rfl, Nat.le_of_ble_eq_true rfl⟩) (preV (q0 := 5) (ci := 10) rfl xT_bl hP hK hNb hD rfl rfl xT_at) rfl rfl hl.1 rfl (lv_room (Nat.le_of_ble_eq_true rfl)) dX7_endProof_4 ⟨Nat.le_of_ble_eq_true rfl, Nat.le_of_ble_eq_true rfl⟩) hP hD hS hA (fun x2 H locs r_x2 hq hP hD hS => ?_)
  replace hw := hw x2 r_x2 hq
  refine bi_if_eq (tgt := 12) hx hb r_x2 dX7_endProof_7 (by decide) (fun c4 => ?_) (fun c4 => ?_)
  ·
    replace hw := hw.1 c4
    refine lv_aload_n hx hb dX7_endProof_12 rfl (lv_at hl 0 rfl) ?_
    refine lv_bipush (v := I 7) hx hb dX7_endProof_13 (by decide) ?_
    refine pfX7_state hx hb hts hK hP hD hS hown (hts _ tw_493) dX7_endProof_15 (fun H locs hP hD hS => ?_)
    have hN : n_m (s_v σ 35 7) := n_v (i := 35) hN ((by decide) : rg 7)
    have hF : f_r [35] [] [] σ (s_v σ 35 7) := f_v hF (by decide)
    refine lv_aload_n hx hb dX7_endProof_18 rfl (lv_at hl 0 rfl) ?_
    refine gfX7_steps hx hb hts hK hP hown (hts _ tw_487) dX7_endProof_19 ?_
    obtain ⟨Q5, hc, hw⟩ := hw
    refine wc_i (X := CX g q lb) (va_runV (As := []) (rest := []) ⟨hx, hb, hml, hown, hts⟩ (L_X10_isWithinNumber l g q lb hlb  hN hc H.size) (cwV 0 hts (TB_V tw_1051 tw_1052 tw_1053 tw_8 co_X10_isWithinNumber) rfl rfl rfl (by decide +kernel) ⟨Nat.le_of_ble_eq_true rfl, Nat.le_of_ble_eq_true rfl⟩) (preV (q0 := 5) (ci := 10) rfl xT_bl hP hK hNb hD rfl rfl xT_at) rfl rfl hl.1 rfl (lv_room (Nat.le_of_ble_eq_true rfl)) dX7_endProof_22 ⟨Nat.le_of_ble_eq_true rfl, Nat.le_of_ble_eq_true rfl⟩) hP hD hS hA (fun x6 H locs r_x6 hq hP hD hS => ?_)
    replace hw := hw x6 r_x6 hq
    refine bi_if_eq (tgt := 33) hx hb r_x6 dX7_endProof_25 (by decide) (fun c8 => ?_) (fun c8 => ?_)
    ·
      replace hw := hw.1 c8
      refine lv_iconst (v := I 0) hx hb dX7_endProof_33 rfl ?_
      exact xri hx hb hr hlk hP hK hD hS ⟨_, _, (by decide), rfl, hN, hF, rfl, hw⟩ (Nat.le_of_ble_eq_true rfl) (Nat.le_of_ble_eq_true rfl) dX7_endProof_34
    ·
      replace hw := hw.2 c8
      refine lv_bipush (v := I 14) hx hb dX7_endProof_28 (by decide) ?_
      refine lv_goto (tgt := 34) hx hb dX7_endProof_30 (by decide) ?_
      exact xri hx hb hr hlk hP hK hD hS ⟨_, _, (by decide), rfl, hN, hF, rfl, hw⟩ (Nat.le_of_ble_eq_true rfl) (Nat.le_of_ble_eq_true rfl) dX7_endProof_34
  ·
    replace hw := hw.2 c4
    refine lv_iconst (v := I 4) hx hb dX7_endProof_10 rfl ?_
    exact xri hx hb hr hlk hP hK hD hS ⟨_, _, (by decide), rfl, hN, hF, rfl, hw⟩ (Nat.le_of_ble_eq_true rfl) (Nat.le_of_ble_eq_true rfl) dX7_endProof_11
def W_X7_endRow (σ : S0) (Q : Int → S0 → Prop) : Prop :=
  ∀ (P40 : S0 → Prop),
  (∀ (τ : S0), (∃ (Q11 : Int → S0 → Prop), W_X7_endDeclaration 1 τ Q11 ∧ ∀ (x12 : Int) (τ13 : S0), rg x12 → n_m τ13 → f_r [35] [] [] τ τ13 → Q11 x12 τ13 → (Q x12 τ13)) → P40 τ) →
  ((σ.1 35) < 2 ∨ 6 < (σ.1 35) → Q 4 σ) ∧ ((σ.1 35) = 2 → P40 σ) ∧ ((σ.1 35) = 3 → P40 σ) ∧ ((σ.1 35) = 4 → ∃ (Q2 : Int → S0 → Prop), W_X7_endDeclaration 2 σ Q2 ∧ ∀ (x3 : Int) (τ4 : S0), rg x3 → n_m τ4 → f_r [35] [] [] σ τ4 → Q2 x3 τ4 → (Q x3 τ4)) ∧ ((σ.1 35) = 5 → ∃ (Q5 : Int → S0 → Prop), W_X7_endStatement σ Q5 ∧ ∀ (x6 : Int) (τ7 : S0), rg x6 → n_m τ7 → f_r [7, 9, 12, 13, 14, 35] [9, 13, 19, 21, 22, 26, 27, 28, 29, 30, 31, 32] [2] σ τ7 → Q5 x6 τ7 → (Q x6 τ7)) ∧ ((σ.1 35) = 6 → ∃ (Q8 : Int → S0 → Prop), W_X7_endProof σ Q8 ∧ ∀ (x9 : Int) (τ10 : S0), rg x9 → n_m τ10 → f_r [35] [] [] σ τ10 → Q8 x9 τ10 → (Q x9 τ10))
set_option maxRecDepth 100000 in
set_option maxHeartbeats 4000000 in
theorem L_X7_endRow (l : Launch) (g : gG) (q : Nat → Nat) (lb : Nat) (hlb : lb < 2 ^ 31) {σ : S0} {Q : Int → S0 → Prop} (hN : n_m σ) (hw : W_X7_endRow σ Q) (sz : Nat) : MetI l yX7_endRow cX7_endRow 1 (some .int) { frames := 4, cells := 0, slots := 0, locals := 89 } g [.ref (q 6)] (CX g q lb σ) sz xT (p_I (CX g q lb) [7, 9, 12, 13, 14, 35] [9, 13, 19, 21, 22, 26, 27, 28, 29, 30, 31, 32] [2] σ Q) 0 0 := by
  refine mkMet (Qc := fun A => QI g A (p_I (CX g q lb) [7, 9, 12, 13, 14, 35] [9, 13, 19, 21, 22, 26, 27, 28, 29, 30, 31, 32] [2] σ Q)) (by decide) (Nat.le_of_ble_eq_true rfl) ?_
  intro p e s m below meth c A H ls hx hb hr hml hown hts hlk hnm hsz hP hK hNb hD hA hAe hS hX hl
  have hl : lv_has ls 1 [(0, .ref (q 6))] := hl
  have hB := hN
  have hF : f_r [7, 9, 12, 13, 14, 35] [9, 13, 19, 21, 22, 26, 27, 28, 29, 30, 31, 32] [2] σ σ := f_0
  obtain ⟨locs, hlocs⟩ : ∃ z : List Loc, z = [] := ⟨_, rfl⟩
  rw [← hlocs] at hS ⊢
  obtain ⟨P40, hP40⟩ : ∃ P : S0 → Prop, ∀ (τ : S0), (P τ ↔ (n_m τ → f_r [7, 9, 12, 13, 14, 35] [9, 13, 19, 21, 22, 26, 27, 28, 29, 30, 31, 32] [2] σ τ → ∀ (H : Heap) (locs : List Loc) (ls : Array Slot), KP g (CX g q lb τ) H → va_D A (CX g q lb τ) → va_S A s.heap H locs → lv_has ls 1 [(0, .ref (q 6))] → W p l e ({ frames := 4, cells := 0, slots := 0, locals := 89 }) s m [.ref (q 6)].toArray below meth c H locs 0 0 (MQ below (QI g A (p_I (CX g q lb) [7, 9, 12, 13, 14, 35] [9, 13, 19, 21, 22, 26, 27, 28, 29, 30, 31, 32] [2] σ Q)) [.ref (q 6)].toArray s 0 0 A) (F0 m 40 ls []))) := ⟨_, fun _ => Iff.rfl⟩
  refine (fun hw => ?_) (hw P40 ?_)
  ·
    refine lv_aload_n hx hb dX7_endRow_0 rfl (lv_at hl 0 rfl) ?_
    refine gfX7_state hx hb hts hK hP hown (hts _ tw_493) (x := σ.1 35) rfl dX7_endRow_1 ?_
    have rr := ((hB.1 35) : rg (σ.1 35))
    rcases bi_sw (x := (σ.1 35)) 2 6 with c1 | c1
    ·
      replace hw := hw.1 c1
      refine lv_tableOut (tgt := 62) hx hb dX7_endRow_4 (by rw [I_toInt rr.1 rr.2]; exact c1) (by decide) ?_
      refine lv_iconst (v := I 4) hx hb dX7_endRow_62 rfl ?_
      exact xri hx hb hr hlk hP hK hD hS ⟨_, _, (by decide), rfl, hN, hF, rfl, hw⟩ (Nat.le_of_ble_eq_true rfl) (Nat.le_of_ble_eq_true rfl) dX7_endRow_63
    ·
      obtain ⟨k, hk, ec1⟩ := c1
      replace hw := hw.2
      rcases (show k = 0 ∨ k = 1 ∨ k = 2 ∨ k = 3 ∨ k = 4 by omega) with rfl | rfl | rfl | rfl | rfl
      ·
        have e9 : (σ.1 35) = 2 := ec1
        refine lv_tableIn (tgt := 40) hx hb dX7_endRow_4 (by rw [I_toInt rr.1 rr.2, e9]; decide) (by rw [I_toInt rr.1 rr.2, e9]; decide) (by rw [I_toInt rr.1 rr.2, e9]; rfl) (by decide) ?_
        replace hw := hw.1 e9
        exact (hP40 _).mp hw hN hF H locs ls hP hD hS (lv_sub hl [0] rfl)
      ·
        have e9 : (σ.1 35) = 3 := ec1
        refine lv_tableIn (tgt := 40) hx hb dX7_endRow_4 (by rw [I_toInt rr.1 rr.2, e9]; decide) (by rw [I_toInt rr.1 rr.2, e9]; decide) (by rw [I_toInt rr.1 rr.2, e9]; rfl) (by decide) ?_
        replace hw := hw.2.1 e9
        exact (hP40 _).mp hw hN hF H locs ls hP hD hS (lv_sub hl [0] rfl)
      ·
        have e9 : (σ.1 35) = 4 := ec1
        refine lv_tableIn (tgt := 46) hx hb dX7_endRow_4 (by rw [I_toInt rr.1 rr.2, e9]; decide) (by rw [I_toInt rr.1 rr.2, e9]; decide) (by rw [I_toInt rr.1 rr.2, e9]; rfl) (by decide) ?_
        replace hw := hw.2.2.1 e9
        refine lv_aload_n hx hb dX7_endRow_46 rfl (lv_at hl 0 rfl) ?_
        refine lv_iconst (v := I 2) hx hb dX7_endRow_47 rfl ?_
        obtain ⟨Q2, hc, hw⟩ := hw
        refine wc_I (X := CX g q lb) (va_runV (As := [.int (I 2)]) (rest := []) ⟨hx, hb, hml, hown, hts⟩ (L_X7_endDeclaration l g q lb hlb (by decide) hN hc H.size) (cwV 1 hts (TB_V tw_997 tw_999 ts_6 tw_7 co_X7_endDeclaration) rfl rfl rfl (by decide +kernel) ⟨Nat.le_of_ble_eq_true rfl, Nat.le_of_ble_eq_true rfl⟩) (preV (q0 := 6) (ci := 7) rfl xT_bl hP hK hNb hD rfl rfl xT_at) rfl rfl hl.1 rfl (lv_room (Nat.le_of_ble_eq_true rfl)) dX7_endRow_48 ⟨Nat.le_of_ble_eq_true rfl, Nat.le_of_ble_eq_true rfl⟩) hP hD hS hA (fun x3 τ4 H locs r_x3 hN hf hq hP hD hS => ?_)
        replace hw := hw x3 τ4 r_x3 hN hf hq
        have hF : f_r [7, 9, 12, 13, 14, 35] [9, 13, 19, 21, 22, 26, 27, 28, 29, 30, 31, 32] [2] σ τ4 := f_t hF hf (by decide) (by decide) (by decide)
        have hB := hN
        exact xri hx hb hr hlk hP hK hD hS ⟨_, _, r_x3, rfl, hN, hF, rfl, hw⟩ (Nat.le_of_ble_eq_true rfl) (Nat.le_of_ble_eq_true rfl) dX7_endRow_51
      ·
        have e9 : (σ.1 35) = 5 := ec1
        refine lv_tableIn (tgt := 52) hx hb dX7_endRow_4 (by rw [I_toInt rr.1 rr.2, e9]; decide) (by rw [I_toInt rr.1 rr.2, e9]; decide) (by rw [I_toInt rr.1 rr.2, e9]; rfl) (by decide) ?_
        replace hw := hw.2.2.2.1 e9
        refine lv_aload_n hx hb dX7_endRow_52 rfl (lv_at hl 0 rfl) ?_
        obtain ⟨Q5, hc, hw⟩ := hw
        refine wc_I (X := CX g q lb) (va_runV (As := []) (rest := []) ⟨hx, hb, hml, hown, hts⟩ (L_X7_endStatement l g q lb hlb  hN hc H.size) (cwV 0 hts (TB_V tw_1001 tw_1003 ts_7 tw_7 co_X7_endStatement) rfl rfl rfl (by decide +kernel) ⟨Nat.le_of_ble_eq_true rfl, Nat.le_of_ble_eq_true rfl⟩) (preV (q0 := 6) (ci := 7) rfl xT_bl hP hK hNb hD rfl rfl xT_at) rfl rfl hl.1 rfl (lv_room (Nat.le_of_ble_eq_true rfl)) dX7_endRow_53 ⟨Nat.le_of_ble_eq_true rfl, Nat.le_of_ble_eq_true rfl⟩) hP hD hS hA (fun x6 τ7 H locs r_x6 hN hf hq hP hD hS => ?_)
        replace hw := hw x6 τ7 r_x6 hN hf hq
        have hF : f_r [7, 9, 12, 13, 14, 35] [9, 13, 19, 21, 22, 26, 27, 28, 29, 30, 31, 32] [2] σ τ7 := f_t hF hf (by decide) (by decide) (by decide)
        have hB := hN
        exact xri hx hb hr hlk hP hK hD hS ⟨_, _, r_x6, rfl, hN, hF, rfl, hw⟩ (Nat.le_of_ble_eq_true rfl) (Nat.le_of_ble_eq_true rfl) dX7_endRow_56
      ·
        have e9 : (σ.1 35) = 6 := ec1
        refine lv_tableIn (tgt := 57) hx hb dX7_endRow_4 (by rw [I_toInt rr.1 rr.2, e9]; decide) (by rw [I_toInt rr.1 rr.2, e9]; decide) (by rw [I_toInt rr.1 rr.2, e9]; rfl) (by decide) ?_
        replace hw := hw.2.2.2.2 e9
        refine lv_aload_n hx hb dX7_endRow_57 rfl (lv_at hl 0 rfl) ?_
        obtain ⟨Q8, hc, hw⟩ := hw
        refine wc_I (X := CX g q lb) (va_runV (As := []) (rest := []) ⟨hx, hb, hml, hown, hts⟩ (L_X7_endProof l g q lb hlb  hN hc H.size) (cwV 0 hts (TB_V tw_1043 tw_1045 ts_11 tw_7 co_X7_endProof) rfl rfl rfl (by decide +kernel) ⟨Nat.le_of_ble_eq_true rfl, Nat.le_of_ble_eq_true rfl⟩) (preV (q0 := 6) (ci := 7) rfl xT_bl hP hK hNb hD rfl rfl xT_at) rfl rfl hl.1 rfl (lv_room (Nat.le_of_ble_eq_true rfl)) dX7_endRow_58 ⟨Nat.le_of_ble_eq_true rfl, Nat.le_of_ble_eq_true rfl⟩) hP hD hS hA (fun x9 τ10 H locs r_x9 hN hf hq hP hD hS => ?_)
        replace hw := hw x9 τ10 r_x9 hN hf hq
        have hF : f_r [7, 9, 12, 13, 14, 35] [9, 13, 19, 21, 22, 26, 27, 28, 29, 30, 31, 32] [2] σ τ10 := f_t hF hf (by decide) (by decide) (by decide)
        have hB := hN
        exact xri hx hb hr hlk hP hK hD hS ⟨_, _, r_x9, rfl, hN, hF, rfl, hw⟩ (Nat.le_of_ble_eq_true rfl) (Nat.le_of_ble_eq_true rfl) dX7_endRow_61
  ·
    intro τ hw
    refine (hP40 _).mpr ?_
    intro hN hF H locs ls hP hD hS hl
    have hB := hN
    refine lv_aload_n hx hb dX7_endRow_40 rfl (lv_at hl 0 rfl) ?_
    refine lv_iconst (v := I 1) hx hb dX7_endRow_41 rfl ?_
    obtain ⟨Q11, hc, hw⟩ := hw
    refine wc_I (X := CX g q lb) (va_runV (As := [.int (I 1)]) (rest := []) ⟨hx, hb, hml, hown, hts⟩ (L_X7_endDeclaration l g q lb hlb (by decide) hN hc H.size) (cwV 1 hts (TB_V tw_997 tw_999 ts_6 tw_7 co_X7_endDeclaration) rfl rfl rfl (by decide +kernel) ⟨Nat.le_of_ble_eq_true rfl, Nat.le_of_ble_eq_true rfl⟩) (preV (q0 := 6) (ci := 7) rfl xT_bl hP hK hNb hD rfl rfl xT_at) rfl rfl hl.1 rfl (lv_room (Nat.le_of_ble_eq_true rfl)) dX7_endRow_42 ⟨Nat.le_of_ble_eq_true rfl, Nat.le_of_ble_eq_true rfl⟩) hP hD hS hA (fun x12 τ13 H locs r_x12 hN hf hq hP hD hS => ?_)
    replace hw := hw x12 τ13 r_x12 hN hf hq
    have hF : f_r [7, 9, 12, 13, 14, 35] [9, 13, 19, 21, 22, 26, 27, 28, 29, 30, 31, 32] [2] σ τ13 := f_t hF hf (by decide) (by decide) (by decide)
    have hB := hN
    exact xri hx hb hr hlk hP hK hD hS ⟨_, _, r_x12, rfl, hN, hF, rfl, hw⟩ (Nat.le_of_ble_eq_true rfl) (Nat.le_of_ble_eq_true rfl) dX7_endRow_45
def W_X7_hasCommentMark (n1 : Int) (n2 : Int) (σ : S0) (Q : Int → Prop) : Prop :=
  ∀ (P2 : Int → Int → Int → Prop),
  (∀ (u1 : Int) (u2 : Int) (u3 : Int), (rg ((u1 + u2) - 1) ∧ (((u1 + u2) - 1) ≤ u3 → Q 0) ∧ (u3 < ((u1 + u2) - 1) → (¬ σ.1 66 = 0) ∧ ((0 ≤ u3 ∧ u3 < 60000) ∧ (∀ (x5 : Int), rg x5 → x5 = σ.2.1 0 u3 → ((¬ x5 = 36 → rg (u3 + 1) ∧ P2 u1 u2 (u3 + 1)) ∧ (x5 = 36 → (¬ σ.1 66 = 0) ∧ ((0 ≤ (u3 + 1) ∧ (u3 + 1) < 60000) ∧ (∀ (x10 : Int), rg x10 → x10 = σ.2.1 0 (u3 + 1) → ((x10 = 40 → Q 1) ∧ (¬ x10 = 40 → (¬ σ.1 66 = 0) ∧ (∀ (x13 : Int), rg x13 → x13 = σ.2.1 0 (u3 + 1) → ((¬ x13 = 41 → P2 u1 u2 (u3 + 1)) ∧ (x13 = 41 → Q 1))))))))))))) → P2 u1 u2 u3) →
  P2 n1 n2 n1
set_option maxRecDepth 100000 in
set_option maxHeartbeats 4000000 in
theorem L_X7_hasCommentMark (l : Launch) (g : gG) (q : Nat → Nat) (lb : Nat) (hlb : lb < 2 ^ 31) {n1 : Int} {n2 : Int} {σ : S0} {Q : Int → Prop} (r_n1 : rg n1) (r_n2 : rg n2) (hN : n_m σ) (hw : W_X7_hasCommentMark n1 n2 σ Q) (sz : Nat) : MetI l yX7_hasCommentMark cX7_hasCommentMark 4 (some .boolean) { frames := 0, cells := 0, slots := 0, locals := 0 } g [.ref (q 6), .int (I n1), .int (I n2)] (CX g q lb σ) sz xT (p_i (CX g q lb) σ Q) 0 0 := by
  refine mkMet (Qc := fun A => QI g A (p_i (CX g q lb) σ Q)) (by decide) (Nat.le_of_ble_eq_true rfl) ?_
  intro p e s m below meth c A H ls hx hb hr hml hown hts hlk hnm hsz hP hK hNb hD hA hAe hS hX hl
  have hl : lv_has ls 4 [(0, .ref (q 6)), (1, .int (I n1)), (2, .int (I n2))] := hl
  have hB := hN
  obtain ⟨locs, hlocs⟩ : ∃ z : List Loc, z = [] := ⟨_, rfl⟩
  rw [← hlocs] at hS ⊢
  obtain ⟨P2, hP2⟩ : ∃ P : Int → Int → Int → Prop, ∀ (u1 : Int) (u2 : Int) (u3 : Int), (P u1 u2 u3 ↔ (rg u1 → rg u2 → rg u3 → ∀ (H : Heap) (locs : List Loc) (ls : Array Slot), KP g (CX g q lb σ) H → va_D A (CX g q lb σ) → va_S A s.heap H locs → lv_has ls 4 [(0, .ref (q 6)), (1, .int (I u1)), (2, .int (I u2)), (3, .int (I u3))] → W p l e ({ frames := 0, cells := 0, slots := 0, locals := 0 }) s m [.ref (q 6), .int (I n1), .int (I n2)].toArray below meth c H locs 0 0 (MQ below (QI g A (p_i (CX g q lb) σ Q)) [.ref (q 6), .int (I n1), .int (I n2)].toArray s 0 0 A) (F0 m 2 ls []))) := ⟨_, fun _ _ _ => Iff.rfl⟩
  refine (fun hw => ?_) (hw P2 ?_)
  ·
    refine lv_iload_n hx hb dX7_hasCommentMark_0 rfl (lv_at hl 1 rfl) ?_
    refine lv_istore_n (lv' := [(3, .int (I n1)), (0, .ref (q 6)), (1, .int (I n1)), (2, .int (I n2))]) hx hb dX7_hasCommentMark_1 rfl hl (by decide) rfl (fun ls hl => ?_)
    exact (hP2 _ _ _).mp hw r_n1 r_n2 r_n1  H locs ls hP hD hS (lv_sub hl [1, 2, 3, 0] rfl)
  ·
    intro u1 u2 u3 hw
    refine (hP2 _ _ _).mpr ?_
    intro r_u1 r_u2 r_u3 H locs ls hP hD hS hl
    refine lv_iload_n hx hb dX7_hasCommentMark_2 rfl (lv_at hl 3 rfl) ?_
    refine lv_iload_n hx hb dX7_hasCommentMark_3 rfl (lv_at hl 1 rfl) ?_
    refine lv_iload_n hx hb dX7_hasCommentMark_4 rfl (lv_at hl 2 rfl) ?_
    refine bi_iadd hx hb dX7_hasCommentMark_5 ?_
    refine lv_iconst (v := I 1) hx hb dX7_hasCommentMark_6 rfl ?_
    refine bi_isub hx hb dX7_hasCommentMark_7 ?_
    obtain ⟨c1, hw⟩ := hw
    refine bi_icmp_ge (tgt := 56) hx hb r_u3 c1 dX7_hasCommentMark_8 (by decide) (fun c2 => ?_) (fun c2 => ?_)
    ·
      replace hw := hw.1 c2
      refine lv_iconst (v := I 0) hx hb dX7_hasCommentMark_56 rfl ?_
      exact xrz hx hb hr (by decide) hlk hP hK hD hS ⟨_, (by decide), rfl, rfl, hw⟩ (Nat.le_of_ble_eq_true rfl) (Nat.le_of_ble_eq_true rfl) dX7_hasCommentMark_57
    ·
      replace hw := hw.2 c2
      refine lv_aload_n hx hb dX7_hasCommentMark_11 rfl (lv_at hl 0 rfl) ?_
      obtain ⟨c3, hw⟩ := hw
      refine gfX7_source hx hb hts hK hP hown (hts _ tw_489) c3 dX7_hasCommentMark_12 ?_
      refine lv_iload_n hx hb dX7_hasCommentMark_15 rfl (lv_at hl 3 rfl) ?_
      obtain ⟨c4, hw⟩ := hw
      refine ldCX12_tape hx hb hK hP hN c4 dX7_hasCommentMark_16 (fun x5 r_x5 e_x5 => ?_)
      replace hw := hw x5 r_x5 e_x5
      refine lv_bipush (v := I 36) hx hb dX7_hasCommentMark_17 (by decide) ?_
      refine bi_icmp_ne (tgt := 50) hx hb r_x5 (by decide) dX7_hasCommentMark_19 (by decide) (fun c6 => ?_) (fun c6 => ?_)
      ·
        replace hw := hw.1 c6
        refine lv_iinc (v := I (u3 + 1)) (lv' := [(3, .int (I (u3 + 1))), (0, .ref (q 6)), (1, .int (I u1)), (2, .int (I u2))]) hx hb dX7_hasCommentMark_50 hl (k := 3) rfl (I_add _ _) (by decide) rfl (fun ls hl => ?_)
        refine lv_goto (tgt := 2) hx hb dX7_hasCommentMark_53 (by decide) ?_
        obtain ⟨c7, hw⟩ := hw
        exact (hP2 _ _ _).mp hw r_u1 r_u2 c7  H locs ls hP hD hS (lv_sub hl [1, 2, 3, 0] rfl)
      ·
        replace hw := hw.2 c6
        refine lv_aload_n hx hb dX7_hasCommentMark_22 rfl (lv_at hl 0 rfl) ?_
        obtain ⟨c8, hw⟩ := hw
        refine gfX7_source hx hb hts hK hP hown (hts _ tw_489) c8 dX7_hasCommentMark_23 ?_
        refine lv_iload_n hx hb dX7_hasCommentMark_26 rfl (lv_at hl 3 rfl) ?_
        refine lv_iconst (v := I 1) hx hb dX7_hasCommentMark_27 rfl ?_
        refine bi_iadd hx hb dX7_hasCommentMark_28 ?_
        obtain ⟨c9, hw⟩ := hw
        refine ldCX12_tape hx hb hK hP hN c9 dX7_hasCommentMark_29 (fun x10 r_x10 e_x10 => ?_)
        replace hw := hw x10 r_x10 e_x10
        refine lv_bipush (v := I 40) hx hb dX7_hasCommentMark_30 (by decide) ?_
        refine bi_icmp_eq (tgt := 48) hx hb r_x10 (by decide) dX7_hasCommentMark_32 (by decide) (fun c11 => ?_) (fun c11 => ?_)
        ·
          replace hw := hw.1 c11
          refine lv_iconst (v := I 1) hx hb dX7_hasCommentMark_48 rfl ?_
          exact xrz hx hb hr (by decide) hlk hP hK hD hS ⟨_, (by decide), rfl, rfl, hw⟩ (Nat.le_of_ble_eq_true rfl) (Nat.le_of_ble_eq_true rfl) dX7_hasCommentMark_49
        ·
          replace hw := hw.2 c11
          refine lv_aload_n hx hb dX7_hasCommentMark_35 rfl (lv_at hl 0 rfl) ?_
          obtain ⟨c12, hw⟩ := hw
          refine gfX7_source hx hb hts hK hP hown (hts _ tw_489) c12 dX7_hasCommentMark_36 ?_
          refine lv_iload_n hx hb dX7_hasCommentMark_39 rfl (lv_at hl 3 rfl) ?_
          refine lv_iconst (v := I 1) hx hb dX7_hasCommentMark_40 rfl ?_
          refine bi_iadd hx hb dX7_hasCommentMark_41 ?_
          refine ldCX12_tape hx hb hK hP hN c9 dX7_hasCommentMark_42 (fun x13 r_x13 e_x13 => ?_)
          replace hw := hw x13 r_x13 e_x13
          refine lv_bipush (v := I 41) hx hb dX7_hasCommentMark_43 (by decide) ?_
          refine bi_icmp_ne (tgt := 50) hx hb r_x13 (by decide) dX7_hasCommentMark_45 (by decide) (fun c14 => ?_) (fun c14 => ?_)
          ·
            replace hw := hw.1 c14
            refine lv_iinc (v := I (u3 + 1)) (lv' := [(3, .int (I (u3 + 1))), (0, .ref (q 6)), (1, .int (I u1)), (2, .int (I u2))]) hx hb dX7_hasCommentMark_50 hl (k := 3) rfl (I_add _ _) (by decide) rfl (fun ls hl => ?_)
            refine lv_goto (tgt := 2) hx hb dX7_hasCommentMark_53 (by decide) ?_
            exact (hP2 _ _ _).mp hw r_u1 r_u2 (rg_ix c9.1 c9.2 (by decide))  H locs ls hP hD hS (lv_sub hl [1, 2, 3, 0] rfl)
          ·
            replace hw := hw.2 c14
            refine lv_iconst (v := I 1) hx hb dX7_hasCommentMark_48 rfl ?_
            exact xrz hx hb hr (by decide) hlk hP hK hD hS ⟨_, (by decide), rfl, rfl, hw⟩ (Nat.le_of_ble_eq_true rfl) (Nat.le_of_ble_eq_true rfl) dX7_hasCommentMark_49
def W_X7_token (n1 : Int) (n2 : Int) (σ : S0) (Q : Int → S0 → Prop) : Prop :=
  ∀ (P21 : Int → Int → Int → S0 → Prop) (P38 : Int → Int → Int → Int → S0 → Prop) (P60 : Int → Int → Int → S0 → Prop),
  (∀ (u1 : Int) (u2 : Int) (k0 : Int) (τ : S0), ((k0 = 0 → P38 u1 u2 k0 0 τ) ∧ (¬ k0 = 0 → (¬ τ.1 66 = 0) ∧ ((0 ≤ (u1 + 1) ∧ (u1 + 1) < 60000) ∧ (∀ (x9 : Int), rg x9 → x9 = τ.2.1 0 (u1 + 1) → (P38 u1 u2 k0 x9 τ))))) → P21 u1 u2 k0 τ) →
  (∀ (u1 : Int) (u2 : Int) (u3 : Int) (k0 : Int) (τ : S0), ((τ.1 34 = 0 → (¬ k0 = 40 → (¬ k0 = 41 → (¬ k0 = 46 → (u3 = 0 → ∃ (Q15 : Int → Prop), W_X7_hasDollar u1 u2 τ Q15 ∧ ∀ (x16 : Int), rg x16 → Q15 x16 → ((x16 = 0 → (¬ τ.1 66 = 0) ∧ (∃ (Q20 : Int → Prop), W_X3_nameOf_q13 u1 u2 τ Q20 ∧ ∀ (x21 : Int), rg x21 → Q20 x21 → (∃ (Q23 : Int → Prop), W_X3_symbolOf x21 τ Q23 ∧ ∀ (x24 : Int), rg x24 → Q23 x24 → (∃ (Q26 : Int → Prop), W_X3_statementOf x21 (s_v τ 38 x24) Q26 ∧ ∀ (x27 : Int), rg x27 → Q26 x27 → ((τ.1 35 = 6 → (¬ τ.1 66 = 0) ∧ (∃ (Q31 : Int → S0 → Prop), W_X10_word_q13 u1 u2 x27 (s_v (s_v τ 38 x24) 39 x27) Q31 ∧ ∀ (x32 : Int) (τ33 : S0), rg x32 → n_m τ33 → f_r [21, 22, 23, 25, 26, 27, 28, 29] [49, 50, 51] [] (s_v (s_v τ 38 x24) 39 x27) τ33 → Q31 x32 τ33 → (Q x32 (s_v τ33 33 (τ33.1 29))))) ∧ (¬ τ.1 35 = 6 → ∃ (Q34 : Int → S0 → Prop), W_X7_word u1 u2 (s_v (s_v τ 38 x24) 39 x27) Q34 ∧ ∀ (x35 : Int) (τ36 : S0), rg x35 → n_m τ36 → f_r [3, 4, 5, 6, 8, 10, 35, 36] [2, 3, 4, 5, 6, 7, 8, 9, 10, 11, 12, 14, 15, 16, 18, 20, 23, 24, 54] [0] (s_v (s_v τ 38 x24) 39 x27) τ36 → Q34 x35 τ36 → (Q x35 τ36))))))) ∧ (¬ x16 = 0 → Q 3 τ))) ∧ (¬ u3 = 0 → ∃ (Q37 : Int → S0 → Prop), W_X7_keyword k0 τ Q37 ∧ ∀ (x38 : Int) (τ39 : S0), rg x38 → n_m τ39 → f_r [8, 9, 10, 11, 12, 13, 14, 21, 22, 23, 24, 25, 26, 27, 28, 35, 36, 37] [18, 19, 21, 25, 26, 27, 28, 29, 30, 31, 32] [0, 2] τ τ39 → Q37 x38 τ39 → (Q x38 τ39))) ∧ (k0 = 46 → ∃ (Q40 : Int → S0 → Prop), W_X7_endRow τ Q40 ∧ ∀ (x41 : Int) (τ42 : S0), rg x41 → n_m τ42 → f_r [7, 9, 12, 13, 14, 35] [9, 13, 19, 21, 22, 26, 27, 28, 29, 30, 31, 32] [2] τ τ42 → Q40 x41 τ42 → (Q x41 τ42))) ∧ (k0 = 41 → Q 2 τ)) ∧ (k0 = 40 → Q 0 (s_v τ 34 1))) ∧ (¬ τ.1 34 = 0 → (k0 = 41 → P60 u1 u2 0 τ) ∧ (¬ k0 = 41 → P60 u1 u2 1 τ))) → P38 u1 u2 u3 k0 τ) →
  (∀ (u1 : Int) (u2 : Int) (k1 : Int) (τ : S0), ((0 ≤ k1 ∧ k1 ≤ 1) ∧ ((k1 = 0 → Q 0 (s_v τ 34 k1)) ∧ (¬ k1 = 0 → ∃ (Q46 : Int → Prop), W_X7_hasCommentMark u1 u2 (s_v τ 34 k1) Q46 ∧ ∀ (x47 : Int), rg x47 → Q46 x47 → ((x47 = 0 → Q 0 (s_v τ 34 k1)) ∧ (¬ x47 = 0 → Q 2 (s_v τ 34 k1)))))) → P60 u1 u2 k1 τ) →
  (¬ n2 = 2 → P21 n1 n2 0 σ) ∧ (n2 = 2 → (¬ σ.1 66 = 0) ∧ ((0 ≤ n1 ∧ n1 < 60000) ∧ (∀ (x4 : Int), rg x4 → x4 = σ.2.1 0 n1 → ((¬ x4 = 36 → P21 n1 n2 0 σ) ∧ (x4 = 36 → P21 n1 n2 1 σ)))))
set_option maxRecDepth 100000 in
set_option maxHeartbeats 4000000 in
theorem L_X7_token (l : Launch) (g : gG) (q : Nat → Nat) (lb : Nat) (hlb : lb < 2 ^ 31) {n1 : Int} {n2 : Int} {σ : S0} {Q : Int → S0 → Prop} (r_n1 : rg n1) (r_n2 : rg n2) (hN : n_m σ) (hw : W_X7_token n1 n2 σ Q) (sz : Nat) : MetI l yX7_token cX7_token 7 (some .int) { frames := 5, cells := 0, slots := 0, locals := 120 } g [.ref (q 6), .int (I n1), .int (I n2)] (CX g q lb σ) sz xT (p_I (CX g q lb) [3, 4, 5, 6, 7, 8, 9, 10, 11, 12, 13, 14, 21, 22, 23, 24, 25, 26, 27, 28, 29, 33, 34, 35, 36, 37, 38, 39] [2, 3, 4, 5, 6, 7, 8, 9, 10, 11, 12, 13, 14, 15, 16, 18, 19, 20, 21, 22, 23, 24, 25, 26, 27, 28, 29, 30, 31, 32, 49, 50, 51, 54] [0, 2] σ Q) 0 0 := by
  refine mkMet (Qc := fun A => QI g A (p_I (CX g q lb) [3, 4, 5, 6, 7, 8, 9, 10, 11, 12, 13, 14, 21, 22, 23, 24, 25, 26, 27, 28, 29, 33, 34, 35, 36, 37, 38, 39] [2, 3, 4, 5, 6, 7, 8, 9, 10, 11, 12, 13, 14, 15, 16, 18, 19, 20, 21, 22, 23, 24, 25, 26, 27, 28, 29, 30, 31, 32, 49, 50, 51, 54] [0, 2] σ Q)) (by decide) (Nat.le_of_ble_eq_true rfl) ?_
  intro p e s m below meth c A H ls hx hb hr hml hown hts hlk hnm hsz hP hK hNb hD hA hAe hS hX hl
  have hl : lv_has ls 7 [(0, .ref (q 6)), (1, .int (I n1)), (2, .int (I n2))] := hl
  have hB := hN
  have hF : f_r [3, 4, 5, 6, 7, 8, 9, 10, 11, 12, 13, 14, 21, 22, 23, 24, 25, 26, 27, 28, 29, 33, 34, 35, 36, 37, 38, 39] [2, 3, 4, 5, 6, 7, 8, 9, 10, 11, 12, 13, 14, 15, 16, 18, 19, 20, 21, 22, 23, 24, 25, 26, 27, 28, 29, 30, 31, 32, 49, 50, 51, 54] [0, 2] σ σ := f_0
  obtain ⟨locs, hlocs⟩ : ∃ z : List Loc, z = [] := ⟨_, rfl⟩
  rw [← hlocs] at hS ⊢
  obtain ⟨P21, hP21⟩ : ∃ P : Int → Int → Int → S0 → Prop, ∀ (u1 : Int) (u2 : Int) (k0 : Int) (τ : S0), (P u1 u2 k0 τ ↔ (rg u1 → rg u2 → rg k0 → n_m τ → f_r [3, 4, 5, 6, 7, 8, 9, 10, 11, 12, 13, 14, 21, 22, 23, 24, 25, 26, 27, 28, 29, 33, 34, 35, 36, 37, 38, 39] [2, 3, 4, 5, 6, 7, 8, 9, 10, 11, 12, 13, 14, 15, 16, 18, 19, 20, 21, 22, 23, 24, 25, 26, 27, 28, 29, 30, 31, 32, 49, 50, 51, 54] [0, 2] σ τ → ∀ (H : Heap) (locs : List Loc) (ls : Array Slot), KP g (CX g q lb τ) H → va_D A (CX g q lb τ) → va_S A s.heap H locs → lv_has ls 7 [(0, .ref (q 6)), (1, .int (I u1)), (2, .int (I u2))] → W p l e ({ frames := 5, cells := 0, slots := 0, locals := 120 }) s m [.ref (q 6), .int (I n1), .int (I n2)].toArray below meth c H locs 0 0 (MQ below (QI g A (p_I (CX g q lb) [3, 4, 5, 6, 7, 8, 9, 10, 11, 12, 13, 14, 21, 22, 23, 24, 25, 26, 27, 28, 29, 33, 34, 35, 36, 37, 38, 39] [2, 3, 4, 5, 6, 7, 8, 9, 10, 11, 12, 13, 14, 15, 16, 18, 19, 20, 21, 22, 23, 24, 25, 26, 27, 28, 29, 30, 31, 32, 49, 50, 51, 54] [0, 2] σ Q)) [.ref (q 6), .int (I n1), .int (I n2)].toArray s 0 0 A) (F0 m 21 ls [.int (I k0)]))) := ⟨_, fun _ _ _ _ => Iff.rfl⟩
  obtain ⟨P38, hP38⟩ : ∃ P : Int → Int → Int → Int → S0 → Prop, ∀ (u1 : Int) (u2 : Int) (u3 : Int) (k0 : Int) (τ : S0), (P u1 u2 u3 k0 τ ↔ (rg u1 → rg u2 → rg u3 → rg k0 → n_m τ → f_r [3, 4, 5, 6, 7, 8, 9, 10, 11, 12, 13, 14, 21, 22, 23, 24, 25, 26, 27, 28, 29, 33, 34, 35, 36, 37, 38, 39] [2, 3, 4, 5, 6, 7, 8, 9, 10, 11, 12, 13, 14, 15, 16, 18, 19, 20, 21, 22, 23, 24, 25, 26, 27, 28, 29, 30, 31, 32, 49, 50, 51, 54] [0, 2] σ τ → ∀ (H : Heap) (locs : List Loc) (ls : Array Slot), KP g (CX g q lb τ) H → va_D A (CX g q lb τ) → va_S A s.heap H locs → lv_has ls 7 [(0, .ref (q 6)), (1, .int (I u1)), (2, .int (I u2)), (3, .int (I u3))] → W p l e ({ frames := 5, cells := 0, slots := 0, locals := 120 }) s m [.ref (q 6), .int (I n1), .int (I n2)].toArray below meth c H locs 0 0 (MQ below (QI g A (p_I (CX g q lb) [3, 4, 5, 6, 7, 8, 9, 10, 11, 12, 13, 14, 21, 22, 23, 24, 25, 26, 27, 28, 29, 33, 34, 35, 36, 37, 38, 39] [2, 3, 4, 5, 6, 7, 8, 9, 10, 11, 12, 13, 14, 15, 16, 18, 19, 20, 21, 22, 23, 24, 25, 26, 27, 28, 29, 30, 31, 32, 49, 50, 51, 54] [0, 2] σ Q)) [.ref (q 6), .int (I n1), .int (I n2)].toArray s 0 0 A) (F0 m 38 ls [.int (I k0)]))) := ⟨_, fun _ _ _ _ _ => Iff.rfl⟩
  obtain ⟨P60, hP60⟩ : ∃ P : Int → Int → Int → S0 → Prop, ∀ (u1 : Int) (u2 : Int) (k1 : Int) (τ : S0), (P u1 u2 k1 τ ↔ (rg u1 → rg u2 → rg k1 → n_m τ → f_r [3, 4, 5, 6, 7, 8, 9, 10, 11, 12, 13, 14, 21, 22, 23, 24, 25, 26, 27, 28, 29, 33, 34, 35, 36, 37, 38, 39] [2, 3, 4, 5, 6, 7, 8, 9, 10, 11, 12, 13, 14, 15, 16, 18, 19, 20, 21, 22, 23, 24, 25, 26, 27, 28, 29, 30, 31, 32, 49, 50, 51, 54] [0, 2] σ τ → ∀ (H : Heap) (locs : List Loc) (ls : Array Slot), KP g (CX g q lb τ) H → va_D A (CX g q lb τ) → va_S A s.heap H locs → lv_has ls 7 [(0, .ref (q 6)), (1, .int (I u1)), (2, .int (I u2))] → W p l e ({ frames := 5, cells := 0, slots := 0, locals := 120 }) s m [.ref (q 6), .int (I n1), .int (I n2)].toArray below meth c H locs 0 0 (MQ below (QI g A (p_I (CX g q lb) [3, 4, 5, 6, 7, 8, 9, 10, 11, 12, 13, 14, 21, 22, 23, 24, 25, 26, 27, 28, 29, 33, 34, 35, 36, 37, 38, 39] [2, 3, 4, 5, 6, 7, 8, 9, 10, 11, 12, 13, 14, 15, 16, 18, 19, 20, 21, 22, 23, 24, 25, 26, 27, 28, 29, 30, 31, 32, 49, 50, 51, 54] [0, 2] σ Q)) [.ref (q 6), .int (I n1), .int (I n2)].toArray s 0 0 A) (F0 m 60 ls [.int (I k1), .ref (q 6)]))) := ⟨_, fun _ _ _ _ => Iff.rfl⟩
  refine (fun hw => ?_) (hw P21 P38 P60 ?_ ?_ ?_)
  ·
    refine lv_iload_n hx hb dX7_token_0 rfl (lv_at hl 2 rfl) ?_
    refine lv_iconst (v := I 2) hx hb dX7_token_1 rfl ?_
    refine bi_icmp_ne (tgt := 20) hx hb r_n2 (by decide) dX7_token_2 (by decide) (fun c1 => ?_) (fun c1 => ?_)
    ·
      replace hw := hw.1 c1
      refine lv_iconst (v := I 0) hx hb dX7_token_20 rfl ?_
      exact (hP21 _ _ _ _).mp hw r_n1 r_n2 (by decide) hN hF H locs ls hP hD hS (lv_sub hl [0, 1, 2] rfl)
    ·
      replace hw := hw.2 c1
      refine lv_aload_n hx hb dX7_token_5 rfl (lv_at hl 0 rfl) ?_
      obtain ⟨c2, hw⟩ := hw
      refine gfX7_source hx hb hts hK hP hown (hts _ tw_489) c2 dX7_token_6 ?_
      refine lv_iload_n hx hb dX7_token_9 rfl (lv_at hl 1 rfl) ?_
      obtain ⟨c3, hw⟩ := hw
      refine ldCX12_tape hx hb hK hP hN c3 dX7_token_10 (fun x4 r_x4 e_x4 => ?_)
      replace hw := hw x4 r_x4 e_x4
      refine lv_bipush (v := I 36) hx hb dX7_token_11 (by decide) ?_
      refine bi_icmp_ne (tgt := 20) hx hb r_x4 (by decide) dX7_token_13 (by decide) (fun c5 => ?_) (fun c5 => ?_)
      ·
        replace hw := hw.1 c5
        refine lv_iconst (v := I 0) hx hb dX7_token_20 rfl ?_
        exact (hP21 _ _ _ _).mp hw r_n1 r_n2 (by decide) hN hF H locs ls hP hD hS (lv_sub hl [0, 1, 2] rfl)
      ·
        replace hw := hw.2 c5
        refine lv_iconst (v := I 1) hx hb dX7_token_16 rfl ?_
        refine lv_goto (tgt := 21) hx hb dX7_token_17 (by decide) ?_
        exact (hP21 _ _ _ _).mp hw r_n1 r_n2 (by decide) hN hF H locs ls hP hD hS (lv_sub hl [0, 1, 2] rfl)
  ·
    intro u1 u2 k0 τ hw
    refine (hP21 _ _ _ _).mpr ?_
    intro r_u1 r_u2 r_k0 hN hF H locs ls hP hD hS hl
    have hB := hN
    refine lv_istore_n (lv' := [(3, .int (I k0)), (0, .ref (q 6)), (1, .int (I u1)), (2, .int (I u2))]) hx hb dX7_token_21 rfl hl (by decide) rfl (fun ls hl => ?_)
    refine lv_iload_n hx hb dX7_token_22 rfl (lv_at hl 0 rfl) ?_
    refine bi_if_eq (tgt := 37) hx hb r_k0 dX7_token_23 (by decide) (fun c6 => ?_) (fun c6 => ?_)
    ·
      replace hw := hw.1 c6
      refine lv_iconst (v := I 0) hx hb dX7_token_37 rfl ?_
      exact (hP38 _ _ _ _ _).mp hw r_u1 r_u2 r_k0 (by decide) hN hF H locs ls hP hD hS (lv_sub hl [1, 2, 3, 0] rfl)
    ·
      replace hw := hw.2 c6
      refine lv_aload_n hx hb dX7_token_26 rfl (lv_at hl 1 rfl) ?_
      obtain ⟨c7, hw⟩ := hw
      refine gfX7_source hx hb hts hK hP hown (hts _ tw_489) c7 dX7_token_27 ?_
      refine lv_iload_n hx hb dX7_token_30 rfl (lv_at hl 2 rfl) ?_
      refine lv_iconst (v := I 1) hx hb dX7_token_31 rfl ?_
      refine bi_iadd hx hb dX7_token_32 ?_
      obtain ⟨c8, hw⟩ := hw
      refine ldCX12_tape hx hb hK hP hN c8 dX7_token_33 (fun x9 r_x9 e_x9 => ?_)
      replace hw := hw x9 r_x9 e_x9
      refine lv_goto (tgt := 38) hx hb dX7_token_34 (by decide) ?_
      exact (hP38 _ _ _ _ _).mp hw r_u1 r_u2 r_k0 r_x9 hN hF H locs ls hP hD hS (lv_sub hl [1, 2, 3, 0] rfl)
  ·
    intro u1 u2 u3 k0 τ hw
    refine (hP38 _ _ _ _ _).mpr ?_
    intro r_u1 r_u2 r_u3 r_k0 hN hF H locs ls hP hD hS hl
    have hB := hN
    refine lv_istore (lv' := [(4, .int (I k0)), (0, .ref (q 6)), (1, .int (I u1)), (2, .int (I u2)), (3, .int (I u3))]) hx hb dX7_token_38 hl (by decide) rfl (fun ls hl => ?_)
    refine lv_aload_n hx hb dX7_token_40 rfl (lv_at hl 1 rfl) ?_
    refine gfX7_comment hx hb hts hK hP hown (hts _ tw_492) (x := τ.1 34) rfl dX7_token_41 ?_
    refine bi_if_eq (tgt := 85) hx hb (hB.1 34) dX7_token_44 (by decide) (fun c10 => ?_) (fun c10 => ?_)
    ·
      replace hw := hw.1 c10
      refine lv_iload hx hb dX7_token_85 (lv_at hl 0 rfl) ?_
      refine lv_bipush (v := I 40) hx hb dX7_token_87 (by decide) ?_
      refine bi_icmp_ne (tgt := 99) hx hb r_k0 (by decide) dX7_token_89 (by decide) (fun c11 => ?_) (fun c11 => ?_)
      ·
        replace hw := hw.1 c11
        refine lv_iload hx hb dX7_token_99 (lv_at hl 0 rfl) ?_
        refine lv_bipush (v := I 41) hx hb dX7_token_101 (by decide) ?_
        refine bi_icmp_ne (tgt := 108) hx hb r_k0 (by decide) dX7_token_103 (by decide) (fun c12 => ?_) (fun c12 => ?_)
        ·
          replace hw := hw.1 c12
          refine lv_iload hx hb dX7_token_108 (lv_at hl 0 rfl) ?_
          refine lv_bipush (v := I 46) hx hb dX7_token_110 (by decide) ?_
          refine bi_icmp_ne (tgt := 120) hx hb r_k0 (by decide) dX7_token_112 (by decide) (fun c13 => ?_) (fun c13 => ?_)
          ·
            replace hw := hw.1 c13
            refine lv_iload_n hx hb dX7_token_120 rfl (lv_at hl 4 rfl) ?_
            refine bi_if_eq (tgt := 131) hx hb r_u3 dX7_token_121 (by decide) (fun c14 => ?_) (fun c14 => ?_)
            ·
              replace hw := hw.1 c14
              refine lv_aload_n hx hb dX7_token_131 rfl (lv_at hl 1 rfl) ?_
              refine lv_iload_n hx hb dX7_token_132 rfl (lv_at hl 2 rfl) ?_
              refine lv_iload_n hx hb dX7_token_133 rfl (lv_at hl 3 rfl) ?_
              obtain ⟨Q15, hc, hw⟩ := hw
              refine wc_i (X := CX g q lb) (va_runV (As := [.int (I u1), .int (I u2)]) (rest := []) ⟨hx, hb, hml, hown, hts⟩ (L_X7_hasDollar l g q lb hlb r_u1 r_u2 hN hc H.size) (cwV 2 hts (TB_V tw_1099 tw_1101 ts_20 tw_7 co_X7_hasDollar) rfl rfl rfl (by decide +kernel) ⟨Nat.le_of_ble_eq_true rfl, Nat.le_of_ble_eq_true rfl⟩) (preV (q0 := 6) (ci := 7) rfl xT_bl hP hK hNb hD rfl rfl xT_at) rfl rfl hl.1 rfl (lv_room (Nat.le_of_ble_eq_true rfl)) dX7_token_134 ⟨Nat.le_of_ble_eq_true rfl, Nat.le_of_ble_eq_true rfl⟩) hP hD hS hA (fun x16 H locs r_x16 hq hP hD hS => ?_)
              replace hw := hw x16 r_x16 hq
              refine bi_if_eq (tgt := 142) hx hb r_x16 dX7_token_137 (by decide) (fun c18 => ?_) (fun c18 => ?_)
              ·
                replace hw := hw.1 c18
                refine lv_aload_n hx hb dX7_token_142 rfl (lv_at hl 1 rfl) ?_
                refine gfX7_library hx hb hts hK hP hown (hts _ tw_484) dX7_token_143 ?_
                refine lv_aload_n hx hb dX7_token_146 rfl (lv_at hl 1 rfl) ?_
                obtain ⟨c19, hw⟩ := hw
                refine gfX7_source hx hb hts hK hP hown (hts _ tw_489) c19 dX7_token_147 ?_
                refine lv_iload_n hx hb dX7_token_150 rfl (lv_at hl 2 rfl) ?_
                refine lv_iload_n hx hb dX7_token_151 rfl (lv_at hl 3 rfl) ?_
                obtain ⟨Q20, hc, hw⟩ := hw
                refine wc_i (X := CX g q lb) (va_runV (As := [.ref (q 13), .int (I u1), .int (I u2)]) (rest := []) ⟨hx, hb, hml, hown, hts⟩ (L_X3_nameOf_q13 l g q lb hlb r_u1 r_u2 hN hc H.size) (cwV 3 hts (TB_V tw_1103 tw_1104 tw_1105 tw_2 co_X3_nameOf) rfl rfl rfl (by decide +kernel) ⟨Nat.le_of_ble_eq_true rfl, Nat.le_of_ble_eq_true rfl⟩) (preV (q0 := 1) (ci := 3) rfl xT_bl hP hK hNb hD rfl rfl xT_at) rfl rfl hl.1 rfl (lv_room (Nat.le_of_ble_eq_true rfl)) dX7_token_152 ⟨Nat.le_of_ble_eq_true rfl, Nat.le_of_ble_eq_true rfl⟩) hP hD hS hA (fun x21 H locs r_x21 hq hP hD hS => ?_)
                replace hw := hw x21 r_x21 hq
                refine lv_istore (lv' := [(5, .int (I x21)), (4, .int (I k0)), (0, .ref (q 6)), (1, .int (I u1)), (2, .int (I u2)), (3, .int (I u3))]) hx hb dX7_token_155 hl (by decide) rfl (fun ls hl => ?_)
                refine lv_aload_n hx hb dX7_token_157 rfl (lv_at hl 2 rfl) ?_
                refine lv_aload_n hx hb dX7_token_158 rfl (lv_at hl 2 rfl) ?_
                refine gfX7_library hx hb hts hK hP hown (hts _ tw_484) dX7_token_159 ?_
                refine lv_iload hx hb dX7_token_162 (lv_at hl 0 rfl) ?_
                obtain ⟨Q23, hc, hw⟩ := hw
                refine wc_i (X := CX g q lb) (va_runV (As := [.int (I x21)]) (rest := [.ref (q 6)]) ⟨hx, hb, hml, hown, hts⟩ (L_X3_symbolOf l g q lb hlb r_x21 hN hc H.size) (cwV 1 hts (TB_V tw_1114 tw_1115 tw_1116 tw_2 co_X3_symbolOf) rfl rfl rfl (by decide +kernel) ⟨Nat.le_of_ble_eq_true rfl, Nat.le_of_ble_eq_true rfl⟩) (preV (q0 := 1) (ci := 3) rfl xT_bl hP hK hNb hD rfl rfl xT_at) rfl rfl hl.1 rfl (lv_room (Nat.le_of_ble_eq_true rfl)) dX7_token_164 ⟨Nat.le_of_ble_eq_true rfl, Nat.le_of_ble_eq_true rfl⟩) hP hD hS hA (fun x24 H locs r_x24 hq hP hD hS => ?_)
                replace hw := hw x24 r_x24 hq
                refine pfX7_namedSymbol hx hb hts hK hP hD hS hown (hts _ tw_496) dX7_token_167 (fun H locs hP hD hS => ?_)
                have hN : n_m (s_v τ 38 x24) := n_v (i := 38) hN (r_x24 : rg x24)
                have hF : f_r [3, 4, 5, 6, 7, 8, 9, 10, 11, 12, 13, 14, 21, 22, 23, 24, 25, 26, 27, 28, 29, 33, 34, 35, 36, 37, 38, 39] [2, 3, 4, 5, 6, 7, 8, 9, 10, 11, 12, 13, 14, 15, 16, 18, 19, 20, 21, 22, 23, 24, 25, 26, 27, 28, 29, 30, 31, 32, 49, 50, 51, 54] [0, 2] σ (s_v τ 38 x24) := f_v hF (by decide)
                refine lv_aload_n hx hb dX7_token_170 rfl (lv_at hl 2 rfl) ?_
                refine lv_aload_n hx hb dX7_token_171 rfl (lv_at hl 2 rfl) ?_
                refine gfX7_library hx hb hts hK hP hown (hts _ tw_484) dX7_token_172 ?_
                refine lv_iload hx hb dX7_token_175 (lv_at hl 0 rfl) ?_
                obtain ⟨Q26, hc, hw⟩ := hw
                refine wc_i (X := CX g q lb) (va_runV (As := [.int (I x21)]) (rest := [.ref (q 6)]) ⟨hx, hb, hml, hown, hts⟩ (L_X3_statementOf l g q lb hlb r_x21 hN hc H.size) (cwV 1 hts (TB_V tw_1121 tw_1122 tw_1123 tw_2 co_X3_statementOf) rfl rfl rfl (by decide +kernel) ⟨Nat.le_of_ble_eq_true rfl, Nat.le_of_ble_eq_true rfl⟩) (preV (q0 := 1) (ci := 3) rfl xT_bl hP hK hNb hD rfl rfl xT_at) rfl rfl hl.1 rfl (lv_room (Nat.le_of_ble_eq_true rfl)) dX7_token_177 ⟨Nat.le_of_ble_eq_true rfl, Nat.le_of_ble_eq_true rfl⟩) hP hD hS hA (fun x27 H locs r_x27 hq hP hD hS => ?_)
                replace hw := hw x27 r_x27 hq
                refine pfX7_namedStatement hx hb hts hK hP hD hS hown (hts _ tw_497) dX7_token_180 (fun H locs hP hD hS => ?_)
                have hN : n_m (s_v (s_v τ 38 x24) 39 x27) := n_v (i := 39) hN (r_x27 : rg x27)
                have hF : f_r [3, 4, 5, 6, 7, 8, 9, 10, 11, 12, 13, 14, 21, 22, 23, 24, 25, 26, 27, 28, 29, 33, 34, 35, 36, 37, 38, 39] [2, 3, 4, 5, 6, 7, 8, 9, 10, 11, 12, 13, 14, 15, 16, 18, 19, 20, 21, 22, 23, 24, 25, 26, 27, 28, 29, 30, 31, 32, 49, 50, 51, 54] [0, 2] σ (s_v (s_v τ 38 x24) 39 x27) := f_v hF (by decide)
                refine lv_aload_n hx hb dX7_token_183 rfl (lv_at hl 2 rfl) ?_
                refine gfX7_state hx hb hts hK hP hown (hts _ tw_493) (x := τ.1 35) rfl dX7_token_184 ?_
                refine lv_bipush (v := I 6) hx hb dX7_token_187 (by decide) ?_
                refine bi_icmp_eq (tgt := 199) hx hb (hB.1 35) (by decide) dX7_token_189 (by decide) (fun c29 => ?_) (fun c29 => ?_)
                ·
                  replace hw := hw.1 c29
                  refine lv_aload_n hx hb dX7_token_199 rfl (lv_at hl 2 rfl) ?_
                  refine gfX7_steps hx hb hts hK hP hown (hts _ tw_487) dX7_token_200 ?_
                  refine lv_aload_n hx hb dX7_token_203 rfl (lv_at hl 2 rfl) ?_
                  obtain ⟨c30, hw⟩ := hw
                  refine gfX7_source hx hb hts hK hP hown (hts _ tw_489) c30 dX7_token_204 ?_
                  refine lv_iload_n hx hb dX7_token_207 rfl (lv_at hl 3 rfl) ?_
                  refine lv_iload_n hx hb dX7_token_208 rfl (lv_at hl 4 rfl) ?_
                  refine lv_aload_n hx hb dX7_token_209 rfl (lv_at hl 2 rfl) ?_
                  refine gfX7_namedStatement hx hb hts hK hP hown (hts _ tw_497) (x := x27) rfl dX7_token_210 ?_
                  obtain ⟨Q31, hc, hw⟩ := hw
                  refine wc_I (X := CX g q lb) (va_runV (As := [.ref (q 13), .int (I u1), .int (I u2), .int (I x27)]) (rest := []) ⟨hx, hb, hml, hown, hts⟩ (L_X10_word_q13 l g q lb hlb r_u1 r_u2 r_x27 hN hc H.size) (cwV 4 hts (TB_V tw_1211 tw_1212 tw_1213 tw_8 co_X10_word) rfl rfl rfl (by decide +kernel) ⟨Nat.le_of_ble_eq_true rfl, Nat.le_of_ble_eq_true rfl⟩) (preV (q0 := 5) (ci := 10) rfl xT_bl hP hK hNb hD rfl rfl xT_at) rfl rfl hl.1 rfl (lv_room (Nat.le_of_ble_eq_true rfl)) dX7_token_213 ⟨Nat.le_of_ble_eq_true rfl, Nat.le_of_ble_eq_true rfl⟩) hP hD hS hA (fun x32 τ33 H locs r_x32 hN hf hq hP hD hS => ?_)
                  replace hw := hw x32 τ33 r_x32 hN hf hq
                  have hF : f_r [3, 4, 5, 6, 7, 8, 9, 10, 11, 12, 13, 14, 21, 22, 23, 24, 25, 26, 27, 28, 29, 33, 34, 35, 36, 37, 38, 39] [2, 3, 4, 5, 6, 7, 8, 9, 10, 11, 12, 13, 14, 15, 16, 18, 19, 20, 21, 22, 23, 24, 25, 26, 27, 28, 29, 30, 31, 32, 49, 50, 51, 54] [0, 2] σ τ33 := f_t hF hf (by decide) (by decide) (by decide)
                  have hB := hN
                  refine lv_istore (lv' := [(6, .int (I x32)), (5, .int (I x21)), (4, .int (I k0)), (0, .ref (q 6)), (1, .int (I u1)), (2, .int (I u2)), (3, .int (I u3))]) hx hb dX7_token_216 hl (by decide) rfl (fun ls hl => ?_)
                  refine lv_aload_n hx hb dX7_token_218 rfl (lv_at hl 3 rfl) ?_
                  refine lv_aload_n hx hb dX7_token_219 rfl (lv_at hl 3 rfl) ?_
                  refine gfX7_steps hx hb hts hK hP hown (hts _ tw_487) dX7_token_220 ?_
                  refine gfNX10_place hx hb hts hK hP hown (nb_use hNb tn_430) (x := τ33.1 29) rfl dX7_token_223 ?_
                  refine pfX7_place hx hb hts hK hP hD hS hown (hts _ tw_490) dX7_token_226 (fun H locs hP hD hS => ?_)
                  have hN : n_m (s_v τ33 33 (τ33.1 29)) := n_v (i := 33) hN ((hB.1 29) : rg (τ33.1 29))
                  have hF : f_r [3, 4, 5, 6, 7, 8, 9, 10, 11, 12, 13, 14, 21, 22, 23, 24, 25, 26, 27, 28, 29, 33, 34, 35, 36, 37, 38, 39] [2, 3, 4, 5, 6, 7, 8, 9, 10, 11, 12, 13, 14, 15, 16, 18, 19, 20, 21, 22, 23, 24, 25, 26, 27, 28, 29, 30, 31, 32, 49, 50, 51, 54] [0, 2] σ (s_v τ33 33 (τ33.1 29)) := f_v hF (by decide)
                  refine lv_iload hx hb dX7_token_229 (lv_at hl 0 rfl) ?_
                  exact xri hx hb hr hlk hP hK hD hS ⟨_, _, r_x32, rfl, hN, hF, rfl, hw⟩ (Nat.le_of_ble_eq_true rfl) (Nat.le_of_ble_eq_true rfl) dX7_token_231
                ·
                  replace hw := hw.2 c29
                  refine lv_aload_n hx hb dX7_token_192 rfl (lv_at hl 2 rfl) ?_
                  refine lv_iload_n hx hb dX7_token_193 rfl (lv_at hl 3 rfl) ?_
                  refine lv_iload_n hx hb dX7_token_194 rfl (lv_at hl 4 rfl) ?_
                  obtain ⟨Q34, hc, hw⟩ := hw
                  refine wc_I (X := CX g q lb) (va_runV (As := [.int (I u1), .int (I u2)]) (rest := []) ⟨hx, hb, hml, hown, hts⟩ (L_X7_word l g q lb hlb r_u1 r_u2 hN hc H.size) (cwV 2 hts (TB_V tw_1125 tw_1127 ts_22 tw_7 co_X7_word) rfl rfl rfl (by decide +kernel) ⟨Nat.le_of_ble_eq_true rfl, Nat.le_of_ble_eq_true rfl⟩) (preV (q0 := 6) (ci := 7) rfl xT_bl hP hK hNb hD rfl rfl xT_at) rfl rfl hl.1 rfl (lv_room (Nat.le_of_ble_eq_true rfl)) dX7_token_195 ⟨Nat.le_of_ble_eq_true rfl, Nat.le_of_ble_eq_true rfl⟩) hP hD hS hA (fun x35 τ36 H locs r_x35 hN hf hq hP hD hS => ?_)
                  replace hw := hw x35 τ36 r_x35 hN hf hq
                  have hF : f_r [3, 4, 5, 6, 7, 8, 9, 10, 11, 12, 13, 14, 21, 22, 23, 24, 25, 26, 27, 28, 29, 33, 34, 35, 36, 37, 38, 39] [2, 3, 4, 5, 6, 7, 8, 9, 10, 11, 12, 13, 14, 15, 16, 18, 19, 20, 21, 22, 23, 24, 25, 26, 27, 28, 29, 30, 31, 32, 49, 50, 51, 54] [0, 2] σ τ36 := f_t hF hf (by decide) (by decide) (by decide)
                  have hB := hN
                  exact xri hx hb hr hlk hP hK hD hS ⟨_, _, r_x35, rfl, hN, hF, rfl, hw⟩ (Nat.le_of_ble_eq_true rfl) (Nat.le_of_ble_eq_true rfl) dX7_token_198
              ·
                replace hw := hw.2 c18
                refine lv_iconst (v := I 3) hx hb dX7_token_140 rfl ?_
                exact xri hx hb hr hlk hP hK hD hS ⟨_, _, (by decide), rfl, hN, hF, rfl, hw⟩ (Nat.le_of_ble_eq_true rfl) (Nat.le_of_ble_eq_true rfl) dX7_token_141
            ·
              replace hw := hw.2 c14
              refine lv_aload_n hx hb dX7_token_124 rfl (lv_at hl 1 rfl) ?_
              refine lv_iload hx hb dX7_token_125 (lv_at hl 0 rfl) ?_
              obtain ⟨Q37, hc, hw⟩ := hw
              refine wc_I (X := CX g q lb) (va_runV (As := [.int (I k0)]) (rest := []) ⟨hx, hb, hml, hown, hts⟩ (L_X7_keyword l g q lb hlb r_k0 hN hc H.size) (cwV 1 hts (TB_V tw_1055 tw_1057 ts_12 tw_7 co_X7_keyword) rfl rfl rfl (by decide +kernel) ⟨Nat.le_of_ble_eq_true rfl, Nat.le_of_ble_eq_true rfl⟩) (preV (q0 := 6) (ci := 7) rfl xT_bl hP hK hNb hD rfl rfl xT_at) rfl rfl hl.1 rfl (lv_room (Nat.le_of_ble_eq_true rfl)) dX7_token_127 ⟨Nat.le_of_ble_eq_true rfl, Nat.le_of_ble_eq_true rfl⟩) hP hD hS hA (fun x38 τ39 H locs r_x38 hN hf hq hP hD hS => ?_)
              replace hw := hw x38 τ39 r_x38 hN hf hq
              have hF : f_r [3, 4, 5, 6, 7, 8, 9, 10, 11, 12, 13, 14, 21, 22, 23, 24, 25, 26, 27, 28, 29, 33, 34, 35, 36, 37, 38, 39] [2, 3, 4, 5, 6, 7, 8, 9, 10, 11, 12, 13, 14, 15, 16, 18, 19, 20, 21, 22, 23, 24, 25, 26, 27, 28, 29, 30, 31, 32, 49, 50, 51, 54] [0, 2] σ τ39 := f_t hF hf (by decide) (by decide) (by decide)
              have hB := hN
              exact xri hx hb hr hlk hP hK hD hS ⟨_, _, r_x38, rfl, hN, hF, rfl, hw⟩ (Nat.le_of_ble_eq_true rfl) (Nat.le_of_ble_eq_true rfl) dX7_token_130
          ·
            replace hw := hw.2 c13
            refine lv_aload_n hx hb dX7_token_115 rfl (lv_at hl 1 rfl) ?_
            obtain ⟨Q40, hc, hw⟩ := hw
            refine wc_I (X := CX g q lb) (va_runV (As := []) (rest := []) ⟨hx, hb, hml, hown, hts⟩ (L_X7_endRow l g q lb hlb  hN hc H.size) (cwV 0 hts (TB_V tw_993 tw_995 ts_5 tw_7 co_X7_endRow) rfl rfl rfl (by decide +kernel) ⟨Nat.le_of_ble_eq_true rfl, Nat.le_of_ble_eq_true rfl⟩) (preV (q0 := 6) (ci := 7) rfl xT_bl hP hK hNb hD rfl rfl xT_at) rfl rfl hl.1 rfl (lv_room (Nat.le_of_ble_eq_true rfl)) dX7_token_116 ⟨Nat.le_of_ble_eq_true rfl, Nat.le_of_ble_eq_true rfl⟩) hP hD hS hA (fun x41 τ42 H locs r_x41 hN hf hq hP hD hS => ?_)
            replace hw := hw x41 τ42 r_x41 hN hf hq
            have hF : f_r [3, 4, 5, 6, 7, 8, 9, 10, 11, 12, 13, 14, 21, 22, 23, 24, 25, 26, 27, 28, 29, 33, 34, 35, 36, 37, 38, 39] [2, 3, 4, 5, 6, 7, 8, 9, 10, 11, 12, 13, 14, 15, 16, 18, 19, 20, 21, 22, 23, 24, 25, 26, 27, 28, 29, 30, 31, 32, 49, 50, 51, 54] [0, 2] σ τ42 := f_t hF hf (by decide) (by decide) (by decide)
            have hB := hN
            exact xri hx hb hr hlk hP hK hD hS ⟨_, _, r_x41, rfl, hN, hF, rfl, hw⟩ (Nat.le_of_ble_eq_true rfl) (Nat.le_of_ble_eq_true rfl) dX7_token_119
        ·
          replace hw := hw.2 c12
          refine lv_iconst (v := I 2) hx hb dX7_token_106 rfl ?_
          exact xri hx hb hr hlk hP hK hD hS ⟨_, _, (by decide), rfl, hN, hF, rfl, hw⟩ (Nat.le_of_ble_eq_true rfl) (Nat.le_of_ble_eq_true rfl) dX7_token_107
      ·
        replace hw := hw.2 c11
        refine lv_aload_n hx hb dX7_token_92 rfl (lv_at hl 1 rfl) ?_
        refine lv_iconst (v := I 1) hx hb dX7_token_93 rfl ?_
        refine pfX7_comment hx hb hts hK hP hD hS hown (hts _ tw_492) (by decide)  dX7_token_94 (fun H locs hP hD hS => ?_)
        have hN : n_m (s_v τ 34 1) := n_v (i := 34) hN ((by decide) : rg 1)
        have hF : f_r [3, 4, 5, 6, 7, 8, 9, 10, 11, 12, 13, 14, 21, 22, 23, 24, 25, 26, 27, 28, 29, 33, 34, 35, 36, 37, 38, 39] [2, 3, 4, 5, 6, 7, 8, 9, 10, 11, 12, 13, 14, 15, 16, 18, 19, 20, 21, 22, 23, 24, 25, 26, 27, 28, 29, 30, 31, 32, 49, 50, 51, 54] [0, 2] σ (s_v τ 34 1) := f_v hF (by decide)
        refine lv_iconst (v := I 0) hx hb dX7_token_97 rfl ?_
        exact xri hx hb hr hlk hP hK hD hS ⟨_, _, (by decide), rfl, hN, hF, rfl, hw⟩ (Nat.le_of_ble_eq_true rfl) (Nat.le_of_ble_eq_true rfl) dX7_token_98
    ·
      replace hw := hw.2 c10
      refine lv_aload_n hx hb dX7_token_47 rfl (lv_at hl 1 rfl) ?_
      refine lv_iload hx hb dX7_token_48 (lv_at hl 0 rfl) ?_
      refine lv_bipush (v := I 41) hx hb dX7_token_50 (by decide) ?_
      refine bi_icmp_eq (tgt := 59) hx hb r_k0 (by decide) dX7_token_52 (by decide) (fun c43 => ?_) (fun c43 => ?_)
      ·
        replace hw := hw.1 c43
        refine lv_iconst (v := I 0) hx hb dX7_token_59 rfl ?_
        exact (hP60 _ _ _ _).mp hw r_u1 r_u2 (by decide) hN hF H locs ls hP hD hS (lv_sub hl [1, 2, 3] rfl)
      ·
        replace hw := hw.2 c43
        refine lv_iconst (v := I 1) hx hb dX7_token_55 rfl ?_
        refine lv_goto (tgt := 60) hx hb dX7_token_56 (by decide) ?_
        exact (hP60 _ _ _ _).mp hw r_u1 r_u2 (by decide) hN hF H locs ls hP hD hS (lv_sub hl [1, 2, 3] rfl)
  ·
    intro u1 u2 k1 τ hw
    refine (hP60 _ _ _ _).mpr ?_
    intro r_u1 r_u2 r_k1 hN hF H locs ls hP hD hS hl
    have hB := hN
    obtain ⟨c44, hw⟩ := hw
    refine pfX7_comment hx hb hts hK hP hD hS hown (hts _ tw_492) c44 dX7_token_60 (fun H locs hP hD hS => ?_)
    have hN : n_m (s_v τ 34 k1) := n_v (i := 34) hN (r_k1 : rg k1)
    have hF : f_r [3, 4, 5, 6, 7, 8, 9, 10, 11, 12, 13, 14, 21, 22, 23, 24, 25, 26, 27, 28, 29, 33, 34, 35, 36, 37, 38, 39] [2, 3, 4, 5, 6, 7, 8, 9, 10, 11, 12, 13, 14, 15, 16, 18, 19, 20, 21, 22, 23, 24, 25, 26, 27, 28, 29, 30, 31, 32, 49, 50, 51, 54] [0, 2] σ (s_v τ 34 k1) := f_v hF (by decide)
    refine lv_aload_n hx hb dX7_token_63 rfl (lv_at hl 0 rfl) ?_
    refine gfX7_comment hx hb hts hK hP hown (hts _ tw_492) (x := k1) rfl dX7_token_64 ?_
    refine bi_if_eq (tgt := 83) hx hb r_k1 dX7_token_67 (by decide) (fun c45 => ?_) (fun c45 => ?_)
    ·
      replace hw := hw.1 c45
      refine lv_iconst (v := I 0) hx hb dX7_token_83 rfl ?_
      exact xri hx hb hr hlk hP hK hD hS ⟨_, _, (by decide), rfl, hN, hF, rfl, hw⟩ (Nat.le_of_ble_eq_true rfl) (Nat.le_of_ble_eq_true rfl) dX7_token_84
    ·
      replace hw := hw.2 c45
      refine lv_aload_n hx hb dX7_token_70 rfl (lv_at hl 0 rfl) ?_
      refine lv_iload_n hx hb dX7_token_71 rfl (lv_at hl 1 rfl) ?_
      refine lv_iload_n hx hb dX7_token_72 rfl (lv_at hl 2 rfl) ?_
      obtain ⟨Q46, hc, hw⟩ := hw
      refine wc_i (X := CX g q lb) (va_runV (As := [.int (I u1), .int (I u2)]) (rest := []) ⟨hx, hb, hml, hown, hts⟩ (L_X7_hasCommentMark l g q lb hlb r_u1 r_u2 hN hc H.size) (cwV 2 hts (TB_V tw_989 tw_991 ts_4 tw_7 co_X7_hasCommentMark) rfl rfl rfl (by decide +kernel) ⟨Nat.le_of_ble_eq_true rfl, Nat.le_of_ble_eq_true rfl⟩) (preV (q0 := 6) (ci := 7) rfl xT_bl hP hK hNb hD rfl rfl xT_at) rfl rfl hl.1 rfl (lv_room (Nat.le_of_ble_eq_true rfl)) dX7_token_73 ⟨Nat.le_of_ble_eq_true rfl, Nat.le_of_ble_eq_true rfl⟩) hP hD hS hA (fun x47 H locs r_x47 hq hP hD hS => ?_)
      replace hw := hw x47 r_x47 hq
      refine bi_if_eq (tgt := 83) hx hb r_x47 dX7_token_76 (by decide) (fun c49 => ?_) (fun c49 => ?_)
      ·
        replace hw := hw.1 c49
        refine lv_iconst (v := I 0) hx hb dX7_token_83 rfl ?_
        exact xri hx hb hr hlk hP hK hD hS ⟨_, _, (by decide), rfl, hN, hF, rfl, hw⟩ (Nat.le_of_ble_eq_true rfl) (Nat.le_of_ble_eq_true rfl) dX7_token_84
      ·
        replace hw := hw.2 c49
        refine lv_iconst (v := I 2) hx hb dX7_token_79 rfl ?_
        refine lv_goto (tgt := 84) hx hb dX7_token_80 (by decide) ?_
        exact xri hx hb hr hlk hP hK hD hS ⟨_, _, (by decide), rfl, hN, hF, rfl, hw⟩ (Nat.le_of_ble_eq_true rfl) (Nat.le_of_ble_eq_true rfl) dX7_token_84
def W_X10_putAgain (n1 : Int) (σ : S0) (Q : Int → S0 → Prop) : Prop :=
  (0 ≤ n1 ∧ n1 < 20000) ∧ (∀ (x2 : Int), rg x2 → x2 = σ.2.1 41 n1 → (rg (σ.1 31 + x2) ∧ (σ.1 30 = 200 → Q 5 (s_v σ 31 (σ.1 31 + x2))) ∧ (¬ σ.1 30 = 200 → ((σ.1 31 + x2) ≤ 40000 → (0 ≤ σ.1 30 ∧ σ.1 30 < 200) ∧ (rg (σ.1 30 + 1) ∧ Q 0 (s_v (s_a (s_v σ 31 (σ.1 31 + x2)) 52 (σ.1 30) n1) 30 (σ.1 30 + 1)))) ∧ (40000 < (σ.1 31 + x2) → Q 5 (s_v σ 31 (σ.1 31 + x2))))))
set_option maxRecDepth 100000 in
set_option maxHeartbeats 4000000 in
theorem L_X10_putAgain (l : Launch) (g : gG) (q : Nat → Nat) (lb : Nat) (hlb : lb < 2 ^ 31) {n1 : Int} {σ : S0} {Q : Int → S0 → Prop} (r_n1 : rg n1) (hN : n_m σ) (hw : W_X10_putAgain n1 σ Q) (sz : Nat) : MetI l yX10_putAgain cX10_putAgain 2 (some .int) { frames := 0, cells := 0, slots := 0, locals := 0 } g [.ref (q 5), .int (I n1)] (CX g q lb σ) sz xT (p_I (CX g q lb) [30, 31] [52] [] σ Q) 0 0 := by
  refine mkMet (Qc := fun A => QI g A (p_I (CX g q lb) [30, 31] [52] [] σ Q)) (by decide) (Nat.le_of_ble_eq_true rfl) ?_
  intro p e s m below meth c A H ls hx hb hr hml hown hts hlk hnm hsz hP hK hNb hD hA hAe hS hX hl
  have hl : lv_has ls 2 [(0, .ref (q 5)), (1, .int (I n1))] := hl
  have hB := hN
  have hF : f_r [30, 31] [52] [] σ σ := f_0
  obtain ⟨locs, hlocs⟩ : ∃ z : List Loc, z = [] := ⟨_, rfl⟩
  rw [← hlocs] at hS ⊢
  refine lv_aload_n hx hb dX10_putAgain_0 rfl (lv_at hl 0 rfl) ?_
  refine lv_dup hx hb dX10_putAgain_1 rfl ?_
  refine gfX10_symbols hx hb hts hK hP hown (hts _ tw_435) (x := σ.1 31) rfl dX10_putAgain_2 ?_
  refine lv_aload_n hx hb dX10_putAgain_5 rfl (lv_at hl 0 rfl) ?_
  refine gfX10_pile hx hb hts hK hP hown (hts _ tw_417) dX10_putAgain_6 ?_
  refine gfNX6_size hx hb hts hK hP hown (nb_use hNb tn_358) dX10_putAgain_9 ?_
  refine lv_iload_n hx hb dX10_putAgain_12 rfl (lv_at hl 1 rfl) ?_
  obtain ⟨c1, hw⟩ := hw
  refine ldCX6_size hx hb hK hP hN c1 dX10_putAgain_13 (fun x2 r_x2 e_x2 => ?_)
  replace hw := hw x2 r_x2 e_x2
  refine bi_iadd hx hb dX10_putAgain_14 ?_
  obtain ⟨c3, hw⟩ := hw
  refine pfX10_symbols hx hb hts hK hP hD hS hown (hts _ tw_435) dX10_putAgain_15 (fun H locs hP hD hS => ?_)
  have hN : n_m (s_v σ 31 (σ.1 31 + x2)) := n_v (i := 31) hN (c3 : rg (σ.1 31 + x2))
  have hF : f_r [30, 31] [52] [] σ (s_v σ 31 (σ.1 31 + x2)) := f_v hF (by decide)
  refine lv_aload_n hx hb dX10_putAgain_18 rfl (lv_at hl 0 rfl) ?_
  refine gfX10_pileRows hx hb hts hK hP hown (hts _ tw_433) (x := σ.1 30) rfl dX10_putAgain_19 ?_
  refine lv_sipush (v := I 200) hx hb dX10_putAgain_22 (by decide) ?_
  refine bi_icmp_eq (tgt := 37) hx hb (hB.1 30) (by decide) dX10_putAgain_25 (by decide) (fun c4 => ?_) (fun c4 => ?_)
  ·
    replace hw := hw.1 c4
    refine lv_iconst (v := I 5) hx hb dX10_putAgain_37 rfl ?_
    exact xri hx hb hr hlk hP hK hD hS ⟨_, _, (by decide), rfl, hN, hF, rfl, hw⟩ (Nat.le_of_ble_eq_true rfl) (Nat.le_of_ble_eq_true rfl) dX10_putAgain_38
  ·
    replace hw := hw.2 c4
    refine lv_aload_n hx hb dX10_putAgain_28 rfl (lv_at hl 0 rfl) ?_
    refine gfX10_symbols hx hb hts hK hP hown (hts _ tw_435) (x := (σ.1 31 + x2)) rfl dX10_putAgain_29 ?_
    refine lv_ldc (own := RX10) (v := 40000) hx hb hown (hts _ tw_1281) dX10_putAgain_32 ?_
    refine xtop (y := I 40000) (by decide) ?_
    refine bi_icmp_le (tgt := 39) hx hb c3 (by decide) dX10_putAgain_34 (by decide) (fun c5 => ?_) (fun c5 => ?_)
    ·
      replace hw := hw.1 c5
      refine lv_aload_n hx hb dX10_putAgain_39 rfl (lv_at hl 0 rfl) ?_
      refine gfX10_pileRow hx hb hts hK hP hown (hts _ tw_432) dX10_putAgain_40 ?_
      refine lv_aload_n hx hb dX10_putAgain_43 rfl (lv_at hl 0 rfl) ?_
      refine gfX10_pileRows hx hb hts hK hP hown (hts _ tw_433) (x := σ.1 30) rfl dX10_putAgain_44 ?_
      refine lv_iload_n hx hb dX10_putAgain_47 rfl (lv_at hl 1 rfl) ?_
      obtain ⟨c6, hw⟩ := hw
      refine sdCX10_pileRow hx hb hK hP hD hS c6 dX10_putAgain_48 (fun H locs hP hD hS => ?_)
      have hN : n_m (s_a (s_v σ 31 (σ.1 31 + x2)) 52 (σ.1 30) n1) := n_a (k := 52) (j := σ.1 30) hN (r_n1 : rg n1)
      have hF : f_r [30, 31] [52] [] σ (s_a (s_v σ 31 (σ.1 31 + x2)) 52 (σ.1 30) n1) := f_a hF (by decide)
      refine lv_aload_n hx hb dX10_putAgain_49 rfl (lv_at hl 0 rfl) ?_
      refine lv_dup hx hb dX10_putAgain_50 rfl ?_
      refine gfX10_pileRows hx hb hts hK hP hown (hts _ tw_433) (x := σ.1 30) rfl dX10_putAgain_51 ?_
      refine lv_iconst (v := I 1) hx hb dX10_putAgain_54 rfl ?_
      refine bi_iadd hx hb dX10_putAgain_55 ?_
      obtain ⟨c7, hw⟩ := hw
      refine pfX10_pileRows hx hb hts hK hP hD hS hown (hts _ tw_433) dX10_putAgain_56 (fun H locs hP hD hS => ?_)
      have hN : n_m (s_v (s_a (s_v σ 31 (σ.1 31 + x2)) 52 (σ.1 30) n1) 30 (σ.1 30 + 1)) := n_v (i := 30) hN (c7 : rg (σ.1 30 + 1))
      have hF : f_r [30, 31] [52] [] σ (s_v (s_a (s_v σ 31 (σ.1 31 + x2)) 52 (σ.1 30) n1) 30 (σ.1 30 + 1)) := f_v hF (by decide)
      refine lv_iconst (v := I 0) hx hb dX10_putAgain_59 rfl ?_
      exact xri hx hb hr hlk hP hK hD hS ⟨_, _, (by decide), rfl, hN, hF, rfl, hw⟩ (Nat.le_of_ble_eq_true rfl) (Nat.le_of_ble_eq_true rfl) dX10_putAgain_60
    ·
      replace hw := hw.2 c5
      refine lv_iconst (v := I 5) hx hb dX10_putAgain_37 rfl ?_
      exact xri hx hb hr hlk hP hK hD hS ⟨_, _, (by decide), rfl, hN, hF, rfl, hw⟩ (Nat.le_of_ble_eq_true rfl) (Nat.le_of_ble_eq_true rfl) dX10_putAgain_38
def W_X10_putNew (n1 : Int) (σ : S0) (Q : Int → S0 → Prop) : Prop :=
  ∃ (Q1 : Int → S0 → Prop), W_X6_put (σ.1 32) n1 σ Q1 ∧ ∀ (x2 : Int) (τ3 : S0), rg x2 → n_m τ3 → f_r [17, 18] [39, 40, 41, 42] [] σ τ3 → Q1 x2 τ3 → ((¬ x2 = 0 → rg (τ3.1 32 + 1) ∧ rg (σ.1 32) ∧ ∃ (Q7 : Int → S0 → Prop), W_X10_putAgain (σ.1 32) (s_v τ3 32 (τ3.1 32 + 1)) Q7 ∧ ∀ (x8 : Int) (τ9 : S0), rg x8 → n_m τ9 → f_r [30, 31] [52] [] (s_v τ3 32 (τ3.1 32 + 1)) τ9 → Q7 x8 τ9 → ((¬ x8 = 0 → Q x8 τ9) ∧ (x8 = 0 → (¬ n1 = 0 → (0 ≤ τ9.1 23 ∧ τ9.1 23 < 300) ∧ (rg (τ9.1 23 + 1) ∧ (0 ≤ σ.1 32 ∧ σ.1 32 < 20000) ∧ (∀ (x15 : Int), rg x15 → x15 = τ9.2.1 41 (σ.1 32) → (rg (τ9.1 31 + x15) ∧ ((τ9.1 31 + x15) ≤ 40000 → Q 0 (s_v (s_v (s_a τ9 53 (τ9.1 23) (σ.1 32)) 23 (τ9.1 23 + 1)) 31 (τ9.1 31 + x15))) ∧ (40000 < (τ9.1 31 + x15) → Q 5 (s_v (s_v (s_a τ9 53 (τ9.1 23) (σ.1 32)) 23 (τ9.1 23 + 1)) 31 (τ9.1 31 + x15))))))) ∧ (n1 = 0 → Q x8 τ9)))) ∧ (x2 = 0 → Q 5 τ3))
set_option maxRecDepth 100000 in
set_option maxHeartbeats 4000000 in
theorem L_X10_putNew (l : Launch) (g : gG) (q : Nat → Nat) (lb : Nat) (hlb : lb < 2 ^ 31) {n1 : Int} {σ : S0} {Q : Int → S0 → Prop} (r_n1 : rg n1) (hN : n_m σ) (hw : W_X10_putNew n1 σ Q) (sz : Nat) : MetI l yX10_putNew cX10_putNew 4 (some .int) { frames := 2, cells := 0, slots := 0, locals := 97 } g [.ref (q 5), .int (I n1)] (CX g q lb σ) sz xT (p_I (CX g q lb) [17, 18, 23, 30, 31, 32] [39, 40, 41, 42, 52, 53] [] σ Q) 0 0 := by
  refine mkMet (Qc := fun A => QI g A (p_I (CX g q lb) [17, 18, 23, 30, 31, 32] [39, 40, 41, 42, 52, 53] [] σ Q)) (by decide) (Nat.le_of_ble_eq_true rfl) ?_
  intro p e s m below meth c A H ls hx hb hr hml hown hts hlk hnm hsz hP hK hNb hD hA hAe hS hX hl
  have hl : lv_has ls 4 [(0, .ref (q 5)), (1, .int (I n1))] := hl
  have hB := hN
  have hF : f_r [17, 18, 23, 30, 31, 32] [39, 40, 41, 42, 52, 53] [] σ σ := f_0
  obtain ⟨locs, hlocs⟩ : ∃ z : List Loc, z = [] := ⟨_, rfl⟩
  rw [← hlocs] at hS ⊢
  refine lv_aload_n hx hb dX10_putNew_0 rfl (lv_at hl 0 rfl) ?_
  refine gfX10_rows hx hb hts hK hP hown (hts _ tw_436) (x := σ.1 32) rfl dX10_putNew_1 ?_
  refine lv_istore_n (lv' := [(2, .int (I (σ.1 32))), (0, .ref (q 5)), (1, .int (I n1))]) hx hb dX10_putNew_4 rfl hl (by decide) rfl (fun ls hl => ?_)
  refine lv_aload_n hx hb dX10_putNew_5 rfl (lv_at hl 1 rfl) ?_
  refine gfX10_pile hx hb hts hK hP hown (hts _ tw_417) dX10_putNew_6 ?_
  refine lv_iload_n hx hb dX10_putNew_9 rfl (lv_at hl 0 rfl) ?_
  refine lv_iload_n hx hb dX10_putNew_10 rfl (lv_at hl 2 rfl) ?_
  obtain ⟨Q1, hc, hw⟩ := hw
  refine wc_I (X := CX g q lb) (va_runV (As := [.int (I (σ.1 32)), .int (I n1)]) (rest := []) ⟨hx, hb, hml, hown, hts⟩ (L_X6_put l g q lb hlb (hB.1 32) r_n1 hN hc H.size) (cwV 2 hts (TB_V tw_1345 tw_1346 tw_1347 tw_6 co_X6_put) rfl rfl rfl (by decide +kernel) ⟨Nat.le_of_ble_eq_true rfl, Nat.le_of_ble_eq_true rfl⟩) (preV (q0 := 4) (ci := 6) rfl xT_bl hP hK hNb hD rfl rfl xT_at) rfl rfl hl.1 rfl (lv_room (Nat.le_of_ble_eq_true rfl)) dX10_putNew_11 ⟨Nat.le_of_ble_eq_true rfl, Nat.le_of_ble_eq_true rfl⟩) hP hD hS hA (fun x2 τ3 H locs r_x2 hN hf hq hP hD hS => ?_)
  replace hw := hw x2 τ3 r_x2 hN hf hq
  have hF : f_r [17, 18, 23, 30, 31, 32] [39, 40, 41, 42, 52, 53] [] σ τ3 := f_t hF hf (by decide) (by decide) (by decide)
  have hB := hN
  refine bi_if_ne (tgt := 19) hx hb r_x2 dX10_putNew_14 (by decide) (fun c4 => ?_) (fun c4 => ?_)
  ·
    replace hw := hw.1 c4
    refine lv_aload_n hx hb dX10_putNew_19 rfl (lv_at hl 1 rfl) ?_
    refine lv_dup hx hb dX10_putNew_20 rfl ?_
    refine gfX10_rows hx hb hts hK hP hown (hts _ tw_436) (x := τ3.1 32) rfl dX10_putNew_21 ?_
    refine lv_iconst (v := I 1) hx hb dX10_putNew_24 rfl ?_
    refine bi_iadd hx hb dX10_putNew_25 ?_
    obtain ⟨c5, hw⟩ := hw
    refine pfX10_rows hx hb hts hK hP hD hS hown (hts _ tw_436) dX10_putNew_26 (fun H locs hP hD hS => ?_)
    have hN : n_m (s_v τ3 32 (τ3.1 32 + 1)) := n_v (i := 32) hN (c5 : rg (τ3.1 32 + 1))
    have hF : f_r [17, 18, 23, 30, 31, 32] [39, 40, 41, 42, 52, 53] [] σ (s_v τ3 32 (τ3.1 32 + 1)) := f_v hF (by decide)
    refine lv_aload_n hx hb dX10_putNew_29 rfl (lv_at hl 1 rfl) ?_
    refine lv_iload_n hx hb dX10_putNew_30 rfl (lv_at hl 0 rfl) ?_
    obtain ⟨c6, hw⟩ := hw
    obtain ⟨Q7, hc, hw⟩ := hw
    refine wc_I (X := CX g q lb) (va_runV (As := [.int (I (σ.1 32))]) (rest := []) ⟨hx, hb, hml, hown, hts⟩ (L_X10_putAgain l g q lb hlb c6 hN hc H.size) (cwV 1 hts (TB_V tw_1277 tw_1279 ts_43 tw_8 co_X10_putAgain) rfl rfl rfl (by decide +kernel) ⟨Nat.le_of_ble_eq_true rfl, Nat.le_of_ble_eq_true rfl⟩) (preV (q0 := 5) (ci := 10) rfl xT_bl hP hK hNb hD rfl rfl xT_at) rfl rfl hl.1 rfl (lv_room (Nat.le_of_ble_eq_true rfl)) dX10_putNew_31 ⟨Nat.le_of_ble_eq_true rfl, Nat.le_of_ble_eq_true rfl⟩) hP hD hS hA (fun x8 τ9 H locs r_x8 hN hf hq hP hD hS => ?_)
    replace hw := hw x8 τ9 r_x8 hN hf hq
    have hF : f_r [17, 18, 23, 30, 31, 32] [39, 40, 41, 42, 52, 53] [] σ τ9 := f_t hF hf (by decide) (by decide) (by decide)
    have hB := hN
    refine lv_istore_n (lv' := [(3, .int (I x8)), (2, .int (I (σ.1 32))), (0, .ref (q 5)), (1, .int (I n1))]) hx hb dX10_putNew_34 rfl hl (by decide) rfl (fun ls hl => ?_)
    refine lv_iload_n hx hb dX10_putNew_35 rfl (lv_at hl 0 rfl) ?_
    refine bi_if_ne (tgt := 43) hx hb r_x8 dX10_putNew_36 (by decide) (fun c10 => ?_) (fun c10 => ?_)
    ·
      replace hw := hw.1 c10
      refine lv_iload_n hx hb dX10_putNew_43 rfl (lv_at hl 0 rfl) ?_
      exact xri hx hb hr hlk hP hK hD hS ⟨_, _, r_x8, rfl, hN, hF, rfl, hw⟩ (Nat.le_of_ble_eq_true rfl) (Nat.le_of_ble_eq_true rfl) dX10_putNew_44
    ·
      replace hw := hw.2 c10
      refine lv_iload_n hx hb dX10_putNew_39 rfl (lv_at hl 3 rfl) ?_
      refine bi_if_ne (tgt := 45) hx hb r_n1 dX10_putNew_40 (by decide) (fun c11 => ?_) (fun c11 => ?_)
      ·
        replace hw := hw.1 c11
        refine lv_aload_n hx hb dX10_putNew_45 rfl (lv_at hl 2 rfl) ?_
        refine gfX10_savedRow hx hb hts hK hP hown (hts _ tw_434) dX10_putNew_46 ?_
        refine lv_aload_n hx hb dX10_putNew_49 rfl (lv_at hl 2 rfl) ?_
        refine gfX10_savedCount hx hb hts hK hP hown (hts _ tw_423) (x := τ9.1 23) rfl dX10_putNew_50 ?_
        refine lv_iload_n hx hb dX10_putNew_53 rfl (lv_at hl 1 rfl) ?_
        obtain ⟨c12, hw⟩ := hw
        refine sdCX10_savedRow hx hb hK hP hD hS c12 dX10_putNew_54 (fun H locs hP hD hS => ?_)
        have hN : n_m (s_a τ9 53 (τ9.1 23) (σ.1 32)) := n_a (k := 53) (j := τ9.1 23) hN (c6 : rg (σ.1 32))
        have hF : f_r [17, 18, 23, 30, 31, 32] [39, 40, 41, 42, 52, 53] [] σ (s_a τ9 53 (τ9.1 23) (σ.1 32)) := f_a hF (by decide)
        refine lv_aload_n hx hb dX10_putNew_55 rfl (lv_at hl 2 rfl) ?_
        refine lv_dup hx hb dX10_putNew_56 rfl ?_
        refine gfX10_savedCount hx hb hts hK hP hown (hts _ tw_423) (x := τ9.1 23) rfl dX10_putNew_57 ?_
        refine lv_iconst (v := I 1) hx hb dX10_putNew_60 rfl ?_
        refine bi_iadd hx hb dX10_putNew_61 ?_
        obtain ⟨c13, hw⟩ := hw
        refine pfX10_savedCount hx hb hts hK hP hD hS hown (hts _ tw_423) dX10_putNew_62 (fun H locs hP hD hS => ?_)
        have hN : n_m (s_v (s_a τ9 53 (τ9.1 23) (σ.1 32)) 23 (τ9.1 23 + 1)) := n_v (i := 23) hN (c13 : rg (τ9.1 23 + 1))
        have hF : f_r [17, 18, 23, 30, 31, 32] [39, 40, 41, 42, 52, 53] [] σ (s_v (s_a τ9 53 (τ9.1 23) (σ.1 32)) 23 (τ9.1 23 + 1)) := f_v hF (by decide)
        refine lv_aload_n hx hb dX10_putNew_65 rfl (lv_at hl 2 rfl) ?_
        refine lv_dup hx hb dX10_putNew_66 rfl ?_
        refine gfX10_symbols hx hb hts hK hP hown (hts _ tw_435) (x := τ9.1 31) rfl dX10_putNew_67 ?_
        refine lv_aload_n hx hb dX10_putNew_70 rfl (lv_at hl 2 rfl) ?_
        refine gfX10_pile hx hb hts hK hP hown (hts _ tw_417) dX10_putNew_71 ?_
        refine gfNX6_size hx hb hts hK hP hown (nb_use hNb tn_358) dX10_putNew_74 ?_
        refine lv_iload_n hx hb dX10_putNew_77 rfl (lv_at hl 1 rfl) ?_
        obtain ⟨c14, hw⟩ := hw
        refine ldCX6_size hx hb hK hP hN c14 dX10_putNew_78 (fun x15 r_x15 e_x15 => ?_)
        replace hw := hw x15 r_x15 e_x15
        refine bi_iadd hx hb dX10_putNew_79 ?_
        obtain ⟨c16, hw⟩ := hw
        refine pfX10_symbols hx hb hts hK hP hD hS hown (hts _ tw_435) dX10_putNew_80 (fun H locs hP hD hS => ?_)
        have hN : n_m (s_v (s_v (s_a τ9 53 (τ9.1 23) (σ.1 32)) 23 (τ9.1 23 + 1)) 31 (τ9.1 31 + x15)) := n_v (i := 31) hN (c16 : rg (τ9.1 31 + x15))
        have hF : f_r [17, 18, 23, 30, 31, 32] [39, 40, 41, 42, 52, 53] [] σ (s_v (s_v (s_a τ9 53 (τ9.1 23) (σ.1 32)) 23 (τ9.1 23 + 1)) 31 (τ9.1 31 + x15)) := f_v hF (by decide)
        refine lv_aload_n hx hb dX10_putNew_83 rfl (lv_at hl 2 rfl) ?_
        refine gfX10_symbols hx hb hts hK hP hown (hts _ tw_435) (x := (τ9.1 31 + x15)) rfl dX10_putNew_84 ?_
        refine lv_ldc (own := RX10) (v := 40000) hx hb hown (hts _ tw_1281) dX10_putNew_87 ?_
        refine xtop (y := I 40000) (by decide) ?_
        refine bi_icmp_le (tgt := 96) hx hb c16 (by decide) dX10_putNew_89 (by decide) (fun c17 => ?_) (fun c17 => ?_)
        ·
          replace hw := hw.1 c17
          refine lv_iconst (v := I 0) hx hb dX10_putNew_96 rfl ?_
          exact xri hx hb hr hlk hP hK hD hS ⟨_, _, (by decide), rfl, hN, hF, rfl, hw⟩ (Nat.le_of_ble_eq_true rfl) (Nat.le_of_ble_eq_true rfl) dX10_putNew_97
        ·
          replace hw := hw.2 c17
          refine lv_iconst (v := I 5) hx hb dX10_putNew_92 rfl ?_
          refine lv_goto (tgt := 97) hx hb dX10_putNew_93 (by decide) ?_
          exact xri hx hb hr hlk hP hK hD hS ⟨_, _, (by decide), rfl, hN, hF, rfl, hw⟩ (Nat.le_of_ble_eq_true rfl) (Nat.le_of_ble_eq_true rfl) dX10_putNew_97
      ·
        replace hw := hw.2 c11
        refine lv_iload_n hx hb dX10_putNew_43 rfl (lv_at hl 0 rfl) ?_
        exact xri hx hb hr hlk hP hK hD hS ⟨_, _, r_x8, rfl, hN, hF, rfl, hw⟩ (Nat.le_of_ble_eq_true rfl) (Nat.le_of_ble_eq_true rfl) dX10_putNew_44
  ·
    replace hw := hw.2 c4
    refine lv_iconst (v := I 5) hx hb dX10_putNew_17 rfl ?_
    exact xri hx hb hr hlk hP hK hD hS ⟨_, _, (by decide), rfl, hN, hF, rfl, hw⟩ (Nat.le_of_ble_eq_true rfl) (Nat.le_of_ble_eq_true rfl) dX10_putNew_18
def W_X10_take (n1 : Int) (σ : S0) (Q : Int → S0 → Prop) : Prop :=
  ∀ (P82 : Int → Int → Int → Int → Int → Int → S0 → Prop) (P166 : Int → Int → Int → Int → Int → S0 → Prop) (P195 : Int → Int → Int → Int → Int → S0 → Prop) (P271 : Int → S0 → Prop),
  (∀ (u1 : Int) (u2 : Int) (u3 : Int) (u4 : Int) (u5 : Int) (u6 : Int) (τ : S0), ((u5 ≤ u6 → ∃ (Q12 : Int → S0 → Prop), W_X6_bind u2 u4 τ Q12 ∧ ∀ (x13 : Int) (τ14 : S0), rg x13 → n_m τ14 → f_r [] [44, 45] [] τ τ14 → Q12 x13 τ14 → ((¬ x13 = 0 → ∃ (Q16 : Int → S0 → Prop), W_X6_keepsApart u2 τ14 Q16 ∧ ∀ (x17 : Int) (τ18 : S0), rg x17 → n_m τ18 → f_r [20] [46, 47, 48] [] τ14 τ18 → Q16 x17 τ18 → ((¬ x17 = 0 → ∃ (Q20 : Int → S0 → Prop), W_X6_build u2 τ18 Q20 ∧ ∀ (x21 : Int) (τ22 : S0), rg x21 → n_m τ22 → f_r [19] [43] [] τ18 τ22 → Q20 x21 τ22 → ((¬ x21 = 0 → P166 u1 u2 u3 u4 u5 τ22) ∧ (x21 = 0 → Q 5 τ22))) ∧ (x17 = 0 → Q 17 τ18))) ∧ (x13 = 0 → Q 16 τ14))) ∧ (u6 < u5 → (0 ≤ ((τ.1 30 - u5) + u6) ∧ ((τ.1 30 - u5) + u6) < 200) ∧ (∀ (x25 : Int), rg x25 → x25 = τ.2.1 52 ((τ.1 30 - u5) + u6) → ((0 ≤ (u4 + u6) ∧ (u4 + u6) < 20000) ∧ (rg (u6 + 1) ∧ P82 u1 u2 u3 u4 u5 (u6 + 1) (s_a τ 37 (u4 + u6) x25)))))) → P82 u1 u2 u3 u4 u5 u6 τ) →
  (∀ (u1 : Int) (u2 : Int) (u3 : Int) (u4 : Int) (u5 : Int) (τ : S0), ((0 ≤ u3 ∧ u3 < 20000) ∧ ((0 ≤ (u3 + 1) ∧ (u3 + 1) < 20001) ∧ (rg (u4 + u5) ∧ P195 u1 u2 u4 u5 0 (s_a (s_a τ 35 u3 u2) 36 (u3 + 1) (u4 + u5))))) → P166 u1 u2 u3 u4 u5 τ) →
  (∀ (u1 : Int) (u2 : Int) (u4 : Int) (u5 : Int) (u6 : Int) (τ : S0), ((u5 ≤ u6 → rg (τ.1 30 - u5) ∧ ∃ (Q33 : S0 → Prop), W_X6_drop u4 u5 (s_v τ 30 (τ.1 30 - u5)) Q33 ∧ ∀ (τ35 : S0), n_m τ35 → f_r [17] [] [] (s_v τ 30 (τ.1 30 - u5)) τ35 → Q33 τ35 → ((u1 = u2 → P271 0 τ35) ∧ (¬ u1 = u2 → P271 1 τ35))) ∧ (u6 < u5 → (0 ≤ (u4 + u6) ∧ (u4 + u6) < 20000) ∧ (∀ (x38 : Int), rg x38 → x38 = τ.2.1 37 (u4 + u6) → ((0 ≤ x38 ∧ x38 < 20000) ∧ (∀ (x40 : Int), rg x40 → x40 = τ.2.1 41 x38 → (rg (τ.1 31 - x40) ∧ rg (u6 + 1) ∧ P195 u1 u2 u4 u5 (u6 + 1) (s_v τ 31 (τ.1 31 - x40)))))))) → P195 u1 u2 u4 u5 u6 τ) →
  (∀ (k1 : Int) (τ : S0), (∃ (Q43 : Int → S0 → Prop), W_X10_putNew k1 τ Q43 ∧ ∀ (x44 : Int) (τ45 : S0), rg x44 → n_m τ45 → f_r [17, 18, 23, 30, 31, 32] [39, 40, 41, 42, 52, 53] [] τ τ45 → Q43 x44 τ45 → (Q x44 τ45)) → P271 k1 τ) →
  (0 ≤ (σ.1 15 + σ.1 32) ∧ (σ.1 15 + σ.1 32) < 20001) ∧ (∀ (x2 : Int), rg x2 → x2 = σ.2.1 36 (σ.1 15 + σ.1 32) → ((0 ≤ (n1 % 65536) ∧ (n1 % 65536) < 1500) ∧ (∀ (x4 : Int), rg x4 → x4 = σ.2.1 13 (n1 % 65536) → ((2 ≤ x4 → ∀ (x6 : Int), rg x6 → x6 = σ.2.1 28 (n1 % 65536) → ((x6 ≤ σ.1 30 → P82 n1 (n1 % 65536) (σ.1 15 + σ.1 32) x2 x6 0 σ) ∧ (σ.1 30 < x6 → Q 15 σ))) ∧ (x4 < 2 → ∃ (Q8 : S0 → Prop), W_X6_buildHypothesis (n1 % 65536) σ Q8 ∧ ∀ (τ10 : S0), n_m τ10 → f_r [19] [43] [] σ τ10 → Q8 τ10 → (P166 n1 (n1 % 65536) (σ.1 15 + σ.1 32) x2 0 τ10))))))
set_option maxRecDepth 100000 in
set_option maxHeartbeats 4000000 in
theorem L_X10_take (l : Launch) (g : gG) (q : Nat → Nat) (lb : Nat) (hlb : lb < 2 ^ 31) {n1 : Int} {σ : S0} {Q : Int → S0 → Prop} (r_n1 : rg n1) (hN : n_m σ) (hw : W_X10_take n1 σ Q) (sz : Nat) : MetI l yX10_take cX10_take 7 (some .int) { frames := 3, cells := 0, slots := 0, locals := 120 } g [.ref (q 5), .int (I n1)] (CX g q lb σ) sz xT (p_I (CX g q lb) [17, 18, 19, 20, 23, 30, 31, 32] [35, 36, 37, 39, 40, 41, 42, 43, 44, 45, 46, 47, 48, 52, 53] [] σ Q) 0 0 := by
  refine mkMet (Qc := fun A => QI g A (p_I (CX g q lb) [17, 18, 19, 20, 23, 30, 31, 32] [35, 36, 37, 39, 40, 41, 42, 43, 44, 45, 46, 47, 48, 52, 53] [] σ Q)) (by decide) (Nat.le_of_ble_eq_true rfl) ?_
  intro p e s m below meth c A H ls hx hb hr hml hown hts hlk hnm hsz hP hK hNb hD hA hAe hS hX hl
  have hl : lv_has ls 7 [(0, .ref (q 5)), (1, .int (I n1))] := hl
  have hB := hN
  have hF : f_r [17, 18, 19, 20, 23, 30, 31, 32] [35, 36, 37, 39, 40, 41, 42, 43, 44, 45, 46, 47, 48, 52, 53] [] σ σ := f_0
  obtain ⟨locs, hlocs⟩ : ∃ z : List Loc, z = [] := ⟨_, rfl⟩
  rw [← hlocs] at hS ⊢
  obtain ⟨P82, hP82⟩ : ∃ P : Int → Int → Int → Int → Int → Int → S0 → Prop, ∀ (u1 : Int) (u2 : Int) (u3 : Int) (u4 : Int) (u5 : Int) (u6 : Int) (τ : S0), (P u1 u2 u3 u4 u5 u6 τ ↔ (rg u1 → rg u2 → rg u3 → rg u4 → rg u5 → rg u6 → n_m τ → f_r [17, 18, 19, 20, 23, 30, 31, 32] [35, 36, 37, 39, 40, 41, 42, 43, 44, 45, 46, 47, 48, 52, 53] [] σ τ → ∀ (H : Heap) (locs : List Loc) (ls : Array Slot), KP g (CX g q lb τ) H → va_D A (CX g q lb τ) → va_S A s.heap H locs → lv_has ls 7 [(0, .ref (q 5)), (1, .int (I u1)), (2, .int (I u2)), (3, .int (I u3)), (4, .int (I u4)), (5, .int (I u5)), (6, .int (I u6))] → W p l e ({ frames := 3, cells := 0, slots := 0, locals := 120 }) s m [.ref (q 5), .int (I n1)].toArray below meth c H locs 0 0 (MQ below (QI g A (p_I (CX g q lb) [17, 18, 19, 20, 23, 30, 31, 32] [35, 36, 37, 39, 40, 41, 42, 43, 44, 45, 46, 47, 48, 52, 53] [] σ Q)) [.ref (q 5), .int (I n1)].toArray s 0 0 A) (F0 m 82 ls []))) := ⟨_, fun _ _ _ _ _ _ _ => Iff.rfl⟩
  obtain ⟨P166, hP166⟩ : ∃ P : Int → Int → Int → Int → Int → S0 → Prop, ∀ (u1 : Int) (u2 : Int) (u3 : Int) (u4 : Int) (u5 : Int) (τ : S0), (P u1 u2 u3 u4 u5 τ ↔ (rg u1 → rg u2 → rg u3 → rg u4 → rg u5 → n_m τ → f_r [17, 18, 19, 20, 23, 30, 31, 32] [35, 36, 37, 39, 40, 41, 42, 43, 44, 45, 46, 47, 48, 52, 53] [] σ τ → ∀ (H : Heap) (locs : List Loc) (ls : Array Slot), KP g (CX g q lb τ) H → va_D A (CX g q lb τ) → va_S A s.heap H locs → lv_has ls 7 [(0, .ref (q 5)), (1, .int (I u1)), (2, .int (I u2)), (3, .int (I u3)), (4, .int (I u4)), (5, .int (I u5))] → W p l e ({ frames := 3, cells := 0, slots := 0, locals := 120 }) s m [.ref (q 5), .int (I n1)].toArray below meth c H locs 0 0 (MQ below (QI g A (p_I (CX g q lb) [17, 18, 19, 20, 23, 30, 31, 32] [35, 36, 37, 39, 40, 41, 42, 43, 44, 45, 46, 47, 48, 52, 53] [] σ Q)) [.ref (q 5), .int (I n1)].toArray s 0 0 A) (F0 m 166 ls []))) := ⟨_, fun _ _ _ _ _ _ => Iff.rfl⟩
  obtain ⟨P195, hP195⟩ : ∃ P : Int → Int → Int → Int → Int → S0 → Prop, ∀ (u1 : Int) (u2 : Int) (u4 : Int) (u5 : Int) (u6 : Int) (τ : S0), (P u1 u2 u4 u5 u6 τ ↔ (rg u1 → rg u2 → rg u4 → rg u5 → rg u6 → n_m τ → f_r [17, 18, 19, 20, 23, 30, 31, 32] [35, 36, 37, 39, 40, 41, 42, 43, 44, 45, 46, 47, 48, 52, 53] [] σ τ → ∀ (H : Heap) (locs : List Loc) (ls : Array Slot), KP g (CX g q lb τ) H → va_D A (CX g q lb τ) → va_S A s.heap H locs → lv_has ls 7 [(0, .ref (q 5)), (1, .int (I u1)), (2, .int (I u2)), (4, .int (I u4)), (5, .int (I u5)), (6, .int (I u6))] → W p l e ({ frames := 3, cells := 0, slots := 0, locals := 120 }) s m [.ref (q 5), .int (I n1)].toArray below meth c H locs 0 0 (MQ below (QI g A (p_I (CX g q lb) [17, 18, 19, 20, 23, 30, 31, 32] [35, 36, 37, 39, 40, 41, 42, 43, 44, 45, 46, 47, 48, 52, 53] [] σ Q)) [.ref (q 5), .int (I n1)].toArray s 0 0 A) (F0 m 195 ls []))) := ⟨_, fun _ _ _ _ _ _ => Iff.rfl⟩
  obtain ⟨P271, hP271⟩ : ∃ P : Int → S0 → Prop, ∀ (k1 : Int) (τ : S0), (P k1 τ ↔ (rg k1 → n_m τ → f_r [17, 18, 19, 20, 23, 30, 31, 32] [35, 36, 37, 39, 40, 41, 42, 43, 44, 45, 46, 47, 48, 52, 53] [] σ τ → ∀ (H : Heap) (locs : List Loc) (ls : Array Slot), KP g (CX g q lb τ) H → va_D A (CX g q lb τ) → va_S A s.heap H locs → lv_has ls 7 [] → W p l e ({ frames := 3, cells := 0, slots := 0, locals := 120 }) s m [.ref (q 5), .int (I n1)].toArray below meth c H locs 0 0 (MQ below (QI g A (p_I (CX g q lb) [17, 18, 19, 20, 23, 30, 31, 32] [35, 36, 37, 39, 40, 41, 42, 43, 44, 45, 46, 47, 48, 52, 53] [] σ Q)) [.ref (q 5), .int (I n1)].toArray s 0 0 A) (F0 m 271 ls [.int (I k1), .ref (q 5)]))) := ⟨_, fun _ _ => Iff.rfl⟩
  refine (fun hw => ?_) (hw P82 P166 P195 P271 ?_ ?_ ?_ ?_)
  ·
    refine lv_iload_n hx hb dX10_take_0 rfl (lv_at hl 1 rfl) ?_
    refine lv_ldc (own := RX10) (v := 65535) hx hb hown (hts _ tw_1286) dX10_take_1 ?_
    refine xtop (y := I 65535) (by decide) ?_
    refine bi_iandm hx hb 65535 16 65536 (by decide) (by decide) (by omega) dX10_take_3 ?_
    refine lv_istore_n (lv' := [(2, .int (I (n1 % 65536))), (0, .ref (q 5)), (1, .int (I n1))]) hx hb dX10_take_4 rfl hl (by decide) rfl (fun ls hl => ?_)
    refine lv_aload_n hx hb dX10_take_5 rfl (lv_at hl 1 rfl) ?_
    refine gfX10_assertions hx hb hts hK hP hown (hts _ tw_415) dX10_take_6 ?_
    refine gfNX0_rowsUsed hx hb hts hK hP hown (nb_use hNb tn_289) (x := σ.1 15) rfl dX10_take_9 ?_
    refine lv_aload_n hx hb dX10_take_12 rfl (lv_at hl 1 rfl) ?_
    refine gfX10_rows hx hb hts hK hP hown (hts _ tw_436) (x := σ.1 32) rfl dX10_take_13 ?_
    refine bi_iadd hx hb dX10_take_16 ?_
    refine lv_istore_n (lv' := [(3, .int (I (σ.1 15 + σ.1 32))), (2, .int (I (n1 % 65536))), (0, .ref (q 5)), (1, .int (I n1))]) hx hb dX10_take_17 rfl hl (by decide) rfl (fun ls hl => ?_)
    refine lv_aload_n hx hb dX10_take_18 rfl (lv_at hl 2 rfl) ?_
    refine gfX10_assertions hx hb hts hK hP hown (hts _ tw_415) dX10_take_19 ?_
    refine gfNX0_childAt hx hb hts hK hP hown (nb_use hNb tn_281) dX10_take_22 ?_
    refine lv_iload_n hx hb dX10_take_25 rfl (lv_at hl 0 rfl) ?_
    obtain ⟨c1, hw⟩ := hw
    refine ldCX0_childAt hx hb hK hP hN c1 dX10_take_26 (fun x2 r_x2 e_x2 => ?_)
    replace hw := hw x2 r_x2 e_x2
    refine lv_istore (lv' := [(4, .int (I x2)), (3, .int (I (σ.1 15 + σ.1 32))), (2, .int (I (n1 % 65536))), (0, .ref (q 5)), (1, .int (I n1))]) hx hb dX10_take_27 hl (by decide) rfl (fun ls hl => ?_)
    refine lv_iconst (v := I 0) hx hb dX10_take_29 rfl ?_
    refine lv_istore (lv' := [(5, .int (I 0)), (4, .int (I x2)), (3, .int (I (σ.1 15 + σ.1 32))), (2, .int (I (n1 % 65536))), (0, .ref (q 5)), (1, .int (I n1))]) hx hb dX10_take_30 hl (by decide) rfl (fun ls hl => ?_)
    refine lv_aload_n hx hb dX10_take_32 rfl (lv_at hl 4 rfl) ?_
    refine gfX10_library hx hb hts hK hP hown (hts _ tw_414) dX10_take_33 ?_
    refine gfNX3_kind hx hb hts hK hP hown (nb_use hNb tn_76) dX10_take_36 ?_
    refine lv_iload_n hx hb dX10_take_39 rfl (lv_at hl 3 rfl) ?_
    obtain ⟨c3, hw⟩ := hw
    refine ldCX3_kind hx hb hK hP hN c3 dX10_take_40 (fun x4 r_x4 e_x4 => ?_)
    replace hw := hw x4 r_x4 e_x4
    refine lv_iconst (v := I 2) hx hb dX10_take_41 rfl ?_
    refine bi_icmp_ge (tgt := 56) hx hb r_x4 (by decide) dX10_take_42 (by decide) (fun c5 => ?_) (fun c5 => ?_)
    ·
      replace hw := hw.1 c5
      refine lv_aload_n hx hb dX10_take_56 rfl (lv_at hl 4 rfl) ?_
      refine gfX10_assertions hx hb hts hK hP hown (hts _ tw_415) dX10_take_57 ?_
      refine gfNX0_frameSize hx hb hts hK hP hown (nb_use hNb tn_248) dX10_take_60 ?_
      refine lv_iload_n hx hb dX10_take_63 rfl (lv_at hl 3 rfl) ?_
      refine ldCX0_frameSize hx hb hK hP hN c3 dX10_take_64 (fun x6 r_x6 e_x6 => ?_)
      replace hw := hw x6 r_x6 e_x6
      refine lv_istore (lv' := [(5, .int (I x6)), (4, .int (I x2)), (3, .int (I (σ.1 15 + σ.1 32))), (2, .int (I (n1 % 65536))), (0, .ref (q 5)), (1, .int (I n1))]) hx hb dX10_take_65 hl (by decide) rfl (fun ls hl => ?_)
      refine lv_aload_n hx hb dX10_take_67 rfl (lv_at hl 4 rfl) ?_
      refine gfX10_pileRows hx hb hts hK hP hown (hts _ tw_433) (x := σ.1 30) rfl dX10_take_68 ?_
      refine lv_iload hx hb dX10_take_71 (lv_at hl 0 rfl) ?_
      refine bi_icmp_ge (tgt := 79) hx hb (hB.1 30) r_x6 dX10_take_73 (by decide) (fun c7 => ?_) (fun c7 => ?_)
      ·
        replace hw := hw.1 c7
        refine lv_iconst (v := I 0) hx hb dX10_take_79 rfl ?_
        refine lv_istore (lv' := [(6, .int (I 0)), (5, .int (I x6)), (4, .int (I x2)), (3, .int (I (σ.1 15 + σ.1 32))), (2, .int (I (n1 % 65536))), (0, .ref (q 5)), (1, .int (I n1))]) hx hb dX10_take_80 hl (by decide) rfl (fun ls hl => ?_)
        exact (hP82 _ _ _ _ _ _ _).mp hw r_n1 (⟨by omega, by omega⟩ : rg (n1 % 65536)) (rg_ix c1.1 c1.2 (by decide)) r_x2 r_x6 (by decide) hN hF H locs ls hP hD hS (lv_sub hl [5, 6, 4, 3, 2, 1, 0] rfl)
      ·
        replace hw := hw.2 c7
        refine lv_bipush (v := I 15) hx hb dX10_take_76 (by decide) ?_
        exact xri hx hb hr hlk hP hK hD hS ⟨_, _, (by decide), rfl, hN, hF, rfl, hw⟩ (Nat.le_of_ble_eq_true rfl) (Nat.le_of_ble_eq_true rfl) dX10_take_78
    ·
      replace hw := hw.2 c5
      refine lv_aload_n hx hb dX10_take_45 rfl (lv_at hl 4 rfl) ?_
      refine gfX10_pile hx hb hts hK hP hown (hts _ tw_417) dX10_take_46 ?_
      refine lv_iload_n hx hb dX10_take_49 rfl (lv_at hl 3 rfl) ?_
      obtain ⟨Q8, hc, hw⟩ := hw
      refine wc_V (X := CX g q lb) (va_runV (As := [.int (I (n1 % 65536))]) (rest := []) ⟨hx, hb, hml, hown, hts⟩ (L_X6_buildHypothesis l g q lb hlb (⟨by omega, by omega⟩ : rg (n1 % 65536)) hN hc H.size) (cwV 1 hts (TB_V tw_1287 tw_1288 tw_1289 tw_6 co_X6_buildHypothesis) rfl rfl rfl (by decide +kernel) ⟨Nat.le_of_ble_eq_true rfl, Nat.le_of_ble_eq_true rfl⟩) (preV (q0 := 4) (ci := 6) rfl xT_bl hP hK hNb hD rfl rfl xT_at) rfl rfl hl.1 rfl (lv_room (Nat.le_of_ble_eq_true rfl)) dX10_take_50 ⟨Nat.le_of_ble_eq_true rfl, Nat.le_of_ble_eq_true rfl⟩) hP hD hS hA (fun τ10 H locs hN hf hq hP hD hS => ?_)
      replace hw := hw τ10 hN hf hq
      have hF : f_r [17, 18, 19, 20, 23, 30, 31, 32] [35, 36, 37, 39, 40, 41, 42, 43, 44, 45, 46, 47, 48, 52, 53] [] σ τ10 := f_t hF hf (by decide) (by decide) (by decide)
      have hB := hN
      refine lv_goto (tgt := 166) hx hb dX10_take_53 (by decide) ?_
      exact (hP166 _ _ _ _ _ _).mp hw r_n1 (⟨by omega, by omega⟩ : rg (n1 % 65536)) (rg_ix c1.1 c1.2 (by decide)) r_x2 (by decide) hN hF H locs ls hP hD hS (lv_sub hl [4, 5, 3, 2, 1, 0] rfl)
  ·
    intro u1 u2 u3 u4 u5 u6 τ hw
    refine (hP82 _ _ _ _ _ _ _).mpr ?_
    intro r_u1 r_u2 r_u3 r_u4 r_u5 r_u6 hN hF H locs ls hP hD hS hl
    have hB := hN
    refine lv_iload hx hb dX10_take_82 (lv_at hl 6 rfl) ?_
    refine lv_iload hx hb dX10_take_84 (lv_at hl 5 rfl) ?_
    refine bi_icmp_ge (tgt := 123) hx hb r_u6 r_u5 dX10_take_86 (by decide) (fun c11 => ?_) (fun c11 => ?_)
    ·
      replace hw := hw.1 c11
      refine lv_aload_n hx hb dX10_take_123 rfl (lv_at hl 0 rfl) ?_
      refine gfX10_pile hx hb hts hK hP hown (hts _ tw_417) dX10_take_124 ?_
      refine lv_iload_n hx hb dX10_take_127 rfl (lv_at hl 2 rfl) ?_
      refine lv_iload hx hb dX10_take_128 (lv_at hl 4 rfl) ?_
      obtain ⟨Q12, hc, hw⟩ := hw
      refine wc_I (X := CX g q lb) (va_runV (As := [.int (I u2), .int (I u4)]) (rest := []) ⟨hx, hb, hml, hown, hts⟩ (L_X6_bind l g q lb hlb r_u2 r_u4 hN hc H.size) (cwV 2 hts (TB_V tw_1298 tw_1299 tw_1300 tw_6 co_X6_bind) rfl rfl rfl (by decide +kernel) ⟨Nat.le_of_ble_eq_true rfl, Nat.le_of_ble_eq_true rfl⟩) (preV (q0 := 4) (ci := 6) rfl xT_bl hP hK hNb hD rfl rfl xT_at) rfl rfl hl.1 rfl (lv_room (Nat.le_of_ble_eq_true rfl)) dX10_take_130 ⟨Nat.le_of_ble_eq_true rfl, Nat.le_of_ble_eq_true rfl⟩) hP hD hS hA (fun x13 τ14 H locs r_x13 hN hf hq hP hD hS => ?_)
      replace hw := hw x13 τ14 r_x13 hN hf hq
      have hF : f_r [17, 18, 19, 20, 23, 30, 31, 32] [35, 36, 37, 39, 40, 41, 42, 43, 44, 45, 46, 47, 48, 52, 53] [] σ τ14 := f_t hF hf (by decide) (by decide) (by decide)
      have hB := hN
      refine bi_if_ne (tgt := 139) hx hb r_x13 dX10_take_133 (by decide) (fun c15 => ?_) (fun c15 => ?_)
      ·
        replace hw := hw.1 c15
        refine lv_aload_n hx hb dX10_take_139 rfl (lv_at hl 0 rfl) ?_
        refine gfX10_pile hx hb hts hK hP hown (hts _ tw_417) dX10_take_140 ?_
        refine lv_iload_n hx hb dX10_take_143 rfl (lv_at hl 2 rfl) ?_
        obtain ⟨Q16, hc, hw⟩ := hw
        refine wc_I (X := CX g q lb) (va_runV (As := [.int (I u2)]) (rest := []) ⟨hx, hb, hml, hown, hts⟩ (L_X6_keepsApart l g q lb hlb r_u2 hN hc H.size) (cwV 1 hts (TB_V tw_1312 tw_1313 tw_1314 tw_6 co_X6_keepsApart) rfl rfl rfl (by decide +kernel) ⟨Nat.le_of_ble_eq_true rfl, Nat.le_of_ble_eq_true rfl⟩) (preV (q0 := 4) (ci := 6) rfl xT_bl hP hK hNb hD rfl rfl xT_at) rfl rfl hl.1 rfl (lv_room (Nat.le_of_ble_eq_true rfl)) dX10_take_144 ⟨Nat.le_of_ble_eq_true rfl, Nat.le_of_ble_eq_true rfl⟩) hP hD hS hA (fun x17 τ18 H locs r_x17 hN hf hq hP hD hS => ?_)
        replace hw := hw x17 τ18 r_x17 hN hf hq
        have hF : f_r [17, 18, 19, 20, 23, 30, 31, 32] [35, 36, 37, 39, 40, 41, 42, 43, 44, 45, 46, 47, 48, 52, 53] [] σ τ18 := f_t hF hf (by decide) (by decide) (by decide)
        have hB := hN
        refine bi_if_ne (tgt := 153) hx hb r_x17 dX10_take_147 (by decide) (fun c19 => ?_) (fun c19 => ?_)
        ·
          replace hw := hw.1 c19
          refine lv_aload_n hx hb dX10_take_153 rfl (lv_at hl 0 rfl) ?_
          refine gfX10_pile hx hb hts hK hP hown (hts _ tw_417) dX10_take_154 ?_
          refine lv_iload_n hx hb dX10_take_157 rfl (lv_at hl 2 rfl) ?_
          obtain ⟨Q20, hc, hw⟩ := hw
          refine wc_I (X := CX g q lb) (va_runV (As := [.int (I u2)]) (rest := []) ⟨hx, hb, hml, hown, hts⟩ (L_X6_build l g q lb hlb r_u2 hN hc H.size) (cwV 1 hts (TB_V tw_1333 tw_1334 tw_1335 tw_6 co_X6_build) rfl rfl rfl (by decide +kernel) ⟨Nat.le_of_ble_eq_true rfl, Nat.le_of_ble_eq_true rfl⟩) (preV (q0 := 4) (ci := 6) rfl xT_bl hP hK hNb hD rfl rfl xT_at) rfl rfl hl.1 rfl (lv_room (Nat.le_of_ble_eq_true rfl)) dX10_take_158 ⟨Nat.le_of_ble_eq_true rfl, Nat.le_of_ble_eq_true rfl⟩) hP hD hS hA (fun x21 τ22 H locs r_x21 hN hf hq hP hD hS => ?_)
          replace hw := hw x21 τ22 r_x21 hN hf hq
          have hF : f_r [17, 18, 19, 20, 23, 30, 31, 32] [35, 36, 37, 39, 40, 41, 42, 43, 44, 45, 46, 47, 48, 52, 53] [] σ τ22 := f_t hF hf (by decide) (by decide) (by decide)
          have hB := hN
          refine bi_if_ne (tgt := 166) hx hb r_x21 dX10_take_161 (by decide) (fun c23 => ?_) (fun c23 => ?_)
          ·
            replace hw := hw.1 c23
            exact (hP166 _ _ _ _ _ _).mp hw r_u1 r_u2 r_u3 r_u4 r_u5 hN hF H locs ls hP hD hS (lv_sub hl [0, 1, 2, 3, 4, 5] rfl)
          ·
            replace hw := hw.2 c23
            refine lv_iconst (v := I 5) hx hb dX10_take_164 rfl ?_
            exact xri hx hb hr hlk hP hK hD hS ⟨_, _, (by decide), rfl, hN, hF, rfl, hw⟩ (Nat.le_of_ble_eq_true rfl) (Nat.le_of_ble_eq_true rfl) dX10_take_165
        ·
          replace hw := hw.2 c19
          refine lv_bipush (v := I 17) hx hb dX10_take_150 (by decide) ?_
          exact xri hx hb hr hlk hP hK hD hS ⟨_, _, (by decide), rfl, hN, hF, rfl, hw⟩ (Nat.le_of_ble_eq_true rfl) (Nat.le_of_ble_eq_true rfl) dX10_take_152
      ·
        replace hw := hw.2 c15
        refine lv_bipush (v := I 16) hx hb dX10_take_136 (by decide) ?_
        exact xri hx hb hr hlk hP hK hD hS ⟨_, _, (by decide), rfl, hN, hF, rfl, hw⟩ (Nat.le_of_ble_eq_true rfl) (Nat.le_of_ble_eq_true rfl) dX10_take_138
    ·
      replace hw := hw.2 c11
      refine lv_aload_n hx hb dX10_take_89 rfl (lv_at hl 0 rfl) ?_
      refine gfX10_assertions hx hb hts hK hP hown (hts _ tw_415) dX10_take_90 ?_
      refine gfNX0_children hx hb hts hK hP hown (nb_use hNb tn_286) dX10_take_93 ?_
      refine lv_iload hx hb dX10_take_96 (lv_at hl 4 rfl) ?_
      refine lv_iload hx hb dX10_take_98 (lv_at hl 6 rfl) ?_
      refine bi_iadd hx hb dX10_take_100 ?_
      refine lv_aload_n hx hb dX10_take_101 rfl (lv_at hl 0 rfl) ?_
      refine gfX10_pileRow hx hb hts hK hP hown (hts _ tw_432) dX10_take_102 ?_
      refine lv_aload_n hx hb dX10_take_105 rfl (lv_at hl 0 rfl) ?_
      refine gfX10_pileRows hx hb hts hK hP hown (hts _ tw_433) (x := τ.1 30) rfl dX10_take_106 ?_
      refine lv_iload hx hb dX10_take_109 (lv_at hl 5 rfl) ?_
      refine bi_isub hx hb dX10_take_111 ?_
      refine lv_iload hx hb dX10_take_112 (lv_at hl 6 rfl) ?_
      refine bi_iadd hx hb dX10_take_114 ?_
      obtain ⟨c24, hw⟩ := hw
      refine ldCX10_pileRow hx hb hK hP hN c24 dX10_take_115 (fun x25 r_x25 e_x25 => ?_)
      replace hw := hw x25 r_x25 e_x25
      obtain ⟨c26, hw⟩ := hw
      refine sdCX0_children hx hb hK hP hD hS c26 dX10_take_116 (fun H locs hP hD hS => ?_)
      have hN : n_m (s_a τ 37 (u4 + u6) x25) := n_a (k := 37) (j := (u4 + u6)) hN (r_x25 : rg x25)
      have hF : f_r [17, 18, 19, 20, 23, 30, 31, 32] [35, 36, 37, 39, 40, 41, 42, 43, 44, 45, 46, 47, 48, 52, 53] [] σ (s_a τ 37 (u4 + u6) x25) := f_a hF (by decide)
      refine lv_iinc (v := I (u6 + 1)) (lv' := [(6, .int (I (u6 + 1))), (0, .ref (q 5)), (1, .int (I u1)), (2, .int (I u2)), (3, .int (I u3)), (4, .int (I u4)), (5, .int (I u5))]) hx hb dX10_take_117 hl (k := 6) rfl (I_add _ _) (by decide) rfl (fun ls hl => ?_)
      refine lv_goto (tgt := 82) hx hb dX10_take_120 (by decide) ?_
      obtain ⟨c27, hw⟩ := hw
      exact (hP82 _ _ _ _ _ _ _).mp hw r_u1 r_u2 r_u3 r_u4 r_u5 c27 hN hF H locs ls hP hD hS (lv_sub hl [1, 2, 3, 4, 5, 6, 0] rfl)
  ·
    intro u1 u2 u3 u4 u5 τ hw
    refine (hP166 _ _ _ _ _ _).mpr ?_
    intro r_u1 r_u2 r_u3 r_u4 r_u5 hN hF H locs ls hP hD hS hl
    have hB := hN
    refine lv_aload_n hx hb dX10_take_166 rfl (lv_at hl 0 rfl) ?_
    refine gfX10_assertions hx hb hts hK hP hown (hts _ tw_415) dX10_take_167 ?_
    refine gfNX0_rowStatement hx hb hts hK hP hown (nb_use hNb tn_277) dX10_take_170 ?_
    refine lv_iload_n hx hb dX10_take_173 rfl (lv_at hl 3 rfl) ?_
    refine lv_iload_n hx hb dX10_take_174 rfl (lv_at hl 2 rfl) ?_
    obtain ⟨c28, hw⟩ := hw
    refine sdCX0_rowStatement hx hb hK hP hD hS c28 dX10_take_175 (fun H locs hP hD hS => ?_)
    have hN : n_m (s_a τ 35 u3 u2) := n_a (k := 35) (j := u3) hN (r_u2 : rg u2)
    have hF : f_r [17, 18, 19, 20, 23, 30, 31, 32] [35, 36, 37, 39, 40, 41, 42, 43, 44, 45, 46, 47, 48, 52, 53] [] σ (s_a τ 35 u3 u2) := f_a hF (by decide)
    refine lv_aload_n hx hb dX10_take_176 rfl (lv_at hl 0 rfl) ?_
    refine gfX10_assertions hx hb hts hK hP hown (hts _ tw_415) dX10_take_177 ?_
    refine gfNX0_childAt hx hb hts hK hP hown (nb_use hNb tn_281) dX10_take_180 ?_
    refine lv_iload_n hx hb dX10_take_183 rfl (lv_at hl 3 rfl) ?_
    refine lv_iconst (v := I 1) hx hb dX10_take_184 rfl ?_
    refine bi_iadd hx hb dX10_take_185 ?_
    refine lv_iload hx hb dX10_take_186 (lv_at hl 4 rfl) ?_
    refine lv_iload hx hb dX10_take_188 (lv_at hl 5 rfl) ?_
    refine bi_iadd hx hb dX10_take_190 ?_
    obtain ⟨c29, hw⟩ := hw
    obtain ⟨c30, hw⟩ := hw
    refine sdCX0_childAt hx hb hK hP hD hS c29 dX10_take_191 (fun H locs hP hD hS => ?_)
    have hN : n_m (s_a (s_a τ 35 u3 u2) 36 (u3 + 1) (u4 + u5)) := n_a (k := 36) (j := (u3 + 1)) hN (c30 : rg (u4 + u5))
    have hF : f_r [17, 18, 19, 20, 23, 30, 31, 32] [35, 36, 37, 39, 40, 41, 42, 43, 44, 45, 46, 47, 48, 52, 53] [] σ (s_a (s_a τ 35 u3 u2) 36 (u3 + 1) (u4 + u5)) := f_a hF (by decide)
    refine lv_iconst (v := I 0) hx hb dX10_take_192 rfl ?_
    refine lv_istore (lv' := [(6, .int (I 0)), (0, .ref (q 5)), (1, .int (I u1)), (2, .int (I u2)), (3, .int (I u3)), (4, .int (I u4)), (5, .int (I u5))]) hx hb dX10_take_193 hl (by decide) rfl (fun ls hl => ?_)
    exact (hP195 _ _ _ _ _ _).mp hw r_u1 r_u2 r_u4 r_u5 (by decide) hN hF H locs ls hP hD hS (lv_sub hl [1, 2, 3, 5, 6, 0] rfl)
  ·
    intro u1 u2 u4 u5 u6 τ hw
    refine (hP195 _ _ _ _ _ _).mpr ?_
    intro r_u1 r_u2 r_u4 r_u5 r_u6 hN hF H locs ls hP hD hS hl
    have hB := hN
    refine lv_iload hx hb dX10_take_195 (lv_at hl 5 rfl) ?_
    refine lv_iload hx hb dX10_take_197 (lv_at hl 4 rfl) ?_
    refine bi_icmp_ge (tgt := 238) hx hb r_u6 r_u5 dX10_take_199 (by decide) (fun c31 => ?_) (fun c31 => ?_)
    ·
      replace hw := hw.1 c31
      refine lv_aload_n hx hb dX10_take_238 rfl (lv_at hl 0 rfl) ?_
      refine lv_dup hx hb dX10_take_239 rfl ?_
      refine gfX10_pileRows hx hb hts hK hP hown (hts _ tw_433) (x := τ.1 30) rfl dX10_take_240 ?_
      refine lv_iload hx hb dX10_take_243 (lv_at hl 4 rfl) ?_
      refine bi_isub hx hb dX10_take_245 ?_
      obtain ⟨c32, hw⟩ := hw
      refine pfX10_pileRows hx hb hts hK hP hD hS hown (hts _ tw_433) dX10_take_246 (fun H locs hP hD hS => ?_)
      have hN : n_m (s_v τ 30 (τ.1 30 - u5)) := n_v (i := 30) hN (c32 : rg (τ.1 30 - u5))
      have hF : f_r [17, 18, 19, 20, 23, 30, 31, 32] [35, 36, 37, 39, 40, 41, 42, 43, 44, 45, 46, 47, 48, 52, 53] [] σ (s_v τ 30 (τ.1 30 - u5)) := f_v hF (by decide)
      refine lv_aload_n hx hb dX10_take_249 rfl (lv_at hl 0 rfl) ?_
      refine gfX10_pile hx hb hts hK hP hown (hts _ tw_417) dX10_take_250 ?_
      refine lv_iload hx hb dX10_take_253 (lv_at hl 3 rfl) ?_
      refine lv_iload hx hb dX10_take_255 (lv_at hl 4 rfl) ?_
      obtain ⟨Q33, hc, hw⟩ := hw
      refine wc_V (X := CX g q lb) (va_runV (As := [.int (I u4), .int (I u5)]) (rest := []) ⟨hx, hb, hml, hown, hts⟩ (L_X6_drop l g q lb hlb r_u4 r_u5 hN hc H.size) (cwV 2 hts (TB_V tw_1337 tw_1338 tw_1339 tw_6 co_X6_drop) rfl rfl rfl (by decide +kernel) ⟨Nat.le_of_ble_eq_true rfl, Nat.le_of_ble_eq_true rfl⟩) (preV (q0 := 4) (ci := 6) rfl xT_bl hP hK hNb hD rfl rfl xT_at) rfl rfl hl.1 rfl (lv_room (Nat.le_of_ble_eq_true rfl)) dX10_take_257 ⟨Nat.le_of_ble_eq_true rfl, Nat.le_of_ble_eq_true rfl⟩) hP hD hS hA (fun τ35 H locs hN hf hq hP hD hS => ?_)
      replace hw := hw τ35 hN hf hq
      have hF : f_r [17, 18, 19, 20, 23, 30, 31, 32] [35, 36, 37, 39, 40, 41, 42, 43, 44, 45, 46, 47, 48, 52, 53] [] σ τ35 := f_t hF hf (by decide) (by decide) (by decide)
      have hB := hN
      refine lv_aload_n hx hb dX10_take_260 rfl (lv_at hl 0 rfl) ?_
      refine lv_iload_n hx hb dX10_take_261 rfl (lv_at hl 1 rfl) ?_
      refine lv_iload_n hx hb dX10_take_262 rfl (lv_at hl 2 rfl) ?_
      refine bi_icmp_eq (tgt := 270) hx hb r_u1 r_u2 dX10_take_263 (by decide) (fun c36 => ?_) (fun c36 => ?_)
      ·
        replace hw := hw.1 c36
        refine lv_iconst (v := I 0) hx hb dX10_take_270 rfl ?_
        exact (hP271 _ _).mp hw (by decide) hN hF H locs ls hP hD hS (lv_sub hl [] rfl)
      ·
        replace hw := hw.2 c36
        refine lv_iconst (v := I 1) hx hb dX10_take_266 rfl ?_
        refine lv_goto (tgt := 271) hx hb dX10_take_267 (by decide) ?_
        exact (hP271 _ _).mp hw (by decide) hN hF H locs ls hP hD hS (lv_sub hl [] rfl)
    ·
      replace hw := hw.2 c31
      refine lv_aload_n hx hb dX10_take_202 rfl (lv_at hl 0 rfl) ?_
      refine lv_dup hx hb dX10_take_203 rfl ?_
      refine gfX10_symbols hx hb hts hK hP hown (hts _ tw_435) (x := τ.1 31) rfl dX10_take_204 ?_
      refine lv_aload_n hx hb dX10_take_207 rfl (lv_at hl 0 rfl) ?_
      refine gfX10_pile hx hb hts hK hP hown (hts _ tw_417) dX10_take_208 ?_
      refine gfNX6_size hx hb hts hK hP hown (nb_use hNb tn_358) dX10_take_211 ?_
      refine lv_aload_n hx hb dX10_take_214 rfl (lv_at hl 0 rfl) ?_
      refine gfX10_assertions hx hb hts hK hP hown (hts _ tw_415) dX10_take_215 ?_
      refine gfNX0_children hx hb hts hK hP hown (nb_use hNb tn_286) dX10_take_218 ?_
      refine lv_iload hx hb dX10_take_221 (lv_at hl 3 rfl) ?_
      refine lv_iload hx hb dX10_take_223 (lv_at hl 5 rfl) ?_
      refine bi_iadd hx hb dX10_take_225 ?_
      obtain ⟨c37, hw⟩ := hw
      refine ldCX0_children hx hb hK hP hN c37 dX10_take_226 (fun x38 r_x38 e_x38 => ?_)
      replace hw := hw x38 r_x38 e_x38
      obtain ⟨c39, hw⟩ := hw
      refine ldCX6_size hx hb hK hP hN c39 dX10_take_227 (fun x40 r_x40 e_x40 => ?_)
      replace hw := hw x40 r_x40 e_x40
      refine bi_isub hx hb dX10_take_228 ?_
      obtain ⟨c41, hw⟩ := hw
      refine pfX10_symbols hx hb hts hK hP hD hS hown (hts _ tw_435) dX10_take_229 (fun H locs hP hD hS => ?_)
      have hN : n_m (s_v τ 31 (τ.1 31 - x40)) := n_v (i := 31) hN (c41 : rg (τ.1 31 - x40))
      have hF : f_r [17, 18, 19, 20, 23, 30, 31, 32] [35, 36, 37, 39, 40, 41, 42, 43, 44, 45, 46, 47, 48, 52, 53] [] σ (s_v τ 31 (τ.1 31 - x40)) := f_v hF (by decide)
      refine lv_iinc (v := I (u6 + 1)) (lv' := [(6, .int (I (u6 + 1))), (0, .ref (q 5)), (1, .int (I u1)), (2, .int (I u2)), (4, .int (I u4)), (5, .int (I u5))]) hx hb dX10_take_232 hl (k := 5) rfl (I_add _ _) (by decide) rfl (fun ls hl => ?_)
      refine lv_goto (tgt := 195) hx hb dX10_take_235 (by decide) ?_
      obtain ⟨c42, hw⟩ := hw
      exact (hP195 _ _ _ _ _ _).mp hw r_u1 r_u2 r_u4 r_u5 c42 hN hF H locs ls hP hD hS (lv_sub hl [1, 2, 3, 4, 5, 0] rfl)
  ·
    intro k1 τ hw
    refine (hP271 _ _).mpr ?_
    intro r_k1 hN hF H locs ls hP hD hS hl
    have hB := hN
    obtain ⟨Q43, hc, hw⟩ := hw
    refine wc_I (X := CX g q lb) (va_runV (As := [.int (I k1)]) (rest := []) ⟨hx, hb, hml, hown, hts⟩ (L_X10_putNew l g q lb hlb r_k1 hN hc H.size) (cwV 1 hts (TB_V tw_1341 tw_1343 ts_49 tw_8 co_X10_putNew) rfl rfl rfl (by decide +kernel) ⟨Nat.le_of_ble_eq_true rfl, Nat.le_of_ble_eq_true rfl⟩) (preV (q0 := 5) (ci := 10) rfl xT_bl hP hK hNb hD rfl rfl xT_at) rfl rfl hl.1 rfl (lv_room (Nat.le_of_ble_eq_true rfl)) dX10_take_271 ⟨Nat.le_of_ble_eq_true rfl, Nat.le_of_ble_eq_true rfl⟩) hP hD hS hA (fun x44 τ45 H locs r_x44 hN hf hq hP hD hS => ?_)
    replace hw := hw x44 τ45 r_x44 hN hf hq
    have hF : f_r [17, 18, 19, 20, 23, 30, 31, 32] [35, 36, 37, 39, 40, 41, 42, 43, 44, 45, 46, 47, 48, 52, 53] [] σ τ45 := f_t hF hf (by decide) (by decide) (by decide)
    have hB := hN
    exact xri hx hb hr hlk hP hK hD hS ⟨_, _, r_x44, rfl, hN, hF, rfl, hw⟩ (Nat.le_of_ble_eq_true rfl) (Nat.le_of_ble_eq_true rfl) dX10_take_274
def W_X10_goThrough (n1 : Int) (σ : S0) (Q : Int → S0 → Prop) : Prop :=
  ∀ (P29 : Int → Int → S0 → Prop) (P86 : Int → Int → Int → S0 → Prop),
  (∀ (u1 : Int) (u2 : Int) (τ : S0), ((τ.1 21 ≤ u2 → (τ.1 30 = 1 → ∀ (x6 : Int), rg x6 → x6 = τ.2.1 52 0 → (∃ (Q7 : Int → Prop), W_X6_isStatement x6 (τ.1 24) (s_v τ 29 u1) Q7 ∧ ∀ (x8 : Int), rg x8 → Q7 x8 → ((¬ x8 = 0 → ∃ (Q11 : S0 → Prop), W_X0_keepRows (τ.1 24) (τ.1 32) (s_v τ 29 u1) Q11 ∧ ∀ (τ13 : S0), n_m τ13 → f_r [15] [33, 34] [1] (s_v τ 29 u1) τ13 → Q11 τ13 → (Q 0 τ13)) ∧ (x8 = 0 → Q 19 (s_v τ 29 u1))))) ∧ (¬ τ.1 30 = 1 → Q 18 (s_v τ 29 u1))) ∧ (u2 < τ.1 21 → (0 ≤ u2 ∧ u2 < 20000) ∧ (∀ (x15 : Int), rg x15 → x15 = τ.2.1 50 u2 → (∀ (x16 : Int), rg x16 → x16 = τ.2.1 49 u2 → ((0 ≤ x16 → ∀ (x18 : Int), rg x18 → x18 = τ.2.1 49 u2 → (∃ (Q19 : Int → S0 → Prop), W_X10_take x18 (s_v τ 29 x15) Q19 ∧ ∀ (x20 : Int) (τ21 : S0), rg x20 → n_m τ21 → f_r [17, 18, 19, 20, 23, 30, 31, 32] [35, 36, 37, 39, 40, 41, 42, 43, 44, 45, 46, 47, 48, 52, 53] [] (s_v τ 29 x15) τ21 → Q19 x20 τ21 → (P86 u1 u2 x20 τ21))) ∧ (x16 < 0 → ∀ (x22 : Int), rg x22 → x22 = τ.2.1 49 u2 → ((0 ≤ (-1 - x22) ∧ (-1 - x22) < 300) ∧ (∀ (x24 : Int), rg x24 → x24 = τ.2.1 53 (-1 - x22) → (∃ (Q25 : Int → S0 → Prop), W_X10_putAgain x24 (s_v τ 29 x15) Q25 ∧ ∀ (x26 : Int) (τ27 : S0), rg x26 → n_m τ27 → f_r [30, 31] [52] [] (s_v τ 29 x15) τ27 → Q25 x26 τ27 → (P86 u1 u2 x26 τ27)))))))))) → P29 u1 u2 τ) →
  (∀ (u1 : Int) (u2 : Int) (k0 : Int) (τ : S0), ((k0 = 0 → rg (u2 + 1) ∧ P29 u1 (u2 + 1) τ) ∧ (¬ k0 = 0 → Q k0 τ)) → P86 u1 u2 k0 τ) →
  ∃ (Q1 : S0 → Prop), W_X6_clear σ Q1 ∧ ∀ (τ3 : S0), n_m τ3 → f_r [17, 18] [] [] σ τ3 → Q1 τ3 → (P29 n1 0 (s_v (s_v (s_v (s_v τ3 30 0) 23 0) 31 0) 32 0))
set_option maxRecDepth 100000 in
set_option maxHeartbeats 4000000 in
theorem L_X10_goThrough (l : Launch) (g : gG) (q : Nat → Nat) (lb : Nat) (hlb : lb < 2 ^ 31) {n1 : Int} {σ : S0} {Q : Int → S0 → Prop} (r_n1 : rg n1) (hN : n_m σ) (hw : W_X10_goThrough n1 σ Q) (sz : Nat) : MetI l yX10_goThrough cX10_goThrough 4 (some .int) { frames := 4, cells := 0, slots := 0, locals := 146 } g [.ref (q 5), .int (I n1)] (CX g q lb σ) sz xT (p_I (CX g q lb) [15, 17, 18, 19, 20, 23, 29, 30, 31, 32] [33, 34, 35, 36, 37, 39, 40, 41, 42, 43, 44, 45, 46, 47, 48, 52, 53] [1] σ Q) 0 0 := by
  refine mkMet (Qc := fun A => QI g A (p_I (CX g q lb) [15, 17, 18, 19, 20, 23, 29, 30, 31, 32] [33, 34, 35, 36, 37, 39, 40, 41, 42, 43, 44, 45, 46, 47, 48, 52, 53] [1] σ Q)) (by decide) (Nat.le_of_ble_eq_true rfl) ?_
  intro p e s m below meth c A H ls hx hb hr hml hown hts hlk hnm hsz hP hK hNb hD hA hAe hS hX hl
  have hl : lv_has ls 4 [(0, .ref (q 5)), (1, .int (I n1))] := hl
  have hB := hN
  have hF : f_r [15, 17, 18, 19, 20, 23, 29, 30, 31, 32] [33, 34, 35, 36, 37, 39, 40, 41, 42, 43, 44, 45, 46, 47, 48, 52, 53] [1] σ σ := f_0
  obtain ⟨locs, hlocs⟩ : ∃ z : List Loc, z = [] := ⟨_, rfl⟩
  rw [← hlocs] at hS ⊢
  obtain ⟨P29, hP29⟩ : ∃ P : Int → Int → S0 → Prop, ∀ (u1 : Int) (u2 : Int) (τ : S0), (P u1 u2 τ ↔ (rg u1 → rg u2 → n_m τ → f_r [15, 17, 18, 19, 20, 23, 29, 30, 31, 32] [33, 34, 35, 36, 37, 39, 40, 41, 42, 43, 44, 45, 46, 47, 48, 52, 53] [1] σ τ → ∀ (H : Heap) (locs : List Loc) (ls : Array Slot), KP g (CX g q lb τ) H → va_D A (CX g q lb τ) → va_S A s.heap H locs → lv_has ls 4 [(0, .ref (q 5)), (1, .int (I u1)), (2, .int (I u2))] → W p l e ({ frames := 4, cells := 0, slots := 0, locals := 146 }) s m [.ref (q 5), .int (I n1)].toArray below meth c H locs 0 0 (MQ below (QI g A (p_I (CX g q lb) [15, 17, 18, 19, 20, 23, 29, 30, 31, 32] [33, 34, 35, 36, 37, 39, 40, 41, 42, 43, 44, 45, 46, 47, 48, 52, 53] [1] σ Q)) [.ref (q 5), .int (I n1)].toArray s 0 0 A) (F0 m 29 ls []))) := ⟨_, fun _ _ _ => Iff.rfl⟩
  obtain ⟨P86, hP86⟩ : ∃ P : Int → Int → Int → S0 → Prop, ∀ (u1 : Int) (u2 : Int) (k0 : Int) (τ : S0), (P u1 u2 k0 τ ↔ (rg u1 → rg u2 → rg k0 → n_m τ → f_r [15, 17, 18, 19, 20, 23, 29, 30, 31, 32] [33, 34, 35, 36, 37, 39, 40, 41, 42, 43, 44, 45, 46, 47, 48, 52, 53] [1] σ τ → ∀ (H : Heap) (locs : List Loc) (ls : Array Slot), KP g (CX g q lb τ) H → va_D A (CX g q lb τ) → va_S A s.heap H locs → lv_has ls 4 [(0, .ref (q 5)), (1, .int (I u1)), (2, .int (I u2))] → W p l e ({ frames := 4, cells := 0, slots := 0, locals := 146 }) s m [.ref (q 5), .int (I n1)].toArray below meth c H locs 0 0 (MQ below (QI g A (p_I (CX g q lb) [15, 17, 18, 19, 20, 23, 29, 30, 31, 32] [33, 34, 35, 36, 37, 39, 40, 41, 42, 43, 44, 45, 46, 47, 48, 52, 53] [1] σ Q)) [.ref (q 5), .int (I n1)].toArray s 0 0 A) (F0 m 86 ls [.int (I k0)]))) := ⟨_, fun _ _ _ _ => Iff.rfl⟩
  refine (fun hw => ?_) (hw P29 P86 ?_ ?_)
  ·
    refine lv_aload_n hx hb dX10_goThrough_0 rfl (lv_at hl 0 rfl) ?_
    refine gfX10_pile hx hb hts hK hP hown (hts _ tw_417) dX10_goThrough_1 ?_
    obtain ⟨Q1, hc, hw⟩ := hw
    refine wc_V (X := CX g q lb) (va_runV (As := []) (rest := []) ⟨hx, hb, hml, hown, hts⟩ (L_X6_clear l g q lb hlb  hN hc H.size) (cwV 0 hts (TB_V tw_1273 tw_1274 tw_1275 tw_6 co_X6_clear) rfl rfl rfl (by decide +kernel) ⟨Nat.le_of_ble_eq_true rfl, Nat.le_of_ble_eq_true rfl⟩) (preV (q0 := 4) (ci := 6) rfl xT_bl hP hK hNb hD rfl rfl xT_at) rfl rfl hl.1 rfl (lv_room (Nat.le_of_ble_eq_true rfl)) dX10_goThrough_4 ⟨Nat.le_of_ble_eq_true rfl, Nat.le_of_ble_eq_true rfl⟩) hP hD hS hA (fun τ3 H locs hN hf hq hP hD hS => ?_)
    replace hw := hw τ3 hN hf hq
    have hF : f_r [15, 17, 18, 19, 20, 23, 29, 30, 31, 32] [33, 34, 35, 36, 37, 39, 40, 41, 42, 43, 44, 45, 46, 47, 48, 52, 53] [1] σ τ3 := f_t hF hf (by decide) (by decide) (by decide)
    have hB := hN
    refine lv_aload_n hx hb dX10_goThrough_7 rfl (lv_at hl 0 rfl) ?_
    refine lv_iconst (v := I 0) hx hb dX10_goThrough_8 rfl ?_
    refine pfX10_pileRows hx hb hts hK hP hD hS hown (hts _ tw_433) dX10_goThrough_9 (fun H locs hP hD hS => ?_)
    have hN : n_m (s_v τ3 30 0) := n_v (i := 30) hN ((by decide) : rg 0)
    have hF : f_r [15, 17, 18, 19, 20, 23, 29, 30, 31, 32] [33, 34, 35, 36, 37, 39, 40, 41, 42, 43, 44, 45, 46, 47, 48, 52, 53] [1] σ (s_v τ3 30 0) := f_v hF (by decide)
    refine lv_aload_n hx hb dX10_goThrough_12 rfl (lv_at hl 0 rfl) ?_
    refine lv_iconst (v := I 0) hx hb dX10_goThrough_13 rfl ?_
    refine pfX10_savedCount hx hb hts hK hP hD hS hown (hts _ tw_423) dX10_goThrough_14 (fun H locs hP hD hS => ?_)
    have hN : n_m (s_v (s_v τ3 30 0) 23 0) := n_v (i := 23) hN ((by decide) : rg 0)
    have hF : f_r [15, 17, 18, 19, 20, 23, 29, 30, 31, 32] [33, 34, 35, 36, 37, 39, 40, 41, 42, 43, 44, 45, 46, 47, 48, 52, 53] [1] σ (s_v (s_v τ3 30 0) 23 0) := f_v hF (by decide)
    refine lv_aload_n hx hb dX10_goThrough_17 rfl (lv_at hl 0 rfl) ?_
    refine lv_iconst (v := I 0) hx hb dX10_goThrough_18 rfl ?_
    refine pfX10_symbols hx hb hts hK hP hD hS hown (hts _ tw_435) dX10_goThrough_19 (fun H locs hP hD hS => ?_)
    have hN : n_m (s_v (s_v (s_v τ3 30 0) 23 0) 31 0) := n_v (i := 31) hN ((by decide) : rg 0)
    have hF : f_r [15, 17, 18, 19, 20, 23, 29, 30, 31, 32] [33, 34, 35, 36, 37, 39, 40, 41, 42, 43, 44, 45, 46, 47, 48, 52, 53] [1] σ (s_v (s_v (s_v τ3 30 0) 23 0) 31 0) := f_v hF (by decide)
    refine lv_aload_n hx hb dX10_goThrough_22 rfl (lv_at hl 0 rfl) ?_
    refine lv_iconst (v := I 0) hx hb dX10_goThrough_23 rfl ?_
    refine pfX10_rows hx hb hts hK hP hD hS hown (hts _ tw_436) dX10_goThrough_24 (fun H locs hP hD hS => ?_)
    have hN : n_m (s_v (s_v (s_v (s_v τ3 30 0) 23 0) 31 0) 32 0) := n_v (i := 32) hN ((by decide) : rg 0)
    have hF : f_r [15, 17, 18, 19, 20, 23, 29, 30, 31, 32] [33, 34, 35, 36, 37, 39, 40, 41, 42, 43, 44, 45, 46, 47, 48, 52, 53] [1] σ (s_v (s_v (s_v (s_v τ3 30 0) 23 0) 31 0) 32 0) := f_v hF (by decide)
    refine lv_iconst (v := I 0) hx hb dX10_goThrough_27 rfl ?_
    refine lv_istore_n (lv' := [(2, .int (I 0)), (0, .ref (q 5)), (1, .int (I n1))]) hx hb dX10_goThrough_28 rfl hl (by decide) rfl (fun ls hl => ?_)
    exact (hP29 _ _ _).mp hw r_n1 (by decide) hN hF H locs ls hP hD hS (lv_sub hl [1, 2, 0] rfl)
  ·
    intro u1 u2 τ hw
    refine (hP29 _ _ _).mpr ?_
    intro r_u1 r_u2 hN hF H locs ls hP hD hS hl
    have hB := hN
    refine lv_iload_n hx hb dX10_goThrough_29 rfl (lv_at hl 2 rfl) ?_
    refine lv_aload_n hx hb dX10_goThrough_30 rfl (lv_at hl 0 rfl) ?_
    refine gfX10_count hx hb hts hK hP hown (hts _ tw_420) (x := τ.1 21) rfl dX10_goThrough_31 ?_
    refine bi_icmp_ge (tgt := 99) hx hb r_u2 (hB.1 21) dX10_goThrough_34 (by decide) (fun c4 => ?_) (fun c4 => ?_)
    ·
      replace hw := hw.1 c4
      refine lv_aload_n hx hb dX10_goThrough_99 rfl (lv_at hl 0 rfl) ?_
      refine lv_iload_n hx hb dX10_goThrough_100 rfl (lv_at hl 1 rfl) ?_
      refine pfX10_place hx hb hts hK hP hD hS hown (hts _ tw_431) dX10_goThrough_101 (fun H locs hP hD hS => ?_)
      have hN : n_m (s_v τ 29 u1) := n_v (i := 29) hN (r_u1 : rg u1)
      have hF : f_r [15, 17, 18, 19, 20, 23, 29, 30, 31, 32] [33, 34, 35, 36, 37, 39, 40, 41, 42, 43, 44, 45, 46, 47, 48, 52, 53] [1] σ (s_v τ 29 u1) := f_v hF (by decide)
      refine lv_aload_n hx hb dX10_goThrough_104 rfl (lv_at hl 0 rfl) ?_
      refine gfX10_pileRows hx hb hts hK hP hown (hts _ tw_433) (x := τ.1 30) rfl dX10_goThrough_105 ?_
      refine lv_iconst (v := I 1) hx hb dX10_goThrough_108 rfl ?_
      refine bi_icmp_eq (tgt := 115) hx hb (hB.1 30) (by decide) dX10_goThrough_109 (by decide) (fun c5 => ?_) (fun c5 => ?_)
      ·
        replace hw := hw.1 c5
        refine lv_aload_n hx hb dX10_goThrough_115 rfl (lv_at hl 0 rfl) ?_
        refine gfX10_pile hx hb hts hK hP hown (hts _ tw_417) dX10_goThrough_116 ?_
        refine lv_aload_n hx hb dX10_goThrough_119 rfl (lv_at hl 0 rfl) ?_
        refine gfX10_pileRow hx hb hts hK hP hown (hts _ tw_432) dX10_goThrough_120 ?_
        refine lv_iconst (v := I 0) hx hb dX10_goThrough_123 rfl ?_
        refine ldCX10_pileRow hx hb hK hP hN (by decide) dX10_goThrough_124 (fun x6 r_x6 e_x6 => ?_)
        replace hw := hw x6 r_x6 e_x6
        refine lv_aload_n hx hb dX10_goThrough_125 rfl (lv_at hl 0 rfl) ?_
        refine gfX10_theorem hx hb hts hK hP hown (hts _ tw_424) (x := τ.1 24) rfl dX10_goThrough_126 ?_
        obtain ⟨Q7, hc, hw⟩ := hw
        refine wc_i (X := CX g q lb) (va_runV (As := [.int (I x6), .int (I (τ.1 24))]) (rest := []) ⟨hx, hb, hml, hown, hts⟩ (L_X6_isStatement l g q lb hlb r_x6 (hB.1 24) hN hc H.size) (cwV 2 hts (TB_V tw_1349 tw_1350 tw_1351 tw_6 co_X6_isStatement) rfl rfl rfl (by decide +kernel) ⟨Nat.le_of_ble_eq_true rfl, Nat.le_of_ble_eq_true rfl⟩) (preV (q0 := 4) (ci := 6) rfl xT_bl hP hK hNb hD rfl rfl xT_at) rfl rfl hl.1 rfl (lv_room (Nat.le_of_ble_eq_true rfl)) dX10_goThrough_129 ⟨Nat.le_of_ble_eq_true rfl, Nat.le_of_ble_eq_true rfl⟩) hP hD hS hA (fun x8 H locs r_x8 hq hP hD hS => ?_)
        replace hw := hw x8 r_x8 hq
        refine bi_if_ne (tgt := 138) hx hb r_x8 dX10_goThrough_132 (by decide) (fun c10 => ?_) (fun c10 => ?_)
        ·
          replace hw := hw.1 c10
          refine lv_aload_n hx hb dX10_goThrough_138 rfl (lv_at hl 0 rfl) ?_
          refine gfX10_assertions hx hb hts hK hP hown (hts _ tw_415) dX10_goThrough_139 ?_
          refine lv_aload_n hx hb dX10_goThrough_142 rfl (lv_at hl 0 rfl) ?_
          refine gfX10_theorem hx hb hts hK hP hown (hts _ tw_424) (x := τ.1 24) rfl dX10_goThrough_143 ?_
          refine lv_aload_n hx hb dX10_goThrough_146 rfl (lv_at hl 0 rfl) ?_
          refine gfX10_rows hx hb hts hK hP hown (hts _ tw_436) (x := τ.1 32) rfl dX10_goThrough_147 ?_
          obtain ⟨Q11, hc, hw⟩ := hw
          refine wc_V (X := CX g q lb) (va_runV (As := [.int (I (τ.1 24)), .int (I (τ.1 32))]) (rest := []) ⟨hx, hb, hml, hown, hts⟩ (L_X0_keepRows l g q lb hlb (hB.1 24) (hB.1 32) hN hc H.size) (cwV 2 hts (TB_V tw_1353 tw_1354 tw_1355 tw_5 co_X0_keepRows) rfl rfl rfl (by decide +kernel) ⟨Nat.le_of_ble_eq_true rfl, Nat.le_of_ble_eq_true rfl⟩) (preV (q0 := 3) (ci := 0) rfl xT_bl hP hK hNb hD rfl rfl xT_at) rfl rfl hl.1 rfl (lv_room (Nat.le_of_ble_eq_true rfl)) dX10_goThrough_150 ⟨Nat.le_of_ble_eq_true rfl, Nat.le_of_ble_eq_true rfl⟩) hP hD hS hA (fun τ13 H locs hN hf hq hP hD hS => ?_)
          replace hw := hw τ13 hN hf hq
          have hF : f_r [15, 17, 18, 19, 20, 23, 29, 30, 31, 32] [33, 34, 35, 36, 37, 39, 40, 41, 42, 43, 44, 45, 46, 47, 48, 52, 53] [1] σ τ13 := f_t hF hf (by decide) (by decide) (by decide)
          have hB := hN
          refine lv_iconst (v := I 0) hx hb dX10_goThrough_153 rfl ?_
          exact xri hx hb hr hlk hP hK hD hS ⟨_, _, (by decide), rfl, hN, hF, rfl, hw⟩ (Nat.le_of_ble_eq_true rfl) (Nat.le_of_ble_eq_true rfl) dX10_goThrough_154
        ·
          replace hw := hw.2 c10
          refine lv_bipush (v := I 19) hx hb dX10_goThrough_135 (by decide) ?_
          exact xri hx hb hr hlk hP hK hD hS ⟨_, _, (by decide), rfl, hN, hF, rfl, hw⟩ (Nat.le_of_ble_eq_true rfl) (Nat.le_of_ble_eq_true rfl) dX10_goThrough_137
      ·
        replace hw := hw.2 c5
        refine lv_bipush (v := I 18) hx hb dX10_goThrough_112 (by decide) ?_
        exact xri hx hb hr hlk hP hK hD hS ⟨_, _, (by decide), rfl, hN, hF, rfl, hw⟩ (Nat.le_of_ble_eq_true rfl) (Nat.le_of_ble_eq_true rfl) dX10_goThrough_114
    ·
      replace hw := hw.2 c4
      refine lv_aload_n hx hb dX10_goThrough_37 rfl (lv_at hl 0 rfl) ?_
      refine lv_aload_n hx hb dX10_goThrough_38 rfl (lv_at hl 0 rfl) ?_
      refine gfX10_places hx hb hts hK hP hown (hts _ tw_419) dX10_goThrough_39 ?_
      refine lv_iload_n hx hb dX10_goThrough_42 rfl (lv_at hl 2 rfl) ?_
      obtain ⟨c14, hw⟩ := hw
      refine ldCX10_places hx hb hK hP hN c14 dX10_goThrough_43 (fun x15 r_x15 e_x15 => ?_)
      replace hw := hw x15 r_x15 e_x15
      refine pfX10_place hx hb hts hK hP hD hS hown (hts _ tw_431) dX10_goThrough_44 (fun H locs hP hD hS => ?_)
      have hN : n_m (s_v τ 29 x15) := n_v (i := 29) hN (r_x15 : rg x15)
      have hF : f_r [15, 17, 18, 19, 20, 23, 29, 30, 31, 32] [33, 34, 35, 36, 37, 39, 40, 41, 42, 43, 44, 45, 46, 47, 48, 52, 53] [1] σ (s_v τ 29 x15) := f_v hF (by decide)
      refine lv_aload_n hx hb dX10_goThrough_47 rfl (lv_at hl 0 rfl) ?_
      refine gfX10_steps hx hb hts hK hP hown (hts _ tw_418) dX10_goThrough_48 ?_
      refine lv_iload_n hx hb dX10_goThrough_51 rfl (lv_at hl 2 rfl) ?_
      refine ldCX10_steps hx hb hK hP hN c14 dX10_goThrough_52 (fun x16 r_x16 e_x16 => ?_)
      replace hw := hw x16 r_x16 e_x16
      refine bi_if_ge (tgt := 76) hx hb r_x16 dX10_goThrough_53 (by decide) (fun c17 => ?_) (fun c17 => ?_)
      ·
        replace hw := hw.1 c17
        refine lv_aload_n hx hb dX10_goThrough_76 rfl (lv_at hl 0 rfl) ?_
        refine lv_aload_n hx hb dX10_goThrough_77 rfl (lv_at hl 0 rfl) ?_
        refine gfX10_steps hx hb hts hK hP hown (hts _ tw_418) dX10_goThrough_78 ?_
        refine lv_iload_n hx hb dX10_goThrough_81 rfl (lv_at hl 2 rfl) ?_
        refine ldCX10_steps hx hb hK hP hN c14 dX10_goThrough_82 (fun x18 r_x18 e_x18 => ?_)
        replace hw := hw x18 r_x18 e_x18
        obtain ⟨Q19, hc, hw⟩ := hw
        refine wc_I (X := CX g q lb) (va_runV (As := [.int (I x18)]) (rest := []) ⟨hx, hb, hml, hown, hts⟩ (L_X10_take l g q lb hlb r_x18 hN hc H.size) (cwV 1 hts (TB_V tw_1282 tw_1284 ts_44 tw_8 co_X10_take) rfl rfl rfl (by decide +kernel) ⟨Nat.le_of_ble_eq_true rfl, Nat.le_of_ble_eq_true rfl⟩) (preV (q0 := 5) (ci := 10) rfl xT_bl hP hK hNb hD rfl rfl xT_at) rfl rfl hl.1 rfl (lv_room (Nat.le_of_ble_eq_true rfl)) dX10_goThrough_83 ⟨Nat.le_of_ble_eq_true rfl, Nat.le_of_ble_eq_true rfl⟩) hP hD hS hA (fun x20 τ21 H locs r_x20 hN hf hq hP hD hS => ?_)
        replace hw := hw x20 τ21 r_x20 hN hf hq
        have hF : f_r [15, 17, 18, 19, 20, 23, 29, 30, 31, 32] [33, 34, 35, 36, 37, 39, 40, 41, 42, 43, 44, 45, 46, 47, 48, 52, 53] [1] σ τ21 := f_t hF hf (by decide) (by decide) (by decide)
        have hB := hN
        exact (hP86 _ _ _ _).mp hw r_u1 r_u2 r_x20 hN hF H locs ls hP hD hS (lv_sub hl [0, 1, 2] rfl)
      ·
        replace hw := hw.2 c17
        refine lv_aload_n hx hb dX10_goThrough_56 rfl (lv_at hl 0 rfl) ?_
        refine lv_aload_n hx hb dX10_goThrough_57 rfl (lv_at hl 0 rfl) ?_
        refine gfX10_savedRow hx hb hts hK hP hown (hts _ tw_434) dX10_goThrough_58 ?_
        refine lv_aload_n hx hb dX10_goThrough_61 rfl (lv_at hl 0 rfl) ?_
        refine gfX10_steps hx hb hts hK hP hown (hts _ tw_418) dX10_goThrough_62 ?_
        refine lv_iload_n hx hb dX10_goThrough_65 rfl (lv_at hl 2 rfl) ?_
        refine ldCX10_steps hx hb hK hP hN c14 dX10_goThrough_66 (fun x22 r_x22 e_x22 => ?_)
        replace hw := hw x22 r_x22 e_x22
        refine lv_iconst (v := I (-1)) hx hb dX10_goThrough_67 rfl ?_
        refine bi_inot hx hb dX10_goThrough_68 ?_
        obtain ⟨c23, hw⟩ := hw
        refine ldCX10_savedRow hx hb hK hP hN c23 dX10_goThrough_69 (fun x24 r_x24 e_x24 => ?_)
        replace hw := hw x24 r_x24 e_x24
        obtain ⟨Q25, hc, hw⟩ := hw
        refine wc_I (X := CX g q lb) (va_runV (As := [.int (I x24)]) (rest := []) ⟨hx, hb, hml, hown, hts⟩ (L_X10_putAgain l g q lb hlb r_x24 hN hc H.size) (cwV 1 hts (TB_V tw_1277 tw_1279 ts_43 tw_8 co_X10_putAgain) rfl rfl rfl (by decide +kernel) ⟨Nat.le_of_ble_eq_true rfl, Nat.le_of_ble_eq_true rfl⟩) (preV (q0 := 5) (ci := 10) rfl xT_bl hP hK hNb hD rfl rfl xT_at) rfl rfl hl.1 rfl (lv_room (Nat.le_of_ble_eq_true rfl)) dX10_goThrough_70 ⟨Nat.le_of_ble_eq_true rfl, Nat.le_of_ble_eq_true rfl⟩) hP hD hS hA (fun x26 τ27 H locs r_x26 hN hf hq hP hD hS => ?_)
        replace hw := hw x26 τ27 r_x26 hN hf hq
        have hF : f_r [15, 17, 18, 19, 20, 23, 29, 30, 31, 32] [33, 34, 35, 36, 37, 39, 40, 41, 42, 43, 44, 45, 46, 47, 48, 52, 53] [1] σ τ27 := f_t hF hf (by decide) (by decide) (by decide)
        have hB := hN
        refine lv_goto (tgt := 86) hx hb dX10_goThrough_73 (by decide) ?_
        exact (hP86 _ _ _ _).mp hw r_u1 r_u2 r_x26 hN hF H locs ls hP hD hS (lv_sub hl [0, 1, 2] rfl)
  ·
    intro u1 u2 k0 τ hw
    refine (hP86 _ _ _ _).mpr ?_
    intro r_u1 r_u2 r_k0 hN hF H locs ls hP hD hS hl
    have hB := hN
    refine lv_istore_n (lv' := [(3, .int (I k0)), (0, .ref (q 5)), (1, .int (I u1)), (2, .int (I u2))]) hx hb dX10_goThrough_86 rfl hl (by decide) rfl (fun ls hl => ?_)
    refine lv_iload_n hx hb dX10_goThrough_87 rfl (lv_at hl 0 rfl) ?_
    refine bi_if_eq (tgt := 93) hx hb r_k0 dX10_goThrough_88 (by decide) (fun c28 => ?_) (fun c28 => ?_)
    ·
      replace hw := hw.1 c28
      refine lv_iinc (v := I (u2 + 1)) (lv' := [(2, .int (I (u2 + 1))), (3, .int (I k0)), (0, .ref (q 5)), (1, .int (I u1))]) hx hb dX10_goThrough_93 hl (k := 3) rfl (I_add _ _) (by decide) rfl (fun ls hl => ?_)
      refine lv_goto (tgt := 29) hx hb dX10_goThrough_96 (by decide) ?_
      obtain ⟨c29, hw⟩ := hw
      exact (hP29 _ _ _).mp hw r_u1 c29 hN hF H locs ls hP hD hS (lv_sub hl [2, 3, 0] rfl)
    ·
      replace hw := hw.2 c28
      refine lv_iload_n hx hb dX10_goThrough_91 rfl (lv_at hl 0 rfl) ?_
      exact xri hx hb hr hlk hP hK hD hS ⟨_, _, r_k0, rfl, hN, hF, rfl, hw⟩ (Nat.le_of_ble_eq_true rfl) (Nat.le_of_ble_eq_true rfl) dX10_goThrough_92
def W_X10_noteRests (σ : S0) (Q : S0 → Prop) : Prop :=
  ∀ (P2 : Int → S0 → Prop),
  (∀ (u1 : Int) (τ : S0), ((τ.1 21 ≤ u1 → rg (τ.1 16 + τ.1 21) ∧ Q (s_v τ 16 (τ.1 16 + τ.1 21))) ∧ (u1 < τ.1 21 → (0 ≤ u1 ∧ u1 < 20000) ∧ (∀ (x4 : Int), rg x4 → x4 = τ.2.1 49 u1 → (∀ (x5 : Int), rg x5 → x5 = τ.2.1 49 u1 → ((x5 < 0 → rg (u1 + 1) ∧ P2 (u1 + 1) τ) ∧ (0 ≤ x5 → (0 ≤ (x4 % 65536) ∧ (x4 % 65536) < 1500) ∧ (∀ (x9 : Int), rg x9 → x9 = τ.2.1 13 (x4 % 65536) → ((x9 < 2 → rg (u1 + 1) ∧ P2 (u1 + 1) τ) ∧ (2 ≤ x9 → ∃ (Q12 : Int → Prop), W_X0_restsOn (τ.1 24) (x4 % 65536) τ Q12 ∧ ∀ (x13 : Int), rg x13 → Q12 x13 → ((¬ x13 = 0 → rg (u1 + 1) ∧ P2 (u1 + 1) τ) ∧ (x13 = 0 → ∃ (Q17 : S0 → Prop), W_X0_addRest (τ.1 24) (x4 % 65536) τ Q17 ∧ ∀ (τ19 : S0), n_m τ19 → f_r [] [] [2] τ τ19 → Q17 τ19 → (rg (u1 + 1) ∧ P2 (u1 + 1) τ19)))))))))))) → P2 u1 τ) →
  P2 0 σ
set_option maxRecDepth 100000 in
set_option maxHeartbeats 4000000 in
theorem L_X10_noteRests (l : Launch) (g : gG) (q : Nat → Nat) (lb : Nat) (hlb : lb < 2 ^ 31) {σ : S0} {Q : S0 → Prop} (hN : n_m σ) (hw : W_X10_noteRests σ Q) (sz : Nat) : MetV l yX10_noteRests cX10_noteRests 3 { frames := 1, cells := 0, slots := 0, locals := 23 } g [.ref (q 5)] (CX g q lb σ) sz xT (p_V (CX g q lb) [16] [] [2] σ Q) 0 0 := by
  refine mkMet (Qc := fun A => QV g A (p_V (CX g q lb) [16] [] [2] σ Q)) (by decide) (Nat.le_of_ble_eq_true rfl) ?_
  intro p e s m below meth c A H ls hx hb hr hml hown hts hlk hnm hsz hP hK hNb hD hA hAe hS hX hl
  have hl : lv_has ls 3 [(0, .ref (q 5))] := hl
  have hB := hN
  have hF : f_r [16] [] [2] σ σ := f_0
  obtain ⟨locs, hlocs⟩ : ∃ z : List Loc, z = [] := ⟨_, rfl⟩
  rw [← hlocs] at hS ⊢
  obtain ⟨P2, hP2⟩ : ∃ P : Int → S0 → Prop, ∀ (u1 : Int) (τ : S0), (P u1 τ ↔ (rg u1 → n_m τ → f_r [16] [] [2] σ τ → ∀ (H : Heap) (locs : List Loc) (ls : Array Slot), KP g (CX g q lb τ) H → va_D A (CX g q lb τ) → va_S A s.heap H locs → lv_has ls 3 [(0, .ref (q 5)), (1, .int (I u1))] → W p l e ({ frames := 1, cells := 0, slots := 0, locals := 23 }) s m [.ref (q 5)].toArray below meth c H locs 0 0 (MQ below (QV g A (p_V (CX g q lb) [16] [] [2] σ Q)) [.ref (q 5)].toArray s 0 0 A) (F0 m 2 ls []))) := ⟨_, fun _ _ => Iff.rfl⟩
  refine (fun hw => ?_) (hw P2 ?_)
  ·
    refine lv_iconst (v := I 0) hx hb dX10_noteRests_0 rfl ?_
    refine lv_istore_n (lv' := [(1, .int (I 0)), (0, .ref (q 5))]) hx hb dX10_noteRests_1 rfl hl (by decide) rfl (fun ls hl => ?_)
    exact (hP2 _ _).mp hw (by decide) hN hF H locs ls hP hD hS (lv_sub hl [1, 0] rfl)
  ·
    intro u1 τ hw
    refine (hP2 _ _).mpr ?_
    intro r_u1 hN hF H locs ls hP hD hS hl
    have hB := hN
    refine lv_iload_n hx hb dX10_noteRests_2 rfl (lv_at hl 1 rfl) ?_
    refine lv_aload_n hx hb dX10_noteRests_3 rfl (lv_at hl 0 rfl) ?_
    refine gfX10_count hx hb hts hK hP hown (hts _ tw_420) (x := τ.1 21) rfl dX10_noteRests_4 ?_
    refine bi_icmp_ge (tgt := 75) hx hb r_u1 (hB.1 21) dX10_noteRests_7 (by decide) (fun c1 => ?_) (fun c1 => ?_)
    ·
      replace hw := hw.1 c1
      refine lv_aload_n hx hb dX10_noteRests_75 rfl (lv_at hl 0 rfl) ?_
      refine gfX10_assertions hx hb hts hK hP hown (hts _ tw_415) dX10_noteRests_76 ?_
      refine lv_dup hx hb dX10_noteRests_79 rfl ?_
      refine gfNX0_steps hx hb hts hK hP hown (nb_use hNb tn_291) (x := τ.1 16) rfl dX10_noteRests_80 ?_
      refine lv_aload_n hx hb dX10_noteRests_83 rfl (lv_at hl 0 rfl) ?_
      refine gfX10_count hx hb hts hK hP hown (hts _ tw_420) (x := τ.1 21) rfl dX10_noteRests_84 ?_
      refine bi_iadd hx hb dX10_noteRests_87 ?_
      obtain ⟨c2, hw⟩ := hw
      refine pfNX0_steps hx hb hts hK hP hD hS hown (nb_use hNb tn_291) dX10_noteRests_88 (fun H locs hP hD hS => ?_)
      have hN : n_m (s_v τ 16 (τ.1 16 + τ.1 21)) := n_v (i := 16) hN (c2 : rg (τ.1 16 + τ.1 21))
      have hF : f_r [16] [] [2] σ (s_v τ 16 (τ.1 16 + τ.1 21)) := f_v hF (by decide)
      exact xrv hx hb hr hlk hP hK hD hS ⟨_, hN, hF, rfl, hw⟩ (Nat.le_of_ble_eq_true rfl) (Nat.le_of_ble_eq_true rfl) dX10_noteRests_91
    ·
      replace hw := hw.2 c1
      refine lv_aload_n hx hb dX10_noteRests_10 rfl (lv_at hl 0 rfl) ?_
      refine gfX10_steps hx hb hts hK hP hown (hts _ tw_418) dX10_noteRests_11 ?_
      refine lv_iload_n hx hb dX10_noteRests_14 rfl (lv_at hl 1 rfl) ?_
      obtain ⟨c3, hw⟩ := hw
      refine ldCX10_steps hx hb hK hP hN c3 dX10_noteRests_15 (fun x4 r_x4 e_x4 => ?_)
      replace hw := hw x4 r_x4 e_x4
      refine lv_ldc (own := RX10) (v := 65535) hx hb hown (hts _ tw_1286) dX10_noteRests_16 ?_
      refine xtop (y := I 65535) (by decide) ?_
      refine bi_iandm hx hb 65535 16 65536 (by decide) (by decide) (by omega) dX10_noteRests_18 ?_
      refine lv_istore_n (lv' := [(2, .int (I (x4 % 65536))), (0, .ref (q 5)), (1, .int (I u1))]) hx hb dX10_noteRests_19 rfl hl (by decide) rfl (fun ls hl => ?_)
      refine lv_aload_n hx hb dX10_noteRests_20 rfl (lv_at hl 1 rfl) ?_
      refine gfX10_steps hx hb hts hK hP hown (hts _ tw_418) dX10_noteRests_21 ?_
      refine lv_iload_n hx hb dX10_noteRests_24 rfl (lv_at hl 2 rfl) ?_
      refine ldCX10_steps hx hb hK hP hN c3 dX10_noteRests_25 (fun x5 r_x5 e_x5 => ?_)
      replace hw := hw x5 r_x5 e_x5
      refine bi_if_lt (tgt := 69) hx hb r_x5 dX10_noteRests_26 (by decide) (fun c6 => ?_) (fun c6 => ?_)
      ·
        replace hw := hw.1 c6
        refine lv_iinc (v := I (u1 + 1)) (lv' := [(1, .int (I (u1 + 1))), (2, .int (I (x4 % 65536))), (0, .ref (q 5))]) hx hb dX10_noteRests_69 hl (k := 2) rfl (I_add _ _) (by decide) rfl (fun ls hl => ?_)
        refine lv_goto (tgt := 2) hx hb dX10_noteRests_72 (by decide) ?_
        obtain ⟨c7, hw⟩ := hw
        exact (hP2 _ _).mp hw c7 hN hF H locs ls hP hD hS (lv_sub hl [2, 0] rfl)
      ·
        replace hw := hw.2 c6
        refine lv_aload_n hx hb dX10_noteRests_29 rfl (lv_at hl 1 rfl) ?_
        refine gfX10_library hx hb hts hK hP hown (hts _ tw_414) dX10_noteRests_30 ?_
        refine gfNX3_kind hx hb hts hK hP hown (nb_use hNb tn_76) dX10_noteRests_33 ?_
        refine lv_iload_n hx hb dX10_noteRests_36 rfl (lv_at hl 0 rfl) ?_
        obtain ⟨c8, hw⟩ := hw
        refine ldCX3_kind hx hb hK hP hN c8 dX10_noteRests_37 (fun x9 r_x9 e_x9 => ?_)
        replace hw := hw x9 r_x9 e_x9
        refine lv_iconst (v := I 2) hx hb dX10_noteRests_38 rfl ?_
        refine bi_icmp_lt (tgt := 69) hx hb r_x9 (by decide) dX10_noteRests_39 (by decide) (fun c10 => ?_) (fun c10 => ?_)
        ·
          replace hw := hw.1 c10
          refine lv_iinc (v := I (u1 + 1)) (lv' := [(1, .int (I (u1 + 1))), (2, .int (I (x4 % 65536))), (0, .ref (q 5))]) hx hb dX10_noteRests_69 hl (k := 2) rfl (I_add _ _) (by decide) rfl (fun ls hl => ?_)
          refine lv_goto (tgt := 2) hx hb dX10_noteRests_72 (by decide) ?_
          obtain ⟨c11, hw⟩ := hw
          exact (hP2 _ _).mp hw c11 hN hF H locs ls hP hD hS (lv_sub hl [2, 0] rfl)
        ·
          replace hw := hw.2 c10
          refine lv_aload_n hx hb dX10_noteRests_42 rfl (lv_at hl 1 rfl) ?_
          refine gfX10_assertions hx hb hts hK hP hown (hts _ tw_415) dX10_noteRests_43 ?_
          refine lv_aload_n hx hb dX10_noteRests_46 rfl (lv_at hl 1 rfl) ?_
          refine gfX10_theorem hx hb hts hK hP hown (hts _ tw_424) (x := τ.1 24) rfl dX10_noteRests_47 ?_
          refine lv_iload_n hx hb dX10_noteRests_50 rfl (lv_at hl 0 rfl) ?_
          obtain ⟨Q12, hc, hw⟩ := hw
          refine wc_i (X := CX g q lb) (va_runV (As := [.int (I (τ.1 24)), .int (I (x4 % 65536))]) (rest := []) ⟨hx, hb, hml, hown, hts⟩ (L_X0_restsOn l g q lb hlb (hB.1 24) (⟨by omega, by omega⟩ : rg (x4 % 65536)) hN hc H.size) (cwV 2 hts (TB_V tw_1365 tw_1366 tw_1367 tw_5 co_X0_restsOn) rfl rfl rfl (by decide +kernel) ⟨Nat.le_of_ble_eq_true rfl, Nat.le_of_ble_eq_true rfl⟩) (preV (q0 := 3) (ci := 0) rfl xT_bl hP hK hNb hD rfl rfl xT_at) rfl rfl hl.1 rfl (lv_room (Nat.le_of_ble_eq_true rfl)) dX10_noteRests_51 ⟨Nat.le_of_ble_eq_true rfl, Nat.le_of_ble_eq_true rfl⟩) hP hD hS hA (fun x13 H locs r_x13 hq hP hD hS => ?_)
          replace hw := hw x13 r_x13 hq
          refine bi_if_ne (tgt := 69) hx hb r_x13 dX10_noteRests_54 (by decide) (fun c15 => ?_) (fun c15 => ?_)
          ·
            replace hw := hw.1 c15
            refine lv_iinc (v := I (u1 + 1)) (lv' := [(1, .int (I (u1 + 1))), (2, .int (I (x4 % 65536))), (0, .ref (q 5))]) hx hb dX10_noteRests_69 hl (k := 2) rfl (I_add _ _) (by decide) rfl (fun ls hl => ?_)
            refine lv_goto (tgt := 2) hx hb dX10_noteRests_72 (by decide) ?_
            obtain ⟨c16, hw⟩ := hw
            exact (hP2 _ _).mp hw c16 hN hF H locs ls hP hD hS (lv_sub hl [2, 0] rfl)
          ·
            replace hw := hw.2 c15
            refine lv_aload_n hx hb dX10_noteRests_57 rfl (lv_at hl 1 rfl) ?_
            refine gfX10_assertions hx hb hts hK hP hown (hts _ tw_415) dX10_noteRests_58 ?_
            refine lv_aload_n hx hb dX10_noteRests_61 rfl (lv_at hl 1 rfl) ?_
            refine gfX10_theorem hx hb hts hK hP hown (hts _ tw_424) (x := τ.1 24) rfl dX10_noteRests_62 ?_
            refine lv_iload_n hx hb dX10_noteRests_65 rfl (lv_at hl 0 rfl) ?_
            obtain ⟨Q17, hc, hw⟩ := hw
            refine wc_V (X := CX g q lb) (va_runV (As := [.int (I (τ.1 24)), .int (I (x4 % 65536))]) (rest := []) ⟨hx, hb, hml, hown, hts⟩ (L_X0_addRest l g q lb hlb (hB.1 24) (⟨by omega, by omega⟩ : rg (x4 % 65536)) hN hc H.size) (cwV 2 hts (TB_V tw_1369 tw_1370 tw_1371 tw_5 co_X0_addRest) rfl rfl rfl (by decide +kernel) ⟨Nat.le_of_ble_eq_true rfl, Nat.le_of_ble_eq_true rfl⟩) (preV (q0 := 3) (ci := 0) rfl xT_bl hP hK hNb hD rfl rfl xT_at) rfl rfl hl.1 rfl (lv_room (Nat.le_of_ble_eq_true rfl)) dX10_noteRests_66 ⟨Nat.le_of_ble_eq_true rfl, Nat.le_of_ble_eq_true rfl⟩) hP hD hS hA (fun τ19 H locs hN hf hq hP hD hS => ?_)
            replace hw := hw τ19 hN hf hq
            have hF : f_r [16] [] [2] σ τ19 := f_t hF hf (by decide) (by decide) (by decide)
            have hB := hN
            refine lv_iinc (v := I (u1 + 1)) (lv' := [(1, .int (I (u1 + 1))), (2, .int (I (x4 % 65536))), (0, .ref (q 5))]) hx hb dX10_noteRests_69 hl (k := 2) rfl (I_add _ _) (by decide) rfl (fun ls hl => ?_)
            refine lv_goto (tgt := 2) hx hb dX10_noteRests_72 (by decide) ?_
            obtain ⟨c20, hw⟩ := hw
            exact (hP2 _ _).mp hw c20 hN hF H locs ls hP hD hS (lv_sub hl [2, 0] rfl)
def W_X7_endTheorem (σ : S0) (Q : Int → S0 → Prop) : Prop :=
  ∀ (P25 : Int → S0 → Prop) (P51 : Int → Int → S0 → Prop) (P86 : Int → S0 → Prop),
  (∀ (k0 : Int) (τ : S0), ((τ.1 28 = 0 → P51 k0 (τ.1 29) τ) ∧ (¬ τ.1 28 = 0 → P51 k0 (τ.1 33) τ)) → P25 k0 τ) →
  (∀ (u1 : Int) (k1 : Int) (τ : S0), ((u1 = 0 → ∃ (Q7 : S0 → Prop), W_X10_noteRests (s_v τ 33 k1) Q7 ∧ ∀ (τ9 : S0), n_m τ9 → f_r [16] [] [2] (s_v τ 33 k1) τ9 → Q7 τ9 → ((τ9.1 28 = 0 → P86 3 τ9) ∧ (¬ τ9.1 28 = 0 → P86 4 τ9))) ∧ (¬ u1 = 0 → Q u1 (s_v τ 33 k1))) → P51 u1 k1 τ) →
  (∀ (k1 : Int) (τ : S0), (∃ (Q11 : S0 → Prop), W_X3_add k1 τ Q11 ∧ ∀ (τ13 : S0), n_m τ13 → f_r [7] [9, 13] [] τ τ13 → Q11 τ13 → (Q 0 (s_v τ13 35 0))) → P86 k1 τ) →
  (σ.1 28 = 0 → ∃ (Q2 : Int → S0 → Prop), W_X10_goThrough (σ.1 33) σ Q2 ∧ ∀ (x3 : Int) (τ4 : S0), rg x3 → n_m τ4 → f_r [15, 17, 18, 19, 20, 23, 29, 30, 31, 32] [33, 34, 35, 36, 37, 39, 40, 41, 42, 43, 44, 45, 46, 47, 48, 52, 53] [1] σ τ4 → Q2 x3 τ4 → (P25 x3 τ4)) ∧ (¬ σ.1 28 = 0 → P25 0 σ)
set_option maxRecDepth 100000 in
set_option maxHeartbeats 4000000 in
theorem L_X7_endTheorem (l : Launch) (g : gG) (q : Nat → Nat) (lb : Nat) (hlb : lb < 2 ^ 31) {σ : S0} {Q : Int → S0 → Prop} (hN : n_m σ) (hw : W_X7_endTheorem σ Q) (sz : Nat) : MetI l yX7_endTheorem cX7_endTheorem 2 (some .int) { frames := 5, cells := 0, slots := 0, locals := 169 } g [.ref (q 6)] (CX g q lb σ) sz xT (p_I (CX g q lb) [7, 15, 16, 17, 18, 19, 20, 23, 29, 30, 31, 32, 33, 35] [9, 13, 33, 34, 35, 36, 37, 39, 40, 41, 42, 43, 44, 45, 46, 47, 48, 52, 53] [1, 2] σ Q) 0 0 := by
  refine mkMet (Qc := fun A => QI g A (p_I (CX g q lb) [7, 15, 16, 17, 18, 19, 20, 23, 29, 30, 31, 32, 33, 35] [9, 13, 33, 34, 35, 36, 37, 39, 40, 41, 42, 43, 44, 45, 46, 47, 48, 52, 53] [1, 2] σ Q)) (by decide) (Nat.le_of_ble_eq_true rfl) ?_
  intro p e s m below meth c A H ls hx hb hr hml hown hts hlk hnm hsz hP hK hNb hD hA hAe hS hX hl
  have hl : lv_has ls 2 [(0, .ref (q 6))] := hl
  have hB := hN
  have hF : f_r [7, 15, 16, 17, 18, 19, 20, 23, 29, 30, 31, 32, 33, 35] [9, 13, 33, 34, 35, 36, 37, 39, 40, 41, 42, 43, 44, 45, 46, 47, 48, 52, 53] [1, 2] σ σ := f_0
  obtain ⟨locs, hlocs⟩ : ∃ z : List Loc, z = [] := ⟨_, rfl⟩
  rw [← hlocs] at hS ⊢
  obtain ⟨P25, hP25⟩ : ∃ P : Int → S0 → Prop, ∀ (k0 : Int) (τ : S0), (P k0 τ ↔ (rg k0 → n_m τ → f_r [7, 15, 16, 17, 18, 19, 20, 23, 29, 30, 31, 32, 33, 35] [9, 13, 33, 34, 35, 36, 37, 39, 40, 41, 42, 43, 44, 45, 46, 47, 48, 52, 53] [1, 2] σ τ → ∀ (H : Heap) (locs : List Loc) (ls : Array Slot), KP g (CX g q lb τ) H → va_D A (CX g q lb τ) → va_S A s.heap H locs → lv_has ls 2 [(0, .ref (q 6))] → W p l e ({ frames := 5, cells := 0, slots := 0, locals := 169 }) s m [.ref (q 6)].toArray below meth c H locs 0 0 (MQ below (QI g A (p_I (CX g q lb) [7, 15, 16, 17, 18, 19, 20, 23, 29, 30, 31, 32, 33, 35] [9, 13, 33, 34, 35, 36, 37, 39, 40, 41, 42, 43, 44, 45, 46, 47, 48, 52, 53] [1, 2] σ Q)) [.ref (q 6)].toArray s 0 0 A) (F0 m 25 ls [.int (I k0)]))) := ⟨_, fun _ _ => Iff.rfl⟩
  obtain ⟨P51, hP51⟩ : ∃ P : Int → Int → S0 → Prop, ∀ (u1 : Int) (k1 : Int) (τ : S0), (P u1 k1 τ ↔ (rg u1 → rg k1 → n_m τ → f_r [7, 15, 16, 17, 18, 19, 20, 23, 29, 30, 31, 32, 33, 35] [9, 13, 33, 34, 35, 36, 37, 39, 40, 41, 42, 43, 44, 45, 46, 47, 48, 52, 53] [1, 2] σ τ → ∀ (H : Heap) (locs : List Loc) (ls : Array Slot), KP g (CX g q lb τ) H → va_D A (CX g q lb τ) → va_S A s.heap H locs → lv_has ls 2 [(0, .ref (q 6)), (1, .int (I u1))] → W p l e ({ frames := 5, cells := 0, slots := 0, locals := 169 }) s m [.ref (q 6)].toArray below meth c H locs 0 0 (MQ below (QI g A (p_I (CX g q lb) [7, 15, 16, 17, 18, 19, 20, 23, 29, 30, 31, 32, 33, 35] [9, 13, 33, 34, 35, 36, 37, 39, 40, 41, 42, 43, 44, 45, 46, 47, 48, 52, 53] [1, 2] σ Q)) [.ref (q 6)].toArray s 0 0 A) (F0 m 51 ls [.int (I k1), .ref (q 6)]))) := ⟨_, fun _ _ _ => Iff.rfl⟩
  obtain ⟨P86, hP86⟩ : ∃ P : Int → S0 → Prop, ∀ (k1 : Int) (τ : S0), (P k1 τ ↔ (rg k1 → n_m τ → f_r [7, 15, 16, 17, 18, 19, 20, 23, 29, 30, 31, 32, 33, 35] [9, 13, 33, 34, 35, 36, 37, 39, 40, 41, 42, 43, 44, 45, 46, 47, 48, 52, 53] [1, 2] σ τ → ∀ (H : Heap) (locs : List Loc) (ls : Array Slot), KP g (CX g q lb τ) H → va_D A (CX g q lb τ) → va_S A s.heap H locs → lv_has ls 2 [(0, .ref (q 6))] → W p l e ({ frames := 5, cells := 0, slots := 0, locals := 169 }) s m [.ref (q 6)].toArray below meth c H locs 0 0 (MQ below (QI g A (p_I (CX g q lb) [7, 15, 16, 17, 18, 19, 20, 23, 29, 30, 31, 32, 33, 35] [9, 13, 33, 34, 35, 36, 37, 39, 40, 41, 42, 43, 44, 45, 46, 47, 48, 52, 53] [1, 2] σ Q)) [.ref (q 6)].toArray s 0 0 A) (F0 m 86 ls [.int (I k1), .ref (q 1)]))) := ⟨_, fun _ _ => Iff.rfl⟩
  refine (fun hw => ?_) (hw P25 P51 P86 ?_ ?_ ?_)
  ·
    refine lv_aload_n hx hb dX7_endTheorem_0 rfl (lv_at hl 0 rfl) ?_
    refine gfX7_steps hx hb hts hK hP hown (hts _ tw_487) dX7_endTheorem_1 ?_
    refine gfNX10_open hx hb hts hK hP hown (nb_use hNb tn_429) (x := σ.1 28) rfl dX7_endTheorem_4 ?_
    refine bi_if_eq (tgt := 14) hx hb (hB.1 28) dX7_endTheorem_7 (by decide) (fun c1 => ?_) (fun c1 => ?_)
    ·
      replace hw := hw.1 c1
      refine lv_aload_n hx hb dX7_endTheorem_14 rfl (lv_at hl 0 rfl) ?_
      refine gfX7_steps hx hb hts hK hP hown (hts _ tw_487) dX7_endTheorem_15 ?_
      refine lv_aload_n hx hb dX7_endTheorem_18 rfl (lv_at hl 0 rfl) ?_
      refine gfX7_place hx hb hts hK hP hown (hts _ tw_490) (x := σ.1 33) rfl dX7_endTheorem_19 ?_
      obtain ⟨Q2, hc, hw⟩ := hw
      refine wc_I (X := CX g q lb) (va_runV (As := [.int (I (σ.1 33))]) (rest := []) ⟨hx, hb, hml, hown, hts⟩ (L_X10_goThrough l g q lb hlb (hB.1 33) hN hc H.size) (cwV 1 hts (TB_V tw_1269 tw_1270 tw_1271 tw_8 co_X10_goThrough) rfl rfl rfl (by decide +kernel) ⟨Nat.le_of_ble_eq_true rfl, Nat.le_of_ble_eq_true rfl⟩) (preV (q0 := 5) (ci := 10) rfl xT_bl hP hK hNb hD rfl rfl xT_at) rfl rfl hl.1 rfl (lv_room (Nat.le_of_ble_eq_true rfl)) dX7_endTheorem_22 ⟨Nat.le_of_ble_eq_true rfl, Nat.le_of_ble_eq_true rfl⟩) hP hD hS hA (fun x3 τ4 H locs r_x3 hN hf hq hP hD hS => ?_)
      replace hw := hw x3 τ4 r_x3 hN hf hq
      have hF : f_r [7, 15, 16, 17, 18, 19, 20, 23, 29, 30, 31, 32, 33, 35] [9, 13, 33, 34, 35, 36, 37, 39, 40, 41, 42, 43, 44, 45, 46, 47, 48, 52, 53] [1, 2] σ τ4 := f_t hF hf (by decide) (by decide) (by decide)
      have hB := hN
      exact (hP25 _ _).mp hw r_x3 hN hF H locs ls hP hD hS (lv_sub hl [0] rfl)
    ·
      replace hw := hw.2 c1
      refine lv_iconst (v := I 0) hx hb dX7_endTheorem_10 rfl ?_
      refine lv_goto (tgt := 25) hx hb dX7_endTheorem_11 (by decide) ?_
      exact (hP25 _ _).mp hw (by decide) hN hF H locs ls hP hD hS (lv_sub hl [0] rfl)
  ·
    intro k0 τ hw
    refine (hP25 _ _).mpr ?_
    intro r_k0 hN hF H locs ls hP hD hS hl
    have hB := hN
    refine lv_istore_n (lv' := [(1, .int (I k0)), (0, .ref (q 6))]) hx hb dX7_endTheorem_25 rfl hl (by decide) rfl (fun ls hl => ?_)
    refine lv_aload_n hx hb dX7_endTheorem_26 rfl (lv_at hl 1 rfl) ?_
    refine lv_aload_n hx hb dX7_endTheorem_27 rfl (lv_at hl 1 rfl) ?_
    refine gfX7_steps hx hb hts hK hP hown (hts _ tw_487) dX7_endTheorem_28 ?_
    refine gfNX10_open hx hb hts hK hP hown (nb_use hNb tn_429) (x := τ.1 28) rfl dX7_endTheorem_31 ?_
    refine bi_if_eq (tgt := 44) hx hb (hB.1 28) dX7_endTheorem_34 (by decide) (fun c5 => ?_) (fun c5 => ?_)
    ·
      replace hw := hw.1 c5
      refine lv_aload_n hx hb dX7_endTheorem_44 rfl (lv_at hl 1 rfl) ?_
      refine gfX7_steps hx hb hts hK hP hown (hts _ tw_487) dX7_endTheorem_45 ?_
      refine gfNX10_place hx hb hts hK hP hown (nb_use hNb tn_430) (x := τ.1 29) rfl dX7_endTheorem_48 ?_
      exact (hP51 _ _ _).mp hw r_k0 (hB.1 29) hN hF H locs ls hP hD hS (lv_sub hl [1, 0] rfl)
    ·
      replace hw := hw.2 c5
      refine lv_aload_n hx hb dX7_endTheorem_37 rfl (lv_at hl 1 rfl) ?_
      refine gfX7_place hx hb hts hK hP hown (hts _ tw_490) (x := τ.1 33) rfl dX7_endTheorem_38 ?_
      refine lv_goto (tgt := 51) hx hb dX7_endTheorem_41 (by decide) ?_
      exact (hP51 _ _ _).mp hw r_k0 (hB.1 33) hN hF H locs ls hP hD hS (lv_sub hl [1, 0] rfl)
  ·
    intro u1 k1 τ hw
    refine (hP51 _ _ _).mpr ?_
    intro r_u1 r_k1 hN hF H locs ls hP hD hS hl
    have hB := hN
    refine pfX7_place hx hb hts hK hP hD hS hown (hts _ tw_490) dX7_endTheorem_51 (fun H locs hP hD hS => ?_)
    have hN : n_m (s_v τ 33 k1) := n_v (i := 33) hN (r_k1 : rg k1)
    have hF : f_r [7, 15, 16, 17, 18, 19, 20, 23, 29, 30, 31, 32, 33, 35] [9, 13, 33, 34, 35, 36, 37, 39, 40, 41, 42, 43, 44, 45, 46, 47, 48, 52, 53] [1, 2] σ (s_v τ 33 k1) := f_v hF (by decide)
    refine lv_iload_n hx hb dX7_endTheorem_54 rfl (lv_at hl 1 rfl) ?_
    refine bi_if_eq (tgt := 60) hx hb r_u1 dX7_endTheorem_55 (by decide) (fun c6 => ?_) (fun c6 => ?_)
    ·
      replace hw := hw.1 c6
      refine lv_aload_n hx hb dX7_endTheorem_60 rfl (lv_at hl 0 rfl) ?_
      refine gfX7_steps hx hb hts hK hP hown (hts _ tw_487) dX7_endTheorem_61 ?_
      obtain ⟨Q7, hc, hw⟩ := hw
      refine wc_V (X := CX g q lb) (va_runV (As := []) (rest := []) ⟨hx, hb, hml, hown, hts⟩ (L_X10_noteRests l g q lb hlb  hN hc H.size) (cwV 0 hts (TB_V tw_1361 tw_1362 tw_1363 tw_8 co_X10_noteRests) rfl rfl rfl (by decide +kernel) ⟨Nat.le_of_ble_eq_true rfl, Nat.le_of_ble_eq_true rfl⟩) (preV (q0 := 5) (ci := 10) rfl xT_bl hP hK hNb hD rfl rfl xT_at) rfl rfl hl.1 rfl (lv_room (Nat.le_of_ble_eq_true rfl)) dX7_endTheorem_64 ⟨Nat.le_of_ble_eq_true rfl, Nat.le_of_ble_eq_true rfl⟩) hP hD hS hA (fun τ9 H locs hN hf hq hP hD hS => ?_)
      replace hw := hw τ9 hN hf hq
      have hF : f_r [7, 15, 16, 17, 18, 19, 20, 23, 29, 30, 31, 32, 33, 35] [9, 13, 33, 34, 35, 36, 37, 39, 40, 41, 42, 43, 44, 45, 46, 47, 48, 52, 53] [1, 2] σ τ9 := f_t hF hf (by decide) (by decide) (by decide)
      have hB := hN
      refine lv_aload_n hx hb dX7_endTheorem_67 rfl (lv_at hl 0 rfl) ?_
      refine gfX7_library hx hb hts hK hP hown (hts _ tw_484) dX7_endTheorem_68 ?_
      refine lv_aload_n hx hb dX7_endTheorem_71 rfl (lv_at hl 0 rfl) ?_
      refine gfX7_steps hx hb hts hK hP hown (hts _ tw_487) dX7_endTheorem_72 ?_
      refine gfNX10_open hx hb hts hK hP hown (nb_use hNb tn_429) (x := τ9.1 28) rfl dX7_endTheorem_75 ?_
      refine bi_if_eq (tgt := 85) hx hb (hB.1 28) dX7_endTheorem_78 (by decide) (fun c10 => ?_) (fun c10 => ?_)
      ·
        replace hw := hw.1 c10
        refine lv_iconst (v := I 3) hx hb dX7_endTheorem_85 rfl ?_
        exact (hP86 _ _).mp hw (by decide) hN hF H locs ls hP hD hS (lv_sub hl [0] rfl)
      ·
        replace hw := hw.2 c10
        refine lv_iconst (v := I 4) hx hb dX7_endTheorem_81 rfl ?_
        refine lv_goto (tgt := 86) hx hb dX7_endTheorem_82 (by decide) ?_
        exact (hP86 _ _).mp hw (by decide) hN hF H locs ls hP hD hS (lv_sub hl [0] rfl)
    ·
      replace hw := hw.2 c6
      refine lv_iload_n hx hb dX7_endTheorem_58 rfl (lv_at hl 1 rfl) ?_
      exact xri hx hb hr hlk hP hK hD hS ⟨_, _, r_u1, rfl, hN, hF, rfl, hw⟩ (Nat.le_of_ble_eq_true rfl) (Nat.le_of_ble_eq_true rfl) dX7_endTheorem_59
  ·
    intro k1 τ hw
    refine (hP86 _ _).mpr ?_
    intro r_k1 hN hF H locs ls hP hD hS hl
    have hB := hN
    obtain ⟨Q11, hc, hw⟩ := hw
    refine wc_V (X := CX g q lb) (va_runV (As := [.int (I k1)]) (rest := []) ⟨hx, hb, hml, hown, hts⟩ (L_X3_add l g q lb hlb r_k1 hN hc H.size) (cwV 1 hts (TB_V tw_1033 tw_1034 tw_1035 tw_2 co_X3_add) rfl rfl rfl (by decide +kernel) ⟨Nat.le_of_ble_eq_true rfl, Nat.le_of_ble_eq_true rfl⟩) (preV (q0 := 1) (ci := 3) rfl xT_bl hP hK hNb hD rfl rfl xT_at) rfl rfl hl.1 rfl (lv_room (Nat.le_of_ble_eq_true rfl)) dX7_endTheorem_86 ⟨Nat.le_of_ble_eq_true rfl, Nat.le_of_ble_eq_true rfl⟩) hP hD hS hA (fun τ13 H locs hN hf hq hP hD hS => ?_)
    replace hw := hw τ13 hN hf hq
    have hF : f_r [7, 15, 16, 17, 18, 19, 20, 23, 29, 30, 31, 32, 33, 35] [9, 13, 33, 34, 35, 36, 37, 39, 40, 41, 42, 43, 44, 45, 46, 47, 48, 52, 53] [1, 2] σ τ13 := f_t hF hf (by decide) (by decide) (by decide)
    have hB := hN
    refine lv_aload_n hx hb dX7_endTheorem_89 rfl (lv_at hl 0 rfl) ?_
    refine lv_iconst (v := I 0) hx hb dX7_endTheorem_90 rfl ?_
    refine pfX7_state hx hb hts hK hP hD hS hown (hts _ tw_493) dX7_endTheorem_91 (fun H locs hP hD hS => ?_)
    have hN : n_m (s_v τ13 35 0) := n_v (i := 35) hN ((by decide) : rg 0)
    have hF : f_r [7, 15, 16, 17, 18, 19, 20, 23, 29, 30, 31, 32, 33, 35] [9, 13, 33, 34, 35, 36, 37, 39, 40, 41, 42, 43, 44, 45, 46, 47, 48, 52, 53] [1, 2] σ (s_v τ13 35 0) := f_v hF (by decide)
    refine lv_iconst (v := I 0) hx hb dX7_endTheorem_94 rfl ?_
    exact xri hx hb hr hlk hP hK hD hS ⟨_, _, (by decide), rfl, hN, hF, rfl, hw⟩ (Nat.le_of_ble_eq_true rfl) (Nat.le_of_ble_eq_true rfl) dX7_endTheorem_95
def W_X3_bucket_t1 (n1 : Int) (n2 : Int) (σ : S0) (Q : Int → Prop) : Prop :=
  ∀ (P5 : Int → Int → Int → Int → Prop),
  (∀ (u1 : Int) (u2 : Int) (u3 : Int) (u4 : Int), ((u2 ≤ u4 → ∀ (x2 : Int), rg x2 → x2 = h_u u3 12 → (∀ (x3 : Int), rg x3 → x3 = h_x u3 x2 → (Q (x3 % 4096)))) ∧ (u4 < u2 → (0 ≤ (u1 + u4) ∧ (u1 + u4) < 2) ∧ (∀ (x5 : Int), rg x5 → x5 = t_1 (u1 + u4) → (∀ (x6 : Int), rg x6 → x6 = h_s ((u3 * 31) + x5) → (rg (u4 + 1) ∧ P5 u1 u2 x6 (u4 + 1)))))) → P5 u1 u2 u3 u4) →
  P5 n1 n2 0 0
set_option maxRecDepth 100000 in
set_option maxHeartbeats 4000000 in
theorem L_X3_bucket_t1 (l : Launch) (g : gG) (t1 t2 : Nat) (q : Nat → Nat) (lb : Nat) (hlb : lb < 2 ^ 31) {n1 : Int} {n2 : Int} {σ : S0} {Q : Int → Prop} (r_n1 : rg n1) (r_n2 : rg n2) (hN : n_m σ) (hw : W_X3_bucket_t1 n1 n2 σ Q) (sz : Nat) : MetI l yX3_bucket cX3_bucket 5 (some .int) { frames := 0, cells := 0, slots := 0, locals := 0 } g [.ref t1, .int (I n1), .int (I n2)] (CX g q lb σ) sz (sX t1 t2 (va_A (CX g q lb σ) sz)) (p_i (CX g q lb) σ Q) 0 0 := by
  refine mkMet (Qc := fun A => QI g A (p_i (CX g q lb) σ Q)) (by decide) (Nat.le_of_ble_eq_true rfl) ?_
  intro p e s m below meth c A H ls hx hb hr hml hown hts hlk hnm hsz hP hK hNb hD hA hAe hS hX hl
  rw [← hAe] at hX
  have hl : lv_has ls 5 [(0, .ref t1), (1, .int (I n1)), (2, .int (I n2))] := hl
  have hB := hN
  obtain ⟨locs, hlocs⟩ : ∃ z : List Loc, z = [] := ⟨_, rfl⟩
  rw [← hlocs] at hS ⊢
  obtain ⟨P5, hP5⟩ : ∃ P : Int → Int → Int → Int → Prop, ∀ (u1 : Int) (u2 : Int) (u3 : Int) (u4 : Int), (P u1 u2 u3 u4 ↔ (rg u1 → rg u2 → rg u3 → rg u4 → ∀ (H : Heap) (locs : List Loc) (ls : Array Slot), KP g (CX g q lb σ) H → va_D A (CX g q lb σ) → va_S A s.heap H locs → lv_has ls 5 [(0, .ref t1), (1, .int (I u1)), (2, .int (I u2)), (3, .int (I u3)), (4, .int (I u4))] → W p l e ({ frames := 0, cells := 0, slots := 0, locals := 0 }) s m [.ref t1, .int (I n1), .int (I n2)].toArray below meth c H locs 0 0 (MQ below (QI g A (p_i (CX g q lb) σ Q)) [.ref t1, .int (I n1), .int (I n2)].toArray s 0 0 A) (F0 m 5 ls []))) := ⟨_, fun _ _ _ _ => Iff.rfl⟩
  refine (fun hw => ?_) (hw P5 ?_)
  ·
    refine lv_iconst (v := I 0) hx hb dX3_bucket_0 rfl ?_
    refine lv_istore_n (lv' := [(3, .int (I 0)), (0, .ref t1), (1, .int (I n1)), (2, .int (I n2))]) hx hb dX3_bucket_1 rfl hl (by decide) rfl (fun ls hl => ?_)
    refine lv_iconst (v := I 0) hx hb dX3_bucket_2 rfl ?_
    refine lv_istore (lv' := [(4, .int (I 0)), (3, .int (I 0)), (0, .ref t1), (1, .int (I n1)), (2, .int (I n2))]) hx hb dX3_bucket_3 hl (by decide) rfl (fun ls hl => ?_)
    exact (hP5 _ _ _ _).mp hw r_n1 r_n2 (by decide) (by decide)  H locs ls hP hD hS (lv_sub hl [2, 3, 4, 1, 0] rfl)
  ·
    intro u1 u2 u3 u4 hw
    refine (hP5 _ _ _ _).mpr ?_
    intro r_u1 r_u2 r_u3 r_u4 H locs ls hP hD hS hl
    refine lv_iload hx hb dX3_bucket_5 (lv_at hl 4 rfl) ?_
    refine lv_iload_n hx hb dX3_bucket_7 rfl (lv_at hl 2 rfl) ?_
    refine bi_icmp_ge (tgt := 29) hx hb r_u4 r_u2 dX3_bucket_8 (by decide) (fun c1 => ?_) (fun c1 => ?_)
    ·
      replace hw := hw.1 c1
      refine lv_iload_n hx hb dX3_bucket_29 rfl (lv_at hl 3 rfl) ?_
      refine lv_iload_n hx hb dX3_bucket_30 rfl (lv_at hl 3 rfl) ?_
      refine lv_bipush (v := I 12) hx hb dX3_bucket_31 (by decide) ?_
      refine lv_iushr (v := _) hx hb dX3_bucket_33 rfl ?_
      refine bi_hve (fun x2 r_x2 e_x2 => ?_)
      replace hw := hw x2 r_x2 e_x2
      refine lv_ixor hx hb dX3_bucket_34 ?_
      refine bi_hve (fun x3 r_x3 e_x3 => ?_)
      replace hw := hw x3 r_x3 e_x3
      refine lv_sipush (v := I 4095) hx hb dX3_bucket_35 (by decide) ?_
      refine bi_iandm hx hb 4095 12 4096 (by decide) (by decide) (by omega) dX3_bucket_38 ?_
      exact xri hx hb hr hlk hP hK hD hS ⟨_, (⟨by omega, by omega⟩ : rg (x3 % 4096)), rfl, rfl, hw⟩ (Nat.le_of_ble_eq_true rfl) (Nat.le_of_ble_eq_true rfl) dX3_bucket_39
    ·
      replace hw := hw.2 c1
      refine lv_iload_n hx hb dX3_bucket_11 rfl (lv_at hl 3 rfl) ?_
      refine lv_bipush (v := I 31) hx hb dX3_bucket_12 (by decide) ?_
      refine bi_imul hx hb dX3_bucket_14 ?_
      refine lv_aload_n hx hb dX3_bucket_15 rfl (lv_at hl 0 rfl) ?_
      refine lv_iload_n hx hb dX3_bucket_16 rfl (lv_at hl 1 rfl) ?_
      refine lv_iload hx hb dX3_bucket_17 (lv_at hl 4 rfl) ?_
      refine bi_iadd hx hb dX3_bucket_19 ?_
      obtain ⟨c4, hw⟩ := hw
      refine ld_t1 hx hb hX hS c4 dX3_bucket_20 (fun x5 r_x5 e_x5 => ?_)
      replace hw := hw x5 r_x5 e_x5
      refine bi_iadd hx hb dX3_bucket_21 ?_
      refine bi_hve (fun x6 r_x6 e_x6 => ?_)
      replace hw := hw x6 r_x6 e_x6
      refine lv_istore_n (lv' := [(3, .int (I x6)), (0, .ref t1), (1, .int (I u1)), (2, .int (I u2)), (4, .int (I u4))]) hx hb dX3_bucket_22 rfl hl (by decide) rfl (fun ls hl => ?_)
      refine lv_iinc (v := I (u4 + 1)) (lv' := [(4, .int (I (u4 + 1))), (3, .int (I x6)), (0, .ref t1), (1, .int (I u1)), (2, .int (I u2))]) hx hb dX3_bucket_23 hl (k := 4) rfl (I_add _ _) (by decide) rfl (fun ls hl => ?_)
      refine lv_goto (tgt := 5) hx hb dX3_bucket_26 (by decide) ?_
      obtain ⟨c7, hw⟩ := hw
      exact (hP5 _ _ _ _).mp hw r_u1 r_u2 r_x6 c7  H locs ls hP hD hS (lv_sub hl [2, 3, 4, 1, 0] rfl)
def W_X3_isName_t1 (n1 : Int) (n3 : Int) (n4 : Int) (σ : S0) (Q : Int → Prop) : Prop :=
  ∀ (P29 : Int → Int → Int → Int → Prop),
  (∀ (u3 : Int) (u4 : Int) (u5 : Int) (u6 : Int), ((u4 ≤ u6 → Q 1) ∧ (u6 < u4 → (0 ≤ (u5 + u6) ∧ (u5 + u6) < 30000) ∧ (∀ (x9 : Int), rg x9 → x9 = σ.2.1 2 (u5 + u6) → ((0 ≤ (u3 + u6) ∧ (u3 + u6) < 2) ∧ (∀ (x11 : Int), rg x11 → x11 = t_1 (u3 + u6) → ((x9 = x11 → rg (u6 + 1) ∧ P29 u3 u4 u5 (u6 + 1)) ∧ (¬ x9 = x11 → Q 0))))))) → P29 u3 u4 u5 u6) →
  (0 ≤ n1 ∧ n1 < 2501) ∧ (∀ (x2 : Int), rg x2 → x2 = σ.2.1 3 n1 → ((0 ≤ (n1 + 1) ∧ (n1 + 1) < 2501) ∧ (∀ (x4 : Int), rg x4 → x4 = σ.2.1 3 (n1 + 1) → (rg (x4 - x2) ∧ ((x4 - x2) = n4 → P29 n3 n4 x2 0) ∧ (¬ (x4 - x2) = n4 → Q 0)))))
set_option maxRecDepth 100000 in
set_option maxHeartbeats 4000000 in
theorem L_X3_isName_t1 (l : Launch) (g : gG) (t1 t2 : Nat) (q : Nat → Nat) (lb : Nat) (hlb : lb < 2 ^ 31) {n1 : Int} {n3 : Int} {n4 : Int} {σ : S0} {Q : Int → Prop} (r_n1 : rg n1) (r_n3 : rg n3) (r_n4 : rg n4) (hN : n_m σ) (hw : W_X3_isName_t1 n1 n3 n4 σ Q) (sz : Nat) : MetI l yX3_isName cX3_isName 7 (some .boolean) { frames := 0, cells := 0, slots := 0, locals := 0 } g [.ref (q 1), .int (I n1), .ref t1, .int (I n3), .int (I n4)] (CX g q lb σ) sz (sX t1 t2 (va_A (CX g q lb σ) sz)) (p_i (CX g q lb) σ Q) 0 0 := by
  refine mkMet (Qc := fun A => QI g A (p_i (CX g q lb) σ Q)) (by decide) (Nat.le_of_ble_eq_true rfl) ?_
  intro p e s m below meth c A H ls hx hb hr hml hown hts hlk hnm hsz hP hK hNb hD hA hAe hS hX hl
  rw [← hAe] at hX
  have hl : lv_has ls 7 [(0, .ref (q 1)), (1, .int (I n1)), (2, .ref t1), (3, .int (I n3)), (4, .int (I n4))] := hl
  have hB := hN
  obtain ⟨locs, hlocs⟩ : ∃ z : List Loc, z = [] := ⟨_, rfl⟩
  rw [← hlocs] at hS ⊢
  obtain ⟨P29, hP29⟩ : ∃ P : Int → Int → Int → Int → Prop, ∀ (u3 : Int) (u4 : Int) (u5 : Int) (u6 : Int), (P u3 u4 u5 u6 ↔ (rg u3 → rg u4 → rg u5 → rg u6 → ∀ (H : Heap) (locs : List Loc) (ls : Array Slot), KP g (CX g q lb σ) H → va_D A (CX g q lb σ) → va_S A s.heap H locs → lv_has ls 7 [(0, .ref (q 1)), (2, .ref t1), (3, .int (I u3)), (4, .int (I u4)), (5, .int (I u5)), (6, .int (I u6))] → W p l e ({ frames := 0, cells := 0, slots := 0, locals := 0 }) s m [.ref (q 1), .int (I n1), .ref t1, .int (I n3), .int (I n4)].toArray below meth c H locs 0 0 (MQ below (QI g A (p_i (CX g q lb) σ Q)) [.ref (q 1), .int (I n1), .ref t1, .int (I n3), .int (I n4)].toArray s 0 0 A) (F0 m 29 ls []))) := ⟨_, fun _ _ _ _ => Iff.rfl⟩
  refine (fun hw => ?_) (hw P29 ?_)
  ·
    refine lv_aload_n hx hb dX3_isName_0 rfl (lv_at hl 0 rfl) ?_
    refine gfX3_nameAt hx hb hts hK hP hown (hts _ tw_38) dX3_isName_1 ?_
    refine lv_iload_n hx hb dX3_isName_4 rfl (lv_at hl 1 rfl) ?_
    obtain ⟨c1, hw⟩ := hw
    refine ldCX3_nameAt hx hb hK hP hN c1 dX3_isName_5 (fun x2 r_x2 e_x2 => ?_)
    replace hw := hw x2 r_x2 e_x2
    refine lv_istore (lv' := [(5, .int (I x2)), (0, .ref (q 1)), (1, .int (I n1)), (2, .ref t1), (3, .int (I n3)), (4, .int (I n4))]) hx hb dX3_isName_6 hl (by decide) rfl (fun ls hl => ?_)
    refine lv_aload_n hx hb dX3_isName_8 rfl (lv_at hl 1 rfl) ?_
    refine gfX3_nameAt hx hb hts hK hP hown (hts _ tw_38) dX3_isName_9 ?_
    refine lv_iload_n hx hb dX3_isName_12 rfl (lv_at hl 2 rfl) ?_
    refine lv_iconst (v := I 1) hx hb dX3_isName_13 rfl ?_
    refine bi_iadd hx hb dX3_isName_14 ?_
    obtain ⟨c3, hw⟩ := hw
    refine ldCX3_nameAt hx hb hK hP hN c3 dX3_isName_15 (fun x4 r_x4 e_x4 => ?_)
    replace hw := hw x4 r_x4 e_x4
    refine lv_iload hx hb dX3_isName_16 (lv_at hl 0 rfl) ?_
    refine bi_isub hx hb dX3_isName_18 ?_
    refine lv_iload hx hb dX3_isName_19 (lv_at hl 5 rfl) ?_
    obtain ⟨c5, hw⟩ := hw
    refine bi_icmp_eq (tgt := 26) hx hb c5 r_n4 dX3_isName_21 (by decide) (fun c6 => ?_) (fun c6 => ?_)
    ·
      replace hw := hw.1 c6
      refine lv_iconst (v := I 0) hx hb dX3_isName_26 rfl ?_
      refine lv_istore (lv' := [(6, .int (I 0)), (5, .int (I x2)), (0, .ref (q 1)), (1, .int (I n1)), (2, .ref t1), (3, .int (I n3)), (4, .int (I n4))]) hx hb dX3_isName_27 hl (by decide) rfl (fun ls hl => ?_)
      exact (hP29 _ _ _ _).mp hw r_n3 r_n4 r_x2 (by decide)  H locs ls hP hD hS (lv_sub hl [2, 4, 5, 6, 1, 0] rfl)
    ·
      replace hw := hw.2 c6
      refine lv_iconst (v := I 0) hx hb dX3_isName_24 rfl ?_
      exact xrz hx hb hr (by decide) hlk hP hK hD hS ⟨_, (by decide), rfl, rfl, hw⟩ (Nat.le_of_ble_eq_true rfl) (Nat.le_of_ble_eq_true rfl) dX3_isName_25
  ·
    intro u3 u4 u5 u6 hw
    refine (hP29 _ _ _ _).mpr ?_
    intro r_u3 r_u4 r_u5 r_u6 H locs ls hP hD hS hl
    refine lv_iload hx hb dX3_isName_29 (lv_at hl 5 rfl) ?_
    refine lv_iload hx hb dX3_isName_31 (lv_at hl 3 rfl) ?_
    refine bi_icmp_ge (tgt := 63) hx hb r_u6 r_u4 dX3_isName_33 (by decide) (fun c7 => ?_) (fun c7 => ?_)
    ·
      replace hw := hw.1 c7
      refine lv_iconst (v := I 1) hx hb dX3_isName_63 rfl ?_
      exact xrz hx hb hr (by decide) hlk hP hK hD hS ⟨_, (by decide), rfl, rfl, hw⟩ (Nat.le_of_ble_eq_true rfl) (Nat.le_of_ble_eq_true rfl) dX3_isName_64
    ·
      replace hw := hw.2 c7
      refine lv_aload_n hx hb dX3_isName_36 rfl (lv_at hl 0 rfl) ?_
      refine gfX3_letters hx hb hts hK hP hown (hts _ tw_36) dX3_isName_37 ?_
      refine lv_iload hx hb dX3_isName_40 (lv_at hl 4 rfl) ?_
      refine lv_iload hx hb dX3_isName_42 (lv_at hl 5 rfl) ?_
      refine bi_iadd hx hb dX3_isName_44 ?_
      obtain ⟨c8, hw⟩ := hw
      refine ldCX3_letters hx hb hK hP hN c8 dX3_isName_45 (fun x9 r_x9 e_x9 => ?_)
      replace hw := hw x9 r_x9 e_x9
      refine lv_aload_n hx hb dX3_isName_46 rfl (lv_at hl 1 rfl) ?_
      refine lv_iload_n hx hb dX3_isName_47 rfl (lv_at hl 2 rfl) ?_
      refine lv_iload hx hb dX3_isName_48 (lv_at hl 5 rfl) ?_
      refine bi_iadd hx hb dX3_isName_50 ?_
      obtain ⟨c10, hw⟩ := hw
      refine ld_t1 hx hb hX hS c10 dX3_isName_51 (fun x11 r_x11 e_x11 => ?_)
      replace hw := hw x11 r_x11 e_x11
      refine bi_icmp_eq (tgt := 57) hx hb r_x9 r_x11 dX3_isName_52 (by decide) (fun c12 => ?_) (fun c12 => ?_)
      ·
        replace hw := hw.1 c12
        refine lv_iinc (v := I (u6 + 1)) (lv' := [(6, .int (I (u6 + 1))), (0, .ref (q 1)), (2, .ref t1), (3, .int (I u3)), (4, .int (I u4)), (5, .int (I u5))]) hx hb dX3_isName_57 hl (k := 5) rfl (I_add _ _) (by decide) rfl (fun ls hl => ?_)
        refine lv_goto (tgt := 29) hx hb dX3_isName_60 (by decide) ?_
        obtain ⟨c13, hw⟩ := hw
        exact (hP29 _ _ _ _).mp hw r_u3 r_u4 r_u5 c13  H locs ls hP hD hS (lv_sub hl [1, 2, 3, 4, 5, 0] rfl)
      ·
        replace hw := hw.2 c12
        refine lv_iconst (v := I 0) hx hb dX3_isName_55 rfl ?_
        exact xrz hx hb hr (by decide) hlk hP hK hD hS ⟨_, (by decide), rfl, rfl, hw⟩ (Nat.le_of_ble_eq_true rfl) (Nat.le_of_ble_eq_true rfl) dX3_isName_56
def W_X3_nameOf_t1 (n2 : Int) (n3 : Int) (σ : S0) (Q : Int → Prop) : Prop :=
  ∀ (P16 : Int → Int → Int → Int → Prop),
  (∀ (u2 : Int) (u3 : Int) (u4 : Int) (u5 : Int), ((2500 ≤ u5 → Q (-1)) ∧ (u5 < 2500 → (u4 ≤ 0 → Q (-1)) ∧ (0 < u4 → rg (u4 - 1) ∧ ∃ (Q9 : Int → Prop), W_X3_isName_t1 (u4 - 1) u2 u3 σ Q9 ∧ ∀ (x10 : Int), rg x10 → Q9 x10 → ((x10 = 0 → (0 ≤ (u4 - 1) ∧ (u4 - 1) < 2500) ∧ (∀ (x14 : Int), rg x14 → x14 = σ.2.1 5 (u4 - 1) → (rg (u5 + 1) ∧ P16 u2 u3 x14 (u5 + 1)))) ∧ (¬ x10 = 0 → Q (u4 - 1)))))) → P16 u2 u3 u4 u5) →
  ∃ (Q1 : Int → Prop), W_X3_bucket_t1 n2 n3 σ Q1 ∧ ∀ (x2 : Int), rg x2 → Q1 x2 → ((0 ≤ x2 ∧ x2 < 4096) ∧ (∀ (x5 : Int), rg x5 → x5 = σ.2.1 6 x2 → (P16 n2 n3 x5 0)))
set_option maxRecDepth 100000 in
set_option maxHeartbeats 4000000 in
theorem L_X3_nameOf_t1 (l : Launch) (g : gG) (t1 t2 : Nat) (q : Nat → Nat) (lb : Nat) (hlb : lb < 2 ^ 31) {n2 : Int} {n3 : Int} {σ : S0} {Q : Int → Prop} (r_n2 : rg n2) (r_n3 : rg n3) (hN : n_m σ) (hw : W_X3_nameOf_t1 n2 n3 σ Q) (sz : Nat) : MetI l yX3_nameOf cX3_nameOf 6 (some .int) { frames := 1, cells := 0, slots := 0, locals := 26 } g [.ref (q 1), .ref t1, .int (I n2), .int (I n3)] (CX g q lb σ) sz (sX t1 t2 (va_A (CX g q lb σ) sz)) (p_i (CX g q lb) σ Q) 0 0 := by
  refine mkMet (Qc := fun A => QI g A (p_i (CX g q lb) σ Q)) (by decide) (Nat.le_of_ble_eq_true rfl) ?_
  intro p e s m below meth c A H ls hx hb hr hml hown hts hlk hnm hsz hP hK hNb hD hA hAe hS hX hl
  rw [← hAe] at hX
  have hl : lv_has ls 6 [(0, .ref (q 1)), (1, .ref t1), (2, .int (I n2)), (3, .int (I n3))] := hl
  have hB := hN
  obtain ⟨locs, hlocs⟩ : ∃ z : List Loc, z = [] := ⟨_, rfl⟩
  rw [← hlocs] at hS ⊢
  obtain ⟨P16, hP16⟩ : ∃ P : Int → Int → Int → Int → Prop, ∀ (u2 : Int) (u3 : Int) (u4 : Int) (u5 : Int), (P u2 u3 u4 u5 ↔ (rg u2 → rg u3 → rg u4 → rg u5 → ∀ (H : Heap) (locs : List Loc) (ls : Array Slot), KP g (CX g q lb σ) H → va_D A (CX g q lb σ) → va_S A s.heap H locs → lv_has ls 6 [(0, .ref (q 1)), (1, .ref t1), (2, .int (I u2)), (3, .int (I u3)), (4, .int (I u4)), (5, .int (I u5))] → W p l e ({ frames := 1, cells := 0, slots := 0, locals := 26 }) s m [.ref (q 1), .ref t1, .int (I n2), .int (I n3)].toArray below meth c H locs 0 0 (MQ below (QI g A (p_i (CX g q lb) σ Q)) [.ref (q 1), .ref t1, .int (I n2), .int (I n3)].toArray s 0 0 A) (F0 m 16 ls []))) := ⟨_, fun _ _ _ _ => Iff.rfl⟩
  refine (fun hw => ?_) (hw P16 ?_)
  ·
    refine lv_aload_n hx hb dX3_nameOf_0 rfl (lv_at hl 0 rfl) ?_
    refine gfX3_heads hx hb hts hK hP hown (hts _ tw_42) dX3_nameOf_1 ?_
    refine lv_aload_n hx hb dX3_nameOf_4 rfl (lv_at hl 1 rfl) ?_
    refine lv_iload_n hx hb dX3_nameOf_5 rfl (lv_at hl 2 rfl) ?_
    refine lv_iload_n hx hb dX3_nameOf_6 rfl (lv_at hl 3 rfl) ?_
    obtain ⟨Q1, hc, hw⟩ := hw
    refine wc_i (X := CX g q lb) (va_runS (As := [.ref t1, .int (I n2), .int (I n3)]) (rest := [.ref (q 19)]) ⟨hx, hb, hml, hown, hts⟩ (L_X3_bucket_t1 l g t1 t2 q lb hlb r_n2 r_n3 hN hc H.size) (cwS 3 hts (TB_S tw_1107 tw_1108 tw_2 co_X3_bucket) rfl rfl rfl (by decide +kernel) ⟨Nat.le_of_ble_eq_true rfl, Nat.le_of_ble_eq_true rfl⟩) (preS sX_bl hP hK hNb hD (sX_call hX hS (d_full hD hS hA))) rfl rfl hl.1 rfl (lv_room (Nat.le_of_ble_eq_true rfl)) dX3_nameOf_7 ⟨Nat.le_of_ble_eq_true rfl, Nat.le_of_ble_eq_true rfl⟩) hP hD hS hA (fun x2 H locs r_x2 hq hP hD hS => ?_)
    replace hw := hw x2 r_x2 hq
    obtain ⟨c4, hw⟩ := hw
    refine ldCX3_heads hx hb hK hP hN c4 dX3_nameOf_10 (fun x5 r_x5 e_x5 => ?_)
    replace hw := hw x5 r_x5 e_x5
    refine lv_istore (lv' := [(4, .int (I x5)), (0, .ref (q 1)), (1, .ref t1), (2, .int (I n2)), (3, .int (I n3))]) hx hb dX3_nameOf_11 hl (by decide) rfl (fun ls hl => ?_)
    refine lv_iconst (v := I 0) hx hb dX3_nameOf_13 rfl ?_
    refine lv_istore (lv' := [(5, .int (I 0)), (4, .int (I x5)), (0, .ref (q 1)), (1, .ref t1), (2, .int (I n2)), (3, .int (I n3))]) hx hb dX3_nameOf_14 hl (by decide) rfl (fun ls hl => ?_)
    exact (hP16 _ _ _ _).mp hw r_n2 r_n3 r_x5 (by decide)  H locs ls hP hD hS (lv_sub hl [2, 3, 4, 5, 1, 0] rfl)
  ·
    intro u2 u3 u4 u5 hw
    refine (hP16 _ _ _ _).mpr ?_
    intro r_u2 r_u3 r_u4 r_u5 H locs ls hP hD hS hl
    refine lv_iload hx hb dX3_nameOf_16 (lv_at hl 5 rfl) ?_
    refine lv_sipush (v := I 2500) hx hb dX3_nameOf_18 (by decide) ?_
    refine bi_icmp_ge (tgt := 65) hx hb r_u5 (by decide) dX3_nameOf_21 (by decide) (fun c6 => ?_) (fun c6 => ?_)
    ·
      replace hw := hw.1 c6
      refine lv_iconst (v := I (-1)) hx hb dX3_nameOf_65 rfl ?_
      exact xri hx hb hr hlk hP hK hD hS ⟨_, (by decide), rfl, rfl, hw⟩ (Nat.le_of_ble_eq_true rfl) (Nat.le_of_ble_eq_true rfl) dX3_nameOf_66
    ·
      replace hw := hw.2 c6
      refine lv_iload hx hb dX3_nameOf_24 (lv_at hl 4 rfl) ?_
      refine bi_if_le (tgt := 65) hx hb r_u4 dX3_nameOf_26 (by decide) (fun c7 => ?_) (fun c7 => ?_)
      ·
        replace hw := hw.1 c7
        refine lv_iconst (v := I (-1)) hx hb dX3_nameOf_65 rfl ?_
        exact xri hx hb hr hlk hP hK hD hS ⟨_, (by decide), rfl, rfl, hw⟩ (Nat.le_of_ble_eq_true rfl) (Nat.le_of_ble_eq_true rfl) dX3_nameOf_66
      ·
        replace hw := hw.2 c7
        refine lv_aload_n hx hb dX3_nameOf_29 rfl (lv_at hl 0 rfl) ?_
        refine lv_iload hx hb dX3_nameOf_30 (lv_at hl 4 rfl) ?_
        refine lv_iconst (v := I 1) hx hb dX3_nameOf_32 rfl ?_
        refine bi_isub hx hb dX3_nameOf_33 ?_
        refine lv_aload_n hx hb dX3_nameOf_34 rfl (lv_at hl 1 rfl) ?_
        refine lv_iload_n hx hb dX3_nameOf_35 rfl (lv_at hl 2 rfl) ?_
        refine lv_iload_n hx hb dX3_nameOf_36 rfl (lv_at hl 3 rfl) ?_
        obtain ⟨c8, hw⟩ := hw
        obtain ⟨Q9, hc, hw⟩ := hw
        refine wc_i (X := CX g q lb) (va_runV (As := [.int (I (u4 - 1)), .ref t1, .int (I u2), .int (I u3)]) (rest := []) ⟨hx, hb, hml, hown, hts⟩ (L_X3_isName_t1 l g t1 t2 q lb hlb c8 r_u2 r_u3 hN hc H.size) (cwV 4 hts (TB_V tw_1110 tw_1112 ts_21 tw_2 co_X3_isName) rfl rfl rfl (by decide +kernel) ⟨Nat.le_of_ble_eq_true rfl, Nat.le_of_ble_eq_true rfl⟩) (preV (q0 := 1) (ci := 3) rfl sX_bl hP hK hNb hD rfl rfl (sX_call hX hS (d_full hD hS hA))) rfl rfl hl.1 rfl (lv_room (Nat.le_of_ble_eq_true rfl)) dX3_nameOf_37 ⟨Nat.le_of_ble_eq_true rfl, Nat.le_of_ble_eq_true rfl⟩) hP hD hS hA (fun x10 H locs r_x10 hq hP hD hS => ?_)
        replace hw := hw x10 r_x10 hq
        refine bi_if_eq (tgt := 48) hx hb r_x10 dX3_nameOf_40 (by decide) (fun c12 => ?_) (fun c12 => ?_)
        ·
          replace hw := hw.1 c12
          refine lv_aload_n hx hb dX3_nameOf_48 rfl (lv_at hl 0 rfl) ?_
          refine gfX3_nextName hx hb hts hK hP hown (hts _ tw_41) dX3_nameOf_49 ?_
          refine lv_iload hx hb dX3_nameOf_52 (lv_at hl 4 rfl) ?_
          refine lv_iconst (v := I 1) hx hb dX3_nameOf_54 rfl ?_
          refine bi_isub hx hb dX3_nameOf_55 ?_
          obtain ⟨c13, hw⟩ := hw
          refine ldCX3_nextName hx hb hK hP hN c13 dX3_nameOf_56 (fun x14 r_x14 e_x14 => ?_)
          replace hw := hw x14 r_x14 e_x14
          refine lv_istore (lv' := [(4, .int (I x14)), (0, .ref (q 1)), (1, .ref t1), (2, .int (I u2)), (3, .int (I u3)), (5, .int (I u5))]) hx hb dX3_nameOf_57 hl (by decide) rfl (fun ls hl => ?_)
          refine lv_iinc (v := I (u5 + 1)) (lv' := [(5, .int (I (u5 + 1))), (4, .int (I x14)), (0, .ref (q 1)), (1, .ref t1), (2, .int (I u2)), (3, .int (I u3))]) hx hb dX3_nameOf_59 hl (k := 5) rfl (I_add _ _) (by decide) rfl (fun ls hl => ?_)
          refine lv_goto (tgt := 16) hx hb dX3_nameOf_62 (by decide) ?_
          obtain ⟨c15, hw⟩ := hw
          exact (hP16 _ _ _ _).mp hw r_u2 r_u3 r_x14 c15  H locs ls hP hD hS (lv_sub hl [2, 3, 4, 5, 1, 0] rfl)
        ·
          replace hw := hw.2 c12
          refine lv_iload hx hb dX3_nameOf_43 (lv_at hl 4 rfl) ?_
          refine lv_iconst (v := I 1) hx hb dX3_nameOf_45 rfl ?_
          refine bi_isub hx hb dX3_nameOf_46 ?_
          exact xri hx hb hr hlk hP hK hD hS ⟨_, c8, rfl, rfl, hw⟩ (Nat.le_of_ble_eq_true rfl) (Nat.le_of_ble_eq_true rfl) dX3_nameOf_47
def W_X3_symbolNamed_t1 (n2 : Int) (n3 : Int) (σ : S0) (Q : Int → Prop) : Prop :=
  ∃ (Q1 : Int → Prop), W_X3_nameOf_t1 n2 n3 σ Q1 ∧ ∀ (x2 : Int), rg x2 → Q1 x2 → (∃ (Q4 : Int → Prop), W_X3_symbolOf x2 σ Q4 ∧ ∀ (x5 : Int), rg x5 → Q4 x5 → (Q x5))
set_option maxRecDepth 100000 in
set_option maxHeartbeats 4000000 in
theorem L_X3_symbolNamed_t1 (l : Launch) (g : gG) (t1 t2 : Nat) (q : Nat → Nat) (lb : Nat) (hlb : lb < 2 ^ 31) {n2 : Int} {n3 : Int} {σ : S0} {Q : Int → Prop} (r_n2 : rg n2) (r_n3 : rg n3) (hN : n_m σ) (hw : W_X3_symbolNamed_t1 n2 n3 σ Q) (sz : Nat) : MetI l yX3_symbolNamed cX3_symbolNamed 4 (some .int) { frames := 2, cells := 0, slots := 0, locals := 51 } g [.ref (q 1), .ref t1, .int (I n2), .int (I n3)] (CX g q lb σ) sz (sX t1 t2 (va_A (CX g q lb σ) sz)) (p_i (CX g q lb) σ Q) 0 0 := by
  refine mkMet (Qc := fun A => QI g A (p_i (CX g q lb) σ Q)) (by decide) (Nat.le_of_ble_eq_true rfl) ?_
  intro p e s m below meth c A H ls hx hb hr hml hown hts hlk hnm hsz hP hK hNb hD hA hAe hS hX hl
  rw [← hAe] at hX
  have hl : lv_has ls 4 [(0, .ref (q 1)), (1, .ref t1), (2, .int (I n2)), (3, .int (I n3))] := hl
  have hB := hN
  obtain ⟨locs, hlocs⟩ : ∃ z : List Loc, z = [] := ⟨_, rfl⟩
  rw [← hlocs] at hS ⊢
  refine lv_aload_n hx hb dX3_symbolNamed_0 rfl (lv_at hl 0 rfl) ?_
  refine lv_aload_n hx hb dX3_symbolNamed_1 rfl (lv_at hl 0 rfl) ?_
  refine lv_aload_n hx hb dX3_symbolNamed_2 rfl (lv_at hl 1 rfl) ?_
  refine lv_iload_n hx hb dX3_symbolNamed_3 rfl (lv_at hl 2 rfl) ?_
  refine lv_iload_n hx hb dX3_symbolNamed_4 rfl (lv_at hl 3 rfl) ?_
  obtain ⟨Q1, hc, hw⟩ := hw
  refine wc_i (X := CX g q lb) (va_runV (As := [.ref t1, .int (I n2), .int (I n3)]) (rest := [.ref (q 1)]) ⟨hx, hb, hml, hown, hts⟩ (L_X3_nameOf_t1 l g t1 t2 q lb hlb r_n2 r_n3 hN hc H.size) (cwV 3 hts (TB_V tw_1444 tw_1104 tw_1105 tw_2 co_X3_nameOf) rfl rfl rfl (by decide +kernel) ⟨Nat.le_of_ble_eq_true rfl, Nat.le_of_ble_eq_true rfl⟩) (preV (q0 := 1) (ci := 3) rfl sX_bl hP hK hNb hD rfl rfl (sX_call hX hS (d_full hD hS hA))) rfl rfl hl.1 rfl (lv_room (Nat.le_of_ble_eq_true rfl)) dX3_symbolNamed_5 ⟨Nat.le_of_ble_eq_true rfl, Nat.le_of_ble_eq_true rfl⟩) hP hD hS hA (fun x2 H locs r_x2 hq hP hD hS => ?_)
  replace hw := hw x2 r_x2 hq
  obtain ⟨Q4, hc, hw⟩ := hw
  refine wc_i (X := CX g q lb) (va_runV (As := [.int (I x2)]) (rest := []) ⟨hx, hb, hml, hown, hts⟩ (L_X3_symbolOf l g q lb hlb r_x2 hN hc H.size) (cwV 1 hts (TB_V tw_1450 tw_1115 tw_1116 tw_2 co_X3_symbolOf) rfl rfl rfl (by decide +kernel) ⟨Nat.le_of_ble_eq_true rfl, Nat.le_of_ble_eq_true rfl⟩) (preV (q0 := 1) (ci := 3) rfl xT_bl hP hK hNb hD rfl rfl xT_at) rfl rfl hl.1 rfl (lv_room (Nat.le_of_ble_eq_true rfl)) dX3_symbolNamed_8 ⟨Nat.le_of_ble_eq_true rfl, Nat.le_of_ble_eq_true rfl⟩) hP hD hS hA (fun x5 H locs r_x5 hq hP hD hS => ?_)
  replace hw := hw x5 r_x5 hq
  exact xri hx hb hr hlk hP hK hD hS ⟨_, r_x5, rfl, rfl, hw⟩ (Nat.le_of_ble_eq_true rfl) (Nat.le_of_ble_eq_true rfl) dX3_symbolNamed_11
def W_X8_constantNamed_t1 (σ : S0) (Q : Int → Prop) : Prop :=
  ∃ (Q1 : Int → Prop), W_X3_symbolNamed_t1 0 2 σ Q1 ∧ ∀ (x2 : Int), rg x2 → Q1 x2 → ((x2 = (-1) → Q (-1)) ∧ (¬ x2 = (-1) → (0 ≤ x2 ∧ x2 < 1000) ∧ (∀ (x6 : Int), rg x6 → x6 = σ.2.1 8 x2 → ((x6 = 0 → Q x2) ∧ (¬ x6 = 0 → Q (-1))))))
set_option maxRecDepth 100000 in
set_option maxHeartbeats 4000000 in
theorem L_X8_constantNamed_t1 (l : Launch) (g : gG) (t1 t2 : Nat) (q : Nat → Nat) (lb : Nat) (hlb : lb < 2 ^ 31) {σ : S0} {Q : Int → Prop} (hN : n_m σ) (hw : W_X8_constantNamed_t1 σ Q) (sz : Nat) : MetI l yX8_constantNamed cX8_constantNamed 3 (some .int) { frames := 3, cells := 0, slots := 0, locals := 74 } g [.ref (q 8), .ref t1] (CX g q lb σ) sz (sX t1 t2 (va_A (CX g q lb σ) sz)) (p_i (CX g q lb) σ Q) 0 0 := by
  refine mkMet (Qc := fun A => QI g A (p_i (CX g q lb) σ Q)) (by decide) (Nat.le_of_ble_eq_true rfl) ?_
  intro p e s m below meth c A H ls hx hb hr hml hown hts hlk hnm hsz hP hK hNb hD hA hAe hS hX hl
  rw [← hAe] at hX
  have hl : lv_has ls 3 [(0, .ref (q 8)), (1, .ref t1)] := hl
  have hB := hN
  obtain ⟨locs, hlocs⟩ : ∃ z : List Loc, z = [] := ⟨_, rfl⟩
  rw [← hlocs] at hS ⊢
  refine lv_aload_n hx hb dX8_constantNamed_0 rfl (lv_at hl 0 rfl) ?_
  refine gfX8_library hx hb hts hK hP hown (hts _ tw_599) dX8_constantNamed_1 ?_
  refine lv_aload_n hx hb dX8_constantNamed_4 rfl (lv_at hl 1 rfl) ?_
  refine lv_iconst (v := I 0) hx hb dX8_constantNamed_5 rfl ?_
  refine lv_aload_n hx hb dX8_constantNamed_6 rfl (lv_at hl 1 rfl) ?_
  refine va_tlen hx hb hX.2.2.1 hS (v := I 2) rfl dX8_constantNamed_7 ?_
  obtain ⟨Q1, hc, hw⟩ := hw
  refine wc_i (X := CX g q lb) (va_runV (As := [.ref t1, .int (I 0), .int (I 2)]) (rest := []) ⟨hx, hb, hml, hown, hts⟩ (L_X3_symbolNamed_t1 l g t1 t2 q lb hlb (by decide) (by decide) hN hc H.size) (cwV 3 hts (TB_V tw_1681 tw_1447 tw_1448 tw_2 co_X3_symbolNamed) rfl rfl rfl (by decide +kernel) ⟨Nat.le_of_ble_eq_true rfl, Nat.le_of_ble_eq_true rfl⟩) (preV (q0 := 1) (ci := 3) rfl sX_bl hP hK hNb hD rfl rfl (sX_call hX hS (d_full hD hS hA))) rfl rfl hl.1 rfl (lv_room (Nat.le_of_ble_eq_true rfl)) dX8_constantNamed_8 ⟨Nat.le_of_ble_eq_true rfl, Nat.le_of_ble_eq_true rfl⟩) hP hD hS hA (fun x2 H locs r_x2 hq hP hD hS => ?_)
  replace hw := hw x2 r_x2 hq
  refine lv_istore_n (lv' := [(2, .int (I x2)), (0, .ref (q 8)), (1, .ref t1)]) hx hb dX8_constantNamed_11 rfl hl (by decide) rfl (fun ls hl => ?_)
  refine lv_iload_n hx hb dX8_constantNamed_12 rfl (lv_at hl 0 rfl) ?_
  refine lv_iconst (v := I (-1)) hx hb dX8_constantNamed_13 rfl ?_
  refine bi_icmp_eq (tgt := 29) hx hb r_x2 (by decide) dX8_constantNamed_14 (by decide) (fun c4 => ?_) (fun c4 => ?_)
  ·
    replace hw := hw.1 c4
    refine lv_iconst (v := I (-1)) hx hb dX8_constantNamed_29 rfl ?_
    refine lv_goto (tgt := 34) hx hb dX8_constantNamed_30 (by decide) ?_
    exact xri hx hb hr hlk hP hK hD hS ⟨_, (by decide), rfl, rfl, hw⟩ (Nat.le_of_ble_eq_true rfl) (Nat.le_of_ble_eq_true rfl) dX8_constantNamed_34
  ·
    replace hw := hw.2 c4
    refine lv_aload_n hx hb dX8_constantNamed_17 rfl (lv_at hl 1 rfl) ?_
    refine gfX8_library hx hb hts hK hP hown (hts _ tw_599) dX8_constantNamed_18 ?_
    refine gfNX3_variable hx hb hts hK hP hown (nb_use hNb tn_47) dX8_constantNamed_21 ?_
    refine lv_iload_n hx hb dX8_constantNamed_24 rfl (lv_at hl 0 rfl) ?_
    obtain ⟨c5, hw⟩ := hw
    refine ldCX3_variable hx hb hK hP hN c5 dX8_constantNamed_25 (fun x6 r_x6 e_x6 => ?_)
    replace hw := hw x6 r_x6 e_x6
    refine bi_if_eq (tgt := 33) hx hb r_x6 dX8_constantNamed_26 (by decide) (fun c7 => ?_) (fun c7 => ?_)
    ·
      replace hw := hw.1 c7
      refine lv_iload_n hx hb dX8_constantNamed_33 rfl (lv_at hl 0 rfl) ?_
      exact xri hx hb hr hlk hP hK hD hS ⟨_, r_x2, rfl, rfl, hw⟩ (Nat.le_of_ble_eq_true rfl) (Nat.le_of_ble_eq_true rfl) dX8_constantNamed_34
    ·
      replace hw := hw.2 c7
      refine lv_iconst (v := I (-1)) hx hb dX8_constantNamed_29 rfl ?_
      refine lv_goto (tgt := 34) hx hb dX8_constantNamed_30 (by decide) ?_
      exact xri hx hb hr hlk hP hK hD hS ⟨_, (by decide), rfl, rfl, hw⟩ (Nat.le_of_ble_eq_true rfl) (Nat.le_of_ble_eq_true rfl) dX8_constantNamed_34
def W_X3_bucket_t2 (n1 : Int) (n2 : Int) (σ : S0) (Q : Int → Prop) : Prop :=
  ∀ (P5 : Int → Int → Int → Int → Prop),
  (∀ (u1 : Int) (u2 : Int) (u3 : Int) (u4 : Int), ((u2 ≤ u4 → ∀ (x2 : Int), rg x2 → x2 = h_u u3 12 → (∀ (x3 : Int), rg x3 → x3 = h_x u3 x2 → (Q (x3 % 4096)))) ∧ (u4 < u2 → (0 ≤ (u1 + u4) ∧ (u1 + u4) < 3) ∧ (∀ (x5 : Int), rg x5 → x5 = t_2 (u1 + u4) → (∀ (x6 : Int), rg x6 → x6 = h_s ((u3 * 31) + x5) → (rg (u4 + 1) ∧ P5 u1 u2 x6 (u4 + 1)))))) → P5 u1 u2 u3 u4) →
  P5 n1 n2 0 0
set_option maxRecDepth 100000 in
set_option maxHeartbeats 4000000 in
theorem L_X3_bucket_t2 (l : Launch) (g : gG) (t1 t2 : Nat) (q : Nat → Nat) (lb : Nat) (hlb : lb < 2 ^ 31) {n1 : Int} {n2 : Int} {σ : S0} {Q : Int → Prop} (r_n1 : rg n1) (r_n2 : rg n2) (hN : n_m σ) (hw : W_X3_bucket_t2 n1 n2 σ Q) (sz : Nat) : MetI l yX3_bucket cX3_bucket 5 (some .int) { frames := 0, cells := 0, slots := 0, locals := 0 } g [.ref t2, .int (I n1), .int (I n2)] (CX g q lb σ) sz (sX t1 t2 (va_A (CX g q lb σ) sz)) (p_i (CX g q lb) σ Q) 0 0 := by
  refine mkMet (Qc := fun A => QI g A (p_i (CX g q lb) σ Q)) (by decide) (Nat.le_of_ble_eq_true rfl) ?_
  intro p e s m below meth c A H ls hx hb hr hml hown hts hlk hnm hsz hP hK hNb hD hA hAe hS hX hl
  rw [← hAe] at hX
  have hl : lv_has ls 5 [(0, .ref t2), (1, .int (I n1)), (2, .int (I n2))] := hl
  have hB := hN
  obtain ⟨locs, hlocs⟩ : ∃ z : List Loc, z = [] := ⟨_, rfl⟩
  rw [← hlocs] at hS ⊢
  obtain ⟨P5, hP5⟩ : ∃ P : Int → Int → Int → Int → Prop, ∀ (u1 : Int) (u2 : Int) (u3 : Int) (u4 : Int), (P u1 u2 u3 u4 ↔ (rg u1 → rg u2 → rg u3 → rg u4 → ∀ (H : Heap) (locs : List Loc) (ls : Array Slot), KP g (CX g q lb σ) H → va_D A (CX g q lb σ) → va_S A s.heap H locs → lv_has ls 5 [(0, .ref t2), (1, .int (I u1)), (2, .int (I u2)), (3, .int (I u3)), (4, .int (I u4))] → W p l e ({ frames := 0, cells := 0, slots := 0, locals := 0 }) s m [.ref t2, .int (I n1), .int (I n2)].toArray below meth c H locs 0 0 (MQ below (QI g A (p_i (CX g q lb) σ Q)) [.ref t2, .int (I n1), .int (I n2)].toArray s 0 0 A) (F0 m 5 ls []))) := ⟨_, fun _ _ _ _ => Iff.rfl⟩
  refine (fun hw => ?_) (hw P5 ?_)
  ·
    refine lv_iconst (v := I 0) hx hb dX3_bucket_0 rfl ?_
    refine lv_istore_n (lv' := [(3, .int (I 0)), (0, .ref t2), (1, .int (I n1)), (2, .int (I n2))]) hx hb dX3_bucket_1 rfl hl (by decide) rfl (fun ls hl => ?_)
    refine lv_iconst (v := I 0) hx hb dX3_bucket_2 rfl ?_
    refine lv_istore (lv' := [(4, .int (I 0)), (3, .int (I 0)), (0, .ref t2), (1, .int (I n1)), (2, .int (I n2))]) hx hb dX3_bucket_3 hl (by decide) rfl (fun ls hl => ?_)
    exact (hP5 _ _ _ _).mp hw r_n1 r_n2 (by decide) (by decide)  H locs ls hP hD hS (lv_sub hl [2, 3, 4, 1, 0] rfl)
  ·
    intro u1 u2 u3 u4 hw
    refine (hP5 _ _ _ _).mpr ?_
    intro r_u1 r_u2 r_u3 r_u4 H locs ls hP hD hS hl
    refine lv_iload hx hb dX3_bucket_5 (lv_at hl 4 rfl) ?_
    refine lv_iload_n hx hb dX3_bucket_7 rfl (lv_at hl 2 rfl) ?_
    refine bi_icmp_ge (tgt := 29) hx hb r_u4 r_u2 dX3_bucket_8 (by decide) (fun c1 => ?_) (fun c1 => ?_)
    ·
      replace hw := hw.1 c1
      refine lv_iload_n hx hb dX3_bucket_29 rfl (lv_at hl 3 rfl) ?_
      refine lv_iload_n hx hb dX3_bucket_30 rfl (lv_at hl 3 rfl) ?_
      refine lv_bipush (v := I 12) hx hb dX3_bucket_31 (by decide) ?_
      refine lv_iushr (v := _) hx hb dX3_bucket_33 rfl ?_
      refine bi_hve (fun x2 r_x2 e_x2 => ?_)
      replace hw := hw x2 r_x2 e_x2
      refine lv_ixor hx hb dX3_bucket_34 ?_
      refine bi_hve (fun x3 r_x3 e_x3 => ?_)
      replace hw := hw x3 r_x3 e_x3
      refine lv_sipush (v := I 4095) hx hb dX3_bucket_35 (by decide) ?_
      refine bi_iandm hx hb 4095 12 4096 (by decide) (by decide) (by omega) dX3_bucket_38 ?_
      exact xri hx hb hr hlk hP hK hD hS ⟨_, (⟨by omega, by omega⟩ : rg (x3 % 4096)), rfl, rfl, hw⟩ (Nat.le_of_ble_eq_true rfl) (Nat.le_of_ble_eq_true rfl) dX3_bucket_39
    ·
      replace hw := hw.2 c1
      refine lv_iload_n hx hb dX3_bucket_11 rfl (lv_at hl 3 rfl) ?_
      refine lv_bipush (v := I 31) hx hb dX3_bucket_12 (by decide) ?_
      refine bi_imul hx hb dX3_bucket_14 ?_
      refine lv_aload_n hx hb dX3_bucket_15 rfl (lv_at hl 0 rfl) ?_
      refine lv_iload_n hx hb dX3_bucket_16 rfl (lv_at hl 1 rfl) ?_
      refine lv_iload hx hb dX3_bucket_17 (lv_at hl 4 rfl) ?_
      refine bi_iadd hx hb dX3_bucket_19 ?_
      obtain ⟨c4, hw⟩ := hw
      refine ld_t2 hx hb hX hS c4 dX3_bucket_20 (fun x5 r_x5 e_x5 => ?_)
      replace hw := hw x5 r_x5 e_x5
      refine bi_iadd hx hb dX3_bucket_21 ?_
      refine bi_hve (fun x6 r_x6 e_x6 => ?_)
      replace hw := hw x6 r_x6 e_x6
      refine lv_istore_n (lv' := [(3, .int (I x6)), (0, .ref t2), (1, .int (I u1)), (2, .int (I u2)), (4, .int (I u4))]) hx hb dX3_bucket_22 rfl hl (by decide) rfl (fun ls hl => ?_)
      refine lv_iinc (v := I (u4 + 1)) (lv' := [(4, .int (I (u4 + 1))), (3, .int (I x6)), (0, .ref t2), (1, .int (I u1)), (2, .int (I u2))]) hx hb dX3_bucket_23 hl (k := 4) rfl (I_add _ _) (by decide) rfl (fun ls hl => ?_)
      refine lv_goto (tgt := 5) hx hb dX3_bucket_26 (by decide) ?_
      obtain ⟨c7, hw⟩ := hw
      exact (hP5 _ _ _ _).mp hw r_u1 r_u2 r_x6 c7  H locs ls hP hD hS (lv_sub hl [2, 3, 4, 1, 0] rfl)
def W_X3_isName_t2 (n1 : Int) (n3 : Int) (n4 : Int) (σ : S0) (Q : Int → Prop) : Prop :=
  ∀ (P29 : Int → Int → Int → Int → Prop),
  (∀ (u3 : Int) (u4 : Int) (u5 : Int) (u6 : Int), ((u4 ≤ u6 → Q 1) ∧ (u6 < u4 → (0 ≤ (u5 + u6) ∧ (u5 + u6) < 30000) ∧ (∀ (x9 : Int), rg x9 → x9 = σ.2.1 2 (u5 + u6) → ((0 ≤ (u3 + u6) ∧ (u3 + u6) < 3) ∧ (∀ (x11 : Int), rg x11 → x11 = t_2 (u3 + u6) → ((x9 = x11 → rg (u6 + 1) ∧ P29 u3 u4 u5 (u6 + 1)) ∧ (¬ x9 = x11 → Q 0))))))) → P29 u3 u4 u5 u6) →
  (0 ≤ n1 ∧ n1 < 2501) ∧ (∀ (x2 : Int), rg x2 → x2 = σ.2.1 3 n1 → ((0 ≤ (n1 + 1) ∧ (n1 + 1) < 2501) ∧ (∀ (x4 : Int), rg x4 → x4 = σ.2.1 3 (n1 + 1) → (rg (x4 - x2) ∧ ((x4 - x2) = n4 → P29 n3 n4 x2 0) ∧ (¬ (x4 - x2) = n4 → Q 0)))))
set_option maxRecDepth 100000 in
set_option maxHeartbeats 4000000 in
theorem L_X3_isName_t2 (l : Launch) (g : gG) (t1 t2 : Nat) (q : Nat → Nat) (lb : Nat) (hlb : lb < 2 ^ 31) {n1 : Int} {n3 : Int} {n4 : Int} {σ : S0} {Q : Int → Prop} (r_n1 : rg n1) (r_n3 : rg n3) (r_n4 : rg n4) (hN : n_m σ) (hw : W_X3_isName_t2 n1 n3 n4 σ Q) (sz : Nat) : MetI l yX3_isName cX3_isName 7 (some .boolean) { frames := 0, cells := 0, slots := 0, locals := 0 } g [.ref (q 1), .int (I n1), .ref t2, .int (I n3), .int (I n4)] (CX g q lb σ) sz (sX t1 t2 (va_A (CX g q lb σ) sz)) (p_i (CX g q lb) σ Q) 0 0 := by
  refine mkMet (Qc := fun A => QI g A (p_i (CX g q lb) σ Q)) (by decide) (Nat.le_of_ble_eq_true rfl) ?_
  intro p e s m below meth c A H ls hx hb hr hml hown hts hlk hnm hsz hP hK hNb hD hA hAe hS hX hl
  rw [← hAe] at hX
  have hl : lv_has ls 7 [(0, .ref (q 1)), (1, .int (I n1)), (2, .ref t2), (3, .int (I n3)), (4, .int (I n4))] := hl
  have hB := hN
  obtain ⟨locs, hlocs⟩ : ∃ z : List Loc, z = [] := ⟨_, rfl⟩
  rw [← hlocs] at hS ⊢
  obtain ⟨P29, hP29⟩ : ∃ P : Int → Int → Int → Int → Prop, ∀ (u3 : Int) (u4 : Int) (u5 : Int) (u6 : Int), (P u3 u4 u5 u6 ↔ (rg u3 → rg u4 → rg u5 → rg u6 → ∀ (H : Heap) (locs : List Loc) (ls : Array Slot), KP g (CX g q lb σ) H → va_D A (CX g q lb σ) → va_S A s.heap H locs → lv_has ls 7 [(0, .ref (q 1)), (2, .ref t2), (3, .int (I u3)), (4, .int (I u4)), (5, .int (I u5)), (6, .int (I u6))] → W p l e ({ frames := 0, cells := 0, slots := 0, locals := 0 }) s m [.ref (q 1), .int (I n1), .ref t2, .int (I n3), .int (I n4)].toArray below meth c H locs 0 0 (MQ below (QI g A (p_i (CX g q lb) σ Q)) [.ref (q 1), .int (I n1), .ref t2, .int (I n3), .int (I n4)].toArray s 0 0 A) (F0 m 29 ls []))) := ⟨_, fun _ _ _ _ => Iff.rfl⟩
  refine (fun hw => ?_) (hw P29 ?_)
  ·
    refine lv_aload_n hx hb dX3_isName_0 rfl (lv_at hl 0 rfl) ?_
    refine gfX3_nameAt hx hb hts hK hP hown (hts _ tw_38) dX3_isName_1 ?_
    refine lv_iload_n hx hb dX3_isName_4 rfl (lv_at hl 1 rfl) ?_
    obtain ⟨c1, hw⟩ := hw
    refine ldCX3_nameAt hx hb hK hP hN c1 dX3_isName_5 (fun x2 r_x2 e_x2 => ?_)
    replace hw := hw x2 r_x2 e_x2
    refine lv_istore (lv' := [(5, .int (I x2)), (0, .ref (q 1)), (1, .int (I n1)), (2, .ref t2), (3, .int (I n3)), (4, .int (I n4))]) hx hb dX3_isName_6 hl (by decide) rfl (fun ls hl => ?_)
    refine lv_aload_n hx hb dX3_isName_8 rfl (lv_at hl 1 rfl) ?_
    refine gfX3_nameAt hx hb hts hK hP hown (hts _ tw_38) dX3_isName_9 ?_
    refine lv_iload_n hx hb dX3_isName_12 rfl (lv_at hl 2 rfl) ?_
    refine lv_iconst (v := I 1) hx hb dX3_isName_13 rfl ?_
    refine bi_iadd hx hb dX3_isName_14 ?_
    obtain ⟨c3, hw⟩ := hw
    refine ldCX3_nameAt hx hb hK hP hN c3 dX3_isName_15 (fun x4 r_x4 e_x4 => ?_)
    replace hw := hw x4 r_x4 e_x4
    refine lv_iload hx hb dX3_isName_16 (lv_at hl 0 rfl) ?_
    refine bi_isub hx hb dX3_isName_18 ?_
    refine lv_iload hx hb dX3_isName_19 (lv_at hl 5 rfl) ?_
    obtain ⟨c5, hw⟩ := hw
    refine bi_icmp_eq (tgt := 26) hx hb c5 r_n4 dX3_isName_21 (by decide) (fun c6 => ?_) (fun c6 => ?_)
    ·
      replace hw := hw.1 c6
      refine lv_iconst (v := I 0) hx hb dX3_isName_26 rfl ?_
      refine lv_istore (lv' := [(6, .int (I 0)), (5, .int (I x2)), (0, .ref (q 1)), (1, .int (I n1)), (2, .ref t2), (3, .int (I n3)), (4, .int (I n4))]) hx hb dX3_isName_27 hl (by decide) rfl (fun ls hl => ?_)
      exact (hP29 _ _ _ _).mp hw r_n3 r_n4 r_x2 (by decide)  H locs ls hP hD hS (lv_sub hl [2, 4, 5, 6, 1, 0] rfl)
    ·
      replace hw := hw.2 c6
      refine lv_iconst (v := I 0) hx hb dX3_isName_24 rfl ?_
      exact xrz hx hb hr (by decide) hlk hP hK hD hS ⟨_, (by decide), rfl, rfl, hw⟩ (Nat.le_of_ble_eq_true rfl) (Nat.le_of_ble_eq_true rfl) dX3_isName_25
  ·
    intro u3 u4 u5 u6 hw
    refine (hP29 _ _ _ _).mpr ?_
    intro r_u3 r_u4 r_u5 r_u6 H locs ls hP hD hS hl
    refine lv_iload hx hb dX3_isName_29 (lv_at hl 5 rfl) ?_
    refine lv_iload hx hb dX3_isName_31 (lv_at hl 3 rfl) ?_
    refine bi_icmp_ge (tgt := 63) hx hb r_u6 r_u4 dX3_isName_33 (by decide) (fun c7 => ?_) (fun c7 => ?_)
    ·
      replace hw := hw.1 c7
      refine lv_iconst (v := I 1) hx hb dX3_isName_63 rfl ?_
      exact xrz hx hb hr (by decide) hlk hP hK hD hS ⟨_, (by decide), rfl, rfl, hw⟩ (Nat.le_of_ble_eq_true rfl) (Nat.le_of_ble_eq_true rfl) dX3_isName_64
    ·
      replace hw := hw.2 c7
      refine lv_aload_n hx hb dX3_isName_36 rfl (lv_at hl 0 rfl) ?_
      refine gfX3_letters hx hb hts hK hP hown (hts _ tw_36) dX3_isName_37 ?_
      refine lv_iload hx hb dX3_isName_40 (lv_at hl 4 rfl) ?_
      refine lv_iload hx hb dX3_isName_42 (lv_at hl 5 rfl) ?_
      refine bi_iadd hx hb dX3_isName_44 ?_
      obtain ⟨c8, hw⟩ := hw
      refine ldCX3_letters hx hb hK hP hN c8 dX3_isName_45 (fun x9 r_x9 e_x9 => ?_)
      replace hw := hw x9 r_x9 e_x9
      refine lv_aload_n hx hb dX3_isName_46 rfl (lv_at hl 1 rfl) ?_
      refine lv_iload_n hx hb dX3_isName_47 rfl (lv_at hl 2 rfl) ?_
      refine lv_iload hx hb dX3_isName_48 (lv_at hl 5 rfl) ?_
      refine bi_iadd hx hb dX3_isName_50 ?_
      obtain ⟨c10, hw⟩ := hw
      refine ld_t2 hx hb hX hS c10 dX3_isName_51 (fun x11 r_x11 e_x11 => ?_)
      replace hw := hw x11 r_x11 e_x11
      refine bi_icmp_eq (tgt := 57) hx hb r_x9 r_x11 dX3_isName_52 (by decide) (fun c12 => ?_) (fun c12 => ?_)
      ·
        replace hw := hw.1 c12
        refine lv_iinc (v := I (u6 + 1)) (lv' := [(6, .int (I (u6 + 1))), (0, .ref (q 1)), (2, .ref t2), (3, .int (I u3)), (4, .int (I u4)), (5, .int (I u5))]) hx hb dX3_isName_57 hl (k := 5) rfl (I_add _ _) (by decide) rfl (fun ls hl => ?_)
        refine lv_goto (tgt := 29) hx hb dX3_isName_60 (by decide) ?_
        obtain ⟨c13, hw⟩ := hw
        exact (hP29 _ _ _ _).mp hw r_u3 r_u4 r_u5 c13  H locs ls hP hD hS (lv_sub hl [1, 2, 3, 4, 5, 0] rfl)
      ·
        replace hw := hw.2 c12
        refine lv_iconst (v := I 0) hx hb dX3_isName_55 rfl ?_
        exact xrz hx hb hr (by decide) hlk hP hK hD hS ⟨_, (by decide), rfl, rfl, hw⟩ (Nat.le_of_ble_eq_true rfl) (Nat.le_of_ble_eq_true rfl) dX3_isName_56
def W_X3_nameOf_t2 (n2 : Int) (n3 : Int) (σ : S0) (Q : Int → Prop) : Prop :=
  ∀ (P16 : Int → Int → Int → Int → Prop),
  (∀ (u2 : Int) (u3 : Int) (u4 : Int) (u5 : Int), ((2500 ≤ u5 → Q (-1)) ∧ (u5 < 2500 → (u4 ≤ 0 → Q (-1)) ∧ (0 < u4 → rg (u4 - 1) ∧ ∃ (Q9 : Int → Prop), W_X3_isName_t2 (u4 - 1) u2 u3 σ Q9 ∧ ∀ (x10 : Int), rg x10 → Q9 x10 → ((x10 = 0 → (0 ≤ (u4 - 1) ∧ (u4 - 1) < 2500) ∧ (∀ (x14 : Int), rg x14 → x14 = σ.2.1 5 (u4 - 1) → (rg (u5 + 1) ∧ P16 u2 u3 x14 (u5 + 1)))) ∧ (¬ x10 = 0 → Q (u4 - 1)))))) → P16 u2 u3 u4 u5) →
  ∃ (Q1 : Int → Prop), W_X3_bucket_t2 n2 n3 σ Q1 ∧ ∀ (x2 : Int), rg x2 → Q1 x2 → ((0 ≤ x2 ∧ x2 < 4096) ∧ (∀ (x5 : Int), rg x5 → x5 = σ.2.1 6 x2 → (P16 n2 n3 x5 0)))
set_option maxRecDepth 100000 in
set_option maxHeartbeats 4000000 in
theorem L_X3_nameOf_t2 (l : Launch) (g : gG) (t1 t2 : Nat) (q : Nat → Nat) (lb : Nat) (hlb : lb < 2 ^ 31) {n2 : Int} {n3 : Int} {σ : S0} {Q : Int → Prop} (r_n2 : rg n2) (r_n3 : rg n3) (hN : n_m σ) (hw : W_X3_nameOf_t2 n2 n3 σ Q) (sz : Nat) : MetI l yX3_nameOf cX3_nameOf 6 (some .int) { frames := 1, cells := 0, slots := 0, locals := 26 } g [.ref (q 1), .ref t2, .int (I n2), .int (I n3)] (CX g q lb σ) sz (sX t1 t2 (va_A (CX g q lb σ) sz)) (p_i (CX g q lb) σ Q) 0 0 := by
  refine mkMet (Qc := fun A => QI g A (p_i (CX g q lb) σ Q)) (by decide) (Nat.le_of_ble_eq_true rfl) ?_
  intro p e s m below meth c A H ls hx hb hr hml hown hts hlk hnm hsz hP hK hNb hD hA hAe hS hX hl
  rw [← hAe] at hX
  have hl : lv_has ls 6 [(0, .ref (q 1)), (1, .ref t2), (2, .int (I n2)), (3, .int (I n3))] := hl
  have hB := hN
  obtain ⟨locs, hlocs⟩ : ∃ z : List Loc, z = [] := ⟨_, rfl⟩
  rw [← hlocs] at hS ⊢
  obtain ⟨P16, hP16⟩ : ∃ P : Int → Int → Int → Int → Prop, ∀ (u2 : Int) (u3 : Int) (u4 : Int) (u5 : Int), (P u2 u3 u4 u5 ↔ (rg u2 → rg u3 → rg u4 → rg u5 → ∀ (H : Heap) (locs : List Loc) (ls : Array Slot), KP g (CX g q lb σ) H → va_D A (CX g q lb σ) → va_S A s.heap H locs → lv_has ls 6 [(0, .ref (q 1)), (1, .ref t2), (2, .int (I u2)), (3, .int (I u3)), (4, .int (I u4)), (5, .int (I u5))] → W p l e ({ frames := 1, cells := 0, slots := 0, locals := 26 }) s m [.ref (q 1), .ref t2, .int (I n2), .int (I n3)].toArray below meth c H locs 0 0 (MQ below (QI g A (p_i (CX g q lb) σ Q)) [.ref (q 1), .ref t2, .int (I n2), .int (I n3)].toArray s 0 0 A) (F0 m 16 ls []))) := ⟨_, fun _ _ _ _ => Iff.rfl⟩
  refine (fun hw => ?_) (hw P16 ?_)
  ·
    refine lv_aload_n hx hb dX3_nameOf_0 rfl (lv_at hl 0 rfl) ?_
    refine gfX3_heads hx hb hts hK hP hown (hts _ tw_42) dX3_nameOf_1 ?_
    refine lv_aload_n hx hb dX3_nameOf_4 rfl (lv_at hl 1 rfl) ?_
    refine lv_iload_n hx hb dX3_nameOf_5 rfl (lv_at hl 2 rfl) ?_
    refine lv_iload_n hx hb dX3_nameOf_6 rfl (lv_at hl 3 rfl) ?_
    obtain ⟨Q1, hc, hw⟩ := hw
    refine wc_i (X := CX g q lb) (va_runS (As := [.ref t2, .int (I n2), .int (I n3)]) (rest := [.ref (q 19)]) ⟨hx, hb, hml, hown, hts⟩ (L_X3_bucket_t2 l g t1 t2 q lb hlb r_n2 r_n3 hN hc H.size) (cwS 3 hts (TB_S tw_1107 tw_1108 tw_2 co_X3_bucket) rfl rfl rfl (by decide +kernel) ⟨Nat.le_of_ble_eq_true rfl, Nat.le_of_ble_eq_true rfl⟩) (preS sX_bl hP hK hNb hD (sX_call hX hS (d_full hD hS hA))) rfl rfl hl.1 rfl (lv_room (Nat.le_of_ble_eq_true rfl)) dX3_nameOf_7 ⟨Nat.le_of_ble_eq_true rfl, Nat.le_of_ble_eq_true rfl⟩) hP hD hS hA (fun x2 H locs r_x2 hq hP hD hS => ?_)
    replace hw := hw x2 r_x2 hq
    obtain ⟨c4, hw⟩ := hw
    refine ldCX3_heads hx hb hK hP hN c4 dX3_nameOf_10 (fun x5 r_x5 e_x5 => ?_)
    replace hw := hw x5 r_x5 e_x5
    refine lv_istore (lv' := [(4, .int (I x5)), (0, .ref (q 1)), (1, .ref t2), (2, .int (I n2)), (3, .int (I n3))]) hx hb dX3_nameOf_11 hl (by decide) rfl (fun ls hl => ?_)
    refine lv_iconst (v := I 0) hx hb dX3_nameOf_13 rfl ?_
    refine lv_istore (lv' := [(5, .int (I 0)), (4, .int (I x5)), (0, .ref (q 1)), (1, .ref t2), (2, .int (I n2)), (3, .int (I n3))]) hx hb dX3_nameOf_14 hl (by decide) rfl (fun ls hl => ?_)
    exact (hP16 _ _ _ _).mp hw r_n2 r_n3 r_x5 (by decide)  H locs ls hP hD hS (lv_sub hl [2, 3, 4, 5, 1, 0] rfl)
  ·
    intro u2 u3 u4 u5 hw
    refine (hP16 _ _ _ _).mpr ?_
    intro r_u2 r_u3 r_u4 r_u5 H locs ls hP hD hS hl
    refine lv_iload hx hb dX3_nameOf_16 (lv_at hl 5 rfl) ?_
    refine lv_sipush (v := I 2500) hx hb dX3_nameOf_18 (by decide) ?_
    refine bi_icmp_ge (tgt := 65) hx hb r_u5 (by decide) dX3_nameOf_21 (by decide) (fun c6 => ?_) (fun c6 => ?_)
    ·
      replace hw := hw.1 c6
      refine lv_iconst (v := I (-1)) hx hb dX3_nameOf_65 rfl ?_
      exact xri hx hb hr hlk hP hK hD hS ⟨_, (by decide), rfl, rfl, hw⟩ (Nat.le_of_ble_eq_true rfl) (Nat.le_of_ble_eq_true rfl) dX3_nameOf_66
    ·
      replace hw := hw.2 c6
      refine lv_iload hx hb dX3_nameOf_24 (lv_at hl 4 rfl) ?_
      refine bi_if_le (tgt := 65) hx hb r_u4 dX3_nameOf_26 (by decide) (fun c7 => ?_) (fun c7 => ?_)
      ·
        replace hw := hw.1 c7
        refine lv_iconst (v := I (-1)) hx hb dX3_nameOf_65 rfl ?_
        exact xri hx hb hr hlk hP hK hD hS ⟨_, (by decide), rfl, rfl, hw⟩ (Nat.le_of_ble_eq_true rfl) (Nat.le_of_ble_eq_true rfl) dX3_nameOf_66
      ·
        replace hw := hw.2 c7
        refine lv_aload_n hx hb dX3_nameOf_29 rfl (lv_at hl 0 rfl) ?_
        refine lv_iload hx hb dX3_nameOf_30 (lv_at hl 4 rfl) ?_
        refine lv_iconst (v := I 1) hx hb dX3_nameOf_32 rfl ?_
        refine bi_isub hx hb dX3_nameOf_33 ?_
        refine lv_aload_n hx hb dX3_nameOf_34 rfl (lv_at hl 1 rfl) ?_
        refine lv_iload_n hx hb dX3_nameOf_35 rfl (lv_at hl 2 rfl) ?_
        refine lv_iload_n hx hb dX3_nameOf_36 rfl (lv_at hl 3 rfl) ?_
        obtain ⟨c8, hw⟩ := hw
        obtain ⟨Q9, hc, hw⟩ := hw
        refine wc_i (X := CX g q lb) (va_runV (As := [.int (I (u4 - 1)), .ref t2, .int (I u2), .int (I u3)]) (rest := []) ⟨hx, hb, hml, hown, hts⟩ (L_X3_isName_t2 l g t1 t2 q lb hlb c8 r_u2 r_u3 hN hc H.size) (cwV 4 hts (TB_V tw_1110 tw_1112 ts_21 tw_2 co_X3_isName) rfl rfl rfl (by decide +kernel) ⟨Nat.le_of_ble_eq_true rfl, Nat.le_of_ble_eq_true rfl⟩) (preV (q0 := 1) (ci := 3) rfl sX_bl hP hK hNb hD rfl rfl (sX_call hX hS (d_full hD hS hA))) rfl rfl hl.1 rfl (lv_room (Nat.le_of_ble_eq_true rfl)) dX3_nameOf_37 ⟨Nat.le_of_ble_eq_true rfl, Nat.le_of_ble_eq_true rfl⟩) hP hD hS hA (fun x10 H locs r_x10 hq hP hD hS => ?_)
        replace hw := hw x10 r_x10 hq
        refine bi_if_eq (tgt := 48) hx hb r_x10 dX3_nameOf_40 (by decide) (fun c12 => ?_) (fun c12 => ?_)
        ·
          replace hw := hw.1 c12
          refine lv_aload_n hx hb dX3_nameOf_48 rfl (lv_at hl 0 rfl) ?_
          refine gfX3_nextName hx hb hts hK hP hown (hts _ tw_41) dX3_nameOf_49 ?_
          refine lv_iload hx hb dX3_nameOf_52 (lv_at hl 4 rfl) ?_
          refine lv_iconst (v := I 1) hx hb dX3_nameOf_54 rfl ?_
          refine bi_isub hx hb dX3_nameOf_55 ?_
          obtain ⟨c13, hw⟩ := hw
          refine ldCX3_nextName hx hb hK hP hN c13 dX3_nameOf_56 (fun x14 r_x14 e_x14 => ?_)
          replace hw := hw x14 r_x14 e_x14
          refine lv_istore (lv' := [(4, .int (I x14)), (0, .ref (q 1)), (1, .ref t2), (2, .int (I u2)), (3, .int (I u3)), (5, .int (I u5))]) hx hb dX3_nameOf_57 hl (by decide) rfl (fun ls hl => ?_)
          refine lv_iinc (v := I (u5 + 1)) (lv' := [(5, .int (I (u5 + 1))), (4, .int (I x14)), (0, .ref (q 1)), (1, .ref t2), (2, .int (I u2)), (3, .int (I u3))]) hx hb dX3_nameOf_59 hl (k := 5) rfl (I_add _ _) (by decide) rfl (fun ls hl => ?_)
          refine lv_goto (tgt := 16) hx hb dX3_nameOf_62 (by decide) ?_
          obtain ⟨c15, hw⟩ := hw
          exact (hP16 _ _ _ _).mp hw r_u2 r_u3 r_x14 c15  H locs ls hP hD hS (lv_sub hl [2, 3, 4, 5, 1, 0] rfl)
        ·
          replace hw := hw.2 c12
          refine lv_iload hx hb dX3_nameOf_43 (lv_at hl 4 rfl) ?_
          refine lv_iconst (v := I 1) hx hb dX3_nameOf_45 rfl ?_
          refine bi_isub hx hb dX3_nameOf_46 ?_
          exact xri hx hb hr hlk hP hK hD hS ⟨_, c8, rfl, rfl, hw⟩ (Nat.le_of_ble_eq_true rfl) (Nat.le_of_ble_eq_true rfl) dX3_nameOf_47
def W_X3_symbolNamed_t2 (n2 : Int) (n3 : Int) (σ : S0) (Q : Int → Prop) : Prop :=
  ∃ (Q1 : Int → Prop), W_X3_nameOf_t2 n2 n3 σ Q1 ∧ ∀ (x2 : Int), rg x2 → Q1 x2 → (∃ (Q4 : Int → Prop), W_X3_symbolOf x2 σ Q4 ∧ ∀ (x5 : Int), rg x5 → Q4 x5 → (Q x5))
set_option maxRecDepth 100000 in
set_option maxHeartbeats 4000000 in
theorem L_X3_symbolNamed_t2 (l : Launch) (g : gG) (t1 t2 : Nat) (q : Nat → Nat) (lb : Nat) (hlb : lb < 2 ^ 31) {n2 : Int} {n3 : Int} {σ : S0} {Q : Int → Prop} (r_n2 : rg n2) (r_n3 : rg n3) (hN : n_m σ) (hw : W_X3_symbolNamed_t2 n2 n3 σ Q) (sz : Nat) : MetI l yX3_symbolNamed cX3_symbolNamed 4 (some .int) { frames := 2, cells := 0, slots := 0, locals := 51 } g [.ref (q 1), .ref t2, .int (I n2), .int (I n3)] (CX g q lb σ) sz (sX t1 t2 (va_A (CX g q lb σ) sz)) (p_i (CX g q lb) σ Q) 0 0 := by
  refine mkMet (Qc := fun A => QI g A (p_i (CX g q lb) σ Q)) (by decide) (Nat.le_of_ble_eq_true rfl) ?_
  intro p e s m below meth c A H ls hx hb hr hml hown hts hlk hnm hsz hP hK hNb hD hA hAe hS hX hl
  rw [← hAe] at hX
  have hl : lv_has ls 4 [(0, .ref (q 1)), (1, .ref t2), (2, .int (I n2)), (3, .int (I n3))] := hl
  have hB := hN
  obtain ⟨locs, hlocs⟩ : ∃ z : List Loc, z = [] := ⟨_, rfl⟩
  rw [← hlocs] at hS ⊢
  refine lv_aload_n hx hb dX3_symbolNamed_0 rfl (lv_at hl 0 rfl) ?_
  refine lv_aload_n hx hb dX3_symbolNamed_1 rfl (lv_at hl 0 rfl) ?_
  refine lv_aload_n hx hb dX3_symbolNamed_2 rfl (lv_at hl 1 rfl) ?_
  refine lv_iload_n hx hb dX3_symbolNamed_3 rfl (lv_at hl 2 rfl) ?_
  refine lv_iload_n hx hb dX3_symbolNamed_4 rfl (lv_at hl 3 rfl) ?_
  obtain ⟨Q1, hc, hw⟩ := hw
  refine wc_i (X := CX g q lb) (va_runV (As := [.ref t2, .int (I n2), .int (I n3)]) (rest := [.ref (q 1)]) ⟨hx, hb, hml, hown, hts⟩ (L_X3_nameOf_t2 l g t1 t2 q lb hlb r_n2 r_n3 hN hc H.size) (cwV 3 hts (TB_V tw_1444 tw_1104 tw_1105 tw_2 co_X3_nameOf) rfl rfl rfl (by decide +kernel) ⟨Nat.le_of_ble_eq_true rfl, Nat.le_of_ble_eq_true rfl⟩) (preV (q0 := 1) (ci := 3) rfl sX_bl hP hK hNb hD rfl rfl (sX_call hX hS (d_full hD hS hA))) rfl rfl hl.1 rfl (lv_room (Nat.le_of_ble_eq_true rfl)) dX3_symbolNamed_5 ⟨Nat.le_of_ble_eq_true rfl, Nat.le_of_ble_eq_true rfl⟩) hP hD hS hA (fun x2 H locs r_x2 hq hP hD hS => ?_)
  replace hw := hw x2 r_x2 hq
  obtain ⟨Q4, hc, hw⟩ := hw
  refine wc_i (X := CX g q lb) (va_runV (As := [.int (I x2)]) (rest := []) ⟨hx, hb, hml, hown, hts⟩ (L_X3_symbolOf l g q lb hlb r_x2 hN hc H.size) (cwV 1 hts (TB_V tw_1450 tw_1115 tw_1116 tw_2 co_X3_symbolOf) rfl rfl rfl (by decide +kernel) ⟨Nat.le_of_ble_eq_true rfl, Nat.le_of_ble_eq_true rfl⟩) (preV (q0 := 1) (ci := 3) rfl xT_bl hP hK hNb hD rfl rfl xT_at) rfl rfl hl.1 rfl (lv_room (Nat.le_of_ble_eq_true rfl)) dX3_symbolNamed_8 ⟨Nat.le_of_ble_eq_true rfl, Nat.le_of_ble_eq_true rfl⟩) hP hD hS hA (fun x5 H locs r_x5 hq hP hD hS => ?_)
  replace hw := hw x5 r_x5 hq
  exact xri hx hb hr hlk hP hK hD hS ⟨_, r_x5, rfl, rfl, hw⟩ (Nat.le_of_ble_eq_true rfl) (Nat.le_of_ble_eq_true rfl) dX3_symbolNamed_11
def W_X8_constantNamed_t2 (σ : S0) (Q : Int → Prop) : Prop :=
  ∃ (Q1 : Int → Prop), W_X3_symbolNamed_t2 0 3 σ Q1 ∧ ∀ (x2 : Int), rg x2 → Q1 x2 → ((x2 = (-1) → Q (-1)) ∧ (¬ x2 = (-1) → (0 ≤ x2 ∧ x2 < 1000) ∧ (∀ (x6 : Int), rg x6 → x6 = σ.2.1 8 x2 → ((x6 = 0 → Q x2) ∧ (¬ x6 = 0 → Q (-1))))))
set_option maxRecDepth 100000 in
set_option maxHeartbeats 4000000 in
theorem L_X8_constantNamed_t2 (l : Launch) (g : gG) (t1 t2 : Nat) (q : Nat → Nat) (lb : Nat) (hlb : lb < 2 ^ 31) {σ : S0} {Q : Int → Prop} (hN : n_m σ) (hw : W_X8_constantNamed_t2 σ Q) (sz : Nat) : MetI l yX8_constantNamed cX8_constantNamed 3 (some .int) { frames := 3, cells := 0, slots := 0, locals := 74 } g [.ref (q 8), .ref t2] (CX g q lb σ) sz (sX t1 t2 (va_A (CX g q lb σ) sz)) (p_i (CX g q lb) σ Q) 0 0 := by
  refine mkMet (Qc := fun A => QI g A (p_i (CX g q lb) σ Q)) (by decide) (Nat.le_of_ble_eq_true rfl) ?_
  intro p e s m below meth c A H ls hx hb hr hml hown hts hlk hnm hsz hP hK hNb hD hA hAe hS hX hl
  rw [← hAe] at hX
  have hl : lv_has ls 3 [(0, .ref (q 8)), (1, .ref t2)] := hl
  have hB := hN
  obtain ⟨locs, hlocs⟩ : ∃ z : List Loc, z = [] := ⟨_, rfl⟩
  rw [← hlocs] at hS ⊢
  refine lv_aload_n hx hb dX8_constantNamed_0 rfl (lv_at hl 0 rfl) ?_
  refine gfX8_library hx hb hts hK hP hown (hts _ tw_599) dX8_constantNamed_1 ?_
  refine lv_aload_n hx hb dX8_constantNamed_4 rfl (lv_at hl 1 rfl) ?_
  refine lv_iconst (v := I 0) hx hb dX8_constantNamed_5 rfl ?_
  refine lv_aload_n hx hb dX8_constantNamed_6 rfl (lv_at hl 1 rfl) ?_
  refine va_tlen hx hb hX.2.2.2 hS (v := I 3) rfl dX8_constantNamed_7 ?_
  obtain ⟨Q1, hc, hw⟩ := hw
  refine wc_i (X := CX g q lb) (va_runV (As := [.ref t2, .int (I 0), .int (I 3)]) (rest := []) ⟨hx, hb, hml, hown, hts⟩ (L_X3_symbolNamed_t2 l g t1 t2 q lb hlb (by decide) (by decide) hN hc H.size) (cwV 3 hts (TB_V tw_1681 tw_1447 tw_1448 tw_2 co_X3_symbolNamed) rfl rfl rfl (by decide +kernel) ⟨Nat.le_of_ble_eq_true rfl, Nat.le_of_ble_eq_true rfl⟩) (preV (q0 := 1) (ci := 3) rfl sX_bl hP hK hNb hD rfl rfl (sX_call hX hS (d_full hD hS hA))) rfl rfl hl.1 rfl (lv_room (Nat.le_of_ble_eq_true rfl)) dX8_constantNamed_8 ⟨Nat.le_of_ble_eq_true rfl, Nat.le_of_ble_eq_true rfl⟩) hP hD hS hA (fun x2 H locs r_x2 hq hP hD hS => ?_)
  replace hw := hw x2 r_x2 hq
  refine lv_istore_n (lv' := [(2, .int (I x2)), (0, .ref (q 8)), (1, .ref t2)]) hx hb dX8_constantNamed_11 rfl hl (by decide) rfl (fun ls hl => ?_)
  refine lv_iload_n hx hb dX8_constantNamed_12 rfl (lv_at hl 0 rfl) ?_
  refine lv_iconst (v := I (-1)) hx hb dX8_constantNamed_13 rfl ?_
  refine bi_icmp_eq (tgt := 29) hx hb r_x2 (by decide) dX8_constantNamed_14 (by decide) (fun c4 => ?_) (fun c4 => ?_)
  ·
    replace hw := hw.1 c4
    refine lv_iconst (v := I (-1)) hx hb dX8_constantNamed_29 rfl ?_
    refine lv_goto (tgt := 34) hx hb dX8_constantNamed_30 (by decide) ?_
    exact xri hx hb hr hlk hP hK hD hS ⟨_, (by decide), rfl, rfl, hw⟩ (Nat.le_of_ble_eq_true rfl) (Nat.le_of_ble_eq_true rfl) dX8_constantNamed_34
  ·
    replace hw := hw.2 c4
    refine lv_aload_n hx hb dX8_constantNamed_17 rfl (lv_at hl 1 rfl) ?_
    refine gfX8_library hx hb hts hK hP hown (hts _ tw_599) dX8_constantNamed_18 ?_
    refine gfNX3_variable hx hb hts hK hP hown (nb_use hNb tn_47) dX8_constantNamed_21 ?_
    refine lv_iload_n hx hb dX8_constantNamed_24 rfl (lv_at hl 0 rfl) ?_
    obtain ⟨c5, hw⟩ := hw
    refine ldCX3_variable hx hb hK hP hN c5 dX8_constantNamed_25 (fun x6 r_x6 e_x6 => ?_)
    replace hw := hw x6 r_x6 e_x6
    refine bi_if_eq (tgt := 33) hx hb r_x6 dX8_constantNamed_26 (by decide) (fun c7 => ?_) (fun c7 => ?_)
    ·
      replace hw := hw.1 c7
      refine lv_iload_n hx hb dX8_constantNamed_33 rfl (lv_at hl 0 rfl) ?_
      exact xri hx hb hr hlk hP hK hD hS ⟨_, r_x2, rfl, rfl, hw⟩ (Nat.le_of_ble_eq_true rfl) (Nat.le_of_ble_eq_true rfl) dX8_constantNamed_34
    ·
      replace hw := hw.2 c7
      refine lv_iconst (v := I (-1)) hx hb dX8_constantNamed_29 rfl ?_
      refine lv_goto (tgt := 34) hx hb dX8_constantNamed_30 (by decide) ?_
      exact xri hx hb hr hlk hP hK hD hS ⟨_, (by decide), rfl, rfl, hw⟩ (Nat.le_of_ble_eq_true rfl) (Nat.le_of_ble_eq_true rfl) dX8_constantNamed_34
def W_X8_isRule (n1 : Int) (σ : S0) (Q : Int → Prop) : Prop :=
  ∀ (P67 : Int → Int → Int → Prop) (P117 : Int → Int → Int → Int → Prop),
  (∀ (u1 : Int) (u2 : Int) (u3 : Int), ((0 ≤ (u1 + 1) ∧ (u1 + 1) < 1501) ∧ (∀ (x19 : Int), rg x19 → x19 = σ.2.1 14 (u1 + 1) → ((x19 ≤ u3 → (0 ≤ u1 ∧ u1 < 1500) ∧ (∀ (x22 : Int), rg x22 → x22 = σ.2.1 28 u1 → ((¬ u2 = x22 → Q 0) ∧ (u2 = x22 → Q 1)))) ∧ (u3 < x19 → (0 ≤ u3 ∧ u3 < 30000) ∧ (∀ (x25 : Int), rg x25 → x25 = σ.2.1 16 u3 → ((x25 = (-1) → P117 u1 u2 u3 x25) ∧ (¬ x25 = (-1) → ∃ (Q27 : Int → Prop), W_X3_typeOf x25 σ Q27 ∧ ∀ (x28 : Int), rg x28 → Q27 x28 → ((¬ x28 = σ.1 48 → P117 u1 u2 u3 x25) ∧ (x28 = σ.1 48 → Q 0))))))))) → P67 u1 u2 u3) →
  (∀ (u1 : Int) (u2 : Int) (u3 : Int) (u4 : Int), ((¬ u4 = (-1) → rg (u2 + 1) ∧ rg (u3 + 1) ∧ P67 u1 (u2 + 1) (u3 + 1)) ∧ (u4 = (-1) → rg (u2 + 0) ∧ rg (u3 + 1) ∧ P67 u1 (u2 + 0) (u3 + 1))) → P117 u1 u2 u3 u4) →
  (0 ≤ n1 ∧ n1 < 1500) ∧ (∀ (x2 : Int), rg x2 → x2 = σ.2.1 13 n1 → ((¬ x2 = 2 → Q 0) ∧ (x2 = 2 → ∃ (Q4 : Int → Prop), W_X3_typeOf n1 σ Q4 ∧ ∀ (x5 : Int), rg x5 → Q4 x5 → ((x5 = σ.1 48 → Q 0) ∧ (¬ x5 = σ.1 48 → ∃ (Q8 : Int → Prop), W_X3_lengthOf n1 σ Q8 ∧ ∀ (x9 : Int), rg x9 → Q8 x9 → ((2 ≤ x9 → ∃ (Q12 : Int → Prop), W_X0_hasEssential n1 σ Q12 ∧ ∀ (x13 : Int), rg x13 → Q12 x13 → ((x13 = 0 → (0 ≤ n1 ∧ n1 < 1501) ∧ (∀ (x17 : Int), rg x17 → x17 = σ.2.1 14 n1 → (P67 n1 0 x17))) ∧ (¬ x13 = 0 → Q 0))) ∧ (x9 < 2 → Q 0)))))))
set_option maxRecDepth 100000 in
set_option maxHeartbeats 4000000 in
theorem L_X8_isRule (l : Launch) (g : gG) (q : Nat → Nat) (lb : Nat) (hlb : lb < 2 ^ 31) {n1 : Int} {σ : S0} {Q : Int → Prop} (r_n1 : rg n1) (hN : n_m σ) (hw : W_X8_isRule n1 σ Q) (sz : Nat) : MetI l yX8_isRule cX8_isRule 5 (some .boolean) { frames := 1, cells := 0, slots := 0, locals := 22 } g [.ref (q 8), .int (I n1)] (CX g q lb σ) sz xT (p_i (CX g q lb) σ Q) 0 0 := by
  refine mkMet (Qc := fun A => QI g A (p_i (CX g q lb) σ Q)) (by decide) (Nat.le_of_ble_eq_true rfl) ?_
  intro p e s m below meth c A H ls hx hb hr hml hown hts hlk hnm hsz hP hK hNb hD hA hAe hS hX hl
  have hl : lv_has ls 5 [(0, .ref (q 8)), (1, .int (I n1))] := hl
  have hB := hN
  obtain ⟨locs, hlocs⟩ : ∃ z : List Loc, z = [] := ⟨_, rfl⟩
  rw [← hlocs] at hS ⊢
  obtain ⟨P67, hP67⟩ : ∃ P : Int → Int → Int → Prop, ∀ (u1 : Int) (u2 : Int) (u3 : Int), (P u1 u2 u3 ↔ (rg u1 → rg u2 → rg u3 → ∀ (H : Heap) (locs : List Loc) (ls : Array Slot), KP g (CX g q lb σ) H → va_D A (CX g q lb σ) → va_S A s.heap H locs → lv_has ls 5 [(0, .ref (q 8)), (1, .int (I u1)), (2, .int (I u2)), (3, .int (I u3))] → W p l e ({ frames := 1, cells := 0, slots := 0, locals := 22 }) s m [.ref (q 8), .int (I n1)].toArray below meth c H locs 0 0 (MQ below (QI g A (p_i (CX g q lb) σ Q)) [.ref (q 8), .int (I n1)].toArray s 0 0 A) (F0 m 67 ls []))) := ⟨_, fun _ _ _ => Iff.rfl⟩
  obtain ⟨P117, hP117⟩ : ∃ P : Int → Int → Int → Int → Prop, ∀ (u1 : Int) (u2 : Int) (u3 : Int) (u4 : Int), (P u1 u2 u3 u4 ↔ (rg u1 → rg u2 → rg u3 → rg u4 → ∀ (H : Heap) (locs : List Loc) (ls : Array Slot), KP g (CX g q lb σ) H → va_D A (CX g q lb σ) → va_S A s.heap H locs → lv_has ls 5 [(0, .ref (q 8)), (1, .int (I u1)), (2, .int (I u2)), (3, .int (I u3)), (4, .int (I u4))] → W p l e ({ frames := 1, cells := 0, slots := 0, locals := 22 }) s m [.ref (q 8), .int (I n1)].toArray below meth c H locs 0 0 (MQ below (QI g A (p_i (CX g q lb) σ Q)) [.ref (q 8), .int (I n1)].toArray s 0 0 A) (F0 m 117 ls []))) := ⟨_, fun _ _ _ _ => Iff.rfl⟩
  refine (fun hw => ?_) (hw P67 P117 ?_ ?_)
  ·
    refine lv_aload_n hx hb dX8_isRule_0 rfl (lv_at hl 0 rfl) ?_
    refine gfX8_library hx hb hts hK hP hown (hts _ tw_599) dX8_isRule_1 ?_
    refine gfNX3_kind hx hb hts hK hP hown (nb_use hNb tn_72) dX8_isRule_4 ?_
    refine lv_iload_n hx hb dX8_isRule_7 rfl (lv_at hl 1 rfl) ?_
    obtain ⟨c1, hw⟩ := hw
    refine ldCX3_kind hx hb hK hP hN c1 dX8_isRule_8 (fun x2 r_x2 e_x2 => ?_)
    replace hw := hw x2 r_x2 e_x2
    refine lv_iconst (v := I 2) hx hb dX8_isRule_9 rfl ?_
    refine bi_icmp_ne (tgt := 40) hx hb r_x2 (by decide) dX8_isRule_10 (by decide) (fun c3 => ?_) (fun c3 => ?_)
    ·
      replace hw := hw.1 c3
      refine lv_iconst (v := I 0) hx hb dX8_isRule_40 rfl ?_
      exact xrz hx hb hr (by decide) hlk hP hK hD hS ⟨_, (by decide), rfl, rfl, hw⟩ (Nat.le_of_ble_eq_true rfl) (Nat.le_of_ble_eq_true rfl) dX8_isRule_41
    ·
      replace hw := hw.2 c3
      refine lv_aload_n hx hb dX8_isRule_13 rfl (lv_at hl 0 rfl) ?_
      refine gfX8_library hx hb hts hK hP hown (hts _ tw_599) dX8_isRule_14 ?_
      refine lv_iload_n hx hb dX8_isRule_17 rfl (lv_at hl 1 rfl) ?_
      obtain ⟨Q4, hc, hw⟩ := hw
      refine wc_i (X := CX g q lb) (va_runV (As := [.int (I n1)]) (rest := []) ⟨hx, hb, hml, hown, hts⟩ (L_X3_typeOf l g q lb hlb r_n1 hN hc H.size) (cwV 1 hts (TB_V tw_1689 tw_1208 tw_1209 tw_2 co_X3_typeOf) rfl rfl rfl (by decide +kernel) ⟨Nat.le_of_ble_eq_true rfl, Nat.le_of_ble_eq_true rfl⟩) (preV (q0 := 1) (ci := 3) rfl xT_bl hP hK hNb hD rfl rfl xT_at) rfl rfl hl.1 rfl (lv_room (Nat.le_of_ble_eq_true rfl)) dX8_isRule_18 ⟨Nat.le_of_ble_eq_true rfl, Nat.le_of_ble_eq_true rfl⟩) hP hD hS hA (fun x5 H locs r_x5 hq hP hD hS => ?_)
      replace hw := hw x5 r_x5 hq
      refine lv_aload_n hx hb dX8_isRule_21 rfl (lv_at hl 0 rfl) ?_
      refine gfX8_provable hx hb hts hK hP hown (hts _ tw_625) (x := σ.1 48) rfl dX8_isRule_22 ?_
      refine bi_icmp_eq (tgt := 40) hx hb r_x5 (hB.1 48) dX8_isRule_25 (by decide) (fun c7 => ?_) (fun c7 => ?_)
      ·
        replace hw := hw.1 c7
        refine lv_iconst (v := I 0) hx hb dX8_isRule_40 rfl ?_
        exact xrz hx hb hr (by decide) hlk hP hK hD hS ⟨_, (by decide), rfl, rfl, hw⟩ (Nat.le_of_ble_eq_true rfl) (Nat.le_of_ble_eq_true rfl) dX8_isRule_41
      ·
        replace hw := hw.2 c7
        refine lv_aload_n hx hb dX8_isRule_28 rfl (lv_at hl 0 rfl) ?_
        refine gfX8_library hx hb hts hK hP hown (hts _ tw_599) dX8_isRule_29 ?_
        refine lv_iload_n hx hb dX8_isRule_32 rfl (lv_at hl 1 rfl) ?_
        obtain ⟨Q8, hc, hw⟩ := hw
        refine wc_i (X := CX g q lb) (va_runV (As := [.int (I n1)]) (rest := []) ⟨hx, hb, hml, hown, hts⟩ (L_X3_lengthOf l g q lb hlb r_n1 hN hc H.size) (cwV 1 hts (TB_V tw_1684 tw_1292 tw_1293 tw_2 co_X3_lengthOf) rfl rfl rfl (by decide +kernel) ⟨Nat.le_of_ble_eq_true rfl, Nat.le_of_ble_eq_true rfl⟩) (preV (q0 := 1) (ci := 3) rfl xT_bl hP hK hNb hD rfl rfl xT_at) rfl rfl hl.1 rfl (lv_room (Nat.le_of_ble_eq_true rfl)) dX8_isRule_33 ⟨Nat.le_of_ble_eq_true rfl, Nat.le_of_ble_eq_true rfl⟩) hP hD hS hA (fun x9 H locs r_x9 hq hP hD hS => ?_)
        replace hw := hw x9 r_x9 hq
        refine lv_iconst (v := I 2) hx hb dX8_isRule_36 rfl ?_
        refine bi_icmp_ge (tgt := 42) hx hb r_x9 (by decide) dX8_isRule_37 (by decide) (fun c11 => ?_) (fun c11 => ?_)
        ·
          replace hw := hw.1 c11
          refine lv_aload_n hx hb dX8_isRule_42 rfl (lv_at hl 0 rfl) ?_
          refine gfX8_assertions hx hb hts hK hP hown (hts _ tw_600) dX8_isRule_43 ?_
          refine lv_iload_n hx hb dX8_isRule_46 rfl (lv_at hl 1 rfl) ?_
          obtain ⟨Q12, hc, hw⟩ := hw
          refine wc_i (X := CX g q lb) (va_runV (As := [.int (I n1)]) (rest := []) ⟨hx, hb, hml, hown, hts⟩ (L_X0_hasEssential l g q lb hlb r_n1 hN hc H.size) (cwV 1 hts (TB_V tw_1690 tw_1691 tw_1692 tw_5 co_X0_hasEssential) rfl rfl rfl (by decide +kernel) ⟨Nat.le_of_ble_eq_true rfl, Nat.le_of_ble_eq_true rfl⟩) (preV (q0 := 3) (ci := 0) rfl xT_bl hP hK hNb hD rfl rfl xT_at) rfl rfl hl.1 rfl (lv_room (Nat.le_of_ble_eq_true rfl)) dX8_isRule_47 ⟨Nat.le_of_ble_eq_true rfl, Nat.le_of_ble_eq_true rfl⟩) hP hD hS hA (fun x13 H locs r_x13 hq hP hD hS => ?_)
          replace hw := hw x13 r_x13 hq
          refine bi_if_eq (tgt := 55) hx hb r_x13 dX8_isRule_50 (by decide) (fun c15 => ?_) (fun c15 => ?_)
          ·
            replace hw := hw.1 c15
            refine lv_iconst (v := I 0) hx hb dX8_isRule_55 rfl ?_
            refine lv_istore_n (lv' := [(2, .int (I 0)), (0, .ref (q 8)), (1, .int (I n1))]) hx hb dX8_isRule_56 rfl hl (by decide) rfl (fun ls hl => ?_)
            refine lv_aload_n hx hb dX8_isRule_57 rfl (lv_at hl 1 rfl) ?_
            refine gfX8_library hx hb hts hK hP hown (hts _ tw_599) dX8_isRule_58 ?_
            refine gfNX3_at hx hb hts hK hP hown (nb_use hNb tn_81) dX8_isRule_61 ?_
            refine lv_iload_n hx hb dX8_isRule_64 rfl (lv_at hl 2 rfl) ?_
            obtain ⟨c16, hw⟩ := hw
            refine ldCX3_at hx hb hK hP hN c16 dX8_isRule_65 (fun x17 r_x17 e_x17 => ?_)
            replace hw := hw x17 r_x17 e_x17
            refine lv_istore_n (lv' := [(3, .int (I x17)), (2, .int (I 0)), (0, .ref (q 8)), (1, .int (I n1))]) hx hb dX8_isRule_66 rfl hl (by decide) rfl (fun ls hl => ?_)
            exact (hP67 _ _ _).mp hw r_n1 (by decide) r_x17  H locs ls hP hD hS (lv_sub hl [2, 3, 1, 0] rfl)
          ·
            replace hw := hw.2 c15
            refine lv_iconst (v := I 0) hx hb dX8_isRule_53 rfl ?_
            exact xrz hx hb hr (by decide) hlk hP hK hD hS ⟨_, (by decide), rfl, rfl, hw⟩ (Nat.le_of_ble_eq_true rfl) (Nat.le_of_ble_eq_true rfl) dX8_isRule_54
        ·
          replace hw := hw.2 c11
          refine lv_iconst (v := I 0) hx hb dX8_isRule_40 rfl ?_
          exact xrz hx hb hr (by decide) hlk hP hK hD hS ⟨_, (by decide), rfl, rfl, hw⟩ (Nat.le_of_ble_eq_true rfl) (Nat.le_of_ble_eq_true rfl) dX8_isRule_41
  ·
    intro u1 u2 u3 hw
    refine (hP67 _ _ _).mpr ?_
    intro r_u1 r_u2 r_u3 H locs ls hP hD hS hl
    refine lv_iload_n hx hb dX8_isRule_67 rfl (lv_at hl 3 rfl) ?_
    refine lv_aload_n hx hb dX8_isRule_68 rfl (lv_at hl 0 rfl) ?_
    refine gfX8_library hx hb hts hK hP hown (hts _ tw_599) dX8_isRule_69 ?_
    refine gfNX3_at hx hb hts hK hP hown (nb_use hNb tn_81) dX8_isRule_72 ?_
    refine lv_iload_n hx hb dX8_isRule_75 rfl (lv_at hl 1 rfl) ?_
    refine lv_iconst (v := I 1) hx hb dX8_isRule_76 rfl ?_
    refine bi_iadd hx hb dX8_isRule_77 ?_
    obtain ⟨c18, hw⟩ := hw
    refine ldCX3_at hx hb hK hP hN c18 dX8_isRule_78 (fun x19 r_x19 e_x19 => ?_)
    replace hw := hw x19 r_x19 e_x19
    refine bi_icmp_ge (tgt := 137) hx hb r_u3 r_x19 dX8_isRule_79 (by decide) (fun c20 => ?_) (fun c20 => ?_)
    ·
      replace hw := hw.1 c20
      refine lv_iload_n hx hb dX8_isRule_137 rfl (lv_at hl 2 rfl) ?_
      refine lv_aload_n hx hb dX8_isRule_138 rfl (lv_at hl 0 rfl) ?_
      refine gfX8_assertions hx hb hts hK hP hown (hts _ tw_600) dX8_isRule_139 ?_
      refine gfNX0_frameSize hx hb hts hK hP hown (nb_use hNb tn_244) dX8_isRule_142 ?_
      refine lv_iload_n hx hb dX8_isRule_145 rfl (lv_at hl 1 rfl) ?_
      obtain ⟨c21, hw⟩ := hw
      refine ldCX0_frameSize hx hb hK hP hN c21 dX8_isRule_146 (fun x22 r_x22 e_x22 => ?_)
      replace hw := hw x22 r_x22 e_x22
      refine bi_icmp_ne (tgt := 154) hx hb r_u2 r_x22 dX8_isRule_147 (by decide) (fun c23 => ?_) (fun c23 => ?_)
      ·
        replace hw := hw.1 c23
        refine lv_iconst (v := I 0) hx hb dX8_isRule_154 rfl ?_
        exact xrz hx hb hr (by decide) hlk hP hK hD hS ⟨_, (by decide), rfl, rfl, hw⟩ (Nat.le_of_ble_eq_true rfl) (Nat.le_of_ble_eq_true rfl) dX8_isRule_155
      ·
        replace hw := hw.2 c23
        refine lv_iconst (v := I 1) hx hb dX8_isRule_150 rfl ?_
        refine lv_goto (tgt := 155) hx hb dX8_isRule_151 (by decide) ?_
        exact xrz hx hb hr (by decide) hlk hP hK hD hS ⟨_, (by decide), rfl, rfl, hw⟩ (Nat.le_of_ble_eq_true rfl) (Nat.le_of_ble_eq_true rfl) dX8_isRule_155
    ·
      replace hw := hw.2 c20
      refine lv_aload_n hx hb dX8_isRule_82 rfl (lv_at hl 0 rfl) ?_
      refine gfX8_library hx hb hts hK hP hown (hts _ tw_599) dX8_isRule_83 ?_
      refine gfNX3_floats hx hb hts hK hP hown (nb_use hNb tn_96) dX8_isRule_86 ?_
      refine lv_iload_n hx hb dX8_isRule_89 rfl (lv_at hl 3 rfl) ?_
      obtain ⟨c24, hw⟩ := hw
      refine ldCX3_floats hx hb hK hP hN c24 dX8_isRule_90 (fun x25 r_x25 e_x25 => ?_)
      replace hw := hw x25 r_x25 e_x25
      refine lv_istore (lv' := [(4, .int (I x25)), (0, .ref (q 8)), (1, .int (I u1)), (2, .int (I u2)), (3, .int (I u3))]) hx hb dX8_isRule_91 hl (by decide) rfl (fun ls hl => ?_)
      refine lv_iload hx hb dX8_isRule_93 (lv_at hl 0 rfl) ?_
      refine lv_iconst (v := I (-1)) hx hb dX8_isRule_95 rfl ?_
      refine bi_icmp_eq (tgt := 117) hx hb r_x25 (by decide) dX8_isRule_96 (by decide) (fun c26 => ?_) (fun c26 => ?_)
      ·
        replace hw := hw.1 c26
        exact (hP117 _ _ _ _).mp hw r_u1 r_u2 r_u3 r_x25  H locs ls hP hD hS (lv_sub hl [1, 2, 3, 4, 0] rfl)
      ·
        replace hw := hw.2 c26
        refine lv_aload_n hx hb dX8_isRule_99 rfl (lv_at hl 1 rfl) ?_
        refine gfX8_library hx hb hts hK hP hown (hts _ tw_599) dX8_isRule_100 ?_
        refine lv_iload hx hb dX8_isRule_103 (lv_at hl 0 rfl) ?_
        obtain ⟨Q27, hc, hw⟩ := hw
        refine wc_i (X := CX g q lb) (va_runV (As := [.int (I x25)]) (rest := []) ⟨hx, hb, hml, hown, hts⟩ (L_X3_typeOf l g q lb hlb r_x25 hN hc H.size) (cwV 1 hts (TB_V tw_1689 tw_1208 tw_1209 tw_2 co_X3_typeOf) rfl rfl rfl (by decide +kernel) ⟨Nat.le_of_ble_eq_true rfl, Nat.le_of_ble_eq_true rfl⟩) (preV (q0 := 1) (ci := 3) rfl xT_bl hP hK hNb hD rfl rfl xT_at) rfl rfl hl.1 rfl (lv_room (Nat.le_of_ble_eq_true rfl)) dX8_isRule_105 ⟨Nat.le_of_ble_eq_true rfl, Nat.le_of_ble_eq_true rfl⟩) hP hD hS hA (fun x28 H locs r_x28 hq hP hD hS => ?_)
        replace hw := hw x28 r_x28 hq
        refine lv_aload_n hx hb dX8_isRule_108 rfl (lv_at hl 1 rfl) ?_
        refine gfX8_provable hx hb hts hK hP hown (hts _ tw_625) (x := σ.1 48) rfl dX8_isRule_109 ?_
        refine bi_icmp_ne (tgt := 117) hx hb r_x28 (hB.1 48) dX8_isRule_112 (by decide) (fun c30 => ?_) (fun c30 => ?_)
        ·
          replace hw := hw.1 c30
          exact (hP117 _ _ _ _).mp hw r_u1 r_u2 r_u3 r_x25  H locs ls hP hD hS (lv_sub hl [1, 2, 3, 4, 0] rfl)
        ·
          replace hw := hw.2 c30
          refine lv_iconst (v := I 0) hx hb dX8_isRule_115 rfl ?_
          exact xrz hx hb hr (by decide) hlk hP hK hD hS ⟨_, (by decide), rfl, rfl, hw⟩ (Nat.le_of_ble_eq_true rfl) (Nat.le_of_ble_eq_true rfl) dX8_isRule_116
  ·
    intro u1 u2 u3 u4 hw
    refine (hP117 _ _ _ _).mpr ?_
    intro r_u1 r_u2 r_u3 r_u4 H locs ls hP hD hS hl
    refine lv_iload_n hx hb dX8_isRule_117 rfl (lv_at hl 2 rfl) ?_
    refine lv_iload hx hb dX8_isRule_118 (lv_at hl 4 rfl) ?_
    refine lv_iconst (v := I (-1)) hx hb dX8_isRule_120 rfl ?_
    refine bi_icmp_ne (tgt := 128) hx hb r_u4 (by decide) dX8_isRule_121 (by decide) (fun c31 => ?_) (fun c31 => ?_)
    ·
      replace hw := hw.1 c31
      refine lv_iconst (v := I 1) hx hb dX8_isRule_128 rfl ?_
      refine bi_iadd hx hb dX8_isRule_129 ?_
      refine lv_istore_n (lv' := [(2, .int (I (u2 + 1))), (0, .ref (q 8)), (1, .int (I u1)), (3, .int (I u3)), (4, .int (I u4))]) hx hb dX8_isRule_130 rfl hl (by decide) rfl (fun ls hl => ?_)
      refine lv_iinc (v := I (u3 + 1)) (lv' := [(3, .int (I (u3 + 1))), (2, .int (I (u2 + 1))), (0, .ref (q 8)), (1, .int (I u1)), (4, .int (I u4))]) hx hb dX8_isRule_131 hl (k := 3) rfl (I_add _ _) (by decide) rfl (fun ls hl => ?_)
      refine lv_goto (tgt := 67) hx hb dX8_isRule_134 (by decide) ?_
      obtain ⟨c32, hw⟩ := hw
      obtain ⟨c33, hw⟩ := hw
      exact (hP67 _ _ _).mp hw r_u1 c32 c33  H locs ls hP hD hS (lv_sub hl [2, 3, 1, 0] rfl)
    ·
      replace hw := hw.2 c31
      refine lv_iconst (v := I 0) hx hb dX8_isRule_124 rfl ?_
      refine lv_goto (tgt := 129) hx hb dX8_isRule_125 (by decide) ?_
      refine bi_iadd hx hb dX8_isRule_129 ?_
      refine lv_istore_n (lv' := [(2, .int (I (u2 + 0))), (0, .ref (q 8)), (1, .int (I u1)), (3, .int (I u3)), (4, .int (I u4))]) hx hb dX8_isRule_130 rfl hl (by decide) rfl (fun ls hl => ?_)
      refine lv_iinc (v := I (u3 + 1)) (lv' := [(3, .int (I (u3 + 1))), (2, .int (I (u2 + 0))), (0, .ref (q 8)), (1, .int (I u1)), (4, .int (I u4))]) hx hb dX8_isRule_131 hl (k := 3) rfl (I_add _ _) (by decide) rfl (fun ls hl => ?_)
      refine lv_goto (tgt := 67) hx hb dX8_isRule_134 (by decide) ?_
      obtain ⟨c34, hw⟩ := hw
      obtain ⟨c35, hw⟩ := hw
      exact (hP67 _ _ _).mp hw r_u1 c34 c35  H locs ls hP hD hS (lv_sub hl [2, 3, 1, 0] rfl)
def W_X8_child (n1 : Int) (n2 : Int) (n3 : Int) (σ : S0) (Q : Int → S0 → Prop) : Prop :=
  ∀ (P11 : Int → Int → Int → Int → Int → S0 → Prop) (P51 : Int → Int → Int → Int → S0 → Prop) (P127 : Int → Int → S0 → Prop) (P141 : S0 → Prop),
  (∀ (u1 : Int) (u2 : Int) (u3 : Int) (u4 : Int) (u5 : Int) (τ : S0), ((τ.1 45 ≤ u5 → P51 u1 u2 u3 u4 τ) ∧ (u5 < τ.1 45 → (u4 ≤ 0 → P51 u1 u2 u3 u4 τ) ∧ (0 < u4 → (0 ≤ u4 ∧ u4 < 30001) ∧ (∀ (x6 : Int), rg x6 → x6 = τ.2.1 69 u4 → ((x6 = u2 → P51 u1 u2 u3 u4 τ) ∧ (¬ x6 = u2 → ∀ (x8 : Int), rg x8 → x8 = τ.2.1 68 u4 → (rg (u5 + 1) ∧ P11 u1 u2 u3 x8 (u5 + 1) τ))))))) → P11 u1 u2 u3 u4 u5 τ) →
  (∀ (u1 : Int) (u2 : Int) (u3 : Int) (u4 : Int) (τ : S0), ((u4 ≤ 0 → (0 ≤ u1 ∧ u1 < 30001) ∧ (∀ (x12 : Int), rg x12 → x12 = τ.2.1 67 u1 → ((0 ≤ τ.1 45 ∧ τ.1 45 < 30001) ∧ ((¬ u1 = 0 → P127 u1 u2 (s_a (s_a (s_a (s_a τ 68 (τ.1 45) x12) 67 u1 (τ.1 45)) 69 (τ.1 45) u2) 70 (τ.1 45) u3)) ∧ (u1 = 0 → (0 ≤ u2 → P127 u1 u2 (s_a (s_a (s_a (s_a τ 68 (τ.1 45) x12) 67 u1 (τ.1 45)) 69 (τ.1 45) u2) 70 (τ.1 45) u3)) ∧ (u2 < 0 → (0 ≤ (-1 - u2) ∧ (-1 - u2) < 100) ∧ (P141 (s_a (s_a (s_a (s_a (s_a τ 68 (τ.1 45) x12) 67 u1 (τ.1 45)) 69 (τ.1 45) u2) 70 (τ.1 45) u3) 74 (-1 - u2) (τ.1 45))))))))) ∧ (0 < u4 → Q u4 τ)) → P51 u1 u2 u3 u4 τ) →
  (∀ (u1 : Int) (u2 : Int) (τ : S0), ((¬ u1 = 0 → P141 τ) ∧ (u1 = 0 → (0 ≤ u2 ∧ u2 < 1000) ∧ (P141 (s_a τ 73 u2 (τ.1 45))))) → P127 u1 u2 τ) →
  (∀ (τ : S0), (rg (τ.1 45 + 1) ∧ rg ((τ.1 45 + 1) - 1) ∧ Q ((τ.1 45 + 1) - 1) (s_v τ 45 (τ.1 45 + 1))) → P141 τ) →
  (0 ≤ n1 ∧ n1 < 30001) ∧ (∀ (x2 : Int), rg x2 → x2 = σ.2.1 67 n1 → (P11 n1 n2 n3 x2 0 σ))
set_option maxRecDepth 100000 in
set_option maxHeartbeats 4000000 in
theorem L_X8_child (l : Launch) (g : gG) (q : Nat → Nat) (lb : Nat) (hlb : lb < 2 ^ 31) {n1 : Int} {n2 : Int} {n3 : Int} {σ : S0} {Q : Int → S0 → Prop} (r_n1 : rg n1) (r_n2 : rg n2) (r_n3 : rg n3) (hN : n_m σ) (hw : W_X8_child n1 n2 n3 σ Q) (sz : Nat) : MetI l yX8_child cX8_child 6 (some .int) { frames := 0, cells := 0, slots := 0, locals := 0 } g [.ref (q 8), .int (I n1), .int (I n2), .int (I n3)] (CX g q lb σ) sz xT (p_I (CX g q lb) [45] [67, 68, 69, 70, 73, 74] [] σ Q) 0 0 := by
  refine mkMet (Qc := fun A => QI g A (p_I (CX g q lb) [45] [67, 68, 69, 70, 73, 74] [] σ Q)) (by decide) (Nat.le_of_ble_eq_true rfl) ?_
  intro p e s m below meth c A H ls hx hb hr hml hown hts hlk hnm hsz hP hK hNb hD hA hAe hS hX hl
  have hl : lv_has ls 6 [(0, .ref (q 8)), (1, .int (I n1)), (2, .int (I n2)), (3, .int (I n3))] := hl
  have hB := hN
  have hF : f_r [45] [67, 68, 69, 70, 73, 74] [] σ σ := f_0
  obtain ⟨locs, hlocs⟩ : ∃ z : List Loc, z = [] := ⟨_, rfl⟩
  rw [← hlocs] at hS ⊢
  obtain ⟨P11, hP11⟩ : ∃ P : Int → Int → Int → Int → Int → S0 → Prop, ∀ (u1 : Int) (u2 : Int) (u3 : Int) (u4 : Int) (u5 : Int) (τ : S0), (P u1 u2 u3 u4 u5 τ ↔ (rg u1 → rg u2 → rg u3 → rg u4 → rg u5 → n_m τ → f_r [45] [67, 68, 69, 70, 73, 74] [] σ τ → ∀ (H : Heap) (locs : List Loc) (ls : Array Slot), KP g (CX g q lb τ) H → va_D A (CX g q lb τ) → va_S A s.heap H locs → lv_has ls 6 [(0, .ref (q 8)), (1, .int (I u1)), (2, .int (I u2)), (3, .int (I u3)), (4, .int (I u4)), (5, .int (I u5))] → W p l e ({ frames := 0, cells := 0, slots := 0, locals := 0 }) s m [.ref (q 8), .int (I n1), .int (I n2), .int (I n3)].toArray below meth c H locs 0 0 (MQ below (QI g A (p_I (CX g q lb) [45] [67, 68, 69, 70, 73, 74] [] σ Q)) [.ref (q 8), .int (I n1), .int (I n2), .int (I n3)].toArray s 0 0 A) (F0 m 11 ls []))) := ⟨_, fun _ _ _ _ _ _ => Iff.rfl⟩
  obtain ⟨P51, hP51⟩ : ∃ P : Int → Int → Int → Int → S0 → Prop, ∀ (u1 : Int) (u2 : Int) (u3 : Int) (u4 : Int) (τ : S0), (P u1 u2 u3 u4 τ ↔ (rg u1 → rg u2 → rg u3 → rg u4 → n_m τ → f_r [45] [67, 68, 69, 70, 73, 74] [] σ τ → ∀ (H : Heap) (locs : List Loc) (ls : Array Slot), KP g (CX g q lb τ) H → va_D A (CX g q lb τ) → va_S A s.heap H locs → lv_has ls 6 [(0, .ref (q 8)), (1, .int (I u1)), (2, .int (I u2)), (3, .int (I u3)), (4, .int (I u4))] → W p l e ({ frames := 0, cells := 0, slots := 0, locals := 0 }) s m [.ref (q 8), .int (I n1), .int (I n2), .int (I n3)].toArray below meth c H locs 0 0 (MQ below (QI g A (p_I (CX g q lb) [45] [67, 68, 69, 70, 73, 74] [] σ Q)) [.ref (q 8), .int (I n1), .int (I n2), .int (I n3)].toArray s 0 0 A) (F0 m 51 ls []))) := ⟨_, fun _ _ _ _ _ => Iff.rfl⟩
  obtain ⟨P127, hP127⟩ : ∃ P : Int → Int → S0 → Prop, ∀ (u1 : Int) (u2 : Int) (τ : S0), (P u1 u2 τ ↔ (rg u1 → rg u2 → n_m τ → f_r [45] [67, 68, 69, 70, 73, 74] [] σ τ → ∀ (H : Heap) (locs : List Loc) (ls : Array Slot), KP g (CX g q lb τ) H → va_D A (CX g q lb τ) → va_S A s.heap H locs → lv_has ls 6 [(0, .ref (q 8)), (1, .int (I u1)), (2, .int (I u2))] → W p l e ({ frames := 0, cells := 0, slots := 0, locals := 0 }) s m [.ref (q 8), .int (I n1), .int (I n2), .int (I n3)].toArray below meth c H locs 0 0 (MQ below (QI g A (p_I (CX g q lb) [45] [67, 68, 69, 70, 73, 74] [] σ Q)) [.ref (q 8), .int (I n1), .int (I n2), .int (I n3)].toArray s 0 0 A) (F0 m 127 ls []))) := ⟨_, fun _ _ _ => Iff.rfl⟩
  obtain ⟨P141, hP141⟩ : ∃ P : S0 → Prop, ∀ (τ : S0), (P τ ↔ (n_m τ → f_r [45] [67, 68, 69, 70, 73, 74] [] σ τ → ∀ (H : Heap) (locs : List Loc) (ls : Array Slot), KP g (CX g q lb τ) H → va_D A (CX g q lb τ) → va_S A s.heap H locs → lv_has ls 6 [(0, .ref (q 8))] → W p l e ({ frames := 0, cells := 0, slots := 0, locals := 0 }) s m [.ref (q 8), .int (I n1), .int (I n2), .int (I n3)].toArray below meth c H locs 0 0 (MQ below (QI g A (p_I (CX g q lb) [45] [67, 68, 69, 70, 73, 74] [] σ Q)) [.ref (q 8), .int (I n1), .int (I n2), .int (I n3)].toArray s 0 0 A) (F0 m 141 ls []))) := ⟨_, fun _ => Iff.rfl⟩
  refine (fun hw => ?_) (hw P11 P51 P127 P141 ?_ ?_ ?_ ?_)
  ·
    refine lv_aload_n hx hb dX8_child_0 rfl (lv_at hl 0 rfl) ?_
    refine gfX8_firstChild hx hb hts hK hP hown (hts _ tw_601) dX8_child_1 ?_
    refine lv_iload_n hx hb dX8_child_4 rfl (lv_at hl 1 rfl) ?_
    obtain ⟨c1, hw⟩ := hw
    refine ldCX8_firstChild hx hb hK hP hN c1 dX8_child_5 (fun x2 r_x2 e_x2 => ?_)
    replace hw := hw x2 r_x2 e_x2
    refine lv_istore (lv' := [(4, .int (I x2)), (0, .ref (q 8)), (1, .int (I n1)), (2, .int (I n2)), (3, .int (I n3))]) hx hb dX8_child_6 hl (by decide) rfl (fun ls hl => ?_)
    refine lv_iconst (v := I 0) hx hb dX8_child_8 rfl ?_
    refine lv_istore (lv' := [(5, .int (I 0)), (4, .int (I x2)), (0, .ref (q 8)), (1, .int (I n1)), (2, .int (I n2)), (3, .int (I n3))]) hx hb dX8_child_9 hl (by decide) rfl (fun ls hl => ?_)
    exact (hP11 _ _ _ _ _ _).mp hw r_n1 r_n2 r_n3 r_x2 (by decide) hN hF H locs ls hP hD hS (lv_sub hl [2, 3, 4, 5, 1, 0] rfl)
  ·
    intro u1 u2 u3 u4 u5 τ hw
    refine (hP11 _ _ _ _ _ _).mpr ?_
    intro r_u1 r_u2 r_u3 r_u4 r_u5 hN hF H locs ls hP hD hS hl
    have hB := hN
    refine lv_iload hx hb dX8_child_11 (lv_at hl 5 rfl) ?_
    refine lv_aload_n hx hb dX8_child_13 rfl (lv_at hl 0 rfl) ?_
    refine gfX8_nodes hx hb hts hK hP hown (hts _ tw_613) (x := τ.1 45) rfl dX8_child_14 ?_
    refine bi_icmp_ge (tgt := 51) hx hb r_u5 (hB.1 45) dX8_child_17 (by decide) (fun c3 => ?_) (fun c3 => ?_)
    ·
      replace hw := hw.1 c3
      exact (hP51 _ _ _ _ _).mp hw r_u1 r_u2 r_u3 r_u4 hN hF H locs ls hP hD hS (lv_sub hl [0, 1, 2, 3, 4] rfl)
    ·
      replace hw := hw.2 c3
      refine lv_iload hx hb dX8_child_20 (lv_at hl 4 rfl) ?_
      refine bi_if_le (tgt := 51) hx hb r_u4 dX8_child_22 (by decide) (fun c4 => ?_) (fun c4 => ?_)
      ·
        replace hw := hw.1 c4
        exact (hP51 _ _ _ _ _).mp hw r_u1 r_u2 r_u3 r_u4 hN hF H locs ls hP hD hS (lv_sub hl [0, 1, 2, 3, 4] rfl)
      ·
        replace hw := hw.2 c4
        refine lv_aload_n hx hb dX8_child_25 rfl (lv_at hl 0 rfl) ?_
        refine gfX8_key hx hb hts hK hP hown (hts _ tw_605) dX8_child_26 ?_
        refine lv_iload hx hb dX8_child_29 (lv_at hl 4 rfl) ?_
        obtain ⟨c5, hw⟩ := hw
        refine ldCX8_key hx hb hK hP hN c5 dX8_child_31 (fun x6 r_x6 e_x6 => ?_)
        replace hw := hw x6 r_x6 e_x6
        refine lv_iload_n hx hb dX8_child_32 rfl (lv_at hl 2 rfl) ?_
        refine bi_icmp_eq (tgt := 51) hx hb r_x6 r_u2 dX8_child_33 (by decide) (fun c7 => ?_) (fun c7 => ?_)
        ·
          replace hw := hw.1 c7
          exact (hP51 _ _ _ _ _).mp hw r_u1 r_u2 r_u3 r_u4 hN hF H locs ls hP hD hS (lv_sub hl [0, 1, 2, 3, 4] rfl)
        ·
          replace hw := hw.2 c7
          refine lv_aload_n hx hb dX8_child_36 rfl (lv_at hl 0 rfl) ?_
          refine gfX8_sibling hx hb hts hK hP hown (hts _ tw_603) dX8_child_37 ?_
          refine lv_iload hx hb dX8_child_40 (lv_at hl 4 rfl) ?_
          refine ldCX8_sibling hx hb hK hP hN c5 dX8_child_42 (fun x8 r_x8 e_x8 => ?_)
          replace hw := hw x8 r_x8 e_x8
          refine lv_istore (lv' := [(4, .int (I x8)), (0, .ref (q 8)), (1, .int (I u1)), (2, .int (I u2)), (3, .int (I u3)), (5, .int (I u5))]) hx hb dX8_child_43 hl (by decide) rfl (fun ls hl => ?_)
          refine lv_iinc (v := I (u5 + 1)) (lv' := [(5, .int (I (u5 + 1))), (4, .int (I x8)), (0, .ref (q 8)), (1, .int (I u1)), (2, .int (I u2)), (3, .int (I u3))]) hx hb dX8_child_45 hl (k := 5) rfl (I_add _ _) (by decide) rfl (fun ls hl => ?_)
          refine lv_goto (tgt := 11) hx hb dX8_child_48 (by decide) ?_
          obtain ⟨c9, hw⟩ := hw
          exact (hP11 _ _ _ _ _ _).mp hw r_u1 r_u2 r_u3 r_x8 c9 hN hF H locs ls hP hD hS (lv_sub hl [2, 3, 4, 5, 1, 0] rfl)
  ·
    intro u1 u2 u3 u4 τ hw
    refine (hP51 _ _ _ _ _).mpr ?_
    intro r_u1 r_u2 r_u3 r_u4 hN hF H locs ls hP hD hS hl
    have hB := hN
    refine lv_iload hx hb dX8_child_51 (lv_at hl 4 rfl) ?_
    refine bi_if_le (tgt := 59) hx hb r_u4 dX8_child_53 (by decide) (fun c10 => ?_) (fun c10 => ?_)
    ·
      replace hw := hw.1 c10
      refine lv_aload_n hx hb dX8_child_59 rfl (lv_at hl 0 rfl) ?_
      refine gfX8_sibling hx hb hts hK hP hown (hts _ tw_603) dX8_child_60 ?_
      refine lv_aload_n hx hb dX8_child_63 rfl (lv_at hl 0 rfl) ?_
      refine gfX8_nodes hx hb hts hK hP hown (hts _ tw_613) (x := τ.1 45) rfl dX8_child_64 ?_
      refine lv_aload_n hx hb dX8_child_67 rfl (lv_at hl 0 rfl) ?_
      refine gfX8_firstChild hx hb hts hK hP hown (hts _ tw_601) dX8_child_68 ?_
      refine lv_iload_n hx hb dX8_child_71 rfl (lv_at hl 1 rfl) ?_
      obtain ⟨c11, hw⟩ := hw
      refine ldCX8_firstChild hx hb hK hP hN c11 dX8_child_72 (fun x12 r_x12 e_x12 => ?_)
      replace hw := hw x12 r_x12 e_x12
      obtain ⟨c13, hw⟩ := hw
      refine sdCX8_sibling hx hb hK hP hD hS c13 dX8_child_73 (fun H locs hP hD hS => ?_)
      have hN : n_m (s_a τ 68 (τ.1 45) x12) := n_a (k := 68) (j := τ.1 45) hN (r_x12 : rg x12)
      have hF : f_r [45] [67, 68, 69, 70, 73, 74] [] σ (s_a τ 68 (τ.1 45) x12) := f_a hF (by decide)
      refine lv_aload_n hx hb dX8_child_74 rfl (lv_at hl 0 rfl) ?_
      refine gfX8_firstChild hx hb hts hK hP hown (hts _ tw_601) dX8_child_75 ?_
      refine lv_iload_n hx hb dX8_child_78 rfl (lv_at hl 1 rfl) ?_
      refine lv_aload_n hx hb dX8_child_79 rfl (lv_at hl 0 rfl) ?_
      refine gfX8_nodes hx hb hts hK hP hown (hts _ tw_613) (x := τ.1 45) rfl dX8_child_80 ?_
      refine sdCX8_firstChild hx hb hK hP hD hS c11 dX8_child_83 (fun H locs hP hD hS => ?_)
      have hN : n_m (s_a (s_a τ 68 (τ.1 45) x12) 67 u1 (τ.1 45)) := n_a (k := 67) (j := u1) hN ((rg_ix c13.1 c13.2 (by decide)) : rg (τ.1 45))
      have hF : f_r [45] [67, 68, 69, 70, 73, 74] [] σ (s_a (s_a τ 68 (τ.1 45) x12) 67 u1 (τ.1 45)) := f_a hF (by decide)
      refine lv_aload_n hx hb dX8_child_84 rfl (lv_at hl 0 rfl) ?_
      refine gfX8_key hx hb hts hK hP hown (hts _ tw_605) dX8_child_85 ?_
      refine lv_aload_n hx hb dX8_child_88 rfl (lv_at hl 0 rfl) ?_
      refine gfX8_nodes hx hb hts hK hP hown (hts _ tw_613) (x := τ.1 45) rfl dX8_child_89 ?_
      refine lv_iload_n hx hb dX8_child_92 rfl (lv_at hl 2 rfl) ?_
      refine sdCX8_key hx hb hK hP hD hS c13 dX8_child_93 (fun H locs hP hD hS => ?_)
      have hN : n_m (s_a (s_a (s_a τ 68 (τ.1 45) x12) 67 u1 (τ.1 45)) 69 (τ.1 45) u2) := n_a (k := 69) (j := τ.1 45) hN (r_u2 : rg u2)
      have hF : f_r [45] [67, 68, 69, 70, 73, 74] [] σ (s_a (s_a (s_a τ 68 (τ.1 45) x12) 67 u1 (τ.1 45)) 69 (τ.1 45) u2) := f_a hF (by decide)
      refine lv_aload_n hx hb dX8_child_94 rfl (lv_at hl 0 rfl) ?_
      refine gfX8_born hx hb hts hK hP hown (hts _ tw_607) dX8_child_95 ?_
      refine lv_aload_n hx hb dX8_child_98 rfl (lv_at hl 0 rfl) ?_
      refine gfX8_nodes hx hb hts hK hP hown (hts _ tw_613) (x := τ.1 45) rfl dX8_child_99 ?_
      refine lv_iload_n hx hb dX8_child_102 rfl (lv_at hl 3 rfl) ?_
      refine sdCX8_born hx hb hK hP hD hS c13 dX8_child_103 (fun H locs hP hD hS => ?_)
      have hN : n_m (s_a (s_a (s_a (s_a τ 68 (τ.1 45) x12) 67 u1 (τ.1 45)) 69 (τ.1 45) u2) 70 (τ.1 45) u3) := n_a (k := 70) (j := τ.1 45) hN (r_u3 : rg u3)
      have hF : f_r [45] [67, 68, 69, 70, 73, 74] [] σ (s_a (s_a (s_a (s_a τ 68 (τ.1 45) x12) 67 u1 (τ.1 45)) 69 (τ.1 45) u2) 70 (τ.1 45) u3) := f_a hF (by decide)
      refine lv_iload_n hx hb dX8_child_104 rfl (lv_at hl 1 rfl) ?_
      refine bi_if_ne (tgt := 127) hx hb r_u1 dX8_child_105 (by decide) (fun c14 => ?_) (fun c14 => ?_)
      ·
        replace hw := hw.1 c14
        exact (hP127 _ _ _).mp hw r_u1 r_u2 hN hF H locs ls hP hD hS (lv_sub hl [0, 1, 2] rfl)
      ·
        replace hw := hw.2 c14
        refine lv_iload_n hx hb dX8_child_108 rfl (lv_at hl 2 rfl) ?_
        refine bi_if_ge (tgt := 127) hx hb r_u2 dX8_child_109 (by decide) (fun c15 => ?_) (fun c15 => ?_)
        ·
          replace hw := hw.1 c15
          exact (hP127 _ _ _).mp hw r_u1 r_u2 hN hF H locs ls hP hD hS (lv_sub hl [0, 1, 2] rfl)
        ·
          replace hw := hw.2 c15
          refine lv_aload_n hx hb dX8_child_112 rfl (lv_at hl 0 rfl) ?_
          refine gfX8_atSort hx hb hts hK hP hown (hts _ tw_616) dX8_child_113 ?_
          refine lv_iload_n hx hb dX8_child_116 rfl (lv_at hl 2 rfl) ?_
          refine lv_iconst (v := I (-1)) hx hb dX8_child_117 rfl ?_
          refine bi_inot hx hb dX8_child_118 ?_
          refine lv_aload_n hx hb dX8_child_119 rfl (lv_at hl 0 rfl) ?_
          refine gfX8_nodes hx hb hts hK hP hown (hts _ tw_613) (x := τ.1 45) rfl dX8_child_120 ?_
          obtain ⟨c16, hw⟩ := hw
          refine sdCX8_atSort hx hb hK hP hD hS c16 dX8_child_123 (fun H locs hP hD hS => ?_)
          have hN : n_m (s_a (s_a (s_a (s_a (s_a τ 68 (τ.1 45) x12) 67 u1 (τ.1 45)) 69 (τ.1 45) u2) 70 (τ.1 45) u3) 74 (-1 - u2) (τ.1 45)) := n_a (k := 74) (j := (-1 - u2)) hN ((rg_ix c13.1 c13.2 (by decide)) : rg (τ.1 45))
          have hF : f_r [45] [67, 68, 69, 70, 73, 74] [] σ (s_a (s_a (s_a (s_a (s_a τ 68 (τ.1 45) x12) 67 u1 (τ.1 45)) 69 (τ.1 45) u2) 70 (τ.1 45) u3) 74 (-1 - u2) (τ.1 45)) := f_a hF (by decide)
          refine lv_goto (tgt := 141) hx hb dX8_child_124 (by decide) ?_
          exact (hP141 _).mp hw hN hF H locs ls hP hD hS (lv_sub hl [0] rfl)
    ·
      replace hw := hw.2 c10
      refine lv_iload hx hb dX8_child_56 (lv_at hl 4 rfl) ?_
      exact xri hx hb hr hlk hP hK hD hS ⟨_, _, r_u4, rfl, hN, hF, rfl, hw⟩ (Nat.le_of_ble_eq_true rfl) (Nat.le_of_ble_eq_true rfl) dX8_child_58
  ·
    intro u1 u2 τ hw
    refine (hP127 _ _ _).mpr ?_
    intro r_u1 r_u2 hN hF H locs ls hP hD hS hl
    have hB := hN
    refine lv_iload_n hx hb dX8_child_127 rfl (lv_at hl 1 rfl) ?_
    refine bi_if_ne (tgt := 141) hx hb r_u1 dX8_child_128 (by decide) (fun c17 => ?_) (fun c17 => ?_)
    ·
      replace hw := hw.1 c17
      exact (hP141 _).mp hw hN hF H locs ls hP hD hS (lv_sub hl [0] rfl)
    ·
      replace hw := hw.2 c17
      refine lv_aload_n hx hb dX8_child_131 rfl (lv_at hl 0 rfl) ?_
      refine gfX8_atConstant hx hb hts hK hP hown (hts _ tw_614) dX8_child_132 ?_
      refine lv_iload_n hx hb dX8_child_135 rfl (lv_at hl 2 rfl) ?_
      refine lv_aload_n hx hb dX8_child_136 rfl (lv_at hl 0 rfl) ?_
      refine gfX8_nodes hx hb hts hK hP hown (hts _ tw_613) (x := τ.1 45) rfl dX8_child_137 ?_
      obtain ⟨c18, hw⟩ := hw
      refine sdCX8_atConstant hx hb hK hP hD hS c18 dX8_child_140 (fun H locs hP hD hS => ?_)
      have hN : n_m (s_a τ 73 u2 (τ.1 45)) := n_a (k := 73) (j := u2) hN ((hB.1 45) : rg (τ.1 45))
      have hF : f_r [45] [67, 68, 69, 70, 73, 74] [] σ (s_a τ 73 u2 (τ.1 45)) := f_a hF (by decide)
      exact (hP141 _).mp hw hN hF H locs ls hP hD hS (lv_sub hl [0] rfl)
  ·
    intro τ hw
    refine (hP141 _).mpr ?_
    intro hN hF H locs ls hP hD hS hl
    have hB := hN
    refine lv_aload_n hx hb dX8_child_141 rfl (lv_at hl 0 rfl) ?_
    refine lv_dup hx hb dX8_child_142 rfl ?_
    refine gfX8_nodes hx hb hts hK hP hown (hts _ tw_613) (x := τ.1 45) rfl dX8_child_143 ?_
    refine lv_iconst (v := I 1) hx hb dX8_child_146 rfl ?_
    refine bi_iadd hx hb dX8_child_147 ?_
    obtain ⟨c19, hw⟩ := hw
    refine pfX8_nodes hx hb hts hK hP hD hS hown (hts _ tw_613) dX8_child_148 (fun H locs hP hD hS => ?_)
    have hN : n_m (s_v τ 45 (τ.1 45 + 1)) := n_v (i := 45) hN (c19 : rg (τ.1 45 + 1))
    have hF : f_r [45] [67, 68, 69, 70, 73, 74] [] σ (s_v τ 45 (τ.1 45 + 1)) := f_v hF (by decide)
    refine lv_aload_n hx hb dX8_child_151 rfl (lv_at hl 0 rfl) ?_
    refine gfX8_nodes hx hb hts hK hP hown (hts _ tw_613) (x := (τ.1 45 + 1)) rfl dX8_child_152 ?_
    refine lv_iconst (v := I 1) hx hb dX8_child_155 rfl ?_
    refine bi_isub hx hb dX8_child_156 ?_
    obtain ⟨c20, hw⟩ := hw
    exact xri hx hb hr hlk hP hK hD hS ⟨_, _, c20, rfl, hN, hF, rfl, hw⟩ (Nat.le_of_ble_eq_true rfl) (Nat.le_of_ble_eq_true rfl) dX8_child_157
def W_X8_insert (n1 : Int) (σ : S0) (Q : S0 → Prop) : Prop :=
  ∀ (P14 : Int → Int → Int → S0 → Prop) (P79 : Int → Int → Int → Int → S0 → Prop),
  (∀ (u1 : Int) (u2 : Int) (u3 : Int) (τ : S0), ((0 ≤ (u1 + 1) ∧ (u1 + 1) < 1501) ∧ (∀ (x5 : Int), rg x5 → x5 = τ.2.1 14 (u1 + 1) → ((x5 ≤ u3 → (0 ≤ u2 ∧ u2 < 30001) ∧ (∀ (x8 : Int), rg x8 → x8 = τ.2.1 71 u2 → ((0 ≤ u1 ∧ u1 < 1500) ∧ ((0 ≤ u1 ∧ u1 < 1501) ∧ (∀ (x11 : Int), rg x11 → x11 = τ.2.1 14 u1 → ((0 ≤ (x11 + 1) ∧ (x11 + 1) < 30000) ∧ (∀ (x13 : Int), rg x13 → x13 = τ.2.1 16 (x11 + 1) → (∃ (Q14 : Int → Prop), W_X3_lengthOf u1 (s_a (s_a τ 72 u1 x8) 71 u2 (u1 + 1)) Q14 ∧ ∀ (x15 : Int), rg x15 → Q14 x15 → ((¬ x15 = 2 → Q (s_a (s_a τ 72 u1 x8) 71 u2 (u1 + 1))) ∧ (x15 = 2 → (x13 = (-1) → Q (s_a (s_a τ 72 u1 x8) 71 u2 (u1 + 1))) ∧ (¬ x13 = (-1) → (0 ≤ τ.1 46 ∧ τ.1 46 < 1500) ∧ (∃ (Q20 : Int → Prop), W_X3_typeOf x13 (s_a (s_a (s_a τ 72 u1 x8) 71 u2 (u1 + 1)) 75 (τ.1 46) u1) Q20 ∧ ∀ (x21 : Int), rg x21 → Q20 x21 → ((0 ≤ x21 ∧ x21 < 1000) ∧ (∀ (x24 : Int), rg x24 → x24 = τ.2.1 10 x21 → (rg (τ.1 46 + 1) ∧ Q (s_v (s_a (s_a (s_a (s_a τ 72 u1 x8) 71 u2 (u1 + 1)) 75 (τ.1 46) u1) 76 (τ.1 46) x24) 46 (τ.1 46 + 1))))))))))))))))) ∧ (u3 < x5 → (0 ≤ u3 ∧ u3 < 30000) ∧ (∀ (x27 : Int), rg x27 → x27 = τ.2.1 16 u3 → ((¬ x27 = (-1) → ∃ (Q29 : Int → Prop), W_X3_typeOf x27 τ Q29 ∧ ∀ (x30 : Int), rg x30 → Q29 x30 → ((0 ≤ x30 ∧ x30 < 1000) ∧ (∀ (x33 : Int), rg x33 → x33 = τ.2.1 10 x30 → (P79 u1 u3 u2 (-1 - x33) τ)))) ∧ (x27 = (-1) → ∀ (x34 : Int), rg x34 → x34 = τ.2.1 15 u3 → (P79 u1 u3 u2 x34 τ)))))))) → P14 u1 u2 u3 τ) →
  (∀ (u1 : Int) (u3 : Int) (k1 : Int) (k2 : Int) (τ : S0), (∃ (Q35 : Int → S0 → Prop), W_X8_child k1 k2 u1 τ Q35 ∧ ∀ (x36 : Int) (τ37 : S0), rg x36 → n_m τ37 → f_r [45] [67, 68, 69, 70, 73, 74] [] τ τ37 → Q35 x36 τ37 → (rg (u3 + 1) ∧ P14 u1 x36 (u3 + 1) τ37)) → P79 u1 u3 k1 k2 τ) →
  (0 ≤ n1 ∧ n1 < 1501) ∧ (∀ (x2 : Int), rg x2 → x2 = σ.2.1 14 n1 → (rg (x2 + 1) ∧ P14 n1 0 (x2 + 1) σ))
set_option maxRecDepth 100000 in
set_option maxHeartbeats 4000000 in
theorem L_X8_insert (l : Launch) (g : gG) (q : Nat → Nat) (lb : Nat) (hlb : lb < 2 ^ 31) {n1 : Int} {σ : S0} {Q : S0 → Prop} (r_n1 : rg n1) (hN : n_m σ) (hw : W_X8_insert n1 σ Q) (sz : Nat) : MetV l yX8_insert cX8_insert 5 { frames := 1, cells := 0, slots := 0, locals := 25 } g [.ref (q 8), .int (I n1)] (CX g q lb σ) sz xT (p_V (CX g q lb) [45, 46] [67, 68, 69, 70, 71, 72, 73, 74, 75, 76] [] σ Q) 0 0 := by
  refine mkMet (Qc := fun A => QV g A (p_V (CX g q lb) [45, 46] [67, 68, 69, 70, 71, 72, 73, 74, 75, 76] [] σ Q)) (by decide) (Nat.le_of_ble_eq_true rfl) ?_
  intro p e s m below meth c A H ls hx hb hr hml hown hts hlk hnm hsz hP hK hNb hD hA hAe hS hX hl
  have hl : lv_has ls 5 [(0, .ref (q 8)), (1, .int (I n1))] := hl
  have hB := hN
  have hF : f_r [45, 46] [67, 68, 69, 70, 71, 72, 73, 74, 75, 76] [] σ σ := f_0
  obtain ⟨locs, hlocs⟩ : ∃ z : List Loc, z = [] := ⟨_, rfl⟩
  rw [← hlocs] at hS ⊢
  obtain ⟨P14, hP14⟩ : ∃ P : Int → Int → Int → S0 → Prop, ∀ (u1 : Int) (u2 : Int) (u3 : Int) (τ : S0), (P u1 u2 u3 τ ↔ (rg u1 → rg u2 → rg u3 → n_m τ → f_r [45, 46] [67, 68, 69, 70, 71, 72, 73, 74, 75, 76] [] σ τ → ∀ (H : Heap) (locs : List Loc) (ls : Array Slot), KP g (CX g q lb τ) H → va_D A (CX g q lb τ) → va_S A s.heap H locs → lv_has ls 5 [(0, .ref (q 8)), (1, .int (I u1)), (2, .int (I u2)), (3, .int (I u3))] → W p l e ({ frames := 1, cells := 0, slots := 0, locals := 25 }) s m [.ref (q 8), .int (I n1)].toArray below meth c H locs 0 0 (MQ below (QV g A (p_V (CX g q lb) [45, 46] [67, 68, 69, 70, 71, 72, 73, 74, 75, 76] [] σ Q)) [.ref (q 8), .int (I n1)].toArray s 0 0 A) (F0 m 14 ls []))) := ⟨_, fun _ _ _ _ => Iff.rfl⟩
  obtain ⟨P79, hP79⟩ : ∃ P : Int → Int → Int → Int → S0 → Prop, ∀ (u1 : Int) (u3 : Int) (k1 : Int) (k2 : Int) (τ : S0), (P u1 u3 k1 k2 τ ↔ (rg u1 → rg u3 → rg k1 → rg k2 → n_m τ → f_r [45, 46] [67, 68, 69, 70, 71, 72, 73, 74, 75, 76] [] σ τ → ∀ (H : Heap) (locs : List Loc) (ls : Array Slot), KP g (CX g q lb τ) H → va_D A (CX g q lb τ) → va_S A s.heap H locs → lv_has ls 5 [(0, .ref (q 8)), (1, .int (I u1)), (3, .int (I u3))] → W p l e ({ frames := 1, cells := 0, slots := 0, locals := 25 }) s m [.ref (q 8), .int (I n1)].toArray below meth c H locs 0 0 (MQ below (QV g A (p_V (CX g q lb) [45, 46] [67, 68, 69, 70, 71, 72, 73, 74, 75, 76] [] σ Q)) [.ref (q 8), .int (I n1)].toArray s 0 0 A) (F0 m 79 ls [.int (I k2), .int (I k1), .ref (q 8)]))) := ⟨_, fun _ _ _ _ _ => Iff.rfl⟩
  refine (fun hw => ?_) (hw P14 P79 ?_ ?_)
  ·
    refine lv_iconst (v := I 0) hx hb dX8_insert_0 rfl ?_
    refine lv_istore_n (lv' := [(2, .int (I 0)), (0, .ref (q 8)), (1, .int (I n1))]) hx hb dX8_insert_1 rfl hl (by decide) rfl (fun ls hl => ?_)
    refine lv_aload_n hx hb dX8_insert_2 rfl (lv_at hl 1 rfl) ?_
    refine gfX8_library hx hb hts hK hP hown (hts _ tw_599) dX8_insert_3 ?_
    refine gfNX3_at hx hb hts hK hP hown (nb_use hNb tn_81) dX8_insert_6 ?_
    refine lv_iload_n hx hb dX8_insert_9 rfl (lv_at hl 2 rfl) ?_
    obtain ⟨c1, hw⟩ := hw
    refine ldCX3_at hx hb hK hP hN c1 dX8_insert_10 (fun x2 r_x2 e_x2 => ?_)
    replace hw := hw x2 r_x2 e_x2
    refine lv_iconst (v := I 1) hx hb dX8_insert_11 rfl ?_
    refine bi_iadd hx hb dX8_insert_12 ?_
    refine lv_istore_n (lv' := [(3, .int (I (x2 + 1))), (2, .int (I 0)), (0, .ref (q 8)), (1, .int (I n1))]) hx hb dX8_insert_13 rfl hl (by decide) rfl (fun ls hl => ?_)
    obtain ⟨c3, hw⟩ := hw
    exact (hP14 _ _ _ _).mp hw r_n1 (by decide) c3 hN hF H locs ls hP hD hS (lv_sub hl [2, 3, 1, 0] rfl)
  ·
    intro u1 u2 u3 τ hw
    refine (hP14 _ _ _ _).mpr ?_
    intro r_u1 r_u2 r_u3 hN hF H locs ls hP hD hS hl
    have hB := hN
    refine lv_iload_n hx hb dX8_insert_14 rfl (lv_at hl 3 rfl) ?_
    refine lv_aload_n hx hb dX8_insert_15 rfl (lv_at hl 0 rfl) ?_
    refine gfX8_library hx hb hts hK hP hown (hts _ tw_599) dX8_insert_16 ?_
    refine gfNX3_at hx hb hts hK hP hown (nb_use hNb tn_81) dX8_insert_19 ?_
    refine lv_iload_n hx hb dX8_insert_22 rfl (lv_at hl 1 rfl) ?_
    refine lv_iconst (v := I 1) hx hb dX8_insert_23 rfl ?_
    refine bi_iadd hx hb dX8_insert_24 ?_
    obtain ⟨c4, hw⟩ := hw
    refine ldCX3_at hx hb hK hP hN c4 dX8_insert_25 (fun x5 r_x5 e_x5 => ?_)
    replace hw := hw x5 r_x5 e_x5
    refine bi_icmp_ge (tgt := 90) hx hb r_u3 r_x5 dX8_insert_26 (by decide) (fun c6 => ?_) (fun c6 => ?_)
    ·
      replace hw := hw.1 c6
      refine lv_aload_n hx hb dX8_insert_90 rfl (lv_at hl 0 rfl) ?_
      refine gfX8_nextRule hx hb hts hK hP hown (hts _ tw_611) dX8_insert_91 ?_
      refine lv_iload_n hx hb dX8_insert_94 rfl (lv_at hl 1 rfl) ?_
      refine lv_aload_n hx hb dX8_insert_95 rfl (lv_at hl 0 rfl) ?_
      refine gfX8_firstRule hx hb hts hK hP hown (hts _ tw_609) dX8_insert_96 ?_
      refine lv_iload_n hx hb dX8_insert_99 rfl (lv_at hl 2 rfl) ?_
      obtain ⟨c7, hw⟩ := hw
      refine ldCX8_firstRule hx hb hK hP hN c7 dX8_insert_100 (fun x8 r_x8 e_x8 => ?_)
      replace hw := hw x8 r_x8 e_x8
      obtain ⟨c9, hw⟩ := hw
      refine sdCX8_nextRule hx hb hK hP hD hS c9 dX8_insert_101 (fun H locs hP hD hS => ?_)
      have hN : n_m (s_a τ 72 u1 x8) := n_a (k := 72) (j := u1) hN (r_x8 : rg x8)
      have hF : f_r [45, 46] [67, 68, 69, 70, 71, 72, 73, 74, 75, 76] [] σ (s_a τ 72 u1 x8) := f_a hF (by decide)
      refine lv_aload_n hx hb dX8_insert_102 rfl (lv_at hl 0 rfl) ?_
      refine gfX8_firstRule hx hb hts hK hP hown (hts _ tw_609) dX8_insert_103 ?_
      refine lv_iload_n hx hb dX8_insert_106 rfl (lv_at hl 2 rfl) ?_
      refine lv_iload_n hx hb dX8_insert_107 rfl (lv_at hl 1 rfl) ?_
      refine lv_iconst (v := I 1) hx hb dX8_insert_108 rfl ?_
      refine bi_iadd hx hb dX8_insert_109 ?_
      refine sdCX8_firstRule hx hb hK hP hD hS c7 dX8_insert_110 (fun H locs hP hD hS => ?_)
      have hN : n_m (s_a (s_a τ 72 u1 x8) 71 u2 (u1 + 1)) := n_a (k := 71) (j := u2) hN ((rg_ix c4.1 c4.2 (by decide)) : rg (u1 + 1))
      have hF : f_r [45, 46] [67, 68, 69, 70, 71, 72, 73, 74, 75, 76] [] σ (s_a (s_a τ 72 u1 x8) 71 u2 (u1 + 1)) := f_a hF (by decide)
      refine lv_aload_n hx hb dX8_insert_111 rfl (lv_at hl 0 rfl) ?_
      refine gfX8_library hx hb hts hK hP hown (hts _ tw_599) dX8_insert_112 ?_
      refine gfNX3_floats hx hb hts hK hP hown (nb_use hNb tn_96) dX8_insert_115 ?_
      refine lv_aload_n hx hb dX8_insert_118 rfl (lv_at hl 0 rfl) ?_
      refine gfX8_library hx hb hts hK hP hown (hts _ tw_599) dX8_insert_119 ?_
      refine gfNX3_at hx hb hts hK hP hown (nb_use hNb tn_81) dX8_insert_122 ?_
      refine lv_iload_n hx hb dX8_insert_125 rfl (lv_at hl 1 rfl) ?_
      obtain ⟨c10, hw⟩ := hw
      refine ldCX3_at hx hb hK hP hN c10 dX8_insert_126 (fun x11 r_x11 e_x11 => ?_)
      replace hw := hw x11 r_x11 e_x11
      refine lv_iconst (v := I 1) hx hb dX8_insert_127 rfl ?_
      refine bi_iadd hx hb dX8_insert_128 ?_
      obtain ⟨c12, hw⟩ := hw
      refine ldCX3_floats hx hb hK hP hN c12 dX8_insert_129 (fun x13 r_x13 e_x13 => ?_)
      replace hw := hw x13 r_x13 e_x13
      refine lv_istore_n (lv' := [(3, .int (I x13)), (0, .ref (q 8)), (1, .int (I u1)), (2, .int (I u2))]) hx hb dX8_insert_130 rfl hl (by decide) rfl (fun ls hl => ?_)
      refine lv_aload_n hx hb dX8_insert_131 rfl (lv_at hl 1 rfl) ?_
      refine gfX8_library hx hb hts hK hP hown (hts _ tw_599) dX8_insert_132 ?_
      refine lv_iload_n hx hb dX8_insert_135 rfl (lv_at hl 2 rfl) ?_
      obtain ⟨Q14, hc, hw⟩ := hw
      refine wc_i (X := CX g q lb) (va_runV (As := [.int (I u1)]) (rest := []) ⟨hx, hb, hml, hown, hts⟩ (L_X3_lengthOf l g q lb hlb r_u1 hN hc H.size) (cwV 1 hts (TB_V tw_1684 tw_1292 tw_1293 tw_2 co_X3_lengthOf) rfl rfl rfl (by decide +kernel) ⟨Nat.le_of_ble_eq_true rfl, Nat.le_of_ble_eq_true rfl⟩) (preV (q0 := 1) (ci := 3) rfl xT_bl hP hK hNb hD rfl rfl xT_at) rfl rfl hl.1 rfl (lv_room (Nat.le_of_ble_eq_true rfl)) dX8_insert_136 ⟨Nat.le_of_ble_eq_true rfl, Nat.le_of_ble_eq_true rfl⟩) hP hD hS hA (fun x15 H locs r_x15 hq hP hD hS => ?_)
      replace hw := hw x15 r_x15 hq
      refine lv_iconst (v := I 2) hx hb dX8_insert_139 rfl ?_
      refine bi_icmp_ne (tgt := 193) hx hb r_x15 (by decide) dX8_insert_140 (by decide) (fun c17 => ?_) (fun c17 => ?_)
      ·
        replace hw := hw.1 c17
        exact xrv hx hb hr hlk hP hK hD hS ⟨_, hN, hF, rfl, hw⟩ (Nat.le_of_ble_eq_true rfl) (Nat.le_of_ble_eq_true rfl) dX8_insert_193
      ·
        replace hw := hw.2 c17
        refine lv_iload_n hx hb dX8_insert_143 rfl (lv_at hl 0 rfl) ?_
        refine lv_iconst (v := I (-1)) hx hb dX8_insert_144 rfl ?_
        refine bi_icmp_eq (tgt := 193) hx hb r_x13 (by decide) dX8_insert_145 (by decide) (fun c18 => ?_) (fun c18 => ?_)
        ·
          replace hw := hw.1 c18
          exact xrv hx hb hr hlk hP hK hD hS ⟨_, hN, hF, rfl, hw⟩ (Nat.le_of_ble_eq_true rfl) (Nat.le_of_ble_eq_true rfl) dX8_insert_193
        ·
          replace hw := hw.2 c18
          refine lv_aload_n hx hb dX8_insert_148 rfl (lv_at hl 1 rfl) ?_
          refine gfX8_unitRule hx hb hts hK hP hown (hts _ tw_618) dX8_insert_149 ?_
          refine lv_aload_n hx hb dX8_insert_152 rfl (lv_at hl 1 rfl) ?_
          refine gfX8_units hx hb hts hK hP hown (hts _ tw_622) (x := τ.1 46) rfl dX8_insert_153 ?_
          refine lv_iload_n hx hb dX8_insert_156 rfl (lv_at hl 2 rfl) ?_
          obtain ⟨c19, hw⟩ := hw
          refine sdCX8_unitRule hx hb hK hP hD hS c19 dX8_insert_157 (fun H locs hP hD hS => ?_)
          have hN : n_m (s_a (s_a (s_a τ 72 u1 x8) 71 u2 (u1 + 1)) 75 (τ.1 46) u1) := n_a (k := 75) (j := τ.1 46) hN (r_u1 : rg u1)
          have hF : f_r [45, 46] [67, 68, 69, 70, 71, 72, 73, 74, 75, 76] [] σ (s_a (s_a (s_a τ 72 u1 x8) 71 u2 (u1 + 1)) 75 (τ.1 46) u1) := f_a hF (by decide)
          refine lv_aload_n hx hb dX8_insert_158 rfl (lv_at hl 1 rfl) ?_
          refine gfX8_unitFrom hx hb hts hK hP hown (hts _ tw_620) dX8_insert_159 ?_
          refine lv_aload_n hx hb dX8_insert_162 rfl (lv_at hl 1 rfl) ?_
          refine gfX8_units hx hb hts hK hP hown (hts _ tw_622) (x := τ.1 46) rfl dX8_insert_163 ?_
          refine lv_aload_n hx hb dX8_insert_166 rfl (lv_at hl 1 rfl) ?_
          refine gfX8_library hx hb hts hK hP hown (hts _ tw_599) dX8_insert_167 ?_
          refine gfNX3_rank hx hb hts hK hP hown (nb_use hNb tn_57) dX8_insert_170 ?_
          refine lv_aload_n hx hb dX8_insert_173 rfl (lv_at hl 1 rfl) ?_
          refine gfX8_library hx hb hts hK hP hown (hts _ tw_599) dX8_insert_174 ?_
          refine lv_iload_n hx hb dX8_insert_177 rfl (lv_at hl 0 rfl) ?_
          obtain ⟨Q20, hc, hw⟩ := hw
          refine wc_i (X := CX g q lb) (va_runV (As := [.int (I x13)]) (rest := [.ref (q 23), .int (I (τ.1 46)), .ref (q 92)]) ⟨hx, hb, hml, hown, hts⟩ (L_X3_typeOf l g q lb hlb r_x13 hN hc H.size) (cwV 1 hts (TB_V tw_1689 tw_1208 tw_1209 tw_2 co_X3_typeOf) rfl rfl rfl (by decide +kernel) ⟨Nat.le_of_ble_eq_true rfl, Nat.le_of_ble_eq_true rfl⟩) (preV (q0 := 1) (ci := 3) rfl xT_bl hP hK hNb hD rfl rfl xT_at) rfl rfl hl.1 rfl (lv_room (Nat.le_of_ble_eq_true rfl)) dX8_insert_178 ⟨Nat.le_of_ble_eq_true rfl, Nat.le_of_ble_eq_true rfl⟩) hP hD hS hA (fun x21 H locs r_x21 hq hP hD hS => ?_)
          replace hw := hw x21 r_x21 hq
          obtain ⟨c23, hw⟩ := hw
          refine ldCX3_rank hx hb hK hP hN c23 dX8_insert_181 (fun x24 r_x24 e_x24 => ?_)
          replace hw := hw x24 r_x24 e_x24
          refine sdCX8_unitFrom hx hb hK hP hD hS c19 dX8_insert_182 (fun H locs hP hD hS => ?_)
          have hN : n_m (s_a (s_a (s_a (s_a τ 72 u1 x8) 71 u2 (u1 + 1)) 75 (τ.1 46) u1) 76 (τ.1 46) x24) := n_a (k := 76) (j := τ.1 46) hN (r_x24 : rg x24)
          have hF : f_r [45, 46] [67, 68, 69, 70, 71, 72, 73, 74, 75, 76] [] σ (s_a (s_a (s_a (s_a τ 72 u1 x8) 71 u2 (u1 + 1)) 75 (τ.1 46) u1) 76 (τ.1 46) x24) := f_a hF (by decide)
          refine lv_aload_n hx hb dX8_insert_183 rfl (lv_at hl 1 rfl) ?_
          refine lv_dup hx hb dX8_insert_184 rfl ?_
          refine gfX8_units hx hb hts hK hP hown (hts _ tw_622) (x := τ.1 46) rfl dX8_insert_185 ?_
          refine lv_iconst (v := I 1) hx hb dX8_insert_188 rfl ?_
          refine bi_iadd hx hb dX8_insert_189 ?_
          obtain ⟨c25, hw⟩ := hw
          refine pfX8_units hx hb hts hK hP hD hS hown (hts _ tw_622) dX8_insert_190 (fun H locs hP hD hS => ?_)
          have hN : n_m (s_v (s_a (s_a (s_a (s_a τ 72 u1 x8) 71 u2 (u1 + 1)) 75 (τ.1 46) u1) 76 (τ.1 46) x24) 46 (τ.1 46 + 1)) := n_v (i := 46) hN (c25 : rg (τ.1 46 + 1))
          have hF : f_r [45, 46] [67, 68, 69, 70, 71, 72, 73, 74, 75, 76] [] σ (s_v (s_a (s_a (s_a (s_a τ 72 u1 x8) 71 u2 (u1 + 1)) 75 (τ.1 46) u1) 76 (τ.1 46) x24) 46 (τ.1 46 + 1)) := f_v hF (by decide)
          exact xrv hx hb hr hlk hP hK hD hS ⟨_, hN, hF, rfl, hw⟩ (Nat.le_of_ble_eq_true rfl) (Nat.le_of_ble_eq_true rfl) dX8_insert_193
    ·
      replace hw := hw.2 c6
      refine lv_aload_n hx hb dX8_insert_29 rfl (lv_at hl 0 rfl) ?_
      refine gfX8_library hx hb hts hK hP hown (hts _ tw_599) dX8_insert_30 ?_
      refine gfNX3_floats hx hb hts hK hP hown (nb_use hNb tn_96) dX8_insert_33 ?_
      refine lv_iload_n hx hb dX8_insert_36 rfl (lv_at hl 3 rfl) ?_
      obtain ⟨c26, hw⟩ := hw
      refine ldCX3_floats hx hb hK hP hN c26 dX8_insert_37 (fun x27 r_x27 e_x27 => ?_)
      replace hw := hw x27 r_x27 e_x27
      refine lv_istore (lv' := [(4, .int (I x27)), (0, .ref (q 8)), (1, .int (I u1)), (2, .int (I u2)), (3, .int (I u3))]) hx hb dX8_insert_38 hl (by decide) rfl (fun ls hl => ?_)
      refine lv_aload_n hx hb dX8_insert_40 rfl (lv_at hl 1 rfl) ?_
      refine lv_iload_n hx hb dX8_insert_41 rfl (lv_at hl 3 rfl) ?_
      refine lv_iload hx hb dX8_insert_42 (lv_at hl 0 rfl) ?_
      refine lv_iconst (v := I (-1)) hx hb dX8_insert_44 rfl ?_
      refine bi_icmp_ne (tgt := 60) hx hb r_x27 (by decide) dX8_insert_45 (by decide) (fun c28 => ?_) (fun c28 => ?_)
      ·
        replace hw := hw.1 c28
        refine lv_aload_n hx hb dX8_insert_60 rfl (lv_at hl 1 rfl) ?_
        refine gfX8_library hx hb hts hK hP hown (hts _ tw_599) dX8_insert_61 ?_
        refine gfNX3_rank hx hb hts hK hP hown (nb_use hNb tn_57) dX8_insert_64 ?_
        refine lv_aload_n hx hb dX8_insert_67 rfl (lv_at hl 1 rfl) ?_
        refine gfX8_library hx hb hts hK hP hown (hts _ tw_599) dX8_insert_68 ?_
        refine lv_iload hx hb dX8_insert_71 (lv_at hl 0 rfl) ?_
        obtain ⟨Q29, hc, hw⟩ := hw
        refine wc_i (X := CX g q lb) (va_runV (As := [.int (I x27)]) (rest := [.ref (q 23), .int (I u2), .ref (q 8)]) ⟨hx, hb, hml, hown, hts⟩ (L_X3_typeOf l g q lb hlb r_x27 hN hc H.size) (cwV 1 hts (TB_V tw_1689 tw_1208 tw_1209 tw_2 co_X3_typeOf) rfl rfl rfl (by decide +kernel) ⟨Nat.le_of_ble_eq_true rfl, Nat.le_of_ble_eq_true rfl⟩) (preV (q0 := 1) (ci := 3) rfl xT_bl hP hK hNb hD rfl rfl xT_at) rfl rfl hl.1 rfl (lv_room (Nat.le_of_ble_eq_true rfl)) dX8_insert_73 ⟨Nat.le_of_ble_eq_true rfl, Nat.le_of_ble_eq_true rfl⟩) hP hD hS hA (fun x30 H locs r_x30 hq hP hD hS => ?_)
        replace hw := hw x30 r_x30 hq
        obtain ⟨c32, hw⟩ := hw
        refine ldCX3_rank hx hb hK hP hN c32 dX8_insert_76 (fun x33 r_x33 e_x33 => ?_)
        replace hw := hw x33 r_x33 e_x33
        refine lv_iconst (v := I (-1)) hx hb dX8_insert_77 rfl ?_
        refine bi_inot hx hb dX8_insert_78 ?_
        exact (hP79 _ _ _ _ _).mp hw r_u1 r_u3 r_u2 (⟨by have := (r_x33 : rg x33).2; omega, by have := (r_x33 : rg x33).1; omega⟩ : rg (-1 - x33)) hN hF H locs ls hP hD hS (lv_sub hl [1, 2, 4] rfl)
      ·
        replace hw := hw.2 c28
        refine lv_aload_n hx hb dX8_insert_48 rfl (lv_at hl 1 rfl) ?_
        refine gfX8_library hx hb hts hK hP hown (hts _ tw_599) dX8_insert_49 ?_
        refine gfNX3_text hx hb hts hK hP hown (nb_use hNb tn_89) dX8_insert_52 ?_
        refine lv_iload_n hx hb dX8_insert_55 rfl (lv_at hl 4 rfl) ?_
        refine ldCX3_text hx hb hK hP hN c26 dX8_insert_56 (fun x34 r_x34 e_x34 => ?_)
        replace hw := hw x34 r_x34 e_x34
        refine lv_goto (tgt := 79) hx hb dX8_insert_57 (by decide) ?_
        exact (hP79 _ _ _ _ _).mp hw r_u1 r_u3 r_u2 r_x34 hN hF H locs ls hP hD hS (lv_sub hl [1, 2, 4] rfl)
  ·
    intro u1 u3 k1 k2 τ hw
    refine (hP79 _ _ _ _ _).mpr ?_
    intro r_u1 r_u3 r_k1 r_k2 hN hF H locs ls hP hD hS hl
    have hB := hN
    refine lv_iload_n hx hb dX8_insert_79 rfl (lv_at hl 1 rfl) ?_
    obtain ⟨Q35, hc, hw⟩ := hw
    refine wc_I (X := CX g q lb) (va_runV (As := [.int (I k1), .int (I k2), .int (I u1)]) (rest := []) ⟨hx, hb, hml, hown, hts⟩ (L_X8_child l g q lb hlb r_k1 r_k2 r_u1 hN hc H.size) (cwV 3 hts (TB_V tw_1698 tw_1700 ts_69 tw_10 co_X8_child) rfl rfl rfl (by decide +kernel) ⟨Nat.le_of_ble_eq_true rfl, Nat.le_of_ble_eq_true rfl⟩) (preV (q0 := 8) (ci := 8) rfl xT_bl hP hK hNb hD rfl rfl xT_at) rfl rfl hl.1 rfl (lv_room (Nat.le_of_ble_eq_true rfl)) dX8_insert_80 ⟨Nat.le_of_ble_eq_true rfl, Nat.le_of_ble_eq_true rfl⟩) hP hD hS hA (fun x36 τ37 H locs r_x36 hN hf hq hP hD hS => ?_)
    replace hw := hw x36 τ37 r_x36 hN hf hq
    have hF : f_r [45, 46] [67, 68, 69, 70, 71, 72, 73, 74, 75, 76] [] σ τ37 := f_t hF hf (by decide) (by decide) (by decide)
    have hB := hN
    refine lv_istore_n (lv' := [(2, .int (I x36)), (0, .ref (q 8)), (1, .int (I u1)), (3, .int (I u3))]) hx hb dX8_insert_83 rfl hl (by decide) rfl (fun ls hl => ?_)
    refine lv_iinc (v := I (u3 + 1)) (lv' := [(3, .int (I (u3 + 1))), (2, .int (I x36)), (0, .ref (q 8)), (1, .int (I u1))]) hx hb dX8_insert_84 hl (k := 3) rfl (I_add _ _) (by decide) rfl (fun ls hl => ?_)
    refine lv_goto (tgt := 14) hx hb dX8_insert_87 (by decide) ?_
    obtain ⟨c38, hw⟩ := hw
    exact (hP14 _ _ _ _).mp hw r_u1 r_x36 c38 hN hF H locs ls hP hD hS (lv_sub hl [2, 3, 1, 0] rfl)
def W_X8_learn (σ : S0) (Q : S0 → Prop) : Prop :=
  ∀ (P27 : Int → S0 → Prop),
  (∀ (u1 : Int) (τ : S0), ((τ.1 7 ≤ u1 → Q (s_v τ 47 (τ.1 7))) ∧ (u1 < τ.1 7 → ∃ (Q8 : Int → Prop), W_X3_lengthOf u1 τ Q8 ∧ ∀ (x9 : Int), rg x9 → Q8 x9 → ((60 < x9 → rg (u1 + 1) ∧ P27 (u1 + 1) τ) ∧ (x9 ≤ 60 → ∃ (Q13 : Int → Prop), W_X8_isRule u1 τ Q13 ∧ ∀ (x14 : Int), rg x14 → Q13 x14 → ((x14 = 0 → rg (u1 + 1) ∧ P27 (u1 + 1) τ) ∧ (¬ x14 = 0 → ∃ (Q18 : S0 → Prop), W_X8_insert u1 τ Q18 ∧ ∀ (τ20 : S0), n_m τ20 → f_r [45, 46] [67, 68, 69, 70, 71, 72, 73, 74, 75, 76] [] τ τ20 → Q18 τ20 → (rg (u1 + 1) ∧ P27 (u1 + 1) τ20))))))) → P27 u1 τ) →
  ∃ (Q1 : Int → Prop), W_X8_constantNamed_t1 σ Q1 ∧ ∀ (x2 : Int), rg x2 → Q1 x2 → (∃ (Q4 : Int → Prop), W_X8_constantNamed_t2 (s_v σ 48 x2) Q4 ∧ ∀ (x5 : Int), rg x5 → Q4 x5 → (P27 (σ.1 47) (s_v (s_v σ 48 x2) 49 x5)))
set_option maxRecDepth 100000 in
set_option maxHeartbeats 4000000 in
theorem L_X8_learn (l : Launch) (g : gG) (t1 t2 : Nat) (q : Nat → Nat) (lb : Nat) (hlb : lb < 2 ^ 31) {σ : S0} {Q : S0 → Prop} (hN : n_m σ) (hw : W_X8_learn σ Q) (sz : Nat) : MetV l yX8_learn cX8_learn 2 { frames := 4, cells := 0, slots := 0, locals := 96 } g [.ref (q 8)] (CX g q lb σ) sz (sX t1 t2 (va_A (CX g q lb σ) sz)) (p_V (CX g q lb) [45, 46, 47, 48, 49] [67, 68, 69, 70, 71, 72, 73, 74, 75, 76] [] σ Q) 0 0 := by
  refine mkMet (Qc := fun A => QV g A (p_V (CX g q lb) [45, 46, 47, 48, 49] [67, 68, 69, 70, 71, 72, 73, 74, 75, 76] [] σ Q)) (by decide) (Nat.le_of_ble_eq_true rfl) ?_
  intro p e s m below meth c A H ls hx hb hr hml hown hts hlk hnm hsz hP hK hNb hD hA hAe hS hX hl
  rw [← hAe] at hX
  have hl : lv_has ls 2 [(0, .ref (q 8))] := hl
  have hB := hN
  have hF : f_r [45, 46, 47, 48, 49] [67, 68, 69, 70, 71, 72, 73, 74, 75, 76] [] σ σ := f_0
  obtain ⟨locs, hlocs⟩ : ∃ z : List Loc, z = [] := ⟨_, rfl⟩
  rw [← hlocs] at hS ⊢
  obtain ⟨P27, hP27⟩ : ∃ P : Int → S0 → Prop, ∀ (u1 : Int) (τ : S0), (P u1 τ ↔ (rg u1 → n_m τ → f_r [45, 46, 47, 48, 49] [67, 68, 69, 70, 71, 72, 73, 74, 75, 76] [] σ τ → ∀ (H : Heap) (locs : List Loc) (ls : Array Slot), KP g (CX g q lb τ) H → va_D A (CX g q lb τ) → va_S A s.heap H locs → lv_has ls 2 [(0, .ref (q 8)), (1, .int (I u1))] → W p l e ({ frames := 4, cells := 0, slots := 0, locals := 96 }) s m [.ref (q 8)].toArray below meth c H locs 0 0 (MQ below (QV g A (p_V (CX g q lb) [45, 46, 47, 48, 49] [67, 68, 69, 70, 71, 72, 73, 74, 75, 76] [] σ Q)) [.ref (q 8)].toArray s 0 0 A) (F0 m 27 ls []))) := ⟨_, fun _ _ => Iff.rfl⟩
  refine (fun hw => ?_) (hw P27 ?_)
  ·
    refine lv_aload_n hx hb dX8_learn_0 rfl (lv_at hl 0 rfl) ?_
    refine lv_aload_n hx hb dX8_learn_1 rfl (lv_at hl 0 rfl) ?_
    refine va_getsN hx hb hX.1 hS hown (nb_use hNb tn_1675) (fun _ h9 => h9) dX8_learn_2 ?_
    obtain ⟨Q1, hc, hw⟩ := hw
    refine wc_i (X := CX g q lb) (va_runV (As := [.ref t1]) (rest := [.ref (q 8)]) ⟨hx, hb, hml, hown, hts⟩ (L_X8_constantNamed_t1 l g t1 t2 q lb hlb  hN hc H.size) (cwV 1 hts (TB_V tw_1677 tw_1679 ts_67 tw_10 co_X8_constantNamed) rfl rfl rfl (by decide +kernel) ⟨Nat.le_of_ble_eq_true rfl, Nat.le_of_ble_eq_true rfl⟩) (preV (q0 := 8) (ci := 8) rfl sX_bl hP hK hNb hD rfl rfl (sX_call hX hS (d_full hD hS hA))) rfl rfl hl.1 rfl (lv_room (Nat.le_of_ble_eq_true rfl)) dX8_learn_5 ⟨Nat.le_of_ble_eq_true rfl, Nat.le_of_ble_eq_true rfl⟩) hP hD hS hA (fun x2 H locs r_x2 hq hP hD hS => ?_)
    replace hw := hw x2 r_x2 hq
    refine pfX8_provable hx hb hts hK hP hD hS hown (hts _ tw_625) dX8_learn_8 (fun H locs hP hD hS => ?_)
    have hN : n_m (s_v σ 48 x2) := n_v (i := 48) hN (r_x2 : rg x2)
    have hF : f_r [45, 46, 47, 48, 49] [67, 68, 69, 70, 71, 72, 73, 74, 75, 76] [] σ (s_v σ 48 x2) := f_v hF (by decide)
    refine lv_aload_n hx hb dX8_learn_11 rfl (lv_at hl 0 rfl) ?_
    refine lv_aload_n hx hb dX8_learn_12 rfl (lv_at hl 0 rfl) ?_
    refine va_getsN hx hb hX.2.1 hS hown (nb_use hNb tn_1682) (fun _ h9 => h9) dX8_learn_13 ?_
    obtain ⟨Q4, hc, hw⟩ := hw
    refine wc_i (X := CX g q lb) (va_runV (As := [.ref t2]) (rest := [.ref (q 8)]) ⟨hx, hb, hml, hown, hts⟩ (L_X8_constantNamed_t2 l g t1 t2 q lb hlb  hN hc H.size) (cwV 1 hts (TB_V tw_1677 tw_1679 ts_67 tw_10 co_X8_constantNamed) rfl rfl rfl (by decide +kernel) ⟨Nat.le_of_ble_eq_true rfl, Nat.le_of_ble_eq_true rfl⟩) (preV (q0 := 8) (ci := 8) rfl sX_bl hP hK hNb hD rfl rfl (sX_call hX hS (d_full hD hS hA))) rfl rfl hl.1 rfl (lv_room (Nat.le_of_ble_eq_true rfl)) dX8_learn_16 ⟨Nat.le_of_ble_eq_true rfl, Nat.le_of_ble_eq_true rfl⟩) hP hD hS hA (fun x5 H locs r_x5 hq hP hD hS => ?_)
    replace hw := hw x5 r_x5 hq
    refine pfX8_wff hx hb hts hK hP hD hS hown (hts _ tw_627) dX8_learn_19 (fun H locs hP hD hS => ?_)
    have hN : n_m (s_v (s_v σ 48 x2) 49 x5) := n_v (i := 49) hN (r_x5 : rg x5)
    have hF : f_r [45, 46, 47, 48, 49] [67, 68, 69, 70, 71, 72, 73, 74, 75, 76] [] σ (s_v (s_v σ 48 x2) 49 x5) := f_v hF (by decide)
    refine lv_aload_n hx hb dX8_learn_22 rfl (lv_at hl 0 rfl) ?_
    refine gfX8_learned hx hb hts hK hP hown (hts _ tw_624) (x := σ.1 47) rfl dX8_learn_23 ?_
    refine lv_istore_n (lv' := [(1, .int (I (σ.1 47))), (0, .ref (q 8))]) hx hb dX8_learn_26 rfl hl (by decide) rfl (fun ls hl => ?_)
    exact (hP27 _ _).mp hw (hB.1 47) hN hF H locs ls hP hD hS (lv_sub hl [1, 0] rfl)
  ·
    intro u1 τ hw
    refine (hP27 _ _).mpr ?_
    intro r_u1 hN hF H locs ls hP hD hS hl
    have hB := hN
    refine lv_iload_n hx hb dX8_learn_27 rfl (lv_at hl 1 rfl) ?_
    refine lv_aload_n hx hb dX8_learn_28 rfl (lv_at hl 0 rfl) ?_
    refine gfX8_library hx hb hts hK hP hown (hts _ tw_599) dX8_learn_29 ?_
    refine gfNX3_statements hx hb hts hK hP hown (nb_use hNb tn_103) (x := τ.1 7) rfl dX8_learn_32 ?_
    refine bi_icmp_ge (tgt := 70) hx hb r_u1 (hB.1 7) dX8_learn_35 (by decide) (fun c7 => ?_) (fun c7 => ?_)
    ·
      replace hw := hw.1 c7
      refine lv_aload_n hx hb dX8_learn_70 rfl (lv_at hl 0 rfl) ?_
      refine lv_aload_n hx hb dX8_learn_71 rfl (lv_at hl 0 rfl) ?_
      refine gfX8_library hx hb hts hK hP hown (hts _ tw_599) dX8_learn_72 ?_
      refine gfNX3_statements hx hb hts hK hP hown (nb_use hNb tn_103) (x := τ.1 7) rfl dX8_learn_75 ?_
      refine pfX8_learned hx hb hts hK hP hD hS hown (hts _ tw_624) dX8_learn_78 (fun H locs hP hD hS => ?_)
      have hN : n_m (s_v τ 47 (τ.1 7)) := n_v (i := 47) hN ((hB.1 7) : rg (τ.1 7))
      have hF : f_r [45, 46, 47, 48, 49] [67, 68, 69, 70, 71, 72, 73, 74, 75, 76] [] σ (s_v τ 47 (τ.1 7)) := f_v hF (by decide)
      exact xrv hx hb hr hlk hP hK hD hS ⟨_, hN, hF, rfl, hw⟩ (Nat.le_of_ble_eq_true rfl) (Nat.le_of_ble_eq_true rfl) dX8_learn_81
    ·
      replace hw := hw.2 c7
      refine lv_aload_n hx hb dX8_learn_38 rfl (lv_at hl 0 rfl) ?_
      refine gfX8_library hx hb hts hK hP hown (hts _ tw_599) dX8_learn_39 ?_
      refine lv_iload_n hx hb dX8_learn_42 rfl (lv_at hl 1 rfl) ?_
      obtain ⟨Q8, hc, hw⟩ := hw
      refine wc_i (X := CX g q lb) (va_runV (As := [.int (I u1)]) (rest := []) ⟨hx, hb, hml, hown, hts⟩ (L_X3_lengthOf l g q lb hlb r_u1 hN hc H.size) (cwV 1 hts (TB_V tw_1684 tw_1292 tw_1293 tw_2 co_X3_lengthOf) rfl rfl rfl (by decide +kernel) ⟨Nat.le_of_ble_eq_true rfl, Nat.le_of_ble_eq_true rfl⟩) (preV (q0 := 1) (ci := 3) rfl xT_bl hP hK hNb hD rfl rfl xT_at) rfl rfl hl.1 rfl (lv_room (Nat.le_of_ble_eq_true rfl)) dX8_learn_43 ⟨Nat.le_of_ble_eq_true rfl, Nat.le_of_ble_eq_true rfl⟩) hP hD hS hA (fun x9 H locs r_x9 hq hP hD hS => ?_)
      replace hw := hw x9 r_x9 hq
      refine lv_bipush (v := I 60) hx hb dX8_learn_46 (by decide) ?_
      refine bi_icmp_gt (tgt := 64) hx hb r_x9 (by decide) dX8_learn_48 (by decide) (fun c11 => ?_) (fun c11 => ?_)
      ·
        replace hw := hw.1 c11
        refine lv_iinc (v := I (u1 + 1)) (lv' := [(1, .int (I (u1 + 1))), (0, .ref (q 8))]) hx hb dX8_learn_64 hl (k := 1) rfl (I_add _ _) (by decide) rfl (fun ls hl => ?_)
        refine lv_goto (tgt := 27) hx hb dX8_learn_67 (by decide) ?_
        obtain ⟨c12, hw⟩ := hw
        exact (hP27 _ _).mp hw c12 hN hF H locs ls hP hD hS (lv_sub hl [1, 0] rfl)
      ·
        replace hw := hw.2 c11
        refine lv_aload_n hx hb dX8_learn_51 rfl (lv_at hl 0 rfl) ?_
        refine lv_iload_n hx hb dX8_learn_52 rfl (lv_at hl 1 rfl) ?_
        obtain ⟨Q13, hc, hw⟩ := hw
        refine wc_i (X := CX g q lb) (va_runV (As := [.int (I u1)]) (rest := []) ⟨hx, hb, hml, hown, hts⟩ (L_X8_isRule l g q lb hlb r_u1 hN hc H.size) (cwV 1 hts (TB_V tw_1685 tw_1686 tw_1687 tw_10 co_X8_isRule) rfl rfl rfl (by decide +kernel) ⟨Nat.le_of_ble_eq_true rfl, Nat.le_of_ble_eq_true rfl⟩) (preV (q0 := 8) (ci := 8) rfl xT_bl hP hK hNb hD rfl rfl xT_at) rfl rfl hl.1 rfl (lv_room (Nat.le_of_ble_eq_true rfl)) dX8_learn_53 ⟨Nat.le_of_ble_eq_true rfl, Nat.le_of_ble_eq_true rfl⟩) hP hD hS hA (fun x14 H locs r_x14 hq hP hD hS => ?_)
        replace hw := hw x14 r_x14 hq
        refine bi_if_eq (tgt := 64) hx hb r_x14 dX8_learn_56 (by decide) (fun c16 => ?_) (fun c16 => ?_)
        ·
          replace hw := hw.1 c16
          refine lv_iinc (v := I (u1 + 1)) (lv' := [(1, .int (I (u1 + 1))), (0, .ref (q 8))]) hx hb dX8_learn_64 hl (k := 1) rfl (I_add _ _) (by decide) rfl (fun ls hl => ?_)
          refine lv_goto (tgt := 27) hx hb dX8_learn_67 (by decide) ?_
          obtain ⟨c17, hw⟩ := hw
          exact (hP27 _ _).mp hw c17 hN hF H locs ls hP hD hS (lv_sub hl [1, 0] rfl)
        ·
          replace hw := hw.2 c16
          refine lv_aload_n hx hb dX8_learn_59 rfl (lv_at hl 0 rfl) ?_
          refine lv_iload_n hx hb dX8_learn_60 rfl (lv_at hl 1 rfl) ?_
          obtain ⟨Q18, hc, hw⟩ := hw
          refine wc_V (X := CX g q lb) (va_runV (As := [.int (I u1)]) (rest := []) ⟨hx, hb, hml, hown, hts⟩ (L_X8_insert l g q lb hlb r_u1 hN hc H.size) (cwV 1 hts (TB_V tw_1694 tw_1696 ts_68 tw_10 co_X8_insert) rfl rfl rfl (by decide +kernel) ⟨Nat.le_of_ble_eq_true rfl, Nat.le_of_ble_eq_true rfl⟩) (preV (q0 := 8) (ci := 8) rfl xT_bl hP hK hNb hD rfl rfl xT_at) rfl rfl hl.1 rfl (lv_room (Nat.le_of_ble_eq_true rfl)) dX8_learn_61 ⟨Nat.le_of_ble_eq_true rfl, Nat.le_of_ble_eq_true rfl⟩) hP hD hS hA (fun τ20 H locs hN hf hq hP hD hS => ?_)
          replace hw := hw τ20 hN hf hq
          have hF : f_r [45, 46, 47, 48, 49] [67, 68, 69, 70, 71, 72, 73, 74, 75, 76] [] σ τ20 := f_t hF hf (by decide) (by decide) (by decide)
          have hB := hN
          refine lv_iinc (v := I (u1 + 1)) (lv' := [(1, .int (I (u1 + 1))), (0, .ref (q 8))]) hx hb dX8_learn_64 hl (k := 1) rfl (I_add _ _) (by decide) rfl (fun ls hl => ?_)
          refine lv_goto (tgt := 27) hx hb dX8_learn_67 (by decide) ?_
          obtain ⟨c21, hw⟩ := hw
          exact (hP27 _ _).mp hw c21 hN hF H locs ls hP hD hS (lv_sub hl [1, 0] rfl)
def W_X9_keep (σ : S0) (Q : S0 → Prop) : Prop :=
  ∃ (Q1 : S0 → Prop), W_X9_mark (s_v σ 11 0) Q1 ∧ ∀ (τ3 : S0), n_m τ3 → f_r [] [25] [] (s_v σ 11 0) τ3 → Q1 τ3 → (Q τ3)
set_option maxRecDepth 100000 in
set_option maxHeartbeats 4000000 in
theorem L_X9_keep (l : Launch) (g : gG) (q : Nat → Nat) (lb : Nat) (hlb : lb < 2 ^ 31) {σ : S0} {Q : S0 → Prop} (hN : n_m σ) (hw : W_X9_keep σ Q) (sz : Nat) : MetV l yX9_keep cX9_keep 1 { frames := 1, cells := 0, slots := 0, locals := 20 } g [.ref (q 2)] (CX g q lb σ) sz xT (p_V (CX g q lb) [11] [25] [] σ Q) 0 0 := by
  refine mkMet (Qc := fun A => QV g A (p_V (CX g q lb) [11] [25] [] σ Q)) (by decide) (Nat.le_of_ble_eq_true rfl) ?_
  intro p e s m below meth c A H ls hx hb hr hml hown hts hlk hnm hsz hP hK hNb hD hA hAe hS hX hl
  have hl : lv_has ls 1 [(0, .ref (q 2))] := hl
  have hB := hN
  have hF : f_r [11] [25] [] σ σ := f_0
  obtain ⟨locs, hlocs⟩ : ∃ z : List Loc, z = [] := ⟨_, rfl⟩
  rw [← hlocs] at hS ⊢
  refine lv_aload_n hx hb dX9_keep_0 rfl (lv_at hl 0 rfl) ?_
  refine lv_iconst (v := I 0) hx hb dX9_keep_1 rfl ?_
  refine pfX9_depth hx hb hts hK hP hD hS hown (hts _ tw_186) dX9_keep_2 (fun H locs hP hD hS => ?_)
  have hN : n_m (s_v σ 11 0) := n_v (i := 11) hN ((by decide) : rg 0)
  have hF : f_r [11] [25] [] σ (s_v σ 11 0) := f_v hF (by decide)
  refine lv_aload_n hx hb dX9_keep_5 rfl (lv_at hl 0 rfl) ?_
  obtain ⟨Q1, hc, hw⟩ := hw
  refine wc_V (X := CX g q lb) (va_runV (As := []) (rest := []) ⟨hx, hb, hml, hown, hts⟩ (L_X9_mark l g q lb hlb  hN hc H.size) (cwV 0 hts (TB_V tw_969 tw_971 ts_2 tw_3 co_X9_mark) rfl rfl rfl (by decide +kernel) ⟨Nat.le_of_ble_eq_true rfl, Nat.le_of_ble_eq_true rfl⟩) (preV (q0 := 2) (ci := 9) rfl xT_bl hP hK hNb hD rfl rfl xT_at) rfl rfl hl.1 rfl (lv_room (Nat.le_of_ble_eq_true rfl)) dX9_keep_6 ⟨Nat.le_of_ble_eq_true rfl, Nat.le_of_ble_eq_true rfl⟩) hP hD hS hA (fun τ3 H locs hN hf hq hP hD hS => ?_)
  replace hw := hw τ3 hN hf hq
  have hF : f_r [11] [25] [] σ τ3 := f_t hF hf (by decide) (by decide) (by decide)
  have hB := hN
  exact xrv hx hb hr hlk hP hK hD hS ⟨_, hN, hF, rfl, hw⟩ (Nat.le_of_ble_eq_true rfl) (Nat.le_of_ble_eq_true rfl) dX9_keep_9
def W_X9_goBack (σ : S0) (Q : S0 → Prop) : Prop :=
  ∃ (Q1 : S0 → Prop), W_X9_cut (s_v σ 11 0) Q1 ∧ ∀ (τ3 : S0), n_m τ3 → f_r [8, 9, 10] [18, 19, 21] [0] (s_v σ 11 0) τ3 → Q1 τ3 → (Q τ3)
set_option maxRecDepth 100000 in
set_option maxHeartbeats 4000000 in
theorem L_X9_goBack (l : Launch) (g : gG) (q : Nat → Nat) (lb : Nat) (hlb : lb < 2 ^ 31) {σ : S0} {Q : S0 → Prop} (hN : n_m σ) (hw : W_X9_goBack σ Q) (sz : Nat) : MetV l yX9_goBack cX9_goBack 1 { frames := 2, cells := 0, slots := 0, locals := 43 } g [.ref (q 2)] (CX g q lb σ) sz xT (p_V (CX g q lb) [8, 9, 10, 11] [18, 19, 21] [0] σ Q) 0 0 := by
  refine mkMet (Qc := fun A => QV g A (p_V (CX g q lb) [8, 9, 10, 11] [18, 19, 21] [0] σ Q)) (by decide) (Nat.le_of_ble_eq_true rfl) ?_
  intro p e s m below meth c A H ls hx hb hr hml hown hts hlk hnm hsz hP hK hNb hD hA hAe hS hX hl
  have hl : lv_has ls 1 [(0, .ref (q 2))] := hl
  have hB := hN
  have hF : f_r [8, 9, 10, 11] [18, 19, 21] [0] σ σ := f_0
  obtain ⟨locs, hlocs⟩ : ∃ z : List Loc, z = [] := ⟨_, rfl⟩
  rw [← hlocs] at hS ⊢
  refine lv_aload_n hx hb dX9_goBack_0 rfl (lv_at hl 0 rfl) ?_
  refine lv_iconst (v := I 0) hx hb dX9_goBack_1 rfl ?_
  refine pfX9_depth hx hb hts hK hP hD hS hown (hts _ tw_186) dX9_goBack_2 (fun H locs hP hD hS => ?_)
  have hN : n_m (s_v σ 11 0) := n_v (i := 11) hN ((by decide) : rg 0)
  have hF : f_r [8, 9, 10, 11] [18, 19, 21] [0] σ (s_v σ 11 0) := f_v hF (by decide)
  refine lv_aload_n hx hb dX9_goBack_5 rfl (lv_at hl 0 rfl) ?_
  obtain ⟨Q1, hc, hw⟩ := hw
  refine wc_V (X := CX g q lb) (va_runV (As := []) (rest := []) ⟨hx, hb, hml, hown, hts⟩ (L_X9_cut l g q lb hlb  hN hc H.size) (cwV 0 hts (TB_V tw_1091 tw_1093 ts_18 tw_3 co_X9_cut) rfl rfl rfl (by decide +kernel) ⟨Nat.le_of_ble_eq_true rfl, Nat.le_of_ble_eq_true rfl⟩) (preV (q0 := 2) (ci := 9) rfl xT_bl hP hK hNb hD rfl rfl xT_at) rfl rfl hl.1 rfl (lv_room (Nat.le_of_ble_eq_true rfl)) dX9_goBack_6 ⟨Nat.le_of_ble_eq_true rfl, Nat.le_of_ble_eq_true rfl⟩) hP hD hS hA (fun τ3 H locs hN hf hq hP hD hS => ?_)
  replace hw := hw τ3 hN hf hq
  have hF : f_r [8, 9, 10, 11] [18, 19, 21] [0] σ τ3 := f_t hF hf (by decide) (by decide) (by decide)
  have hB := hN
  exact xrv hx hb hr hlk hP hK hD hS ⟨_, hN, hF, rfl, hw⟩ (Nat.le_of_ble_eq_true rfl) (Nat.le_of_ble_eq_true rfl) dX9_goBack_9
def W_X11_keepPattern (σ : S0) (Q : S0 → Prop) : Prop :=
  ((0 : Int) ≤ 0 ∧ (0 : Int) ≤ 0 ∧ (0 : Int) ≤ σ.1 54 ∧ 0 + σ.1 54 ≤ 12000 ∧ 0 + σ.1 54 ≤ 12000) ∧ (Q (s_v (s_f σ 87 (c_py (σ.2.1 84) (σ.2.1 87) 0 0 (σ.1 54))) 55 (σ.1 54)))
set_option maxRecDepth 100000 in
set_option maxHeartbeats 4000000 in
theorem L_X11_keepPattern (l : Launch) (g : gG) (q : Nat → Nat) (lb : Nat) (hlb : lb < 2 ^ 31) {σ : S0} {Q : S0 → Prop} (hN : n_m σ) (hw : W_X11_keepPattern σ Q) (sz : Nat) : MetV l yX11_keepPattern cX11_keepPattern 1 { frames := 1, cells := 0, slots := 0, locals := 75 } g [.ref (q 10)] (CX g q lb σ) sz xT (p_V (CX g q lb) [55] [87] [] σ Q) 0 0 := by
  refine mkMet (Qc := fun A => QV g A (p_V (CX g q lb) [55] [87] [] σ Q)) (by decide) (Nat.le_of_ble_eq_true rfl) ?_
  intro p e s m below meth c A H ls hx hb hr hml hown hts hlk hnm hsz hP hK hNb hD hA hAe hS hX hl
  have hl : lv_has ls 1 [(0, .ref (q 10))] := hl
  have hB := hN
  have hF : f_r [55] [87] [] σ σ := f_0
  obtain ⟨locs, hlocs⟩ : ∃ z : List Loc, z = [] := ⟨_, rfl⟩
  rw [← hlocs] at hS ⊢
  refine lv_aload_n hx hb dX11_keepPattern_0 rfl (lv_at hl 0 rfl) ?_
  refine gfX11_rule hx hb hts hK hP hown (hts _ tw_740) dX11_keepPattern_1 ?_
  refine lv_iconst (v := I 0) hx hb dX11_keepPattern_4 rfl ?_
  refine lv_aload_n hx hb dX11_keepPattern_5 rfl (lv_at hl 0 rfl) ?_
  refine gfX11_pattern hx hb hts hK hP hown (hts _ tw_748) dX11_keepPattern_6 ?_
  refine lv_iconst (v := I 0) hx hb dX11_keepPattern_9 rfl ?_
  refine lv_aload_n hx hb dX11_keepPattern_10 rfl (lv_at hl 0 rfl) ?_
  refine gfX11_size hx hb hts hK hP hown (hts _ tw_745) (x := σ.1 54) rfl dX11_keepPattern_11 ?_
  obtain ⟨c1, hw⟩ := hw
  refine wr_cpy hx hb (by rw [hml]; exact hl.1.symm) hown (hts _ tw_1928) (hts _ tw_1297) (hts _ tw_1296) (hts _ tw_17) hK hP hD hS 105 108 (f := (σ.2.1 84)) (h := (σ.2.1 87)) rfl rfl (by decide) (by decide) (hB.1 54) c1.1 c1.2.1 c1.2.2.1 c1.2.2.2.1 c1.2.2.2.2 (Nat.le_of_ble_eq_true rfl) (by decide) dX11_keepPattern_14 (ws' := CX g q lb (s_f σ 87 (c_py (σ.2.1 84) (σ.2.1 87) 0 0 (σ.1 54)))) (Csa87 _) (fun H locs hP hD hS => ?_)
  have hN : n_m (s_f σ 87 (c_py (σ.2.1 84) (σ.2.1 87) 0 0 (σ.1 54))) := n_f (k := 87) (f := (c_py (σ.2.1 84) (σ.2.1 87) 0 0 (σ.1 54))) hN (n_cpy (hN.2 84) (hN.2 87) _ _ _)
  have hF : f_r [55] [87] [] σ (s_f σ 87 (c_py (σ.2.1 84) (σ.2.1 87) 0 0 (σ.1 54))) := f_f hF (by decide)
  refine lv_aload_n hx hb dX11_keepPattern_17 rfl (lv_at hl 0 rfl) ?_
  refine lv_aload_n hx hb dX11_keepPattern_18 rfl (lv_at hl 0 rfl) ?_
  refine gfX11_size hx hb hts hK hP hown (hts _ tw_745) (x := σ.1 54) rfl dX11_keepPattern_19 ?_
  refine pfX11_patternSize hx hb hts hK hP hD hS hown (hts _ tw_749) dX11_keepPattern_22 (fun H locs hP hD hS => ?_)
  have hN : n_m (s_v (s_f σ 87 (c_py (σ.2.1 84) (σ.2.1 87) 0 0 (σ.1 54))) 55 (σ.1 54)) := n_v (i := 55) hN ((hB.1 54) : rg (σ.1 54))
  have hF : f_r [55] [87] [] σ (s_v (s_f σ 87 (c_py (σ.2.1 84) (σ.2.1 87) 0 0 (σ.1 54))) 55 (σ.1 54)) := f_v hF (by decide)
  exact xrv hx hb hr hlk hP hK hD hS ⟨_, hN, hF, rfl, hw⟩ (Nat.le_of_ble_eq_true rfl) (Nat.le_of_ble_eq_true rfl) dX11_keepPattern_25
def W_X11_binds (n1 : Int) (n2 : Int) (σ : S0) (Q : Int → S0 → Prop) : Prop :=
  ∀ (P85 : Int → Int → Int → Int → S0 → Prop),
  (∀ (u1 : Int) (u2 : Int) (u3 : Int) (u4 : Int) (τ : S0), ((u3 ≤ u4 → Q 1 τ) ∧ (u4 < u3 → (0 ≤ u1 ∧ u1 < 1000) ∧ (∀ (x17 : Int), rg x17 → x17 = τ.2.1 89 u1 → ((0 ≤ (x17 + u4) ∧ (x17 + u4) < 60) ∧ (∀ (x19 : Int), rg x19 → x19 = τ.2.1 77 (x17 + u4) → ((0 ≤ u2 ∧ u2 < 12000) ∧ (∀ (x21 : Int), rg x21 → x21 = τ.2.1 85 u2 → ((0 ≤ (x21 + u4) ∧ (x21 + u4) < 60) ∧ (∀ (x23 : Int), rg x23 → x23 = τ.2.1 77 (x21 + u4) → ((x19 = x23 → rg (u4 + 1) ∧ P85 u1 u2 u3 (u4 + 1) τ) ∧ (¬ x19 = x23 → Q 0 τ))))))))))) → P85 u1 u2 u3 u4 τ) →
  (0 ≤ n1 ∧ n1 < 1000) ∧ (∀ (x2 : Int), rg x2 → x2 = σ.2.1 91 n1 → ((x2 = σ.1 56 → (0 ≤ n2 ∧ n2 < 12000) ∧ (∀ (x5 : Int), rg x5 → x5 = σ.2.1 86 n2 → (∀ (x6 : Int), rg x6 → x6 = σ.2.1 85 n2 → (∀ (x7 : Int), rg x7 → x7 = σ.2.1 90 n1 → (∀ (x8 : Int), rg x8 → x8 = σ.2.1 89 n1 → (rg (x7 - x8) ∧ rg (x5 - x6) ∧ ((x7 - x8) = (x5 - x6) → P85 n1 n2 (x5 - x6) 0 σ) ∧ (¬ (x7 - x8) = (x5 - x6) → Q 0 σ))))))) ∧ (¬ x2 = σ.1 56 → (0 ≤ n2 ∧ n2 < 12000) ∧ (∀ (x13 : Int), rg x13 → x13 = σ.2.1 85 n2 → (∀ (x14 : Int), rg x14 → x14 = σ.2.1 86 n2 → (Q 1 (s_a (s_a (s_a σ 91 n1 (σ.1 56)) 89 n1 x13) 90 n1 x14)))))))
set_option maxRecDepth 100000 in
set_option maxHeartbeats 4000000 in
theorem L_X11_binds (l : Launch) (g : gG) (q : Nat → Nat) (lb : Nat) (hlb : lb < 2 ^ 31) {n1 : Int} {n2 : Int} {σ : S0} {Q : Int → S0 → Prop} (r_n1 : rg n1) (r_n2 : rg n2) (hN : n_m σ) (hw : W_X11_binds n1 n2 σ Q) (sz : Nat) : MetI l yX11_binds cX11_binds 5 (some .boolean) { frames := 0, cells := 0, slots := 0, locals := 0 } g [.ref (q 10), .int (I n1), .int (I n2)] (CX g q lb σ) sz xT (p_I (CX g q lb) [] [89, 90, 91] [] σ Q) 0 0 := by
  refine mkMet (Qc := fun A => QI g A (p_I (CX g q lb) [] [89, 90, 91] [] σ Q)) (by decide) (Nat.le_of_ble_eq_true rfl) ?_
  intro p e s m below meth c A H ls hx hb hr hml hown hts hlk hnm hsz hP hK hNb hD hA hAe hS hX hl
  have hl : lv_has ls 5 [(0, .ref (q 10)), (1, .int (I n1)), (2, .int (I n2))] := hl
  have hB := hN
  have hF : f_r [] [89, 90, 91] [] σ σ := f_0
  obtain ⟨locs, hlocs⟩ : ∃ z : List Loc, z = [] := ⟨_, rfl⟩
  rw [← hlocs] at hS ⊢
  obtain ⟨P85, hP85⟩ : ∃ P : Int → Int → Int → Int → S0 → Prop, ∀ (u1 : Int) (u2 : Int) (u3 : Int) (u4 : Int) (τ : S0), (P u1 u2 u3 u4 τ ↔ (rg u1 → rg u2 → rg u3 → rg u4 → n_m τ → f_r [] [89, 90, 91] [] σ τ → ∀ (H : Heap) (locs : List Loc) (ls : Array Slot), KP g (CX g q lb τ) H → va_D A (CX g q lb τ) → va_S A s.heap H locs → lv_has ls 5 [(0, .ref (q 10)), (1, .int (I u1)), (2, .int (I u2)), (3, .int (I u3)), (4, .int (I u4))] → W p l e ({ frames := 0, cells := 0, slots := 0, locals := 0 }) s m [.ref (q 10), .int (I n1), .int (I n2)].toArray below meth c H locs 0 0 (MQ below (QI g A (p_I (CX g q lb) [] [89, 90, 91] [] σ Q)) [.ref (q 10), .int (I n1), .int (I n2)].toArray s 0 0 A) (F0 m 85 ls []))) := ⟨_, fun _ _ _ _ _ => Iff.rfl⟩
  refine (fun hw => ?_) (hw P85 ?_)
  ·
    refine lv_aload_n hx hb dX11_binds_0 rfl (lv_at hl 0 rfl) ?_
    refine gfX11_bound hx hb hts hK hP hown (hts _ tw_756) dX11_binds_1 ?_
    refine lv_iload_n hx hb dX11_binds_4 rfl (lv_at hl 1 rfl) ?_
    obtain ⟨c1, hw⟩ := hw
    refine ldCX11_bound hx hb hK hP hN c1 dX11_binds_5 (fun x2 r_x2 e_x2 => ?_)
    replace hw := hw x2 r_x2 e_x2
    refine lv_aload_n hx hb dX11_binds_6 rfl (lv_at hl 0 rfl) ?_
    refine gfX11_turn hx hb hts hK hP hown (hts _ tw_757) (x := σ.1 56) rfl dX11_binds_7 ?_
    refine bi_icmp_eq (tgt := 49) hx hb r_x2 (hB.1 56) dX11_binds_10 (by decide) (fun c3 => ?_) (fun c3 => ?_)
    ·
      replace hw := hw.1 c3
      refine lv_aload_n hx hb dX11_binds_49 rfl (lv_at hl 0 rfl) ?_
      refine gfX11_to hx hb hts hK hP hown (hts _ tw_744) dX11_binds_50 ?_
      refine lv_iload_n hx hb dX11_binds_53 rfl (lv_at hl 2 rfl) ?_
      obtain ⟨c4, hw⟩ := hw
      refine ldCX11_to hx hb hK hP hN c4 dX11_binds_54 (fun x5 r_x5 e_x5 => ?_)
      replace hw := hw x5 r_x5 e_x5
      refine lv_aload_n hx hb dX11_binds_55 rfl (lv_at hl 0 rfl) ?_
      refine gfX11_from hx hb hts hK hP hown (hts _ tw_743) dX11_binds_56 ?_
      refine lv_iload_n hx hb dX11_binds_59 rfl (lv_at hl 2 rfl) ?_
      refine ldCX11_from hx hb hK hP hN c4 dX11_binds_60 (fun x6 r_x6 e_x6 => ?_)
      replace hw := hw x6 r_x6 e_x6
      refine bi_isub hx hb dX11_binds_61 ?_
      refine lv_istore_n (lv' := [(3, .int (I (x5 - x6))), (0, .ref (q 10)), (1, .int (I n1)), (2, .int (I n2))]) hx hb dX11_binds_62 rfl hl (by decide) rfl (fun ls hl => ?_)
      refine lv_aload_n hx hb dX11_binds_63 rfl (lv_at hl 1 rfl) ?_
      refine gfX11_spanTo hx hb hts hK hP hown (hts _ tw_754) dX11_binds_64 ?_
      refine lv_iload_n hx hb dX11_binds_67 rfl (lv_at hl 2 rfl) ?_
      refine ldCX11_spanTo hx hb hK hP hN c1 dX11_binds_68 (fun x7 r_x7 e_x7 => ?_)
      replace hw := hw x7 r_x7 e_x7
      refine lv_aload_n hx hb dX11_binds_69 rfl (lv_at hl 1 rfl) ?_
      refine gfX11_spanFrom hx hb hts hK hP hown (hts _ tw_752) dX11_binds_70 ?_
      refine lv_iload_n hx hb dX11_binds_73 rfl (lv_at hl 2 rfl) ?_
      refine ldCX11_spanFrom hx hb hK hP hN c1 dX11_binds_74 (fun x8 r_x8 e_x8 => ?_)
      replace hw := hw x8 r_x8 e_x8
      refine bi_isub hx hb dX11_binds_75 ?_
      refine lv_iload_n hx hb dX11_binds_76 rfl (lv_at hl 0 rfl) ?_
      obtain ⟨c9, hw⟩ := hw
      obtain ⟨c10, hw⟩ := hw
      refine bi_icmp_eq (tgt := 82) hx hb c9 c10 dX11_binds_77 (by decide) (fun c11 => ?_) (fun c11 => ?_)
      ·
        replace hw := hw.1 c11
        refine lv_iconst (v := I 0) hx hb dX11_binds_82 rfl ?_
        refine lv_istore (lv' := [(4, .int (I 0)), (3, .int (I (x5 - x6))), (0, .ref (q 10)), (1, .int (I n1)), (2, .int (I n2))]) hx hb dX11_binds_83 hl (by decide) rfl (fun ls hl => ?_)
        exact (hP85 _ _ _ _ _).mp hw r_n1 r_n2 c10 (by decide) hN hF H locs ls hP hD hS (lv_sub hl [2, 3, 4, 1, 0] rfl)
      ·
        replace hw := hw.2 c11
        refine lv_iconst (v := I 0) hx hb dX11_binds_80 rfl ?_
        exact xrz hx hb hr (by decide) hlk hP hK hD hS ⟨_, _, (by decide), rfl, hN, hF, rfl, hw⟩ (Nat.le_of_ble_eq_true rfl) (Nat.le_of_ble_eq_true rfl) dX11_binds_81
    ·
      replace hw := hw.2 c3
      refine lv_aload_n hx hb dX11_binds_13 rfl (lv_at hl 0 rfl) ?_
      refine gfX11_bound hx hb hts hK hP hown (hts _ tw_756) dX11_binds_14 ?_
      refine lv_iload_n hx hb dX11_binds_17 rfl (lv_at hl 1 rfl) ?_
      refine lv_aload_n hx hb dX11_binds_18 rfl (lv_at hl 0 rfl) ?_
      refine gfX11_turn hx hb hts hK hP hown (hts _ tw_757) (x := σ.1 56) rfl dX11_binds_19 ?_
      refine sdCX11_bound hx hb hK hP hD hS c1 dX11_binds_22 (fun H locs hP hD hS => ?_)
      have hN : n_m (s_a σ 91 n1 (σ.1 56)) := n_a (k := 91) (j := n1) hN ((hB.1 56) : rg (σ.1 56))
      have hF : f_r [] [89, 90, 91] [] σ (s_a σ 91 n1 (σ.1 56)) := f_a hF (by decide)
      refine lv_aload_n hx hb dX11_binds_23 rfl (lv_at hl 0 rfl) ?_
      refine gfX11_spanFrom hx hb hts hK hP hown (hts _ tw_752) dX11_binds_24 ?_
      refine lv_iload_n hx hb dX11_binds_27 rfl (lv_at hl 1 rfl) ?_
      refine lv_aload_n hx hb dX11_binds_28 rfl (lv_at hl 0 rfl) ?_
      refine gfX11_from hx hb hts hK hP hown (hts _ tw_743) dX11_binds_29 ?_
      refine lv_iload_n hx hb dX11_binds_32 rfl (lv_at hl 2 rfl) ?_
      obtain ⟨c12, hw⟩ := hw
      refine ldCX11_from hx hb hK hP hN c12 dX11_binds_33 (fun x13 r_x13 e_x13 => ?_)
      replace hw := hw x13 r_x13 e_x13
      refine sdCX11_spanFrom hx hb hK hP hD hS c1 dX11_binds_34 (fun H locs hP hD hS => ?_)
      have hN : n_m (s_a (s_a σ 91 n1 (σ.1 56)) 89 n1 x13) := n_a (k := 89) (j := n1) hN (r_x13 : rg x13)
      have hF : f_r [] [89, 90, 91] [] σ (s_a (s_a σ 91 n1 (σ.1 56)) 89 n1 x13) := f_a hF (by decide)
      refine lv_aload_n hx hb dX11_binds_35 rfl (lv_at hl 0 rfl) ?_
      refine gfX11_spanTo hx hb hts hK hP hown (hts _ tw_754) dX11_binds_36 ?_
      refine lv_iload_n hx hb dX11_binds_39 rfl (lv_at hl 1 rfl) ?_
      refine lv_aload_n hx hb dX11_binds_40 rfl (lv_at hl 0 rfl) ?_
      refine gfX11_to hx hb hts hK hP hown (hts _ tw_744) dX11_binds_41 ?_
      refine lv_iload_n hx hb dX11_binds_44 rfl (lv_at hl 2 rfl) ?_
      refine ldCX11_to hx hb hK hP hN c12 dX11_binds_45 (fun x14 r_x14 e_x14 => ?_)
      replace hw := hw x14 r_x14 e_x14
      refine sdCX11_spanTo hx hb hK hP hD hS c1 dX11_binds_46 (fun H locs hP hD hS => ?_)
      have hN : n_m (s_a (s_a (s_a σ 91 n1 (σ.1 56)) 89 n1 x13) 90 n1 x14) := n_a (k := 90) (j := n1) hN (r_x14 : rg x14)
      have hF : f_r [] [89, 90, 91] [] σ (s_a (s_a (s_a σ 91 n1 (σ.1 56)) 89 n1 x13) 90 n1 x14) := f_a hF (by decide)
      refine lv_iconst (v := I 1) hx hb dX11_binds_47 rfl ?_
      exact xrz hx hb hr (by decide) hlk hP hK hD hS ⟨_, _, (by decide), rfl, hN, hF, rfl, hw⟩ (Nat.le_of_ble_eq_true rfl) (Nat.le_of_ble_eq_true rfl) dX11_binds_48
  ·
    intro u1 u2 u3 u4 τ hw
    refine (hP85 _ _ _ _ _).mpr ?_
    intro r_u1 r_u2 r_u3 r_u4 hN hF H locs ls hP hD hS hl
    have hB := hN
    refine lv_iload hx hb dX11_binds_85 (lv_at hl 4 rfl) ?_
    refine lv_iload_n hx hb dX11_binds_87 rfl (lv_at hl 3 rfl) ?_
    refine bi_icmp_ge (tgt := 136) hx hb r_u4 r_u3 dX11_binds_88 (by decide) (fun c15 => ?_) (fun c15 => ?_)
    ·
      replace hw := hw.1 c15
      refine lv_iconst (v := I 1) hx hb dX11_binds_136 rfl ?_
      exact xrz hx hb hr (by decide) hlk hP hK hD hS ⟨_, _, (by decide), rfl, hN, hF, rfl, hw⟩ (Nat.le_of_ble_eq_true rfl) (Nat.le_of_ble_eq_true rfl) dX11_binds_137
    ·
      replace hw := hw.2 c15
      refine lv_aload_n hx hb dX11_binds_91 rfl (lv_at hl 0 rfl) ?_
      refine gfX11_chart hx hb hts hK hP hown (hts _ tw_739) dX11_binds_92 ?_
      refine gfNX1_row hx hb hts hK hP hown (nb_use hNb tn_673) dX11_binds_95 ?_
      refine lv_aload_n hx hb dX11_binds_98 rfl (lv_at hl 0 rfl) ?_
      refine gfX11_spanFrom hx hb hts hK hP hown (hts _ tw_752) dX11_binds_99 ?_
      refine lv_iload_n hx hb dX11_binds_102 rfl (lv_at hl 1 rfl) ?_
      obtain ⟨c16, hw⟩ := hw
      refine ldCX11_spanFrom hx hb hK hP hN c16 dX11_binds_103 (fun x17 r_x17 e_x17 => ?_)
      replace hw := hw x17 r_x17 e_x17
      refine lv_iload hx hb dX11_binds_104 (lv_at hl 4 rfl) ?_
      refine bi_iadd hx hb dX11_binds_106 ?_
      obtain ⟨c18, hw⟩ := hw
      refine ldCX1_row hx hb hK hP hN c18 dX11_binds_107 (fun x19 r_x19 e_x19 => ?_)
      replace hw := hw x19 r_x19 e_x19
      refine lv_aload_n hx hb dX11_binds_108 rfl (lv_at hl 0 rfl) ?_
      refine gfX11_chart hx hb hts hK hP hown (hts _ tw_739) dX11_binds_109 ?_
      refine gfNX1_row hx hb hts hK hP hown (nb_use hNb tn_673) dX11_binds_112 ?_
      refine lv_aload_n hx hb dX11_binds_115 rfl (lv_at hl 0 rfl) ?_
      refine gfX11_from hx hb hts hK hP hown (hts _ tw_743) dX11_binds_116 ?_
      refine lv_iload_n hx hb dX11_binds_119 rfl (lv_at hl 2 rfl) ?_
      obtain ⟨c20, hw⟩ := hw
      refine ldCX11_from hx hb hK hP hN c20 dX11_binds_120 (fun x21 r_x21 e_x21 => ?_)
      replace hw := hw x21 r_x21 e_x21
      refine lv_iload hx hb dX11_binds_121 (lv_at hl 4 rfl) ?_
      refine bi_iadd hx hb dX11_binds_123 ?_
      obtain ⟨c22, hw⟩ := hw
      refine ldCX1_row hx hb hK hP hN c22 dX11_binds_124 (fun x23 r_x23 e_x23 => ?_)
      replace hw := hw x23 r_x23 e_x23
      refine bi_icmp_eq (tgt := 130) hx hb r_x19 r_x23 dX11_binds_125 (by decide) (fun c24 => ?_) (fun c24 => ?_)
      ·
        replace hw := hw.1 c24
        refine lv_iinc (v := I (u4 + 1)) (lv' := [(4, .int (I (u4 + 1))), (0, .ref (q 10)), (1, .int (I u1)), (2, .int (I u2)), (3, .int (I u3))]) hx hb dX11_binds_130 hl (k := 4) rfl (I_add _ _) (by decide) rfl (fun ls hl => ?_)
        refine lv_goto (tgt := 85) hx hb dX11_binds_133 (by decide) ?_
        obtain ⟨c25, hw⟩ := hw
        exact (hP85 _ _ _ _ _).mp hw r_u1 r_u2 r_u3 c25 hN hF H locs ls hP hD hS (lv_sub hl [1, 2, 3, 4, 0] rfl)
      ·
        replace hw := hw.2 c24
        refine lv_iconst (v := I 0) hx hb dX11_binds_128 rfl ?_
        exact xrz hx hb hr (by decide) hlk hP hK hD hS ⟨_, _, (by decide), rfl, hN, hF, rfl, hw⟩ (Nat.le_of_ble_eq_true rfl) (Nat.le_of_ble_eq_true rfl) dX11_binds_129
def W_X11_fitsPattern (σ : S0) (Q : Int → S0 → Prop) : Prop :=
  ∀ (P14 : Int → Int → S0 → Prop),
  (∀ (u1 : Int) (u2 : Int) (τ : S0), ((τ.1 55 ≤ u2 → (¬ u1 = τ.1 54 → Q 0 τ) ∧ (u1 = τ.1 54 → Q 1 τ)) ∧ (u2 < τ.1 55 → (0 ≤ u2 ∧ u2 < 12000) ∧ (∀ (x5 : Int), rg x5 → x5 = τ.2.1 87 u2 → ((u1 < τ.1 54 → (0 ≤ x5 ∧ x5 < 1500) ∧ (∀ (x8 : Int), rg x8 → x8 = τ.2.1 13 x5 → ((¬ x8 = 0 → (0 ≤ u1 ∧ u1 < 12000) ∧ (∀ (x11 : Int), rg x11 → x11 = τ.2.1 84 u1 → ((¬ x5 = x11 → Q 0 τ) ∧ (x5 = x11 → rg (u1 + 1) ∧ rg (u2 + 1) ∧ P14 (u1 + 1) (u2 + 1) τ)))) ∧ (x8 = 0 → ∃ (Q15 : Int → Prop), W_X3_variableOf x5 τ Q15 ∧ ∀ (x16 : Int), rg x16 → Q15 x16 → (∃ (Q18 : Int → S0 → Prop), W_X11_binds x16 u1 τ Q18 ∧ ∀ (x19 : Int) (τ20 : S0), rg x19 → n_m τ20 → f_r [] [89, 90, 91] [] τ τ20 → Q18 x19 τ20 → ((¬ x19 = 0 → ∃ (Q22 : Int → Prop), W_X11_behind u1 τ20 Q22 ∧ ∀ (x23 : Int), rg x23 → Q22 x23 → (rg (u2 + 1) ∧ P14 x23 (u2 + 1) τ20)) ∧ (x19 = 0 → Q 0 τ20))))))) ∧ (τ.1 54 ≤ u1 → Q 0 τ))))) → P14 u1 u2 τ) →
  ∀ (x1 : Int), rg x1 → (P14 0 0 (s_v σ 56 x1))
set_option maxRecDepth 100000 in
set_option maxHeartbeats 4000000 in
theorem L_X11_fitsPattern (l : Launch) (g : gG) (q : Nat → Nat) (lb : Nat) (hlb : lb < 2 ^ 31) {σ : S0} {Q : Int → S0 → Prop} (hN : n_m σ) (hw : W_X11_fitsPattern σ Q) (sz : Nat) : MetI l yX11_fitsPattern cX11_fitsPattern 4 (some .boolean) { frames := 1, cells := 0, slots := 0, locals := 24 } g [.ref (q 10)] (CX g q lb σ) sz xT (p_I (CX g q lb) [56] [89, 90, 91] [] σ Q) 0 0 := by
  refine mkMet (Qc := fun A => QI g A (p_I (CX g q lb) [56] [89, 90, 91] [] σ Q)) (by decide) (Nat.le_of_ble_eq_true rfl) ?_
  intro p e s m below meth c A H ls hx hb hr hml hown hts hlk hnm hsz hP hK hNb hD hA hAe hS hX hl
  have hl : lv_has ls 4 [(0, .ref (q 10))] := hl
  have hB := hN
  have hF : f_r [56] [89, 90, 91] [] σ σ := f_0
  obtain ⟨locs, hlocs⟩ : ∃ z : List Loc, z = [] := ⟨_, rfl⟩
  rw [← hlocs] at hS ⊢
  obtain ⟨P14, hP14⟩ : ∃ P : Int → Int → S0 → Prop, ∀ (u1 : Int) (u2 : Int) (τ : S0), (P u1 u2 τ ↔ (rg u1 → rg u2 → n_m τ → f_r [56] [89, 90, 91] [] σ τ → ∀ (H : Heap) (locs : List Loc) (ls : Array Slot), KP g (CX g q lb τ) H → va_D A (CX g q lb τ) → va_S A s.heap H locs → lv_has ls 4 [(0, .ref (q 10)), (1, .int (I u1)), (2, .int (I u2))] → W p l e ({ frames := 1, cells := 0, slots := 0, locals := 24 }) s m [.ref (q 10)].toArray below meth c H locs 0 0 (MQ below (QI g A (p_I (CX g q lb) [56] [89, 90, 91] [] σ Q)) [.ref (q 10)].toArray s 0 0 A) (F0 m 14 ls []))) := ⟨_, fun _ _ _ => Iff.rfl⟩
  refine (fun hw => ?_) (hw P14 ?_)
  ·
    refine lv_aload_n hx hb dX11_fitsPattern_0 rfl (lv_at hl 0 rfl) ?_
    refine lv_dup hx hb dX11_fitsPattern_1 rfl ?_
    refine gfX11_turn hx hb hts hK hP hown (hts _ tw_757) (x := σ.1 56) rfl dX11_fitsPattern_2 ?_
    refine lv_iconst (v := I 1) hx hb dX11_fitsPattern_5 rfl ?_
    refine bi_iadd hx hb dX11_fitsPattern_6 ?_
    refine bi_hav (fun x1 r_x1 => ?_)
    replace hw := hw x1 r_x1
    refine pfX11_turn hx hb hts hK hP hD hS hown (hts _ tw_757) dX11_fitsPattern_7 (fun H locs hP hD hS => ?_)
    have hN : n_m (s_v σ 56 x1) := n_v (i := 56) hN (r_x1 : rg x1)
    have hF : f_r [56] [89, 90, 91] [] σ (s_v σ 56 x1) := f_v hF (by decide)
    refine lv_iconst (v := I 0) hx hb dX11_fitsPattern_10 rfl ?_
    refine lv_istore_n (lv' := [(1, .int (I 0)), (0, .ref (q 10))]) hx hb dX11_fitsPattern_11 rfl hl (by decide) rfl (fun ls hl => ?_)
    refine lv_iconst (v := I 0) hx hb dX11_fitsPattern_12 rfl ?_
    refine lv_istore_n (lv' := [(2, .int (I 0)), (1, .int (I 0)), (0, .ref (q 10))]) hx hb dX11_fitsPattern_13 rfl hl (by decide) rfl (fun ls hl => ?_)
    exact (hP14 _ _ _).mp hw (by decide) (by decide) hN hF H locs ls hP hD hS (lv_sub hl [2, 1, 0] rfl)
  ·
    intro u1 u2 τ hw
    refine (hP14 _ _ _).mpr ?_
    intro r_u1 r_u2 hN hF H locs ls hP hD hS hl
    have hB := hN
    refine lv_iload_n hx hb dX11_fitsPattern_14 rfl (lv_at hl 2 rfl) ?_
    refine lv_aload_n hx hb dX11_fitsPattern_15 rfl (lv_at hl 0 rfl) ?_
    refine gfX11_patternSize hx hb hts hK hP hown (hts _ tw_749) (x := τ.1 55) rfl dX11_fitsPattern_16 ?_
    refine bi_icmp_ge (tgt := 102) hx hb r_u2 (hB.1 55) dX11_fitsPattern_19 (by decide) (fun c2 => ?_) (fun c2 => ?_)
    ·
      replace hw := hw.1 c2
      refine lv_iload_n hx hb dX11_fitsPattern_102 rfl (lv_at hl 1 rfl) ?_
      refine lv_aload_n hx hb dX11_fitsPattern_103 rfl (lv_at hl 0 rfl) ?_
      refine gfX11_size hx hb hts hK hP hown (hts _ tw_745) (x := τ.1 54) rfl dX11_fitsPattern_104 ?_
      refine bi_icmp_ne (tgt := 114) hx hb r_u1 (hB.1 54) dX11_fitsPattern_107 (by decide) (fun c3 => ?_) (fun c3 => ?_)
      ·
        replace hw := hw.1 c3
        refine lv_iconst (v := I 0) hx hb dX11_fitsPattern_114 rfl ?_
        exact xrz hx hb hr (by decide) hlk hP hK hD hS ⟨_, _, (by decide), rfl, hN, hF, rfl, hw⟩ (Nat.le_of_ble_eq_true rfl) (Nat.le_of_ble_eq_true rfl) dX11_fitsPattern_115
      ·
        replace hw := hw.2 c3
        refine lv_iconst (v := I 1) hx hb dX11_fitsPattern_110 rfl ?_
        refine lv_goto (tgt := 115) hx hb dX11_fitsPattern_111 (by decide) ?_
        exact xrz hx hb hr (by decide) hlk hP hK hD hS ⟨_, _, (by decide), rfl, hN, hF, rfl, hw⟩ (Nat.le_of_ble_eq_true rfl) (Nat.le_of_ble_eq_true rfl) dX11_fitsPattern_115
    ·
      replace hw := hw.2 c2
      refine lv_aload_n hx hb dX11_fitsPattern_22 rfl (lv_at hl 0 rfl) ?_
      refine gfX11_pattern hx hb hts hK hP hown (hts _ tw_748) dX11_fitsPattern_23 ?_
      refine lv_iload_n hx hb dX11_fitsPattern_26 rfl (lv_at hl 2 rfl) ?_
      obtain ⟨c4, hw⟩ := hw
      refine ldCX11_pattern hx hb hK hP hN c4 dX11_fitsPattern_27 (fun x5 r_x5 e_x5 => ?_)
      replace hw := hw x5 r_x5 e_x5
      refine lv_istore_n (lv' := [(3, .int (I x5)), (0, .ref (q 10)), (1, .int (I u1)), (2, .int (I u2))]) hx hb dX11_fitsPattern_28 rfl hl (by decide) rfl (fun ls hl => ?_)
      refine lv_iload_n hx hb dX11_fitsPattern_29 rfl (lv_at hl 2 rfl) ?_
      refine lv_aload_n hx hb dX11_fitsPattern_30 rfl (lv_at hl 1 rfl) ?_
      refine gfX11_size hx hb hts hK hP hown (hts _ tw_745) (x := τ.1 54) rfl dX11_fitsPattern_31 ?_
      refine bi_icmp_lt (tgt := 39) hx hb r_u1 (hB.1 54) dX11_fitsPattern_34 (by decide) (fun c6 => ?_) (fun c6 => ?_)
      ·
        replace hw := hw.1 c6
        refine lv_aload_n hx hb dX11_fitsPattern_39 rfl (lv_at hl 1 rfl) ?_
        refine gfX11_library hx hb hts hK hP hown (hts _ tw_737) dX11_fitsPattern_40 ?_
        refine gfNX3_kind hx hb hts hK hP hown (nb_use hNb tn_69) dX11_fitsPattern_43 ?_
        refine lv_iload_n hx hb dX11_fitsPattern_46 rfl (lv_at hl 0 rfl) ?_
        obtain ⟨c7, hw⟩ := hw
        refine ldCX3_kind hx hb hK hP hN c7 dX11_fitsPattern_47 (fun x8 r_x8 e_x8 => ?_)
        replace hw := hw x8 r_x8 e_x8
        refine bi_if_ne (tgt := 78) hx hb r_x8 dX11_fitsPattern_48 (by decide) (fun c9 => ?_) (fun c9 => ?_)
        ·
          replace hw := hw.1 c9
          refine lv_iload_n hx hb dX11_fitsPattern_78 rfl (lv_at hl 0 rfl) ?_
          refine lv_aload_n hx hb dX11_fitsPattern_79 rfl (lv_at hl 1 rfl) ?_
          refine gfX11_rule hx hb hts hK hP hown (hts _ tw_740) dX11_fitsPattern_80 ?_
          refine lv_iload_n hx hb dX11_fitsPattern_83 rfl (lv_at hl 2 rfl) ?_
          obtain ⟨c10, hw⟩ := hw
          refine ldCX11_rule hx hb hK hP hN c10 dX11_fitsPattern_84 (fun x11 r_x11 e_x11 => ?_)
          replace hw := hw x11 r_x11 e_x11
          refine bi_icmp_ne (tgt := 94) hx hb r_x5 r_x11 dX11_fitsPattern_85 (by decide) (fun c12 => ?_) (fun c12 => ?_)
          ·
            replace hw := hw.1 c12
            refine lv_iconst (v := I 0) hx hb dX11_fitsPattern_94 rfl ?_
            exact xrz hx hb hr (by decide) hlk hP hK hD hS ⟨_, _, (by decide), rfl, hN, hF, rfl, hw⟩ (Nat.le_of_ble_eq_true rfl) (Nat.le_of_ble_eq_true rfl) dX11_fitsPattern_95
          ·
            replace hw := hw.2 c12
            refine lv_iinc (v := I (u1 + 1)) (lv' := [(1, .int (I (u1 + 1))), (3, .int (I x5)), (0, .ref (q 10)), (2, .int (I u2))]) hx hb dX11_fitsPattern_88 hl (k := 2) rfl (I_add _ _) (by decide) rfl (fun ls hl => ?_)
            refine lv_goto (tgt := 96) hx hb dX11_fitsPattern_91 (by decide) ?_
            refine lv_iinc (v := I (u2 + 1)) (lv' := [(2, .int (I (u2 + 1))), (1, .int (I (u1 + 1))), (3, .int (I x5)), (0, .ref (q 10))]) hx hb dX11_fitsPattern_96 hl (k := 3) rfl (I_add _ _) (by decide) rfl (fun ls hl => ?_)
            refine lv_goto (tgt := 14) hx hb dX11_fitsPattern_99 (by decide) ?_
            obtain ⟨c13, hw⟩ := hw
            obtain ⟨c14, hw⟩ := hw
            exact (hP14 _ _ _).mp hw c13 c14 hN hF H locs ls hP hD hS (lv_sub hl [3, 1, 0] rfl)
        ·
          replace hw := hw.2 c9
          refine lv_aload_n hx hb dX11_fitsPattern_51 rfl (lv_at hl 1 rfl) ?_
          refine lv_aload_n hx hb dX11_fitsPattern_52 rfl (lv_at hl 1 rfl) ?_
          refine gfX11_library hx hb hts hK hP hown (hts _ tw_737) dX11_fitsPattern_53 ?_
          refine lv_iload_n hx hb dX11_fitsPattern_56 rfl (lv_at hl 0 rfl) ?_
          obtain ⟨Q15, hc, hw⟩ := hw
          refine wc_i (X := CX g q lb) (va_runV (As := [.int (I x5)]) (rest := [.ref (q 10)]) ⟨hx, hb, hml, hown, hts⟩ (L_X3_variableOf l g q lb hlb r_x5 hN hc H.size) (cwV 1 hts (TB_V tw_1797 tw_1022 tw_1023 tw_2 co_X3_variableOf) rfl rfl rfl (by decide +kernel) ⟨Nat.le_of_ble_eq_true rfl, Nat.le_of_ble_eq_true rfl⟩) (preV (q0 := 1) (ci := 3) rfl xT_bl hP hK hNb hD rfl rfl xT_at) rfl rfl hl.1 rfl (lv_room (Nat.le_of_ble_eq_true rfl)) dX11_fitsPattern_57 ⟨Nat.le_of_ble_eq_true rfl, Nat.le_of_ble_eq_true rfl⟩) hP hD hS hA (fun x16 H locs r_x16 hq hP hD hS => ?_)
          replace hw := hw x16 r_x16 hq
          refine lv_iload_n hx hb dX11_fitsPattern_60 rfl (lv_at hl 2 rfl) ?_
          obtain ⟨Q18, hc, hw⟩ := hw
          refine wc_I (X := CX g q lb) (va_runV (As := [.int (I x16), .int (I u1)]) (rest := []) ⟨hx, hb, hml, hown, hts⟩ (L_X11_binds l g q lb hlb r_x16 r_u1 hN hc H.size) (cwV 2 hts (TB_V tw_1937 tw_1939 ts_95 tw_12 co_X11_binds) rfl rfl rfl (by decide +kernel) ⟨Nat.le_of_ble_eq_true rfl, Nat.le_of_ble_eq_true rfl⟩) (preV (q0 := 10) (ci := 11) rfl xT_bl hP hK hNb hD rfl rfl xT_at) rfl rfl hl.1 rfl (lv_room (Nat.le_of_ble_eq_true rfl)) dX11_fitsPattern_61 ⟨Nat.le_of_ble_eq_true rfl, Nat.le_of_ble_eq_true rfl⟩) hP hD hS hA (fun x19 τ20 H locs r_x19 hN hf hq hP hD hS => ?_)
          replace hw := hw x19 τ20 r_x19 hN hf hq
          have hF : f_r [56] [89, 90, 91] [] σ τ20 := f_t hF hf (by decide) (by decide) (by decide)
          have hB := hN
          refine bi_if_ne (tgt := 69) hx hb r_x19 dX11_fitsPattern_64 (by decide) (fun c21 => ?_) (fun c21 => ?_)
          ·
            replace hw := hw.1 c21
            refine lv_aload_n hx hb dX11_fitsPattern_69 rfl (lv_at hl 1 rfl) ?_
            refine lv_iload_n hx hb dX11_fitsPattern_70 rfl (lv_at hl 2 rfl) ?_
            obtain ⟨Q22, hc, hw⟩ := hw
            refine wc_i (X := CX g q lb) (va_runV (As := [.int (I u1)]) (rest := []) ⟨hx, hb, hml, hown, hts⟩ (L_X11_behind l g q lb hlb r_u1 hN hc H.size) (cwV 1 hts (TB_V tw_1941 tw_1826 tw_1827 tw_12 co_X11_behind) rfl rfl rfl (by decide +kernel) ⟨Nat.le_of_ble_eq_true rfl, Nat.le_of_ble_eq_true rfl⟩) (preV (q0 := 10) (ci := 11) rfl xT_bl hP hK hNb hD rfl rfl xT_at) rfl rfl hl.1 rfl (lv_room (Nat.le_of_ble_eq_true rfl)) dX11_fitsPattern_71 ⟨Nat.le_of_ble_eq_true rfl, Nat.le_of_ble_eq_true rfl⟩) hP hD hS hA (fun x23 H locs r_x23 hq hP hD hS => ?_)
            replace hw := hw x23 r_x23 hq
            refine lv_istore_n (lv' := [(1, .int (I x23)), (3, .int (I x5)), (0, .ref (q 10)), (2, .int (I u2))]) hx hb dX11_fitsPattern_74 rfl hl (by decide) rfl (fun ls hl => ?_)
            refine lv_goto (tgt := 96) hx hb dX11_fitsPattern_75 (by decide) ?_
            refine lv_iinc (v := I (u2 + 1)) (lv' := [(2, .int (I (u2 + 1))), (1, .int (I x23)), (3, .int (I x5)), (0, .ref (q 10))]) hx hb dX11_fitsPattern_96 hl (k := 3) rfl (I_add _ _) (by decide) rfl (fun ls hl => ?_)
            refine lv_goto (tgt := 14) hx hb dX11_fitsPattern_99 (by decide) ?_
            obtain ⟨c25, hw⟩ := hw
            exact (hP14 _ _ _).mp hw r_x23 c25 hN hF H locs ls hP hD hS (lv_sub hl [3, 1, 0] rfl)
          ·
            replace hw := hw.2 c21
            refine lv_iconst (v := I 0) hx hb dX11_fitsPattern_67 rfl ?_
            exact xrz hx hb hr (by decide) hlk hP hK hD hS ⟨_, _, (by decide), rfl, hN, hF, rfl, hw⟩ (Nat.le_of_ble_eq_true rfl) (Nat.le_of_ble_eq_true rfl) dX11_fitsPattern_68
      ·
        replace hw := hw.2 c6
        refine lv_iconst (v := I 0) hx hb dX11_fitsPattern_37 rfl ?_
        exact xrz hx hb hr (by decide) hlk hP hK hD hS ⟨_, _, (by decide), rfl, hN, hF, rfl, hw⟩ (Nat.le_of_ble_eq_true rfl) (Nat.le_of_ble_eq_true rfl) dX11_fitsPattern_38
def W_X11_bindsEssentials (n1 : Int) (σ : S0) (Q : Int → Prop) : Prop :=
  ∀ (P12 : Int → Int → Int → Prop),
  (∀ (u1 : Int) (u2 : Int) (u3 : Int), ((0 ≤ u1 ∧ u1 < 1500) ∧ (∀ (x4 : Int), rg x4 → x4 = σ.2.1 28 u1 → (rg (u2 + x4) ∧ ((u2 + x4) ≤ u3 → Q 1) ∧ (u3 < (u2 + x4) → (0 ≤ u3 ∧ u3 < 90000) ∧ (∀ (x8 : Int), rg x8 → x8 = σ.2.1 29 u3 → ((0 ≤ x8 ∧ x8 < 1500) ∧ (∀ (x10 : Int), rg x10 → x10 = σ.2.1 13 x8 → ((¬ x10 = 0 → rg (u3 + 1) ∧ P12 u1 u2 (u3 + 1)) ∧ (x10 = 0 → ∃ (Q13 : Int → Prop), W_X3_variableOf x8 σ Q13 ∧ ∀ (x14 : Int), rg x14 → Q13 x14 → ((0 ≤ x14 ∧ x14 < 1000) ∧ (∀ (x17 : Int), rg x17 → x17 = σ.2.1 91 x14 → ((x17 = σ.1 56 → rg (u3 + 1) ∧ P12 u1 u2 (u3 + 1)) ∧ (¬ x17 = σ.1 56 → Q 0))))))))))))) → P12 u1 u2 u3) →
  (0 ≤ n1 ∧ n1 < 1500) ∧ (∀ (x2 : Int), rg x2 → x2 = σ.2.1 27 n1 → (P12 n1 x2 x2))
set_option maxRecDepth 100000 in
set_option maxHeartbeats 4000000 in
theorem L_X11_bindsEssentials (l : Launch) (g : gG) (q : Nat → Nat) (lb : Nat) (hlb : lb < 2 ^ 31) {n1 : Int} {σ : S0} {Q : Int → Prop} (r_n1 : rg n1) (hN : n_m σ) (hw : W_X11_bindsEssentials n1 σ Q) (sz : Nat) : MetI l yX11_bindsEssentials cX11_bindsEssentials 5 (some .boolean) { frames := 1, cells := 0, slots := 0, locals := 21 } g [.ref (q 10), .int (I n1)] (CX g q lb σ) sz xT (p_i (CX g q lb) σ Q) 0 0 := by
  refine mkMet (Qc := fun A => QI g A (p_i (CX g q lb) σ Q)) (by decide) (Nat.le_of_ble_eq_true rfl) ?_
  intro p e s m below meth c A H ls hx hb hr hml hown hts hlk hnm hsz hP hK hNb hD hA hAe hS hX hl
  have hl : lv_has ls 5 [(0, .ref (q 10)), (1, .int (I n1))] := hl
  have hB := hN
  obtain ⟨locs, hlocs⟩ : ∃ z : List Loc, z = [] := ⟨_, rfl⟩
  rw [← hlocs] at hS ⊢
  obtain ⟨P12, hP12⟩ : ∃ P : Int → Int → Int → Prop, ∀ (u1 : Int) (u2 : Int) (u3 : Int), (P u1 u2 u3 ↔ (rg u1 → rg u2 → rg u3 → ∀ (H : Heap) (locs : List Loc) (ls : Array Slot), KP g (CX g q lb σ) H → va_D A (CX g q lb σ) → va_S A s.heap H locs → lv_has ls 5 [(0, .ref (q 10)), (1, .int (I u1)), (2, .int (I u2)), (3, .int (I u3))] → W p l e ({ frames := 1, cells := 0, slots := 0, locals := 21 }) s m [.ref (q 10), .int (I n1)].toArray below meth c H locs 0 0 (MQ below (QI g A (p_i (CX g q lb) σ Q)) [.ref (q 10), .int (I n1)].toArray s 0 0 A) (F0 m 12 ls []))) := ⟨_, fun _ _ _ => Iff.rfl⟩
  refine (fun hw => ?_) (hw P12 ?_)
  ·
    refine lv_aload_n hx hb dX11_bindsEssentials_0 rfl (lv_at hl 0 rfl) ?_
    refine gfX11_assertions hx hb hts hK hP hown (hts _ tw_738) dX11_bindsEssentials_1 ?_
    refine gfNX0_frameAt hx hb hts hK hP hown (nb_use hNb tn_235) dX11_bindsEssentials_4 ?_
    refine lv_iload_n hx hb dX11_bindsEssentials_7 rfl (lv_at hl 1 rfl) ?_
    obtain ⟨c1, hw⟩ := hw
    refine ldCX0_frameAt hx hb hK hP hN c1 dX11_bindsEssentials_8 (fun x2 r_x2 e_x2 => ?_)
    replace hw := hw x2 r_x2 e_x2
    refine lv_istore_n (lv' := [(2, .int (I x2)), (0, .ref (q 10)), (1, .int (I n1))]) hx hb dX11_bindsEssentials_9 rfl hl (by decide) rfl (fun ls hl => ?_)
    refine lv_iload_n hx hb dX11_bindsEssentials_10 rfl (lv_at hl 0 rfl) ?_
    refine lv_istore_n (lv' := [(3, .int (I x2)), (2, .int (I x2)), (0, .ref (q 10)), (1, .int (I n1))]) hx hb dX11_bindsEssentials_11 rfl hl (by decide) rfl (fun ls hl => ?_)
    exact (hP12 _ _ _).mp hw r_n1 r_x2 r_x2  H locs ls hP hD hS (lv_sub hl [2, 3, 1, 0] rfl)
  ·
    intro u1 u2 u3 hw
    refine (hP12 _ _ _).mpr ?_
    intro r_u1 r_u2 r_u3 H locs ls hP hD hS hl
    refine lv_iload_n hx hb dX11_bindsEssentials_12 rfl (lv_at hl 3 rfl) ?_
    refine lv_iload_n hx hb dX11_bindsEssentials_13 rfl (lv_at hl 2 rfl) ?_
    refine lv_aload_n hx hb dX11_bindsEssentials_14 rfl (lv_at hl 0 rfl) ?_
    refine gfX11_assertions hx hb hts hK hP hown (hts _ tw_738) dX11_bindsEssentials_15 ?_
    refine gfNX0_frameSize hx hb hts hK hP hown (nb_use hNb tn_242) dX11_bindsEssentials_18 ?_
    refine lv_iload_n hx hb dX11_bindsEssentials_21 rfl (lv_at hl 1 rfl) ?_
    obtain ⟨c3, hw⟩ := hw
    refine ldCX0_frameSize hx hb hK hP hN c3 dX11_bindsEssentials_22 (fun x4 r_x4 e_x4 => ?_)
    replace hw := hw x4 r_x4 e_x4
    refine bi_iadd hx hb dX11_bindsEssentials_23 ?_
    obtain ⟨c5, hw⟩ := hw
    refine bi_icmp_ge (tgt := 80) hx hb r_u3 c5 dX11_bindsEssentials_24 (by decide) (fun c6 => ?_) (fun c6 => ?_)
    ·
      replace hw := hw.1 c6
      refine lv_iconst (v := I 1) hx hb dX11_bindsEssentials_80 rfl ?_
      exact xrz hx hb hr (by decide) hlk hP hK hD hS ⟨_, (by decide), rfl, rfl, hw⟩ (Nat.le_of_ble_eq_true rfl) (Nat.le_of_ble_eq_true rfl) dX11_bindsEssentials_81
    ·
      replace hw := hw.2 c6
      refine lv_aload_n hx hb dX11_bindsEssentials_27 rfl (lv_at hl 0 rfl) ?_
      refine gfX11_assertions hx hb hts hK hP hown (hts _ tw_738) dX11_bindsEssentials_28 ?_
      refine gfNX0_hypotheses hx hb hts hK hP hown (nb_use hNb tn_250) dX11_bindsEssentials_31 ?_
      refine lv_iload_n hx hb dX11_bindsEssentials_34 rfl (lv_at hl 3 rfl) ?_
      obtain ⟨c7, hw⟩ := hw
      refine ldCX0_hypotheses hx hb hK hP hN c7 dX11_bindsEssentials_35 (fun x8 r_x8 e_x8 => ?_)
      replace hw := hw x8 r_x8 e_x8
      refine lv_istore (lv' := [(4, .int (I x8)), (0, .ref (q 10)), (1, .int (I u1)), (2, .int (I u2)), (3, .int (I u3))]) hx hb dX11_bindsEssentials_36 hl (by decide) rfl (fun ls hl => ?_)
      refine lv_aload_n hx hb dX11_bindsEssentials_38 rfl (lv_at hl 1 rfl) ?_
      refine gfX11_library hx hb hts hK hP hown (hts _ tw_737) dX11_bindsEssentials_39 ?_
      refine gfNX3_kind hx hb hts hK hP hown (nb_use hNb tn_69) dX11_bindsEssentials_42 ?_
      refine lv_iload hx hb dX11_bindsEssentials_45 (lv_at hl 0 rfl) ?_
      obtain ⟨c9, hw⟩ := hw
      refine ldCX3_kind hx hb hK hP hN c9 dX11_bindsEssentials_47 (fun x10 r_x10 e_x10 => ?_)
      replace hw := hw x10 r_x10 e_x10
      refine bi_if_ne (tgt := 74) hx hb r_x10 dX11_bindsEssentials_48 (by decide) (fun c11 => ?_) (fun c11 => ?_)
      ·
        replace hw := hw.1 c11
        refine lv_iinc (v := I (u3 + 1)) (lv' := [(3, .int (I (u3 + 1))), (4, .int (I x8)), (0, .ref (q 10)), (1, .int (I u1)), (2, .int (I u2))]) hx hb dX11_bindsEssentials_74 hl (k := 4) rfl (I_add _ _) (by decide) rfl (fun ls hl => ?_)
        refine lv_goto (tgt := 12) hx hb dX11_bindsEssentials_77 (by decide) ?_
        obtain ⟨c12, hw⟩ := hw
        exact (hP12 _ _ _).mp hw r_u1 r_u2 c12  H locs ls hP hD hS (lv_sub hl [2, 3, 4, 0] rfl)
      ·
        replace hw := hw.2 c11
        refine lv_aload_n hx hb dX11_bindsEssentials_51 rfl (lv_at hl 1 rfl) ?_
        refine gfX11_bound hx hb hts hK hP hown (hts _ tw_756) dX11_bindsEssentials_52 ?_
        refine lv_aload_n hx hb dX11_bindsEssentials_55 rfl (lv_at hl 1 rfl) ?_
        refine gfX11_library hx hb hts hK hP hown (hts _ tw_737) dX11_bindsEssentials_56 ?_
        refine lv_iload hx hb dX11_bindsEssentials_59 (lv_at hl 0 rfl) ?_
        obtain ⟨Q13, hc, hw⟩ := hw
        refine wc_i (X := CX g q lb) (va_runV (As := [.int (I x8)]) (rest := [.ref (q 113)]) ⟨hx, hb, hml, hown, hts⟩ (L_X3_variableOf l g q lb hlb r_x8 hN hc H.size) (cwV 1 hts (TB_V tw_1797 tw_1022 tw_1023 tw_2 co_X3_variableOf) rfl rfl rfl (by decide +kernel) ⟨Nat.le_of_ble_eq_true rfl, Nat.le_of_ble_eq_true rfl⟩) (preV (q0 := 1) (ci := 3) rfl xT_bl hP hK hNb hD rfl rfl xT_at) rfl rfl hl.1 rfl (lv_room (Nat.le_of_ble_eq_true rfl)) dX11_bindsEssentials_61 ⟨Nat.le_of_ble_eq_true rfl, Nat.le_of_ble_eq_true rfl⟩) hP hD hS hA (fun x14 H locs r_x14 hq hP hD hS => ?_)
        replace hw := hw x14 r_x14 hq
        obtain ⟨c16, hw⟩ := hw
        refine ldCX11_bound hx hb hK hP hN c16 dX11_bindsEssentials_64 (fun x17 r_x17 e_x17 => ?_)
        replace hw := hw x17 r_x17 e_x17
        refine lv_aload_n hx hb dX11_bindsEssentials_65 rfl (lv_at hl 1 rfl) ?_
        refine gfX11_turn hx hb hts hK hP hown (hts _ tw_757) (x := σ.1 56) rfl dX11_bindsEssentials_66 ?_
        refine bi_icmp_eq (tgt := 74) hx hb r_x17 (hB.1 56) dX11_bindsEssentials_69 (by decide) (fun c18 => ?_) (fun c18 => ?_)
        ·
          replace hw := hw.1 c18
          refine lv_iinc (v := I (u3 + 1)) (lv' := [(3, .int (I (u3 + 1))), (4, .int (I x8)), (0, .ref (q 10)), (1, .int (I u1)), (2, .int (I u2))]) hx hb dX11_bindsEssentials_74 hl (k := 4) rfl (I_add _ _) (by decide) rfl (fun ls hl => ?_)
          refine lv_goto (tgt := 12) hx hb dX11_bindsEssentials_77 (by decide) ?_
          obtain ⟨c19, hw⟩ := hw
          exact (hP12 _ _ _).mp hw r_u1 r_u2 c19  H locs ls hP hD hS (lv_sub hl [2, 3, 4, 0] rfl)
        ·
          replace hw := hw.2 c18
          refine lv_iconst (v := I 0) hx hb dX11_bindsEssentials_72 rfl ?_
          exact xrz hx hb hr (by decide) hlk hP hK hD hS ⟨_, (by decide), rfl, rfl, hw⟩ (Nat.le_of_ble_eq_true rfl) (Nat.le_of_ble_eq_true rfl) dX11_bindsEssentials_73
def W_X12_putFour (n1 : Int) (σ : S0) (Q : S0 → Prop) : Prop :=
  ∀ (P3 : Int → Int → S0 → Prop),
  (∀ (u1 : Int) (u2 : Int) (τ : S0), ((u2 < 0 → Q τ) ∧ (0 ≤ u2 → ∀ (x2 : Int), rg x2 → (∀ (x3 : Int), 0 ≤ x3 → x3 ≤ 65535 → x3 = (x2 % 256) % 65536 → ((0 ≤ τ.1 0 ∧ τ.1 0 < 60000) ∧ (rg (τ.1 0 + 1) ∧ rg (u2 + (-8)) ∧ P3 u1 (u2 + (-8)) (s_v (s_a τ 0 (τ.1 0) x3) 0 (τ.1 0 + 1))))))) → P3 u1 u2 τ) →
  P3 n1 24 σ
set_option maxRecDepth 100000 in
set_option maxHeartbeats 4000000 in
theorem L_X12_putFour (l : Launch) (g : gG) (q : Nat → Nat) (lb : Nat) (hlb : lb < 2 ^ 31) {n1 : Int} {σ : S0} {Q : S0 → Prop} (r_n1 : rg n1) (hN : n_m σ) (hw : W_X12_putFour n1 σ Q) (sz : Nat) : MetV l yX12_putFour cX12_putFour 3 { frames := 0, cells := 0, slots := 0, locals := 0 } g [.ref (q 0), .int (I n1)] (CX g q lb σ) sz xT (p_V (CX g q lb) [0] [0] [] σ Q) 0 0 := by
  refine mkMet (Qc := fun A => QV g A (p_V (CX g q lb) [0] [0] [] σ Q)) (by decide) (Nat.le_of_ble_eq_true rfl) ?_
  intro p e s m below meth c A H ls hx hb hr hml hown hts hlk hnm hsz hP hK hNb hD hA hAe hS hX hl
  have hl : lv_has ls 3 [(0, .ref (q 0)), (1, .int (I n1))] := hl
  have hB := hN
  have hF : f_r [0] [0] [] σ σ := f_0
  obtain ⟨locs, hlocs⟩ : ∃ z : List Loc, z = [] := ⟨_, rfl⟩
  rw [← hlocs] at hS ⊢
  obtain ⟨P3, hP3⟩ : ∃ P : Int → Int → S0 → Prop, ∀ (u1 : Int) (u2 : Int) (τ : S0), (P u1 u2 τ ↔ (rg u1 → rg u2 → n_m τ → f_r [0] [0] [] σ τ → ∀ (H : Heap) (locs : List Loc) (ls : Array Slot), KP g (CX g q lb τ) H → va_D A (CX g q lb τ) → va_S A s.heap H locs → lv_has ls 3 [(0, .ref (q 0)), (1, .int (I u1)), (2, .int (I u2))] → W p l e ({ frames := 0, cells := 0, slots := 0, locals := 0 }) s m [.ref (q 0), .int (I n1)].toArray below meth c H locs 0 0 (MQ below (QV g A (p_V (CX g q lb) [0] [0] [] σ Q)) [.ref (q 0), .int (I n1)].toArray s 0 0 A) (F0 m 3 ls []))) := ⟨_, fun _ _ _ => Iff.rfl⟩
  refine (fun hw => ?_) (hw P3 ?_)
  ·
    refine lv_bipush (v := I 24) hx hb dX12_putFour_0 (by decide) ?_
    refine lv_istore_n (lv' := [(2, .int (I 24)), (0, .ref (q 0)), (1, .int (I n1))]) hx hb dX12_putFour_2 rfl hl (by decide) rfl (fun ls hl => ?_)
    exact (hP3 _ _ _).mp hw r_n1 (by decide) hN hF H locs ls hP hD hS (lv_sub hl [1, 2, 0] rfl)
  ·
    intro u1 u2 τ hw
    refine (hP3 _ _ _).mpr ?_
    intro r_u1 r_u2 hN hF H locs ls hP hD hS hl
    have hB := hN
    refine lv_iload_n hx hb dX12_putFour_3 rfl (lv_at hl 2 rfl) ?_
    refine bi_if_lt (tgt := 40) hx hb r_u2 dX12_putFour_4 (by decide) (fun c1 => ?_) (fun c1 => ?_)
    ·
      replace hw := hw.1 c1
      exact xrv hx hb hr hlk hP hK hD hS ⟨_, hN, hF, rfl, hw⟩ (Nat.le_of_ble_eq_true rfl) (Nat.le_of_ble_eq_true rfl) dX12_putFour_40
    ·
      replace hw := hw.2 c1
      refine lv_aload_n hx hb dX12_putFour_7 rfl (lv_at hl 0 rfl) ?_
      refine gfX12_tape hx hb hts hK hP hown (hts _ tw_884) dX12_putFour_8 ?_
      refine lv_aload_n hx hb dX12_putFour_11 rfl (lv_at hl 0 rfl) ?_
      refine gfX12_tapeLength hx hb hts hK hP hown (hts _ tw_885) (x := τ.1 0) rfl dX12_putFour_12 ?_
      refine lv_iload_n hx hb dX12_putFour_15 rfl (lv_at hl 1 rfl) ?_
      refine lv_iload_n hx hb dX12_putFour_16 rfl (lv_at hl 2 rfl) ?_
      refine lv_ishr hx hb dX12_putFour_17 ?_
      refine bi_hav (fun x2 r_x2 => ?_)
      replace hw := hw x2 r_x2
      refine lv_sipush (v := I 255) hx hb dX12_putFour_18 (by decide) ?_
      refine bi_iandm hx hb 255 8 256 (by decide) (by decide) (by omega) dX12_putFour_21 ?_
      refine bi_i2c hx hb dX12_putFour_22 (fun x3 l_x3 h_x3 e_x3 => ?_)
      replace hw := hw x3 l_x3 h_x3 e_x3
      obtain ⟨c4, hw⟩ := hw
      refine sdCX12_tape hx hb hK hP hD hS c4 ⟨l_x3, h_x3⟩ dX12_putFour_23 (fun H locs hP hD hS => ?_)
      have hN : n_m (s_a τ 0 (τ.1 0) x3) := n_a (k := 0) (j := τ.1 0) hN ((⟨by omega, by omega⟩ : rg x3) : rg x3)
      have hF : f_r [0] [0] [] σ (s_a τ 0 (τ.1 0) x3) := f_a hF (by decide)
      refine lv_aload_n hx hb dX12_putFour_24 rfl (lv_at hl 0 rfl) ?_
      refine lv_dup hx hb dX12_putFour_25 rfl ?_
      refine gfX12_tapeLength hx hb hts hK hP hown (hts _ tw_885) (x := τ.1 0) rfl dX12_putFour_26 ?_
      refine lv_iconst (v := I 1) hx hb dX12_putFour_29 rfl ?_
      refine bi_iadd hx hb dX12_putFour_30 ?_
      obtain ⟨c5, hw⟩ := hw
      refine pfX12_tapeLength hx hb hts hK hP hD hS hown (hts _ tw_885) dX12_putFour_31 (fun H locs hP hD hS => ?_)
      have hN : n_m (s_v (s_a τ 0 (τ.1 0) x3) 0 (τ.1 0 + 1)) := n_v (i := 0) hN (c5 : rg (τ.1 0 + 1))
      have hF : f_r [0] [0] [] σ (s_v (s_a τ 0 (τ.1 0) x3) 0 (τ.1 0 + 1)) := f_v hF (by decide)
      refine lv_iinc (v := I (u2 + (-8))) (lv' := [(2, .int (I (u2 + (-8)))), (0, .ref (q 0)), (1, .int (I u1))]) hx hb dX12_putFour_34 hl (k := 2) rfl (I_add _ _) (by decide) rfl (fun ls hl => ?_)
      refine lv_goto (tgt := 3) hx hb dX12_putFour_37 (by decide) ?_
      obtain ⟨c6, hw⟩ := hw
      exact (hP3 _ _ _).mp hw r_u1 c6 hN hF H locs ls hP hD hS (lv_sub hl [1, 2, 0] rfl)
def W_X12_feed (n1 : Int) (n2 : Int) (n3 : Int) (n4 : Int) (n5 : Int) (σ : S0) (Q : Int → S0 → Prop) : Prop :=
  ∀ (P18 : Int → Int → Int → Int → Int → Int → S0 → Prop),
  (∀ (u1 : Int) (u2 : Int) (u3 : Int) (u4 : Int) (u5 : Int) (k1 : Int) (τ : S0), ((0 ≤ k1 ∧ k1 ≤ 1) ∧ ((¬ k1 = 0 → ∃ (Q5 : S0 → Prop), W_X12_putFour u1 (s_v τ 1 k1) Q5 ∧ ∀ (τ7 : S0), n_m τ7 → f_r [0] [0] [] (s_v τ 1 k1) τ7 → Q5 τ7 → (∃ (Q8 : S0 → Prop), W_X12_putFour u2 τ7 Q8 ∧ ∀ (τ10 : S0), n_m τ10 → f_r [0] [0] [] τ7 τ10 → Q8 τ10 → (∃ (Q11 : S0 → Prop), W_X12_putFour u3 τ10 Q11 ∧ ∀ (τ13 : S0), n_m τ13 → f_r [0] [0] [] τ10 τ13 → Q11 τ13 → (∃ (Q14 : S0 → Prop), W_X12_putFour u4 τ13 Q14 ∧ ∀ (τ16 : S0), n_m τ16 → f_r [0] [0] [] τ13 τ16 → Q14 τ16 → (∃ (Q17 : S0 → Prop), W_X12_putFour u5 τ16 Q17 ∧ ∀ (τ19 : S0), n_m τ19 → f_r [0] [0] [] τ16 τ19 → Q17 τ19 → (Q (τ19.1 0) τ19)))))) ∧ (k1 = 0 → Q (-2) (s_v τ 1 k1)))) → P18 u1 u2 u3 u4 u5 k1 τ) →
  rg (σ.1 0 + 20) ∧ (60000 < (σ.1 0 + 20) → P18 n1 n2 n3 n4 n5 0 σ) ∧ ((σ.1 0 + 20) ≤ 60000 → P18 n1 n2 n3 n4 n5 1 σ)
set_option maxRecDepth 100000 in
set_option maxHeartbeats 4000000 in
theorem L_X12_feed (l : Launch) (g : gG) (q : Nat → Nat) (lb : Nat) (hlb : lb < 2 ^ 31) {n1 : Int} {n2 : Int} {n3 : Int} {n4 : Int} {n5 : Int} {σ : S0} {Q : Int → S0 → Prop} (r_n1 : rg n1) (r_n2 : rg n2) (r_n3 : rg n3) (r_n4 : rg n4) (r_n5 : rg n5) (hN : n_m σ) (hw : W_X12_feed n1 n2 n3 n4 n5 σ Q) (sz : Nat) : MetI l yX12_feed cX12_feed 6 (some .int) { frames := 1, cells := 0, slots := 0, locals := 22 } g [.ref (q 0), .int (I n1), .int (I n2), .int (I n3), .int (I n4), .int (I n5)] (CX g q lb σ) sz xT (p_I (CX g q lb) [0, 1] [0] [] σ Q) 0 0 := by
  refine mkMet (Qc := fun A => QI g A (p_I (CX g q lb) [0, 1] [0] [] σ Q)) (by decide) (Nat.le_of_ble_eq_true rfl) ?_
  intro p e s m below meth c A H ls hx hb hr hml hown hts hlk hnm hsz hP hK hNb hD hA hAe hS hX hl
  have hl : lv_has ls 6 [(0, .ref (q 0)), (1, .int (I n1)), (2, .int (I n2)), (3, .int (I n3)), (4, .int (I n4)), (5, .int (I n5))] := hl
  have hB := hN
  have hF : f_r [0, 1] [0] [] σ σ := f_0
  obtain ⟨locs, hlocs⟩ : ∃ z : List Loc, z = [] := ⟨_, rfl⟩
  rw [← hlocs] at hS ⊢
  obtain ⟨P18, hP18⟩ : ∃ P : Int → Int → Int → Int → Int → Int → S0 → Prop, ∀ (u1 : Int) (u2 : Int) (u3 : Int) (u4 : Int) (u5 : Int) (k1 : Int) (τ : S0), (P u1 u2 u3 u4 u5 k1 τ ↔ (rg u1 → rg u2 → rg u3 → rg u4 → rg u5 → rg k1 → n_m τ → f_r [0, 1] [0] [] σ τ → ∀ (H : Heap) (locs : List Loc) (ls : Array Slot), KP g (CX g q lb τ) H → va_D A (CX g q lb τ) → va_S A s.heap H locs → lv_has ls 6 [(0, .ref (q 0)), (1, .int (I u1)), (2, .int (I u2)), (3, .int (I u3)), (4, .int (I u4)), (5, .int (I u5))] → W p l e ({ frames := 1, cells := 0, slots := 0, locals := 22 }) s m [.ref (q 0), .int (I n1), .int (I n2), .int (I n3), .int (I n4), .int (I n5)].toArray below meth c H locs 0 0 (MQ below (QI g A (p_I (CX g q lb) [0, 1] [0] [] σ Q)) [.ref (q 0), .int (I n1), .int (I n2), .int (I n3), .int (I n4), .int (I n5)].toArray s 0 0 A) (F0 m 18 ls [.int (I k1), .ref (q 0)]))) := ⟨_, fun _ _ _ _ _ _ _ => Iff.rfl⟩
  refine (fun hw => ?_) (hw P18 ?_)
  ·
    refine lv_aload_n hx hb dX12_feed_0 rfl (lv_at hl 0 rfl) ?_
    refine lv_aload_n hx hb dX12_feed_1 rfl (lv_at hl 0 rfl) ?_
    refine gfX12_tapeLength hx hb hts hK hP hown (hts _ tw_885) (x := σ.1 0) rfl dX12_feed_2 ?_
    refine lv_bipush (v := I 20) hx hb dX12_feed_5 (by decide) ?_
    refine bi_iadd hx hb dX12_feed_7 ?_
    refine lv_ldc (own := RX12) (v := 60000) hx hb hown (hts _ tw_29) dX12_feed_8 ?_
    refine xtop (y := I 60000) (by decide) ?_
    obtain ⟨c1, hw⟩ := hw
    refine bi_icmp_gt (tgt := 17) hx hb c1 (by decide) dX12_feed_10 (by decide) (fun c2 => ?_) (fun c2 => ?_)
    ·
      replace hw := hw.1 c2
      refine lv_iconst (v := I 0) hx hb dX12_feed_17 rfl ?_
      exact (hP18 _ _ _ _ _ _ _).mp hw r_n1 r_n2 r_n3 r_n4 r_n5 (by decide) hN hF H locs ls hP hD hS (lv_sub hl [0, 1, 2, 3, 4, 5] rfl)
    ·
      replace hw := hw.2 c2
      refine lv_iconst (v := I 1) hx hb dX12_feed_13 rfl ?_
      refine lv_goto (tgt := 18) hx hb dX12_feed_14 (by decide) ?_
      exact (hP18 _ _ _ _ _ _ _).mp hw r_n1 r_n2 r_n3 r_n4 r_n5 (by decide) hN hF H locs ls hP hD hS (lv_sub hl [0, 1, 2, 3, 4, 5] rfl)
  ·
    intro u1 u2 u3 u4 u5 k1 τ hw
    refine (hP18 _ _ _ _ _ _ _).mpr ?_
    intro r_u1 r_u2 r_u3 r_u4 r_u5 r_k1 hN hF H locs ls hP hD hS hl
    have hB := hN
    obtain ⟨c3, hw⟩ := hw
    refine pfX12_canEnd hx hb hts hK hP hD hS hown (hts _ tw_886) c3 dX12_feed_18 (fun H locs hP hD hS => ?_)
    have hN : n_m (s_v τ 1 k1) := n_v (i := 1) hN (r_k1 : rg k1)
    have hF : f_r [0, 1] [0] [] σ (s_v τ 1 k1) := f_v hF (by decide)
    refine lv_aload_n hx hb dX12_feed_21 rfl (lv_at hl 0 rfl) ?_
    refine gfX12_canEnd hx hb hts hK hP hown (hts _ tw_886) (x := k1) rfl dX12_feed_22 ?_
    refine bi_if_ne (tgt := 31) hx hb r_k1 dX12_feed_25 (by decide) (fun c4 => ?_) (fun c4 => ?_)
    ·
      replace hw := hw.1 c4
      refine lv_aload_n hx hb dX12_feed_31 rfl (lv_at hl 0 rfl) ?_
      refine lv_iload_n hx hb dX12_feed_32 rfl (lv_at hl 1 rfl) ?_
      obtain ⟨Q5, hc, hw⟩ := hw
      refine wc_V (X := CX g q lb) (va_runV (As := [.int (I u1)]) (rest := []) ⟨hx, hb, hml, hown, hts⟩ (L_X12_putFour l g q lb hlb r_u1 hN hc H.size) (cwV 1 hts (TB_V tw_937 tw_939 ts_0 tw_1 co_X12_putFour) rfl rfl rfl (by decide +kernel) ⟨Nat.le_of_ble_eq_true rfl, Nat.le_of_ble_eq_true rfl⟩) (preV (q0 := 0) (ci := 12) rfl xT_bl hP hK hNb hD rfl rfl xT_at) rfl rfl hl.1 rfl (lv_room (Nat.le_of_ble_eq_true rfl)) dX12_feed_33 ⟨Nat.le_of_ble_eq_true rfl, Nat.le_of_ble_eq_true rfl⟩) hP hD hS hA (fun τ7 H locs hN hf hq hP hD hS => ?_)
      replace hw := hw τ7 hN hf hq
      have hF : f_r [0, 1] [0] [] σ τ7 := f_t hF hf (by decide) (by decide) (by decide)
      have hB := hN
      refine lv_aload_n hx hb dX12_feed_36 rfl (lv_at hl 0 rfl) ?_
      refine lv_iload_n hx hb dX12_feed_37 rfl (lv_at hl 2 rfl) ?_
      obtain ⟨Q8, hc, hw⟩ := hw
      refine wc_V (X := CX g q lb) (va_runV (As := [.int (I u2)]) (rest := []) ⟨hx, hb, hml, hown, hts⟩ (L_X12_putFour l g q lb hlb r_u2 hN hc H.size) (cwV 1 hts (TB_V tw_937 tw_939 ts_0 tw_1 co_X12_putFour) rfl rfl rfl (by decide +kernel) ⟨Nat.le_of_ble_eq_true rfl, Nat.le_of_ble_eq_true rfl⟩) (preV (q0 := 0) (ci := 12) rfl xT_bl hP hK hNb hD rfl rfl xT_at) rfl rfl hl.1 rfl (lv_room (Nat.le_of_ble_eq_true rfl)) dX12_feed_38 ⟨Nat.le_of_ble_eq_true rfl, Nat.le_of_ble_eq_true rfl⟩) hP hD hS hA (fun τ10 H locs hN hf hq hP hD hS => ?_)
      replace hw := hw τ10 hN hf hq
      have hF : f_r [0, 1] [0] [] σ τ10 := f_t hF hf (by decide) (by decide) (by decide)
      have hB := hN
      refine lv_aload_n hx hb dX12_feed_41 rfl (lv_at hl 0 rfl) ?_
      refine lv_iload_n hx hb dX12_feed_42 rfl (lv_at hl 3 rfl) ?_
      obtain ⟨Q11, hc, hw⟩ := hw
      refine wc_V (X := CX g q lb) (va_runV (As := [.int (I u3)]) (rest := []) ⟨hx, hb, hml, hown, hts⟩ (L_X12_putFour l g q lb hlb r_u3 hN hc H.size) (cwV 1 hts (TB_V tw_937 tw_939 ts_0 tw_1 co_X12_putFour) rfl rfl rfl (by decide +kernel) ⟨Nat.le_of_ble_eq_true rfl, Nat.le_of_ble_eq_true rfl⟩) (preV (q0 := 0) (ci := 12) rfl xT_bl hP hK hNb hD rfl rfl xT_at) rfl rfl hl.1 rfl (lv_room (Nat.le_of_ble_eq_true rfl)) dX12_feed_43 ⟨Nat.le_of_ble_eq_true rfl, Nat.le_of_ble_eq_true rfl⟩) hP hD hS hA (fun τ13 H locs hN hf hq hP hD hS => ?_)
      replace hw := hw τ13 hN hf hq
      have hF : f_r [0, 1] [0] [] σ τ13 := f_t hF hf (by decide) (by decide) (by decide)
      have hB := hN
      refine lv_aload_n hx hb dX12_feed_46 rfl (lv_at hl 0 rfl) ?_
      refine lv_iload hx hb dX12_feed_47 (lv_at hl 4 rfl) ?_
      obtain ⟨Q14, hc, hw⟩ := hw
      refine wc_V (X := CX g q lb) (va_runV (As := [.int (I u4)]) (rest := []) ⟨hx, hb, hml, hown, hts⟩ (L_X12_putFour l g q lb hlb r_u4 hN hc H.size) (cwV 1 hts (TB_V tw_937 tw_939 ts_0 tw_1 co_X12_putFour) rfl rfl rfl (by decide +kernel) ⟨Nat.le_of_ble_eq_true rfl, Nat.le_of_ble_eq_true rfl⟩) (preV (q0 := 0) (ci := 12) rfl xT_bl hP hK hNb hD rfl rfl xT_at) rfl rfl hl.1 rfl (lv_room (Nat.le_of_ble_eq_true rfl)) dX12_feed_49 ⟨Nat.le_of_ble_eq_true rfl, Nat.le_of_ble_eq_true rfl⟩) hP hD hS hA (fun τ16 H locs hN hf hq hP hD hS => ?_)
      replace hw := hw τ16 hN hf hq
      have hF : f_r [0, 1] [0] [] σ τ16 := f_t hF hf (by decide) (by decide) (by decide)
      have hB := hN
      refine lv_aload_n hx hb dX12_feed_52 rfl (lv_at hl 0 rfl) ?_
      refine lv_iload hx hb dX12_feed_53 (lv_at hl 5 rfl) ?_
      obtain ⟨Q17, hc, hw⟩ := hw
      refine wc_V (X := CX g q lb) (va_runV (As := [.int (I u5)]) (rest := []) ⟨hx, hb, hml, hown, hts⟩ (L_X12_putFour l g q lb hlb r_u5 hN hc H.size) (cwV 1 hts (TB_V tw_937 tw_939 ts_0 tw_1 co_X12_putFour) rfl rfl rfl (by decide +kernel) ⟨Nat.le_of_ble_eq_true rfl, Nat.le_of_ble_eq_true rfl⟩) (preV (q0 := 0) (ci := 12) rfl xT_bl hP hK hNb hD rfl rfl xT_at) rfl rfl hl.1 rfl (lv_room (Nat.le_of_ble_eq_true rfl)) dX12_feed_55 ⟨Nat.le_of_ble_eq_true rfl, Nat.le_of_ble_eq_true rfl⟩) hP hD hS hA (fun τ19 H locs hN hf hq hP hD hS => ?_)
      replace hw := hw τ19 hN hf hq
      have hF : f_r [0, 1] [0] [] σ τ19 := f_t hF hf (by decide) (by decide) (by decide)
      have hB := hN
      refine lv_aload_n hx hb dX12_feed_58 rfl (lv_at hl 0 rfl) ?_
      refine gfX12_tapeLength hx hb hts hK hP hown (hts _ tw_885) (x := τ19.1 0) rfl dX12_feed_59 ?_
      exact xri hx hb hr hlk hP hK hD hS ⟨_, _, (hB.1 0), rfl, hN, hF, rfl, hw⟩ (Nat.le_of_ble_eq_true rfl) (Nat.le_of_ble_eq_true rfl) dX12_feed_62
    ·
      replace hw := hw.2 c4
      refine lv_bipush (v := I (-2)) hx hb dX12_feed_28 (by decide) ?_
      exact xri hx hb hr hlk hP hK hD hS ⟨_, _, (by decide), rfl, hN, hF, rfl, hw⟩ (Nat.le_of_ble_eq_true rfl) (Nat.le_of_ble_eq_true rfl) dX12_feed_30
