-- methods told as propositions, and tied to the machine
def W_X13_isUnit (n1 : Int) (σ : S0) (Q : Int → Prop) : Prop :=
  (0 ≤ n1 ∧ n1 < 1501) ∧ (∀ (x2 : Int), rg x2 → x2 = σ.2.1 15 n1 → ((¬ x2 = 2 → Q 0) ∧ (x2 = 2 → ∀ (x4 : Int), rg x4 → x4 = σ.2.1 14 n1 → ((0 ≤ (x4 + 1) ∧ (x4 + 1) < 30400) ∧ (∀ (x6 : Int), rg x6 → x6 = σ.2.1 16 (x4 + 1) → ((0 ≤ x6 ∧ x6 < 1001) ∧ (∀ (x8 : Int), rg x8 → x8 = σ.2.1 8 x6 → ((x8 = 0 → Q 0) ∧ (¬ x8 = 0 → Q 1)))))))))
set_option maxRecDepth 100000 in
set_option maxHeartbeats 4000000 in
theorem L_X13_isUnit (l : Launch) (g : gG) (q : Nat → Nat) (lb : Nat) (hlb : lb < 2 ^ 31) {n1 : Int} {σ : S0} {Q : Int → Prop} (r_n1 : rg n1) (hN : n_m σ) (hw : W_X13_isUnit n1 σ Q) (sz : Nat) : MetI l yX13_isUnit cX13_isUnit 2 (some .boolean) { frames := 0, cells := 0, slots := 0, locals := 0 } g [.ref (q 0), .int (I n1)] (MX g q lb σ) sz xT (p_i (MX g q lb) σ Q) 0 0 := by
  refine mkMet (Qc := fun A => QI g A (p_i (MX g q lb) σ Q)) (by decide) (Nat.le_of_ble_eq_true rfl) ?_
  intro p e s m below meth c A H ls hx hb hr hml hown hts hlk hnm hsz hP hK hNb hD hA hAe hS hX hl
  have hl : lv_has ls 2 [(0, .ref (q 0)), (1, .int (I n1))] := hl
  have hB := hN
  obtain ⟨locs, hlocs⟩ : ∃ z : List Loc, z = [] := ⟨_, rfl⟩
  rw [← hlocs] at hS ⊢
  refine lv_aload_n hx hb dX13_isUnit_0 rfl (lv_at hl 0 rfl) ?_
  refine gfX13_textSize hx hb hts hK hP hown (hts _ tw_2027) dX13_isUnit_1 ?_
  refine lv_iload_n hx hb dX13_isUnit_4 rfl (lv_at hl 1 rfl) ?_
  obtain ⟨c1, hw⟩ := hw
  refine ldMX13_textSize hx hb hK hP hN c1 dX13_isUnit_5 (fun x2 r_x2 e_x2 => ?_)
  replace hw := hw x2 r_x2 e_x2
  refine lv_iconst (v := I 2) hx hb dX13_isUnit_6 rfl ?_
  refine bi_icmp_ne (tgt := 35) hx hb r_x2 (by decide) dX13_isUnit_7 (by decide) (fun c3 => ?_) (fun c3 => ?_)
  ·
    replace hw := hw.1 c3
    refine lv_iconst (v := I 0) hx hb dX13_isUnit_35 rfl ?_
    exact xrz hx hb hr (by decide) hlk hP hK hD hS ⟨_, (by decide), rfl, rfl, hw⟩ (Nat.le_of_ble_eq_true rfl) (Nat.le_of_ble_eq_true rfl) dX13_isUnit_36
  ·
    replace hw := hw.2 c3
    refine lv_aload_n hx hb dX13_isUnit_10 rfl (lv_at hl 0 rfl) ?_
    refine gfX13_isVariable hx hb hts hK hP hown (hts _ tw_2018) dX13_isUnit_11 ?_
    refine lv_aload_n hx hb dX13_isUnit_14 rfl (lv_at hl 0 rfl) ?_
    refine gfX13_texts hx hb hts hK hP hown (hts _ tw_2028) dX13_isUnit_15 ?_
    refine lv_aload_n hx hb dX13_isUnit_18 rfl (lv_at hl 0 rfl) ?_
    refine gfX13_textAt hx hb hts hK hP hown (hts _ tw_2026) dX13_isUnit_19 ?_
    refine lv_iload_n hx hb dX13_isUnit_22 rfl (lv_at hl 1 rfl) ?_
    refine ldMX13_textAt hx hb hK hP hN c1 dX13_isUnit_23 (fun x4 r_x4 e_x4 => ?_)
    replace hw := hw x4 r_x4 e_x4
    refine lv_iconst (v := I 1) hx hb dX13_isUnit_24 rfl ?_
    refine bi_iadd hx hb dX13_isUnit_25 ?_
    obtain ⟨c5, hw⟩ := hw
    refine ldMX13_texts hx hb hK hP hN c5 dX13_isUnit_26 (fun x6 r_x6 e_x6 => ?_)
    replace hw := hw x6 r_x6 e_x6
    obtain ⟨c7, hw⟩ := hw
    refine ldMX13_isVariable hx hb hK hP hN c7 dX13_isUnit_27 (fun x8 r_x8 e_x8 => ?_)
    replace hw := hw x8 r_x8 e_x8
    refine bi_if_eq (tgt := 35) hx hb r_x8 dX13_isUnit_28 (by decide) (fun c9 => ?_) (fun c9 => ?_)
    ·
      replace hw := hw.1 c9
      refine lv_iconst (v := I 0) hx hb dX13_isUnit_35 rfl ?_
      exact xrz hx hb hr (by decide) hlk hP hK hD hS ⟨_, (by decide), rfl, rfl, hw⟩ (Nat.le_of_ble_eq_true rfl) (Nat.le_of_ble_eq_true rfl) dX13_isUnit_36
    ·
      replace hw := hw.2 c9
      refine lv_iconst (v := I 1) hx hb dX13_isUnit_31 rfl ?_
      refine lv_goto (tgt := 36) hx hb dX13_isUnit_32 (by decide) ?_
      exact xrz hx hb hr (by decide) hlk hP hK hD hS ⟨_, (by decide), rfl, rfl, hw⟩ (Nat.le_of_ble_eq_true rfl) (Nat.le_of_ble_eq_true rfl) dX13_isUnit_36
def W_X13_newRuleNode (n1 : Int) (n2 : Int) (σ : S0) (Q : Int → S0 → Prop) : Prop :=
  rg (σ.1 47 + 1) ∧ (0 ≤ σ.1 47 ∧ σ.1 47 < 30002) ∧ (Q (σ.1 47) (s_a (s_a (s_a (s_a (s_a (s_a (s_a (s_v σ 47 (σ.1 47 + 1)) 77 (σ.1 47) n2) 78 (σ.1 47) n1) 79 (σ.1 47) (-1)) 80 (σ.1 47) (-1)) 81 (σ.1 47) 1500) 82 (σ.1 47) 1500) 83 (σ.1 47) 1500))
set_option maxRecDepth 100000 in
set_option maxHeartbeats 4000000 in
theorem L_X13_newRuleNode (l : Launch) (g : gG) (q : Nat → Nat) (lb : Nat) (hlb : lb < 2 ^ 31) {n1 : Int} {n2 : Int} {σ : S0} {Q : Int → S0 → Prop} (r_n1 : rg n1) (r_n2 : rg n2) (hN : n_m σ) (hw : W_X13_newRuleNode n1 n2 σ Q) (sz : Nat) : MetI l yX13_newRuleNode cX13_newRuleNode 4 (some .int) { frames := 0, cells := 0, slots := 0, locals := 0 } g [.ref (q 0), .int (I n1), .int (I n2)] (MX g q lb σ) sz xT (p_I (MX g q lb) [47] [77, 78, 79, 80, 81, 82, 83] [] σ Q) 0 0 := by
  refine mkMet (Qc := fun A => QI g A (p_I (MX g q lb) [47] [77, 78, 79, 80, 81, 82, 83] [] σ Q)) (by decide) (Nat.le_of_ble_eq_true rfl) ?_
  intro p e s m below meth c A H ls hx hb hr hml hown hts hlk hnm hsz hP hK hNb hD hA hAe hS hX hl
  have hl : lv_has ls 4 [(0, .ref (q 0)), (1, .int (I n1)), (2, .int (I n2))] := hl
  have hB := hN
  have hF : f_r [47] [77, 78, 79, 80, 81, 82, 83] [] σ σ := f_0
  obtain ⟨locs, hlocs⟩ : ∃ z : List Loc, z = [] := ⟨_, rfl⟩
  rw [← hlocs] at hS ⊢
  refine lv_aload_n hx hb dX13_newRuleNode_0 rfl (lv_at hl 0 rfl) ?_
  refine gfX13_ruleNodes hx hb hts hK hP hown (hts _ tw_2143) (x := σ.1 47) rfl dX13_newRuleNode_1 ?_
  refine lv_istore_n (lv' := [(3, .int (I (σ.1 47))), (0, .ref (q 0)), (1, .int (I n1)), (2, .int (I n2))]) hx hb dX13_newRuleNode_4 rfl hl (by decide) rfl (fun ls hl => ?_)
  refine lv_aload_n hx hb dX13_newRuleNode_5 rfl (lv_at hl 1 rfl) ?_
  refine lv_dup hx hb dX13_newRuleNode_6 rfl ?_
  refine gfX13_ruleNodes hx hb hts hK hP hown (hts _ tw_2143) (x := σ.1 47) rfl dX13_newRuleNode_7 ?_
  refine lv_iconst (v := I 1) hx hb dX13_newRuleNode_10 rfl ?_
  refine bi_iadd hx hb dX13_newRuleNode_11 ?_
  obtain ⟨c1, hw⟩ := hw
  refine pfX13_ruleNodes hx hb hts hK hP hD hS hown (hts _ tw_2143) dX13_newRuleNode_12 (fun H locs hP hD hS => ?_)
  have hN : n_m (s_v σ 47 (σ.1 47 + 1)) := n_v (i := 47) hN (c1 : rg (σ.1 47 + 1))
  have hF : f_r [47] [77, 78, 79, 80, 81, 82, 83] [] σ (s_v σ 47 (σ.1 47 + 1)) := f_v hF (by decide)
  refine lv_aload_n hx hb dX13_newRuleNode_15 rfl (lv_at hl 1 rfl) ?_
  refine gfX13_ruleStep hx hb hts hK hP hown (hts _ tw_2134) dX13_newRuleNode_16 ?_
  refine lv_iload_n hx hb dX13_newRuleNode_19 rfl (lv_at hl 0 rfl) ?_
  refine lv_iload_n hx hb dX13_newRuleNode_20 rfl (lv_at hl 3 rfl) ?_
  obtain ⟨c2, hw⟩ := hw
  refine sdMX13_ruleStep hx hb hK hP hD hS c2 dX13_newRuleNode_21 (fun H locs hP hD hS => ?_)
  have hN : n_m (s_a (s_v σ 47 (σ.1 47 + 1)) 77 (σ.1 47) n2) := n_a (k := 77) (j := σ.1 47) hN (r_n2 : rg n2)
  have hF : f_r [47] [77, 78, 79, 80, 81, 82, 83] [] σ (s_a (s_v σ 47 (σ.1 47 + 1)) 77 (σ.1 47) n2) := f_a hF (by decide)
  refine lv_aload_n hx hb dX13_newRuleNode_22 rfl (lv_at hl 1 rfl) ?_
  refine gfX13_ruleUp hx hb hts hK hP hown (hts _ tw_2135) dX13_newRuleNode_23 ?_
  refine lv_iload_n hx hb dX13_newRuleNode_26 rfl (lv_at hl 0 rfl) ?_
  refine lv_iload_n hx hb dX13_newRuleNode_27 rfl (lv_at hl 2 rfl) ?_
  refine sdMX13_ruleUp hx hb hK hP hD hS c2 dX13_newRuleNode_28 (fun H locs hP hD hS => ?_)
  have hN : n_m (s_a (s_a (s_v σ 47 (σ.1 47 + 1)) 77 (σ.1 47) n2) 78 (σ.1 47) n1) := n_a (k := 78) (j := σ.1 47) hN (r_n1 : rg n1)
  have hF : f_r [47] [77, 78, 79, 80, 81, 82, 83] [] σ (s_a (s_a (s_v σ 47 (σ.1 47 + 1)) 77 (σ.1 47) n2) 78 (σ.1 47) n1) := f_a hF (by decide)
  refine lv_aload_n hx hb dX13_newRuleNode_29 rfl (lv_at hl 1 rfl) ?_
  refine gfX13_ruleKid hx hb hts hK hP hown (hts _ tw_2136) dX13_newRuleNode_30 ?_
  refine lv_iload_n hx hb dX13_newRuleNode_33 rfl (lv_at hl 0 rfl) ?_
  refine lv_iconst (v := I (-1)) hx hb dX13_newRuleNode_34 rfl ?_
  refine sdMX13_ruleKid hx hb hK hP hD hS c2 dX13_newRuleNode_35 (fun H locs hP hD hS => ?_)
  have hN : n_m (s_a (s_a (s_a (s_v σ 47 (σ.1 47 + 1)) 77 (σ.1 47) n2) 78 (σ.1 47) n1) 79 (σ.1 47) (-1)) := n_a (k := 79) (j := σ.1 47) hN ((by decide) : rg (-1))
  have hF : f_r [47] [77, 78, 79, 80, 81, 82, 83] [] σ (s_a (s_a (s_a (s_v σ 47 (σ.1 47 + 1)) 77 (σ.1 47) n2) 78 (σ.1 47) n1) 79 (σ.1 47) (-1)) := f_a hF (by decide)
  refine lv_aload_n hx hb dX13_newRuleNode_36 rfl (lv_at hl 1 rfl) ?_
  refine gfX13_ruleNext hx hb hts hK hP hown (hts _ tw_2137) dX13_newRuleNode_37 ?_
  refine lv_iload_n hx hb dX13_newRuleNode_40 rfl (lv_at hl 0 rfl) ?_
  refine lv_iconst (v := I (-1)) hx hb dX13_newRuleNode_41 rfl ?_
  refine sdMX13_ruleNext hx hb hK hP hD hS c2 dX13_newRuleNode_42 (fun H locs hP hD hS => ?_)
  have hN : n_m (s_a (s_a (s_a (s_a (s_v σ 47 (σ.1 47 + 1)) 77 (σ.1 47) n2) 78 (σ.1 47) n1) 79 (σ.1 47) (-1)) 80 (σ.1 47) (-1)) := n_a (k := 80) (j := σ.1 47) hN ((by decide) : rg (-1))
  have hF : f_r [47] [77, 78, 79, 80, 81, 82, 83] [] σ (s_a (s_a (s_a (s_a (s_v σ 47 (σ.1 47 + 1)) 77 (σ.1 47) n2) 78 (σ.1 47) n1) 79 (σ.1 47) (-1)) 80 (σ.1 47) (-1)) := f_a hF (by decide)
  refine lv_aload_n hx hb dX13_newRuleNode_43 rfl (lv_at hl 1 rfl) ?_
  refine gfX13_ruleFirst hx hb hts hK hP hown (hts _ tw_2138) dX13_newRuleNode_44 ?_
  refine lv_iload_n hx hb dX13_newRuleNode_47 rfl (lv_at hl 0 rfl) ?_
  refine lv_sipush (v := I 1500) hx hb dX13_newRuleNode_48 (by decide) ?_
  refine sdMX13_ruleFirst hx hb hK hP hD hS c2 dX13_newRuleNode_51 (fun H locs hP hD hS => ?_)
  have hN : n_m (s_a (s_a (s_a (s_a (s_a (s_v σ 47 (σ.1 47 + 1)) 77 (σ.1 47) n2) 78 (σ.1 47) n1) 79 (σ.1 47) (-1)) 80 (σ.1 47) (-1)) 81 (σ.1 47) 1500) := n_a (k := 81) (j := σ.1 47) hN ((by decide) : rg 1500)
  have hF : f_r [47] [77, 78, 79, 80, 81, 82, 83] [] σ (s_a (s_a (s_a (s_a (s_a (s_v σ 47 (σ.1 47 + 1)) 77 (σ.1 47) n2) 78 (σ.1 47) n1) 79 (σ.1 47) (-1)) 80 (σ.1 47) (-1)) 81 (σ.1 47) 1500) := f_a hF (by decide)
  refine lv_aload_n hx hb dX13_newRuleNode_52 rfl (lv_at hl 1 rfl) ?_
  refine gfX13_ruleOther hx hb hts hK hP hown (hts _ tw_2139) dX13_newRuleNode_53 ?_
  refine lv_iload_n hx hb dX13_newRuleNode_56 rfl (lv_at hl 0 rfl) ?_
  refine lv_sipush (v := I 1500) hx hb dX13_newRuleNode_57 (by decide) ?_
  refine sdMX13_ruleOther hx hb hK hP hD hS c2 dX13_newRuleNode_60 (fun H locs hP hD hS => ?_)
  have hN : n_m (s_a (s_a (s_a (s_a (s_a (s_a (s_v σ 47 (σ.1 47 + 1)) 77 (σ.1 47) n2) 78 (σ.1 47) n1) 79 (σ.1 47) (-1)) 80 (σ.1 47) (-1)) 81 (σ.1 47) 1500) 82 (σ.1 47) 1500) := n_a (k := 82) (j := σ.1 47) hN ((by decide) : rg 1500)
  have hF : f_r [47] [77, 78, 79, 80, 81, 82, 83] [] σ (s_a (s_a (s_a (s_a (s_a (s_a (s_v σ 47 (σ.1 47 + 1)) 77 (σ.1 47) n2) 78 (σ.1 47) n1) 79 (σ.1 47) (-1)) 80 (σ.1 47) (-1)) 81 (σ.1 47) 1500) 82 (σ.1 47) 1500) := f_a hF (by decide)
  refine lv_aload_n hx hb dX13_newRuleNode_61 rfl (lv_at hl 1 rfl) ?_
  refine gfX13_ruleLeast hx hb hts hK hP hown (hts _ tw_2140) dX13_newRuleNode_62 ?_
  refine lv_iload_n hx hb dX13_newRuleNode_65 rfl (lv_at hl 0 rfl) ?_
  refine lv_sipush (v := I 1500) hx hb dX13_newRuleNode_66 (by decide) ?_
  refine sdMX13_ruleLeast hx hb hK hP hD hS c2 dX13_newRuleNode_69 (fun H locs hP hD hS => ?_)
  have hN : n_m (s_a (s_a (s_a (s_a (s_a (s_a (s_a (s_v σ 47 (σ.1 47 + 1)) 77 (σ.1 47) n2) 78 (σ.1 47) n1) 79 (σ.1 47) (-1)) 80 (σ.1 47) (-1)) 81 (σ.1 47) 1500) 82 (σ.1 47) 1500) 83 (σ.1 47) 1500) := n_a (k := 83) (j := σ.1 47) hN ((by decide) : rg 1500)
  have hF : f_r [47] [77, 78, 79, 80, 81, 82, 83] [] σ (s_a (s_a (s_a (s_a (s_a (s_a (s_a (s_v σ 47 (σ.1 47 + 1)) 77 (σ.1 47) n2) 78 (σ.1 47) n1) 79 (σ.1 47) (-1)) 80 (σ.1 47) (-1)) 81 (σ.1 47) 1500) 82 (σ.1 47) 1500) 83 (σ.1 47) 1500) := f_a hF (by decide)
  refine lv_iload_n hx hb dX13_newRuleNode_70 rfl (lv_at hl 0 rfl) ?_
  exact xri hx hb hr hlk hP hK hD hS ⟨_, _, (rg_ix c2.1 c2.2 (by decide)), rfl, hN, hF, rfl, hw⟩ (Nat.le_of_ble_eq_true rfl) (Nat.le_of_ble_eq_true rfl) dX13_newRuleNode_71
def W_X13_stepBelow (n1 : Int) (n2 : Int) (σ : S0) (Q : Int → S0 → Prop) : Prop :=
  ∀ (P10 : Int → Int → Int → Int → S0 → Prop),
  (∀ (u1 : Int) (u2 : Int) (u3 : Int) (u4 : Int) (τ : S0), ((u4 = (-1) → ∃ (Q4 : Int → S0 → Prop), W_X13_newRuleNode u1 u2 τ Q4 ∧ ∀ (x5 : Int) (τ6 : S0), rg x5 → n_m τ6 → f_r [47] [77, 78, 79, 80, 81, 82, 83] [] τ τ6 → Q4 x5 τ6 → ((¬ u3 = (-1) → (0 ≤ u3 ∧ u3 < 30002) ∧ (Q x5 (s_a τ6 80 u3 x5))) ∧ (u3 = (-1) → (0 ≤ u1 ∧ u1 < 30002) ∧ (Q x5 (s_a τ6 79 u1 x5))))) ∧ (¬ u4 = (-1) → (0 ≤ u4 ∧ u4 < 30002) ∧ (∀ (x11 : Int), rg x11 → x11 = τ.2.1 77 u4 → ((¬ x11 = u2 → ∀ (x13 : Int), rg x13 → x13 = τ.2.1 80 u4 → (P10 u1 u2 u4 x13 τ)) ∧ (x11 = u2 → Q u4 τ))))) → P10 u1 u2 u3 u4 τ) →
  (0 ≤ n1 ∧ n1 < 30002) ∧ (∀ (x2 : Int), rg x2 → x2 = σ.2.1 79 n1 → (P10 n1 n2 (-1) x2 σ))
set_option maxRecDepth 100000 in
set_option maxHeartbeats 4000000 in
theorem L_X13_stepBelow (l : Launch) (g : gG) (q : Nat → Nat) (lb : Nat) (hlb : lb < 2 ^ 31) {n1 : Int} {n2 : Int} {σ : S0} {Q : Int → S0 → Prop} (r_n1 : rg n1) (r_n2 : rg n2) (hN : n_m σ) (hw : W_X13_stepBelow n1 n2 σ Q) (sz : Nat) : MetI l yX13_stepBelow cX13_stepBelow 5 (some .int) { frames := 1, cells := 0, slots := 0, locals := 23 } g [.ref (q 0), .int (I n1), .int (I n2)] (MX g q lb σ) sz xT (p_I (MX g q lb) [47] [77, 78, 79, 80, 81, 82, 83] [] σ Q) 0 0 := by
  refine mkMet (Qc := fun A => QI g A (p_I (MX g q lb) [47] [77, 78, 79, 80, 81, 82, 83] [] σ Q)) (by decide) (Nat.le_of_ble_eq_true rfl) ?_
  intro p e s m below meth c A H ls hx hb hr hml hown hts hlk hnm hsz hP hK hNb hD hA hAe hS hX hl
  have hl : lv_has ls 5 [(0, .ref (q 0)), (1, .int (I n1)), (2, .int (I n2))] := hl
  have hB := hN
  have hF : f_r [47] [77, 78, 79, 80, 81, 82, 83] [] σ σ := f_0
  obtain ⟨locs, hlocs⟩ : ∃ z : List Loc, z = [] := ⟨_, rfl⟩
  rw [← hlocs] at hS ⊢
  obtain ⟨P10, hP10⟩ : ∃ P : Int → Int → Int → Int → S0 → Prop, ∀ (u1 : Int) (u2 : Int) (u3 : Int) (u4 : Int) (τ : S0), (P u1 u2 u3 u4 τ ↔ (rg u1 → rg u2 → rg u3 → rg u4 → n_m τ → f_r [47] [77, 78, 79, 80, 81, 82, 83] [] σ τ → ∀ (H : Heap) (locs : List Loc) (ls : Array Slot), KP g (MX g q lb τ) H → va_D A (MX g q lb τ) → va_S A s.heap H locs → lv_has ls 5 [(0, .ref (q 0)), (1, .int (I u1)), (2, .int (I u2)), (3, .int (I u3)), (4, .int (I u4))] → W p l e ({ frames := 1, cells := 0, slots := 0, locals := 23 }) s m [.ref (q 0), .int (I n1), .int (I n2)].toArray below meth c H locs 0 0 (MQ below (QI g A (p_I (MX g q lb) [47] [77, 78, 79, 80, 81, 82, 83] [] σ Q)) [.ref (q 0), .int (I n1), .int (I n2)].toArray s 0 0 A) (F0 m 10 ls []))) := ⟨_, fun _ _ _ _ _ => Iff.rfl⟩
  refine (fun hw => ?_) (hw P10 ?_)
  ·
    refine lv_iconst (v := I (-1)) hx hb dX13_stepBelow_0 rfl ?_
    refine lv_istore_n (lv' := [(3, .int (I (-1))), (0, .ref (q 0)), (1, .int (I n1)), (2, .int (I n2))]) hx hb dX13_stepBelow_1 rfl hl (by decide) rfl (fun ls hl => ?_)
    refine lv_aload_n hx hb dX13_stepBelow_2 rfl (lv_at hl 1 rfl) ?_
    refine gfX13_ruleKid hx hb hts hK hP hown (hts _ tw_2136) dX13_stepBelow_3 ?_
    refine lv_iload_n hx hb dX13_stepBelow_6 rfl (lv_at hl 2 rfl) ?_
    obtain ⟨c1, hw⟩ := hw
    refine ldMX13_ruleKid hx hb hK hP hN c1 dX13_stepBelow_7 (fun x2 r_x2 e_x2 => ?_)
    replace hw := hw x2 r_x2 e_x2
    refine lv_istore (lv' := [(4, .int (I x2)), (3, .int (I (-1))), (0, .ref (q 0)), (1, .int (I n1)), (2, .int (I n2))]) hx hb dX13_stepBelow_8 hl (by decide) rfl (fun ls hl => ?_)
    exact (hP10 _ _ _ _ _).mp hw r_n1 r_n2 (by decide) r_x2 hN hF H locs ls hP hD hS (lv_sub hl [2, 3, 4, 1, 0] rfl)
  ·
    intro u1 u2 u3 u4 τ hw
    refine (hP10 _ _ _ _ _).mpr ?_
    intro r_u1 r_u2 r_u3 r_u4 hN hF H locs ls hP hD hS hl
    have hB := hN
    refine lv_iload hx hb dX13_stepBelow_10 (lv_at hl 4 rfl) ?_
    refine lv_iconst (v := I (-1)) hx hb dX13_stepBelow_12 rfl ?_
    refine bi_icmp_eq (tgt := 45) hx hb r_u4 (by decide) dX13_stepBelow_13 (by decide) (fun c3 => ?_) (fun c3 => ?_)
    ·
      replace hw := hw.1 c3
      refine lv_aload_n hx hb dX13_stepBelow_45 rfl (lv_at hl 0 rfl) ?_
      refine lv_iload_n hx hb dX13_stepBelow_46 rfl (lv_at hl 1 rfl) ?_
      refine lv_iload_n hx hb dX13_stepBelow_47 rfl (lv_at hl 2 rfl) ?_
      obtain ⟨Q4, hc, hw⟩ := hw
      refine wc_I (X := MX g q lb) (va_runV (As := [.int (I u1), .int (I u2)]) (rest := []) ⟨hx, hb, hml, hown, hts⟩ (L_X13_newRuleNode l g q lb hlb r_u1 r_u2 hN hc H.size) (cwV 2 hts (TB_V tw_2936 tw_2938 ts_179 tw_15 co_X13_newRuleNode) rfl rfl rfl (by decide +kernel) ⟨Nat.le_of_ble_eq_true rfl, Nat.le_of_ble_eq_true rfl⟩) (preV (q0 := 0) (ci := 13) rfl xT_bl hP hK hNb hD rfl rfl xT_at) rfl rfl hl.1 rfl (lv_room (Nat.le_of_ble_eq_true rfl)) dX13_stepBelow_48 ⟨Nat.le_of_ble_eq_true rfl, Nat.le_of_ble_eq_true rfl⟩) hP hD hS hA (fun x5 τ6 H locs r_x5 hN hf hq hP hD hS => ?_)
      replace hw := hw x5 τ6 r_x5 hN hf hq
      have hF : f_r [47] [77, 78, 79, 80, 81, 82, 83] [] σ τ6 := f_t hF hf (by decide) (by decide) (by decide)
      have hB := hN
      refine lv_istore (lv' := [(4, .int (I x5)), (0, .ref (q 0)), (1, .int (I u1)), (2, .int (I u2)), (3, .int (I u3))]) hx hb dX13_stepBelow_51 hl (by decide) rfl (fun ls hl => ?_)
      refine lv_iload_n hx hb dX13_stepBelow_53 rfl (lv_at hl 4 rfl) ?_
      refine lv_iconst (v := I (-1)) hx hb dX13_stepBelow_54 rfl ?_
      refine bi_icmp_ne (tgt := 69) hx hb r_u3 (by decide) dX13_stepBelow_55 (by decide) (fun c7 => ?_) (fun c7 => ?_)
      ·
        replace hw := hw.1 c7
        refine lv_aload_n hx hb dX13_stepBelow_69 rfl (lv_at hl 1 rfl) ?_
        refine gfX13_ruleNext hx hb hts hK hP hown (hts _ tw_2137) dX13_stepBelow_70 ?_
        refine lv_iload_n hx hb dX13_stepBelow_73 rfl (lv_at hl 4 rfl) ?_
        refine lv_iload hx hb dX13_stepBelow_74 (lv_at hl 0 rfl) ?_
        obtain ⟨c8, hw⟩ := hw
        refine sdMX13_ruleNext hx hb hK hP hD hS c8 dX13_stepBelow_76 (fun H locs hP hD hS => ?_)
        have hN : n_m (s_a τ6 80 u3 x5) := n_a (k := 80) (j := u3) hN (r_x5 : rg x5)
        have hF : f_r [47] [77, 78, 79, 80, 81, 82, 83] [] σ (s_a τ6 80 u3 x5) := f_a hF (by decide)
        refine lv_iload hx hb dX13_stepBelow_77 (lv_at hl 0 rfl) ?_
        exact xri hx hb hr hlk hP hK hD hS ⟨_, _, r_x5, rfl, hN, hF, rfl, hw⟩ (Nat.le_of_ble_eq_true rfl) (Nat.le_of_ble_eq_true rfl) dX13_stepBelow_79
      ·
        replace hw := hw.2 c7
        refine lv_aload_n hx hb dX13_stepBelow_58 rfl (lv_at hl 1 rfl) ?_
        refine gfX13_ruleKid hx hb hts hK hP hown (hts _ tw_2136) dX13_stepBelow_59 ?_
        refine lv_iload_n hx hb dX13_stepBelow_62 rfl (lv_at hl 2 rfl) ?_
        refine lv_iload hx hb dX13_stepBelow_63 (lv_at hl 0 rfl) ?_
        obtain ⟨c9, hw⟩ := hw
        refine sdMX13_ruleKid hx hb hK hP hD hS c9 dX13_stepBelow_65 (fun H locs hP hD hS => ?_)
        have hN : n_m (s_a τ6 79 u1 x5) := n_a (k := 79) (j := u1) hN (r_x5 : rg x5)
        have hF : f_r [47] [77, 78, 79, 80, 81, 82, 83] [] σ (s_a τ6 79 u1 x5) := f_a hF (by decide)
        refine lv_goto (tgt := 77) hx hb dX13_stepBelow_66 (by decide) ?_
        refine lv_iload hx hb dX13_stepBelow_77 (lv_at hl 0 rfl) ?_
        exact xri hx hb hr hlk hP hK hD hS ⟨_, _, r_x5, rfl, hN, hF, rfl, hw⟩ (Nat.le_of_ble_eq_true rfl) (Nat.le_of_ble_eq_true rfl) dX13_stepBelow_79
    ·
      replace hw := hw.2 c3
      refine lv_aload_n hx hb dX13_stepBelow_16 rfl (lv_at hl 0 rfl) ?_
      refine gfX13_ruleStep hx hb hts hK hP hown (hts _ tw_2134) dX13_stepBelow_17 ?_
      refine lv_iload hx hb dX13_stepBelow_20 (lv_at hl 4 rfl) ?_
      obtain ⟨c10, hw⟩ := hw
      refine ldMX13_ruleStep hx hb hK hP hN c10 dX13_stepBelow_22 (fun x11 r_x11 e_x11 => ?_)
      replace hw := hw x11 r_x11 e_x11
      refine lv_iload_n hx hb dX13_stepBelow_23 rfl (lv_at hl 2 rfl) ?_
      refine bi_icmp_ne (tgt := 30) hx hb r_x11 r_u2 dX13_stepBelow_24 (by decide) (fun c12 => ?_) (fun c12 => ?_)
      ·
        replace hw := hw.1 c12
        refine lv_iload hx hb dX13_stepBelow_30 (lv_at hl 4 rfl) ?_
        refine lv_istore_n (lv' := [(3, .int (I u4)), (0, .ref (q 0)), (1, .int (I u1)), (2, .int (I u2)), (4, .int (I u4))]) hx hb dX13_stepBelow_32 rfl hl (by decide) rfl (fun ls hl => ?_)
        refine lv_aload_n hx hb dX13_stepBelow_33 rfl (lv_at hl 1 rfl) ?_
        refine gfX13_ruleNext hx hb hts hK hP hown (hts _ tw_2137) dX13_stepBelow_34 ?_
        refine lv_iload hx hb dX13_stepBelow_37 (lv_at hl 4 rfl) ?_
        refine ldMX13_ruleNext hx hb hK hP hN c10 dX13_stepBelow_39 (fun x13 r_x13 e_x13 => ?_)
        replace hw := hw x13 r_x13 e_x13
        refine lv_istore (lv' := [(4, .int (I x13)), (3, .int (I u4)), (0, .ref (q 0)), (1, .int (I u1)), (2, .int (I u2))]) hx hb dX13_stepBelow_40 hl (by decide) rfl (fun ls hl => ?_)
        refine lv_goto (tgt := 10) hx hb dX13_stepBelow_42 (by decide) ?_
        exact (hP10 _ _ _ _ _).mp hw r_u1 r_u2 r_u4 r_x13 hN hF H locs ls hP hD hS (lv_sub hl [2, 3, 4, 1, 0] rfl)
      ·
        replace hw := hw.2 c12
        refine lv_iload hx hb dX13_stepBelow_27 (lv_at hl 4 rfl) ?_
        exact xri hx hb hr hlk hP hK hD hS ⟨_, _, r_u4, rfl, hN, hF, rfl, hw⟩ (Nat.le_of_ble_eq_true rfl) (Nat.le_of_ble_eq_true rfl) dX13_stepBelow_29
def W_X13_treeRule (n1 : Int) (σ : S0) (Q : S0 → Prop) : Prop :=
  ∀ (P42 : Int → Int → Int → Int → S0 → Prop) (P52 : Int → Int → Int → S0 → Prop) (P104 : Int → Int → Int → Int → S0 → Prop) (P133 : Int → Int → Int → Int → Int → S0 → Prop),
  (∀ (u1 : Int) (u2 : Int) (k1 : Int) (k2 : Int) (τ : S0), ((0 ≤ k1 ∧ k1 < 30002) ∧ ((0 ≤ u1 ∧ u1 < 1501) ∧ (∀ (x14 : Int), rg x14 → x14 = τ.2.1 14 u1 → (rg (x14 + 1) ∧ P52 u1 u2 (x14 + 1) (s_a τ 83 k1 k2))))) → P42 u1 u2 k1 k2 τ) →
  (∀ (u1 : Int) (u2 : Int) (u3 : Int) (τ : S0), ((0 ≤ u1 ∧ u1 < 1501) ∧ (∀ (x17 : Int), rg x17 → x17 = τ.2.1 14 u1 → (∀ (x18 : Int), rg x18 → x18 = τ.2.1 15 u1 → (rg (x17 + x18) ∧ ((x17 + x18) ≤ u3 → (0 ≤ u2 ∧ u2 < 30002) ∧ (∀ (x22 : Int), rg x22 → x22 = τ.2.1 81 u2 → ((¬ x22 = 1500 → ∀ (x24 : Int), rg x24 → x24 = τ.2.1 82 u2 → ((¬ x24 = 1500 → Q τ) ∧ (x24 = 1500 → Q (s_a τ 82 u2 u1)))) ∧ (x22 = 1500 → Q (s_a τ 81 u2 u1))))) ∧ (u3 < (x17 + x18) → (0 ≤ u3 ∧ u3 < 30400) ∧ (∀ (x27 : Int), rg x27 → x27 = τ.2.1 16 u3 → ((0 ≤ x27 ∧ x27 < 1001) ∧ (∀ (x29 : Int), rg x29 → x29 = τ.2.1 8 x27 → ((x29 = 0 → P104 u1 u3 u2 x27 τ) ∧ (¬ x29 = 0 → ∀ (x31 : Int), rg x31 → x31 = τ.2.1 10 x27 → (rg ((-2) - x31) ∧ P104 u1 u3 u2 ((-2) - x31) τ))))))))))) → P52 u1 u2 u3 τ) →
  (∀ (u1 : Int) (u3 : Int) (k1 : Int) (k2 : Int) (τ : S0), (∃ (Q33 : Int → S0 → Prop), W_X13_stepBelow k1 k2 τ Q33 ∧ ∀ (x34 : Int) (τ35 : S0), rg x34 → n_m τ35 → f_r [47] [77, 78, 79, 80, 81, 82, 83] [] τ τ35 → Q33 x34 τ35 → ((0 ≤ x34 ∧ x34 < 30002) ∧ (∀ (x37 : Int), rg x37 → x37 = τ35.2.1 83 x34 → ((x37 ≤ u1 → ∀ (x39 : Int), rg x39 → x39 = τ35.2.1 83 x34 → (P133 u1 x34 u3 x34 x39 τ35)) ∧ (u1 < x37 → P133 u1 x34 u3 x34 u1 τ35))))) → P104 u1 u3 k1 k2 τ) →
  (∀ (u1 : Int) (u2 : Int) (u3 : Int) (k1 : Int) (k2 : Int) (τ : S0), ((0 ≤ k1 ∧ k1 < 30002) ∧ (rg (u3 + 1) ∧ P52 u1 u2 (u3 + 1) (s_a τ 83 k1 k2))) → P133 u1 u2 u3 k1 k2 τ) →
  (0 ≤ n1 ∧ n1 < 1501) ∧ (∀ (x2 : Int), rg x2 → x2 = σ.2.1 14 n1 → ((0 ≤ x2 ∧ x2 < 30400) ∧ (∀ (x4 : Int), rg x4 → x4 = σ.2.1 16 x2 → (∃ (Q5 : Int → S0 → Prop), W_X13_stepBelow 0 x4 σ Q5 ∧ ∀ (x6 : Int) (τ7 : S0), rg x6 → n_m τ7 → f_r [47] [77, 78, 79, 80, 81, 82, 83] [] σ τ7 → Q5 x6 τ7 → ((0 ≤ x6 ∧ x6 < 30002) ∧ (∀ (x9 : Int), rg x9 → x9 = τ7.2.1 83 x6 → ((x9 ≤ n1 → ∀ (x11 : Int), rg x11 → x11 = τ7.2.1 83 x6 → (P42 n1 x6 x6 x11 τ7)) ∧ (n1 < x9 → P42 n1 x6 x6 n1 τ7))))))))
set_option maxRecDepth 100000 in
set_option maxHeartbeats 4000000 in
theorem L_X13_treeRule (l : Launch) (g : gG) (q : Nat → Nat) (lb : Nat) (hlb : lb < 2 ^ 31) {n1 : Int} {σ : S0} {Q : S0 → Prop} (r_n1 : rg n1) (hN : n_m σ) (hw : W_X13_treeRule n1 σ Q) (sz : Nat) : MetV l yX13_treeRule cX13_treeRule 5 { frames := 2, cells := 0, slots := 0, locals := 47 } g [.ref (q 0), .int (I n1)] (MX g q lb σ) sz xT (p_V (MX g q lb) [47] [77, 78, 79, 80, 81, 82, 83] [] σ Q) 0 0 := by
  refine mkMet (Qc := fun A => QV g A (p_V (MX g q lb) [47] [77, 78, 79, 80, 81, 82, 83] [] σ Q)) (by decide) (Nat.le_of_ble_eq_true rfl) ?_
  intro p e s m below meth c A H ls hx hb hr hml hown hts hlk hnm hsz hP hK hNb hD hA hAe hS hX hl
  have hl : lv_has ls 5 [(0, .ref (q 0)), (1, .int (I n1))] := hl
  have hB := hN
  have hF : f_r [47] [77, 78, 79, 80, 81, 82, 83] [] σ σ := f_0
  obtain ⟨locs, hlocs⟩ : ∃ z : List Loc, z = [] := ⟨_, rfl⟩
  rw [← hlocs] at hS ⊢
  obtain ⟨P42, hP42⟩ : ∃ P : Int → Int → Int → Int → S0 → Prop, ∀ (u1 : Int) (u2 : Int) (k1 : Int) (k2 : Int) (τ : S0), (P u1 u2 k1 k2 τ ↔ (rg u1 → rg u2 → rg k1 → rg k2 → n_m τ → f_r [47] [77, 78, 79, 80, 81, 82, 83] [] σ τ → ∀ (H : Heap) (locs : List Loc) (ls : Array Slot), KP g (MX g q lb τ) H → va_D A (MX g q lb τ) → va_S A s.heap H locs → lv_has ls 5 [(0, .ref (q 0)), (1, .int (I u1)), (2, .int (I u2))] → W p l e ({ frames := 2, cells := 0, slots := 0, locals := 47 }) s m [.ref (q 0), .int (I n1)].toArray below meth c H locs 0 0 (MQ below (QV g A (p_V (MX g q lb) [47] [77, 78, 79, 80, 81, 82, 83] [] σ Q)) [.ref (q 0), .int (I n1)].toArray s 0 0 A) (F0 m 42 ls [.int (I k2), .int (I k1), .ref (q 89)]))) := ⟨_, fun _ _ _ _ _ => Iff.rfl⟩
  obtain ⟨P52, hP52⟩ : ∃ P : Int → Int → Int → S0 → Prop, ∀ (u1 : Int) (u2 : Int) (u3 : Int) (τ : S0), (P u1 u2 u3 τ ↔ (rg u1 → rg u2 → rg u3 → n_m τ → f_r [47] [77, 78, 79, 80, 81, 82, 83] [] σ τ → ∀ (H : Heap) (locs : List Loc) (ls : Array Slot), KP g (MX g q lb τ) H → va_D A (MX g q lb τ) → va_S A s.heap H locs → lv_has ls 5 [(0, .ref (q 0)), (1, .int (I u1)), (2, .int (I u2)), (3, .int (I u3))] → W p l e ({ frames := 2, cells := 0, slots := 0, locals := 47 }) s m [.ref (q 0), .int (I n1)].toArray below meth c H locs 0 0 (MQ below (QV g A (p_V (MX g q lb) [47] [77, 78, 79, 80, 81, 82, 83] [] σ Q)) [.ref (q 0), .int (I n1)].toArray s 0 0 A) (F0 m 52 ls []))) := ⟨_, fun _ _ _ _ => Iff.rfl⟩
  obtain ⟨P104, hP104⟩ : ∃ P : Int → Int → Int → Int → S0 → Prop, ∀ (u1 : Int) (u3 : Int) (k1 : Int) (k2 : Int) (τ : S0), (P u1 u3 k1 k2 τ ↔ (rg u1 → rg u3 → rg k1 → rg k2 → n_m τ → f_r [47] [77, 78, 79, 80, 81, 82, 83] [] σ τ → ∀ (H : Heap) (locs : List Loc) (ls : Array Slot), KP g (MX g q lb τ) H → va_D A (MX g q lb τ) → va_S A s.heap H locs → lv_has ls 5 [(0, .ref (q 0)), (1, .int (I u1)), (3, .int (I u3))] → W p l e ({ frames := 2, cells := 0, slots := 0, locals := 47 }) s m [.ref (q 0), .int (I n1)].toArray below meth c H locs 0 0 (MQ below (QV g A (p_V (MX g q lb) [47] [77, 78, 79, 80, 81, 82, 83] [] σ Q)) [.ref (q 0), .int (I n1)].toArray s 0 0 A) (F0 m 104 ls [.int (I k2), .int (I k1), .ref (q 0)]))) := ⟨_, fun _ _ _ _ _ => Iff.rfl⟩
  obtain ⟨P133, hP133⟩ : ∃ P : Int → Int → Int → Int → Int → S0 → Prop, ∀ (u1 : Int) (u2 : Int) (u3 : Int) (k1 : Int) (k2 : Int) (τ : S0), (P u1 u2 u3 k1 k2 τ ↔ (rg u1 → rg u2 → rg u3 → rg k1 → rg k2 → n_m τ → f_r [47] [77, 78, 79, 80, 81, 82, 83] [] σ τ → ∀ (H : Heap) (locs : List Loc) (ls : Array Slot), KP g (MX g q lb τ) H → va_D A (MX g q lb τ) → va_S A s.heap H locs → lv_has ls 5 [(0, .ref (q 0)), (1, .int (I u1)), (2, .int (I u2)), (3, .int (I u3))] → W p l e ({ frames := 2, cells := 0, slots := 0, locals := 47 }) s m [.ref (q 0), .int (I n1)].toArray below meth c H locs 0 0 (MQ below (QV g A (p_V (MX g q lb) [47] [77, 78, 79, 80, 81, 82, 83] [] σ Q)) [.ref (q 0), .int (I n1)].toArray s 0 0 A) (F0 m 133 ls [.int (I k2), .int (I k1), .ref (q 89)]))) := ⟨_, fun _ _ _ _ _ _ => Iff.rfl⟩
  refine (fun hw => ?_) (hw P42 P52 P104 P133 ?_ ?_ ?_ ?_)
  ·
    refine lv_aload_n hx hb dX13_treeRule_0 rfl (lv_at hl 0 rfl) ?_
    refine lv_iconst (v := I 0) hx hb dX13_treeRule_1 rfl ?_
    refine lv_aload_n hx hb dX13_treeRule_2 rfl (lv_at hl 0 rfl) ?_
    refine gfX13_texts hx hb hts hK hP hown (hts _ tw_2028) dX13_treeRule_3 ?_
    refine lv_aload_n hx hb dX13_treeRule_6 rfl (lv_at hl 0 rfl) ?_
    refine gfX13_textAt hx hb hts hK hP hown (hts _ tw_2026) dX13_treeRule_7 ?_
    refine lv_iload_n hx hb dX13_treeRule_10 rfl (lv_at hl 1 rfl) ?_
    obtain ⟨c1, hw⟩ := hw
    refine ldMX13_textAt hx hb hK hP hN c1 dX13_treeRule_11 (fun x2 r_x2 e_x2 => ?_)
    replace hw := hw x2 r_x2 e_x2
    obtain ⟨c3, hw⟩ := hw
    refine ldMX13_texts hx hb hK hP hN c3 dX13_treeRule_12 (fun x4 r_x4 e_x4 => ?_)
    replace hw := hw x4 r_x4 e_x4
    obtain ⟨Q5, hc, hw⟩ := hw
    refine wc_I (X := MX g q lb) (va_runV (As := [.int (I 0), .int (I x4)]) (rest := []) ⟨hx, hb, hml, hown, hts⟩ (L_X13_stepBelow l g q lb hlb (by decide) r_x4 hN hc H.size) (cwV 2 hts (TB_V tw_2952 tw_2954 ts_183 tw_15 co_X13_stepBelow) rfl rfl rfl (by decide +kernel) ⟨Nat.le_of_ble_eq_true rfl, Nat.le_of_ble_eq_true rfl⟩) (preV (q0 := 0) (ci := 13) rfl xT_bl hP hK hNb hD rfl rfl xT_at) rfl rfl hl.1 rfl (lv_room (Nat.le_of_ble_eq_true rfl)) dX13_treeRule_13 ⟨Nat.le_of_ble_eq_true rfl, Nat.le_of_ble_eq_true rfl⟩) hP hD hS hA (fun x6 τ7 H locs r_x6 hN hf hq hP hD hS => ?_)
    replace hw := hw x6 τ7 r_x6 hN hf hq
    have hF : f_r [47] [77, 78, 79, 80, 81, 82, 83] [] σ τ7 := f_t hF hf (by decide) (by decide) (by decide)
    have hB := hN
    refine lv_istore_n (lv' := [(2, .int (I x6)), (0, .ref (q 0)), (1, .int (I n1))]) hx hb dX13_treeRule_16 rfl hl (by decide) rfl (fun ls hl => ?_)
    refine lv_aload_n hx hb dX13_treeRule_17 rfl (lv_at hl 1 rfl) ?_
    refine gfX13_ruleLeast hx hb hts hK hP hown (hts _ tw_2140) dX13_treeRule_18 ?_
    refine lv_iload_n hx hb dX13_treeRule_21 rfl (lv_at hl 0 rfl) ?_
    refine lv_iload_n hx hb dX13_treeRule_22 rfl (lv_at hl 2 rfl) ?_
    refine lv_aload_n hx hb dX13_treeRule_23 rfl (lv_at hl 1 rfl) ?_
    refine gfX13_ruleLeast hx hb hts hK hP hown (hts _ tw_2140) dX13_treeRule_24 ?_
    refine lv_iload_n hx hb dX13_treeRule_27 rfl (lv_at hl 0 rfl) ?_
    obtain ⟨c8, hw⟩ := hw
    refine ldMX13_ruleLeast hx hb hK hP hN c8 dX13_treeRule_28 (fun x9 r_x9 e_x9 => ?_)
    replace hw := hw x9 r_x9 e_x9
    refine bi_icmp_ge (tgt := 36) hx hb r_n1 r_x9 dX13_treeRule_29 (by decide) (fun c10 => ?_) (fun c10 => ?_)
    ·
      replace hw := hw.1 c10
      refine lv_aload_n hx hb dX13_treeRule_36 rfl (lv_at hl 1 rfl) ?_
      refine gfX13_ruleLeast hx hb hts hK hP hown (hts _ tw_2140) dX13_treeRule_37 ?_
      refine lv_iload_n hx hb dX13_treeRule_40 rfl (lv_at hl 0 rfl) ?_
      refine ldMX13_ruleLeast hx hb hK hP hN c8 dX13_treeRule_41 (fun x11 r_x11 e_x11 => ?_)
      replace hw := hw x11 r_x11 e_x11
      exact (hP42 _ _ _ _ _).mp hw r_n1 r_x6 r_x6 r_x11 hN hF H locs ls hP hD hS (lv_sub hl [1, 2, 0] rfl)
    ·
      replace hw := hw.2 c10
      refine lv_iload_n hx hb dX13_treeRule_32 rfl (lv_at hl 2 rfl) ?_
      refine lv_goto (tgt := 42) hx hb dX13_treeRule_33 (by decide) ?_
      exact (hP42 _ _ _ _ _).mp hw r_n1 r_x6 r_x6 r_n1 hN hF H locs ls hP hD hS (lv_sub hl [1, 2, 0] rfl)
  ·
    intro u1 u2 k1 k2 τ hw
    refine (hP42 _ _ _ _ _).mpr ?_
    intro r_u1 r_u2 r_k1 r_k2 hN hF H locs ls hP hD hS hl
    have hB := hN
    obtain ⟨c12, hw⟩ := hw
    refine sdMX13_ruleLeast hx hb hK hP hD hS c12 dX13_treeRule_42 (fun H locs hP hD hS => ?_)
    have hN : n_m (s_a τ 83 k1 k2) := n_a (k := 83) (j := k1) hN (r_k2 : rg k2)
    have hF : f_r [47] [77, 78, 79, 80, 81, 82, 83] [] σ (s_a τ 83 k1 k2) := f_a hF (by decide)
    refine lv_aload_n hx hb dX13_treeRule_43 rfl (lv_at hl 0 rfl) ?_
    refine gfX13_textAt hx hb hts hK hP hown (hts _ tw_2026) dX13_treeRule_44 ?_
    refine lv_iload_n hx hb dX13_treeRule_47 rfl (lv_at hl 1 rfl) ?_
    obtain ⟨c13, hw⟩ := hw
    refine ldMX13_textAt hx hb hK hP hN c13 dX13_treeRule_48 (fun x14 r_x14 e_x14 => ?_)
    replace hw := hw x14 r_x14 e_x14
    refine lv_iconst (v := I 1) hx hb dX13_treeRule_49 rfl ?_
    refine bi_iadd hx hb dX13_treeRule_50 ?_
    refine lv_istore_n (lv' := [(3, .int (I (x14 + 1))), (0, .ref (q 0)), (1, .int (I u1)), (2, .int (I u2))]) hx hb dX13_treeRule_51 rfl hl (by decide) rfl (fun ls hl => ?_)
    obtain ⟨c15, hw⟩ := hw
    exact (hP52 _ _ _ _).mp hw r_u1 r_u2 c15 hN hF H locs ls hP hD hS (lv_sub hl [1, 2, 3, 0] rfl)
  ·
    intro u1 u2 u3 τ hw
    refine (hP52 _ _ _ _).mpr ?_
    intro r_u1 r_u2 r_u3 hN hF H locs ls hP hD hS hl
    have hB := hN
    refine lv_iload_n hx hb dX13_treeRule_52 rfl (lv_at hl 3 rfl) ?_
    refine lv_aload_n hx hb dX13_treeRule_53 rfl (lv_at hl 0 rfl) ?_
    refine gfX13_textAt hx hb hts hK hP hown (hts _ tw_2026) dX13_treeRule_54 ?_
    refine lv_iload_n hx hb dX13_treeRule_57 rfl (lv_at hl 1 rfl) ?_
    obtain ⟨c16, hw⟩ := hw
    refine ldMX13_textAt hx hb hK hP hN c16 dX13_treeRule_58 (fun x17 r_x17 e_x17 => ?_)
    replace hw := hw x17 r_x17 e_x17
    refine lv_aload_n hx hb dX13_treeRule_59 rfl (lv_at hl 0 rfl) ?_
    refine gfX13_textSize hx hb hts hK hP hown (hts _ tw_2027) dX13_treeRule_60 ?_
    refine lv_iload_n hx hb dX13_treeRule_63 rfl (lv_at hl 1 rfl) ?_
    refine ldMX13_textSize hx hb hK hP hN c16 dX13_treeRule_64 (fun x18 r_x18 e_x18 => ?_)
    replace hw := hw x18 r_x18 e_x18
    refine bi_iadd hx hb dX13_treeRule_65 ?_
    obtain ⟨c19, hw⟩ := hw
    refine bi_icmp_ge (tgt := 140) hx hb r_u3 c19 dX13_treeRule_66 (by decide) (fun c20 => ?_) (fun c20 => ?_)
    ·
      replace hw := hw.1 c20
      refine lv_aload_n hx hb dX13_treeRule_140 rfl (lv_at hl 0 rfl) ?_
      refine gfX13_ruleFirst hx hb hts hK hP hown (hts _ tw_2138) dX13_treeRule_141 ?_
      refine lv_iload_n hx hb dX13_treeRule_144 rfl (lv_at hl 2 rfl) ?_
      obtain ⟨c21, hw⟩ := hw
      refine ldMX13_ruleFirst hx hb hK hP hN c21 dX13_treeRule_145 (fun x22 r_x22 e_x22 => ?_)
      replace hw := hw x22 r_x22 e_x22
      refine lv_sipush (v := I 1500) hx hb dX13_treeRule_146 (by decide) ?_
      refine bi_icmp_ne (tgt := 162) hx hb r_x22 (by decide) dX13_treeRule_149 (by decide) (fun c23 => ?_) (fun c23 => ?_)
      ·
        replace hw := hw.1 c23
        refine lv_aload_n hx hb dX13_treeRule_162 rfl (lv_at hl 0 rfl) ?_
        refine gfX13_ruleOther hx hb hts hK hP hown (hts _ tw_2139) dX13_treeRule_163 ?_
        refine lv_iload_n hx hb dX13_treeRule_166 rfl (lv_at hl 2 rfl) ?_
        refine ldMX13_ruleOther hx hb hK hP hN c21 dX13_treeRule_167 (fun x24 r_x24 e_x24 => ?_)
        replace hw := hw x24 r_x24 e_x24
        refine lv_sipush (v := I 1500) hx hb dX13_treeRule_168 (by decide) ?_
        refine bi_icmp_ne (tgt := 181) hx hb r_x24 (by decide) dX13_treeRule_171 (by decide) (fun c25 => ?_) (fun c25 => ?_)
        ·
          replace hw := hw.1 c25
          exact xrv hx hb hr hlk hP hK hD hS ⟨_, hN, hF, rfl, hw⟩ (Nat.le_of_ble_eq_true rfl) (Nat.le_of_ble_eq_true rfl) dX13_treeRule_181
        ·
          replace hw := hw.2 c25
          refine lv_aload_n hx hb dX13_treeRule_174 rfl (lv_at hl 0 rfl) ?_
          refine gfX13_ruleOther hx hb hts hK hP hown (hts _ tw_2139) dX13_treeRule_175 ?_
          refine lv_iload_n hx hb dX13_treeRule_178 rfl (lv_at hl 2 rfl) ?_
          refine lv_iload_n hx hb dX13_treeRule_179 rfl (lv_at hl 1 rfl) ?_
          refine sdMX13_ruleOther hx hb hK hP hD hS c21 dX13_treeRule_180 (fun H locs hP hD hS => ?_)
          have hN : n_m (s_a τ 82 u2 u1) := n_a (k := 82) (j := u2) hN (r_u1 : rg u1)
          have hF : f_r [47] [77, 78, 79, 80, 81, 82, 83] [] σ (s_a τ 82 u2 u1) := f_a hF (by decide)
          exact xrv hx hb hr hlk hP hK hD hS ⟨_, hN, hF, rfl, hw⟩ (Nat.le_of_ble_eq_true rfl) (Nat.le_of_ble_eq_true rfl) dX13_treeRule_181
      ·
        replace hw := hw.2 c23
        refine lv_aload_n hx hb dX13_treeRule_152 rfl (lv_at hl 0 rfl) ?_
        refine gfX13_ruleFirst hx hb hts hK hP hown (hts _ tw_2138) dX13_treeRule_153 ?_
        refine lv_iload_n hx hb dX13_treeRule_156 rfl (lv_at hl 2 rfl) ?_
        refine lv_iload_n hx hb dX13_treeRule_157 rfl (lv_at hl 1 rfl) ?_
        refine sdMX13_ruleFirst hx hb hK hP hD hS c21 dX13_treeRule_158 (fun H locs hP hD hS => ?_)
        have hN : n_m (s_a τ 81 u2 u1) := n_a (k := 81) (j := u2) hN (r_u1 : rg u1)
        have hF : f_r [47] [77, 78, 79, 80, 81, 82, 83] [] σ (s_a τ 81 u2 u1) := f_a hF (by decide)
        refine lv_goto (tgt := 181) hx hb dX13_treeRule_159 (by decide) ?_
        exact xrv hx hb hr hlk hP hK hD hS ⟨_, hN, hF, rfl, hw⟩ (Nat.le_of_ble_eq_true rfl) (Nat.le_of_ble_eq_true rfl) dX13_treeRule_181
    ·
      replace hw := hw.2 c20
      refine lv_aload_n hx hb dX13_treeRule_69 rfl (lv_at hl 0 rfl) ?_
      refine gfX13_texts hx hb hts hK hP hown (hts _ tw_2028) dX13_treeRule_70 ?_
      refine lv_iload_n hx hb dX13_treeRule_73 rfl (lv_at hl 3 rfl) ?_
      obtain ⟨c26, hw⟩ := hw
      refine ldMX13_texts hx hb hK hP hN c26 dX13_treeRule_74 (fun x27 r_x27 e_x27 => ?_)
      replace hw := hw x27 r_x27 e_x27
      refine lv_istore (lv' := [(4, .int (I x27)), (0, .ref (q 0)), (1, .int (I u1)), (2, .int (I u2)), (3, .int (I u3))]) hx hb dX13_treeRule_75 hl (by decide) rfl (fun ls hl => ?_)
      refine lv_aload_n hx hb dX13_treeRule_77 rfl (lv_at hl 1 rfl) ?_
      refine lv_iload_n hx hb dX13_treeRule_78 rfl (lv_at hl 3 rfl) ?_
      refine lv_aload_n hx hb dX13_treeRule_79 rfl (lv_at hl 1 rfl) ?_
      refine gfX13_isVariable hx hb hts hK hP hown (hts _ tw_2018) dX13_treeRule_80 ?_
      refine lv_iload hx hb dX13_treeRule_83 (lv_at hl 0 rfl) ?_
      obtain ⟨c28, hw⟩ := hw
      refine ldMX13_isVariable hx hb hK hP hN c28 dX13_treeRule_85 (fun x29 r_x29 e_x29 => ?_)
      replace hw := hw x29 r_x29 e_x29
      refine bi_if_eq (tgt := 102) hx hb r_x29 dX13_treeRule_86 (by decide) (fun c30 => ?_) (fun c30 => ?_)
      ·
        replace hw := hw.1 c30
        refine lv_iload hx hb dX13_treeRule_102 (lv_at hl 0 rfl) ?_
        exact (hP104 _ _ _ _ _).mp hw r_u1 r_u3 r_u2 r_x27 hN hF H locs ls hP hD hS (lv_sub hl [1, 2, 4] rfl)
      ·
        replace hw := hw.2 c30
        refine lv_bipush (v := I (-2)) hx hb dX13_treeRule_89 (by decide) ?_
        refine lv_aload_n hx hb dX13_treeRule_91 rfl (lv_at hl 1 rfl) ?_
        refine gfX13_typeOf hx hb hts hK hP hown (hts _ tw_2020) dX13_treeRule_92 ?_
        refine lv_iload hx hb dX13_treeRule_95 (lv_at hl 0 rfl) ?_
        refine ldMX13_typeOf hx hb hK hP hN c28 dX13_treeRule_97 (fun x31 r_x31 e_x31 => ?_)
        replace hw := hw x31 r_x31 e_x31
        refine bi_isub hx hb dX13_treeRule_98 ?_
        refine lv_goto (tgt := 104) hx hb dX13_treeRule_99 (by decide) ?_
        obtain ⟨c32, hw⟩ := hw
        exact (hP104 _ _ _ _ _).mp hw r_u1 r_u3 r_u2 c32 hN hF H locs ls hP hD hS (lv_sub hl [1, 2, 4] rfl)
  ·
    intro u1 u3 k1 k2 τ hw
    refine (hP104 _ _ _ _ _).mpr ?_
    intro r_u1 r_u3 r_k1 r_k2 hN hF H locs ls hP hD hS hl
    have hB := hN
    obtain ⟨Q33, hc, hw⟩ := hw
    refine wc_I (X := MX g q lb) (va_runV (As := [.int (I k1), .int (I k2)]) (rest := []) ⟨hx, hb, hml, hown, hts⟩ (L_X13_stepBelow l g q lb hlb r_k1 r_k2 hN hc H.size) (cwV 2 hts (TB_V tw_2952 tw_2954 ts_183 tw_15 co_X13_stepBelow) rfl rfl rfl (by decide +kernel) ⟨Nat.le_of_ble_eq_true rfl, Nat.le_of_ble_eq_true rfl⟩) (preV (q0 := 0) (ci := 13) rfl xT_bl hP hK hNb hD rfl rfl xT_at) rfl rfl hl.1 rfl (lv_room (Nat.le_of_ble_eq_true rfl)) dX13_treeRule_104 ⟨Nat.le_of_ble_eq_true rfl, Nat.le_of_ble_eq_true rfl⟩) hP hD hS hA (fun x34 τ35 H locs r_x34 hN hf hq hP hD hS => ?_)
    replace hw := hw x34 τ35 r_x34 hN hf hq
    have hF : f_r [47] [77, 78, 79, 80, 81, 82, 83] [] σ τ35 := f_t hF hf (by decide) (by decide) (by decide)
    have hB := hN
    refine lv_istore_n (lv' := [(2, .int (I x34)), (0, .ref (q 0)), (1, .int (I u1)), (3, .int (I u3))]) hx hb dX13_treeRule_107 rfl hl (by decide) rfl (fun ls hl => ?_)
    refine lv_aload_n hx hb dX13_treeRule_108 rfl (lv_at hl 1 rfl) ?_
    refine gfX13_ruleLeast hx hb hts hK hP hown (hts _ tw_2140) dX13_treeRule_109 ?_
    refine lv_iload_n hx hb dX13_treeRule_112 rfl (lv_at hl 0 rfl) ?_
    refine lv_iload_n hx hb dX13_treeRule_113 rfl (lv_at hl 2 rfl) ?_
    refine lv_aload_n hx hb dX13_treeRule_114 rfl (lv_at hl 1 rfl) ?_
    refine gfX13_ruleLeast hx hb hts hK hP hown (hts _ tw_2140) dX13_treeRule_115 ?_
    refine lv_iload_n hx hb dX13_treeRule_118 rfl (lv_at hl 0 rfl) ?_
    obtain ⟨c36, hw⟩ := hw
    refine ldMX13_ruleLeast hx hb hK hP hN c36 dX13_treeRule_119 (fun x37 r_x37 e_x37 => ?_)
    replace hw := hw x37 r_x37 e_x37
    refine bi_icmp_ge (tgt := 127) hx hb r_u1 r_x37 dX13_treeRule_120 (by decide) (fun c38 => ?_) (fun c38 => ?_)
    ·
      replace hw := hw.1 c38
      refine lv_aload_n hx hb dX13_treeRule_127 rfl (lv_at hl 1 rfl) ?_
      refine gfX13_ruleLeast hx hb hts hK hP hown (hts _ tw_2140) dX13_treeRule_128 ?_
      refine lv_iload_n hx hb dX13_treeRule_131 rfl (lv_at hl 0 rfl) ?_
      refine ldMX13_ruleLeast hx hb hK hP hN c36 dX13_treeRule_132 (fun x39 r_x39 e_x39 => ?_)
      replace hw := hw x39 r_x39 e_x39
      exact (hP133 _ _ _ _ _ _).mp hw r_u1 r_x34 r_u3 r_x34 r_x39 hN hF H locs ls hP hD hS (lv_sub hl [1, 2, 0, 3] rfl)
    ·
      replace hw := hw.2 c38
      refine lv_iload_n hx hb dX13_treeRule_123 rfl (lv_at hl 2 rfl) ?_
      refine lv_goto (tgt := 133) hx hb dX13_treeRule_124 (by decide) ?_
      exact (hP133 _ _ _ _ _ _).mp hw r_u1 r_x34 r_u3 r_x34 r_u1 hN hF H locs ls hP hD hS (lv_sub hl [1, 2, 0, 3] rfl)
  ·
    intro u1 u2 u3 k1 k2 τ hw
    refine (hP133 _ _ _ _ _ _).mpr ?_
    intro r_u1 r_u2 r_u3 r_k1 r_k2 hN hF H locs ls hP hD hS hl
    have hB := hN
    obtain ⟨c40, hw⟩ := hw
    refine sdMX13_ruleLeast hx hb hK hP hD hS c40 dX13_treeRule_133 (fun H locs hP hD hS => ?_)
    have hN : n_m (s_a τ 83 k1 k2) := n_a (k := 83) (j := k1) hN (r_k2 : rg k2)
    have hF : f_r [47] [77, 78, 79, 80, 81, 82, 83] [] σ (s_a τ 83 k1 k2) := f_a hF (by decide)
    refine lv_iinc (v := I (u3 + 1)) (lv' := [(3, .int (I (u3 + 1))), (0, .ref (q 0)), (1, .int (I u1)), (2, .int (I u2))]) hx hb dX13_treeRule_134 hl (k := 3) rfl (I_add _ _) (by decide) rfl (fun ls hl => ?_)
    refine lv_goto (tgt := 52) hx hb dX13_treeRule_137 (by decide) ?_
    obtain ⟨c41, hw⟩ := hw
    exact (hP52 _ _ _ _).mp hw r_u1 r_u2 c41 hN hF H locs ls hP hD hS (lv_sub hl [1, 2, 3, 0] rfl)
def W_X13_treeRules (σ : S0) (Q : S0 → Prop) : Prop :=
  ∀ (P19 : Int → S0 → Prop),
  (∀ (u1 : Int) (τ : S0), ((τ.1 5 ≤ u1 → Q (s_v τ 49 1)) ∧ (u1 < τ.1 5 → (0 ≤ u1 ∧ u1 < 1501) ∧ (∀ (x6 : Int), rg x6 → x6 = τ.2.1 15 u1 → ((60 < x6 → rg (u1 + 1) ∧ P19 (u1 + 1) τ) ∧ (x6 ≤ 60 → ∃ (Q9 : Int → Prop), W_X13_isRule u1 τ Q9 ∧ ∀ (x10 : Int), rg x10 → Q9 x10 → ((x10 = 0 → rg (u1 + 1) ∧ P19 (u1 + 1) τ) ∧ (¬ x10 = 0 → ∃ (Q14 : Int → Prop), W_X13_isUnit u1 τ Q14 ∧ ∀ (x15 : Int), rg x15 → Q14 x15 → ((x15 = 0 → ∃ (Q18 : S0 → Prop), W_X13_treeRule u1 τ Q18 ∧ ∀ (τ20 : S0), n_m τ20 → f_r [47] [77, 78, 79, 80, 81, 82, 83] [] τ τ20 → Q18 τ20 → (rg (u1 + 1) ∧ P19 (u1 + 1) τ20)) ∧ (¬ x15 = 0 → (0 ≤ τ.1 48 ∧ τ.1 48 < 1501) ∧ (rg (τ.1 48 + 1) ∧ rg (u1 + 1) ∧ P19 (u1 + 1) (s_v (s_a τ 84 (τ.1 48) u1) 48 (τ.1 48 + 1)))))))))))) → P19 u1 τ) →
  ∃ (Q1 : Int → S0 → Prop), W_X13_newRuleNode (-1) (-1) (s_v (s_v σ 47 0) 48 0) Q1 ∧ ∀ (x2 : Int) (τ3 : S0), rg x2 → n_m τ3 → f_r [47] [77, 78, 79, 80, 81, 82, 83] [] (s_v (s_v σ 47 0) 48 0) τ3 → Q1 x2 τ3 → (P19 0 τ3)
set_option maxRecDepth 100000 in
set_option maxHeartbeats 4000000 in
theorem L_X13_treeRules (l : Launch) (g : gG) (q : Nat → Nat) (lb : Nat) (hlb : lb < 2 ^ 31) {σ : S0} {Q : S0 → Prop} (hN : n_m σ) (hw : W_X13_treeRules σ Q) (sz : Nat) : MetV l yX13_treeRules cX13_treeRules 2 { frames := 3, cells := 0, slots := 0, locals := 71 } g [.ref (q 0)] (MX g q lb σ) sz xT (p_V (MX g q lb) [47, 48, 49] [77, 78, 79, 80, 81, 82, 83, 84] [] σ Q) 0 0 := by
  refine mkMet (Qc := fun A => QV g A (p_V (MX g q lb) [47, 48, 49] [77, 78, 79, 80, 81, 82, 83, 84] [] σ Q)) (by decide) (Nat.le_of_ble_eq_true rfl) ?_
  intro p e s m below meth c A H ls hx hb hr hml hown hts hlk hnm hsz hP hK hNb hD hA hAe hS hX hl
  have hl : lv_has ls 2 [(0, .ref (q 0))] := hl
  have hB := hN
  have hF : f_r [47, 48, 49] [77, 78, 79, 80, 81, 82, 83, 84] [] σ σ := f_0
  obtain ⟨locs, hlocs⟩ : ∃ z : List Loc, z = [] := ⟨_, rfl⟩
  rw [← hlocs] at hS ⊢
  obtain ⟨P19, hP19⟩ : ∃ P : Int → S0 → Prop, ∀ (u1 : Int) (τ : S0), (P u1 τ ↔ (rg u1 → n_m τ → f_r [47, 48, 49] [77, 78, 79, 80, 81, 82, 83, 84] [] σ τ → ∀ (H : Heap) (locs : List Loc) (ls : Array Slot), KP g (MX g q lb τ) H → va_D A (MX g q lb τ) → va_S A s.heap H locs → lv_has ls 2 [(0, .ref (q 0)), (1, .int (I u1))] → W p l e ({ frames := 3, cells := 0, slots := 0, locals := 71 }) s m [.ref (q 0)].toArray below meth c H locs 0 0 (MQ below (QV g A (p_V (MX g q lb) [47, 48, 49] [77, 78, 79, 80, 81, 82, 83, 84] [] σ Q)) [.ref (q 0)].toArray s 0 0 A) (F0 m 19 ls []))) := ⟨_, fun _ _ => Iff.rfl⟩
  refine (fun hw => ?_) (hw P19 ?_)
  ·
    refine lv_aload_n hx hb dX13_treeRules_0 rfl (lv_at hl 0 rfl) ?_
    refine lv_iconst (v := I 0) hx hb dX13_treeRules_1 rfl ?_
    refine pfX13_ruleNodes hx hb hts hK hP hD hS hown (hts _ tw_2143) dX13_treeRules_2 (fun H locs hP hD hS => ?_)
    have hN : n_m (s_v σ 47 0) := n_v (i := 47) hN ((by decide) : rg 0)
    have hF : f_r [47, 48, 49] [77, 78, 79, 80, 81, 82, 83, 84] [] σ (s_v σ 47 0) := f_v hF (by decide)
    refine lv_aload_n hx hb dX13_treeRules_5 rfl (lv_at hl 0 rfl) ?_
    refine lv_iconst (v := I 0) hx hb dX13_treeRules_6 rfl ?_
    refine pfX13_unitCount hx hb hts hK hP hD hS hown (hts _ tw_2145) dX13_treeRules_7 (fun H locs hP hD hS => ?_)
    have hN : n_m (s_v (s_v σ 47 0) 48 0) := n_v (i := 48) hN ((by decide) : rg 0)
    have hF : f_r [47, 48, 49] [77, 78, 79, 80, 81, 82, 83, 84] [] σ (s_v (s_v σ 47 0) 48 0) := f_v hF (by decide)
    refine lv_aload_n hx hb dX13_treeRules_10 rfl (lv_at hl 0 rfl) ?_
    refine lv_iconst (v := I (-1)) hx hb dX13_treeRules_11 rfl ?_
    refine lv_iconst (v := I (-1)) hx hb dX13_treeRules_12 rfl ?_
    obtain ⟨Q1, hc, hw⟩ := hw
    refine wc_I (X := MX g q lb) (va_runV (As := [.int (I (-1)), .int (I (-1))]) (rest := []) ⟨hx, hb, hml, hown, hts⟩ (L_X13_newRuleNode l g q lb hlb (by decide) (by decide) hN hc H.size) (cwV 2 hts (TB_V tw_2936 tw_2938 ts_179 tw_15 co_X13_newRuleNode) rfl rfl rfl (by decide +kernel) ⟨Nat.le_of_ble_eq_true rfl, Nat.le_of_ble_eq_true rfl⟩) (preV (q0 := 0) (ci := 13) rfl xT_bl hP hK hNb hD rfl rfl xT_at) rfl rfl hl.1 rfl (lv_room (Nat.le_of_ble_eq_true rfl)) dX13_treeRules_13 ⟨Nat.le_of_ble_eq_true rfl, Nat.le_of_ble_eq_true rfl⟩) hP hD hS hA (fun x2 τ3 H locs r_x2 hN hf hq hP hD hS => ?_)
    replace hw := hw x2 τ3 r_x2 hN hf hq
    have hF : f_r [47, 48, 49] [77, 78, 79, 80, 81, 82, 83, 84] [] σ τ3 := f_t hF hf (by decide) (by decide) (by decide)
    have hB := hN
    refine lv_pop hx hb dX13_treeRules_16 rfl ?_
    refine lv_iconst (v := I 0) hx hb dX13_treeRules_17 rfl ?_
    refine lv_istore_n (lv' := [(1, .int (I 0)), (0, .ref (q 0))]) hx hb dX13_treeRules_18 rfl hl (by decide) rfl (fun ls hl => ?_)
    exact (hP19 _ _).mp hw (by decide) hN hF H locs ls hP hD hS (lv_sub hl [1, 0] rfl)
  ·
    intro u1 τ hw
    refine (hP19 _ _).mpr ?_
    intro r_u1 hN hF H locs ls hP hD hS hl
    have hB := hN
    refine lv_iload_n hx hb dX13_treeRules_19 rfl (lv_at hl 1 rfl) ?_
    refine lv_aload_n hx hb dX13_treeRules_20 rfl (lv_at hl 0 rfl) ?_
    refine gfX13_statements hx hb hts hK hP hown (hts _ tw_2024) (x := τ.1 5) rfl dX13_treeRules_21 ?_
    refine bi_icmp_ge (tgt := 88) hx hb r_u1 (hB.1 5) dX13_treeRules_24 (by decide) (fun c4 => ?_) (fun c4 => ?_)
    ·
      replace hw := hw.1 c4
      refine lv_aload_n hx hb dX13_treeRules_88 rfl (lv_at hl 0 rfl) ?_
      refine lv_iconst (v := I 1) hx hb dX13_treeRules_89 rfl ?_
      refine pfX13_isTreed hx hb hts hK hP hD hS hown (hts _ tw_2146) (by decide)  dX13_treeRules_90 (fun H locs hP hD hS => ?_)
      have hN : n_m (s_v τ 49 1) := n_v (i := 49) hN ((by decide) : rg 1)
      have hF : f_r [47, 48, 49] [77, 78, 79, 80, 81, 82, 83, 84] [] σ (s_v τ 49 1) := f_v hF (by decide)
      exact xrv hx hb hr hlk hP hK hD hS ⟨_, hN, hF, rfl, hw⟩ (Nat.le_of_ble_eq_true rfl) (Nat.le_of_ble_eq_true rfl) dX13_treeRules_93
    ·
      replace hw := hw.2 c4
      refine lv_aload_n hx hb dX13_treeRules_27 rfl (lv_at hl 0 rfl) ?_
      refine gfX13_textSize hx hb hts hK hP hown (hts _ tw_2027) dX13_treeRules_28 ?_
      refine lv_iload_n hx hb dX13_treeRules_31 rfl (lv_at hl 1 rfl) ?_
      obtain ⟨c5, hw⟩ := hw
      refine ldMX13_textSize hx hb hK hP hN c5 dX13_treeRules_32 (fun x6 r_x6 e_x6 => ?_)
      replace hw := hw x6 r_x6 e_x6
      refine lv_bipush (v := I 60) hx hb dX13_treeRules_33 (by decide) ?_
      refine bi_icmp_gt (tgt := 82) hx hb r_x6 (by decide) dX13_treeRules_35 (by decide) (fun c7 => ?_) (fun c7 => ?_)
      ·
        replace hw := hw.1 c7
        refine lv_iinc (v := I (u1 + 1)) (lv' := [(1, .int (I (u1 + 1))), (0, .ref (q 0))]) hx hb dX13_treeRules_82 hl (k := 1) rfl (I_add _ _) (by decide) rfl (fun ls hl => ?_)
        refine lv_goto (tgt := 19) hx hb dX13_treeRules_85 (by decide) ?_
        obtain ⟨c8, hw⟩ := hw
        exact (hP19 _ _).mp hw c8 hN hF H locs ls hP hD hS (lv_sub hl [1, 0] rfl)
      ·
        replace hw := hw.2 c7
        refine lv_aload_n hx hb dX13_treeRules_38 rfl (lv_at hl 0 rfl) ?_
        refine lv_iload_n hx hb dX13_treeRules_39 rfl (lv_at hl 1 rfl) ?_
        obtain ⟨Q9, hc, hw⟩ := hw
        refine wc_i (X := MX g q lb) (va_runV (As := [.int (I u1)]) (rest := []) ⟨hx, hb, hml, hown, hts⟩ (L_X13_isRule l g q lb hlb r_u1 hN hc H.size) (cwV 1 hts (TB_V tw_2940 tw_2942 ts_180 tw_15 co_X13_isRule) rfl rfl rfl (by decide +kernel) ⟨Nat.le_of_ble_eq_true rfl, Nat.le_of_ble_eq_true rfl⟩) (preV (q0 := 0) (ci := 13) rfl xT_bl hP hK hNb hD rfl rfl xT_at) rfl rfl hl.1 rfl (lv_room (Nat.le_of_ble_eq_true rfl)) dX13_treeRules_40 ⟨Nat.le_of_ble_eq_true rfl, Nat.le_of_ble_eq_true rfl⟩) hP hD hS hA (fun x10 H locs r_x10 hq hP hD hS => ?_)
        replace hw := hw x10 r_x10 hq
        refine bi_if_eq (tgt := 82) hx hb r_x10 dX13_treeRules_43 (by decide) (fun c12 => ?_) (fun c12 => ?_)
        ·
          replace hw := hw.1 c12
          refine lv_iinc (v := I (u1 + 1)) (lv' := [(1, .int (I (u1 + 1))), (0, .ref (q 0))]) hx hb dX13_treeRules_82 hl (k := 1) rfl (I_add _ _) (by decide) rfl (fun ls hl => ?_)
          refine lv_goto (tgt := 19) hx hb dX13_treeRules_85 (by decide) ?_
          obtain ⟨c13, hw⟩ := hw
          exact (hP19 _ _).mp hw c13 hN hF H locs ls hP hD hS (lv_sub hl [1, 0] rfl)
        ·
          replace hw := hw.2 c12
          refine lv_aload_n hx hb dX13_treeRules_46 rfl (lv_at hl 0 rfl) ?_
          refine lv_iload_n hx hb dX13_treeRules_47 rfl (lv_at hl 1 rfl) ?_
          obtain ⟨Q14, hc, hw⟩ := hw
          refine wc_i (X := MX g q lb) (va_runV (As := [.int (I u1)]) (rest := []) ⟨hx, hb, hml, hown, hts⟩ (L_X13_isUnit l g q lb hlb r_u1 hN hc H.size) (cwV 1 hts (TB_V tw_2944 tw_2946 ts_181 tw_15 co_X13_isUnit) rfl rfl rfl (by decide +kernel) ⟨Nat.le_of_ble_eq_true rfl, Nat.le_of_ble_eq_true rfl⟩) (preV (q0 := 0) (ci := 13) rfl xT_bl hP hK hNb hD rfl rfl xT_at) rfl rfl hl.1 rfl (lv_room (Nat.le_of_ble_eq_true rfl)) dX13_treeRules_48 ⟨Nat.le_of_ble_eq_true rfl, Nat.le_of_ble_eq_true rfl⟩) hP hD hS hA (fun x15 H locs r_x15 hq hP hD hS => ?_)
          replace hw := hw x15 r_x15 hq
          refine bi_if_eq (tgt := 77) hx hb r_x15 dX13_treeRules_51 (by decide) (fun c17 => ?_) (fun c17 => ?_)
          ·
            replace hw := hw.1 c17
            refine lv_aload_n hx hb dX13_treeRules_77 rfl (lv_at hl 0 rfl) ?_
            refine lv_iload_n hx hb dX13_treeRules_78 rfl (lv_at hl 1 rfl) ?_
            obtain ⟨Q18, hc, hw⟩ := hw
            refine wc_V (X := MX g q lb) (va_runV (As := [.int (I u1)]) (rest := []) ⟨hx, hb, hml, hown, hts⟩ (L_X13_treeRule l g q lb hlb r_u1 hN hc H.size) (cwV 1 hts (TB_V tw_2948 tw_2950 ts_182 tw_15 co_X13_treeRule) rfl rfl rfl (by decide +kernel) ⟨Nat.le_of_ble_eq_true rfl, Nat.le_of_ble_eq_true rfl⟩) (preV (q0 := 0) (ci := 13) rfl xT_bl hP hK hNb hD rfl rfl xT_at) rfl rfl hl.1 rfl (lv_room (Nat.le_of_ble_eq_true rfl)) dX13_treeRules_79 ⟨Nat.le_of_ble_eq_true rfl, Nat.le_of_ble_eq_true rfl⟩) hP hD hS hA (fun τ20 H locs hN hf hq hP hD hS => ?_)
            replace hw := hw τ20 hN hf hq
            have hF : f_r [47, 48, 49] [77, 78, 79, 80, 81, 82, 83, 84] [] σ τ20 := f_t hF hf (by decide) (by decide) (by decide)
            have hB := hN
            refine lv_iinc (v := I (u1 + 1)) (lv' := [(1, .int (I (u1 + 1))), (0, .ref (q 0))]) hx hb dX13_treeRules_82 hl (k := 1) rfl (I_add _ _) (by decide) rfl (fun ls hl => ?_)
            refine lv_goto (tgt := 19) hx hb dX13_treeRules_85 (by decide) ?_
            obtain ⟨c21, hw⟩ := hw
            exact (hP19 _ _).mp hw c21 hN hF H locs ls hP hD hS (lv_sub hl [1, 0] rfl)
          ·
            replace hw := hw.2 c17
            refine lv_aload_n hx hb dX13_treeRules_54 rfl (lv_at hl 0 rfl) ?_
            refine gfX13_units hx hb hts hK hP hown (hts _ tw_2144) dX13_treeRules_55 ?_
            refine lv_aload_n hx hb dX13_treeRules_58 rfl (lv_at hl 0 rfl) ?_
            refine gfX13_unitCount hx hb hts hK hP hown (hts _ tw_2145) (x := τ.1 48) rfl dX13_treeRules_59 ?_
            refine lv_iload_n hx hb dX13_treeRules_62 rfl (lv_at hl 1 rfl) ?_
            obtain ⟨c22, hw⟩ := hw
            refine sdMX13_units hx hb hK hP hD hS c22 dX13_treeRules_63 (fun H locs hP hD hS => ?_)
            have hN : n_m (s_a τ 84 (τ.1 48) u1) := n_a (k := 84) (j := τ.1 48) hN (r_u1 : rg u1)
            have hF : f_r [47, 48, 49] [77, 78, 79, 80, 81, 82, 83, 84] [] σ (s_a τ 84 (τ.1 48) u1) := f_a hF (by decide)
            refine lv_aload_n hx hb dX13_treeRules_64 rfl (lv_at hl 0 rfl) ?_
            refine lv_dup hx hb dX13_treeRules_65 rfl ?_
            refine gfX13_unitCount hx hb hts hK hP hown (hts _ tw_2145) (x := τ.1 48) rfl dX13_treeRules_66 ?_
            refine lv_iconst (v := I 1) hx hb dX13_treeRules_69 rfl ?_
            refine bi_iadd hx hb dX13_treeRules_70 ?_
            obtain ⟨c23, hw⟩ := hw
            refine pfX13_unitCount hx hb hts hK hP hD hS hown (hts _ tw_2145) dX13_treeRules_71 (fun H locs hP hD hS => ?_)
            have hN : n_m (s_v (s_a τ 84 (τ.1 48) u1) 48 (τ.1 48 + 1)) := n_v (i := 48) hN (c23 : rg (τ.1 48 + 1))
            have hF : f_r [47, 48, 49] [77, 78, 79, 80, 81, 82, 83, 84] [] σ (s_v (s_a τ 84 (τ.1 48) u1) 48 (τ.1 48 + 1)) := f_v hF (by decide)
            refine lv_goto (tgt := 82) hx hb dX13_treeRules_74 (by decide) ?_
            refine lv_iinc (v := I (u1 + 1)) (lv' := [(1, .int (I (u1 + 1))), (0, .ref (q 0))]) hx hb dX13_treeRules_82 hl (k := 1) rfl (I_add _ _) (by decide) rfl (fun ls hl => ?_)
            refine lv_goto (tgt := 19) hx hb dX13_treeRules_85 (by decide) ?_
            obtain ⟨c24, hw⟩ := hw
            exact (hP19 _ _).mp hw c24 hN hF H locs ls hP hD hS (lv_sub hl [1, 0] rfl)
def W_X13_closeUnits (n1 : Int) (n2 : Int) (n3 : Int) (σ : S0) (Q : S0 → Prop) : Prop :=
  ∀ (P3 : Int → Int → Int → Int → S0 → Prop) (P52 : Int → Int → Int → Int → S0 → Prop) (P60 : Int → Int → Int → Int → S0 → Prop) (P92 : Int → Int → Int → Int → S0 → Prop) (P203 : Int → Int → Int → Int → Int → Int → Int → S0 → Prop) (P220 : Int → Int → Int → Int → Int → S0 → Prop) (P265 : Int → Int → Int → Int → Int → S0 → Prop),
  (∀ (u1 : Int) (u2 : Int) (u3 : Int) (u4 : Int) (τ : S0), ((τ.1 46 ≤ u4 → (τ.1 48 ≤ 0 → P52 u1 u2 u3 0 τ) ∧ (0 < τ.1 48 → P52 u1 u2 u3 1 τ)) ∧ (u4 < τ.1 46 → ∃ (Q3 : Int → Prop), W_X13_wayAt u4 u1 u2 τ Q3 ∧ ∀ (x4 : Int), rg x4 → Q3 x4 → ((0 ≤ x4 ∧ x4 < 372100) ∧ (∀ (x7 : Int), rg x7 → x7 = τ.2.1 75 x4 → ((0 ≤ u4 ∧ u4 < 101) ∧ (rg (u4 + 1) ∧ P3 u1 u2 u3 (u4 + 1) (s_a τ 92 u4 x7))))))) → P3 u1 u2 u3 u4 τ) →
  (∀ (u1 : Int) (u2 : Int) (u3 : Int) (u4 : Int) (τ : S0), ((u4 = 0 → Q τ) ∧ (¬ u4 = 0 → P60 u1 u2 u3 0 τ)) → P52 u1 u2 u3 u4 τ) →
  (∀ (u1 : Int) (u2 : Int) (u3 : Int) (u5 : Int) (τ : S0), ((τ.1 46 ≤ u5 → P92 u1 u2 u3 0 τ) ∧ (u5 < τ.1 46 → (0 ≤ u5 ∧ u5 < 101) ∧ (∀ (x13 : Int), rg x13 → x13 = τ.2.1 92 u5 → (rg (u5 + 1) ∧ P60 u1 u2 u3 (u5 + 1) (s_a τ 93 u5 x13))))) → P60 u1 u2 u3 u5 τ) →
  (∀ (u1 : Int) (u2 : Int) (u3 : Int) (u5 : Int) (τ : S0), ((τ.1 48 ≤ u5 → P220 u1 u2 u3 0 0 τ) ∧ (u5 < τ.1 48 → (0 ≤ u5 ∧ u5 < 1501) ∧ (∀ (x17 : Int), rg x17 → x17 = τ.2.1 84 u5 → ((u3 ≤ x17 → P220 u1 u2 u3 0 0 τ) ∧ (x17 < u3 → ∀ (x19 : Int), rg x19 → x19 = τ.2.1 84 u5 → ((0 ≤ x19 ∧ x19 < 1501) ∧ (∀ (x21 : Int), rg x21 → x21 = τ.2.1 14 x19 → ((0 ≤ x21 ∧ x21 < 30400) ∧ (∀ (x23 : Int), rg x23 → x23 = τ.2.1 16 x21 → ((0 ≤ x23 ∧ x23 < 1001) ∧ (∀ (x25 : Int), rg x25 → x25 = τ.2.1 71 x23 → (∀ (x26 : Int), rg x26 → x26 = τ.2.1 84 u5 → ((0 ≤ x26 ∧ x26 < 1501) ∧ (∀ (x28 : Int), rg x28 → x28 = τ.2.1 14 x26 → ((0 ≤ (x28 + 1) ∧ (x28 + 1) < 30400) ∧ (∀ (x30 : Int), rg x30 → x30 = τ.2.1 16 (x28 + 1) → ((0 ≤ x30 ∧ x30 < 1001) ∧ (∀ (x32 : Int), rg x32 → x32 = τ.2.1 10 x30 → ((0 ≤ x32 ∧ x32 < 1001) ∧ (∀ (x34 : Int), rg x34 → x34 = τ.2.1 71 x32 → ((0 ≤ x25 ∧ x25 < 101) ∧ (∀ (x36 : Int), rg x36 → x36 = τ.2.1 93 x25 → ((¬ x34 = (-1) → ∃ (Q38 : Int → Prop), W_X13_wayAt x34 u1 u2 τ Q38 ∧ ∀ (x39 : Int), rg x39 → Q38 x39 → ((0 ≤ x39 ∧ x39 < 372100) ∧ (∀ (x42 : Int), rg x42 → x42 = τ.2.1 75 x39 → (P203 u1 u2 u3 u5 x25 x36 x42 τ)))) ∧ (x34 = (-1) → P203 u1 u2 u3 u5 x25 x36 0 τ)))))))))))))))))))))))) → P92 u1 u2 u3 u5 τ) →
  (∀ (u1 : Int) (u2 : Int) (u3 : Int) (u5 : Int) (k1 : Int) (k2 : Int) (k3 : Int) (τ : S0), (rg (k2 + k3) ∧ ∃ (Q57 : Int → Prop), W_X13_capped (k2 + k3) τ Q57 ∧ ∀ (x58 : Int), rg x58 → Q57 x58 → ((0 ≤ k1 ∧ k1 < 101) ∧ (rg (u5 + 1) ∧ P92 u1 u2 u3 (u5 + 1) (s_a τ 93 k1 x58)))) → P203 u1 u2 u3 u5 k1 k2 k3 τ) →
  (∀ (u1 : Int) (u2 : Int) (u3 : Int) (u4 : Int) (u5 : Int) (τ : S0), ((τ.1 46 ≤ u5 → P52 u1 u2 u3 u4 τ) ∧ (u5 < τ.1 46 → (¬ u4 = 0 → P265 u1 u2 u3 u5 1 τ) ∧ (u4 = 0 → (0 ≤ u5 ∧ u5 < 101) ∧ (∀ (x46 : Int), rg x46 → x46 = τ.2.1 93 u5 → (∃ (Q47 : Int → Prop), W_X13_capped x46 τ Q47 ∧ ∀ (x48 : Int), rg x48 → Q47 x48 → (∃ (Q50 : Int → Prop), W_X13_wayAt u5 u1 u2 τ Q50 ∧ ∀ (x51 : Int), rg x51 → Q50 x51 → ((0 ≤ x51 ∧ x51 < 372100) ∧ (∀ (x54 : Int), rg x54 → x54 = τ.2.1 75 x51 → ((x48 ≤ x54 → P265 u1 u2 u3 u5 0 τ) ∧ (x54 < x48 → P265 u1 u2 u3 u5 1 τ)))))))))) → P220 u1 u2 u3 u4 u5 τ) →
  (∀ (u1 : Int) (u2 : Int) (u3 : Int) (u5 : Int) (k0 : Int) (τ : S0), (∃ (Q62 : Int → Prop), W_X13_wayAt u5 u1 u2 τ Q62 ∧ ∀ (x63 : Int), rg x63 → Q62 x63 → ((0 ≤ u5 ∧ u5 < 101) ∧ (∀ (x66 : Int), rg x66 → x66 = τ.2.1 93 u5 → (∃ (Q67 : Int → Prop), W_X13_capped x66 τ Q67 ∧ ∀ (x68 : Int), rg x68 → Q67 x68 → ((0 ≤ x63 ∧ x63 < 372100) ∧ (rg (u5 + 1) ∧ P220 u1 u2 u3 k0 (u5 + 1) (s_a τ 75 x63 x68))))))) → P265 u1 u2 u3 u5 k0 τ) →
  P3 n1 n2 n3 0 σ
set_option maxRecDepth 100000 in
set_option maxHeartbeats 4000000 in
theorem L_X13_closeUnits (l : Launch) (g : gG) (q : Nat → Nat) (lb : Nat) (hlb : lb < 2 ^ 31) {n1 : Int} {n2 : Int} {n3 : Int} {σ : S0} {Q : S0 → Prop} (r_n1 : rg n1) (r_n2 : rg n2) (r_n3 : rg n3) (hN : n_m σ) (hw : W_X13_closeUnits n1 n2 n3 σ Q) (sz : Nat) : MetV l yX13_closeUnits cX13_closeUnits 8 { frames := 1, cells := 0, slots := 0, locals := 23 } g [.ref (q 0), .int (I n1), .int (I n2), .int (I n3)] (MX g q lb σ) sz xT (p_V (MX g q lb) [] [75, 92, 93] [] σ Q) 0 0 := by
  refine mkMet (Qc := fun A => QV g A (p_V (MX g q lb) [] [75, 92, 93] [] σ Q)) (by decide) (Nat.le_of_ble_eq_true rfl) ?_
  intro p e s m below meth c A H ls hx hb hr hml hown hts hlk hnm hsz hP hK hNb hD hA hAe hS hX hl
  have hl : lv_has ls 8 [(0, .ref (q 0)), (1, .int (I n1)), (2, .int (I n2)), (3, .int (I n3))] := hl
  have hB := hN
  have hF : f_r [] [75, 92, 93] [] σ σ := f_0
  obtain ⟨locs, hlocs⟩ : ∃ z : List Loc, z = [] := ⟨_, rfl⟩
  rw [← hlocs] at hS ⊢
  obtain ⟨P3, hP3⟩ : ∃ P : Int → Int → Int → Int → S0 → Prop, ∀ (u1 : Int) (u2 : Int) (u3 : Int) (u4 : Int) (τ : S0), (P u1 u2 u3 u4 τ ↔ (rg u1 → rg u2 → rg u3 → rg u4 → n_m τ → f_r [] [75, 92, 93] [] σ τ → ∀ (H : Heap) (locs : List Loc) (ls : Array Slot), KP g (MX g q lb τ) H → va_D A (MX g q lb τ) → va_S A s.heap H locs → lv_has ls 8 [(0, .ref (q 0)), (1, .int (I u1)), (2, .int (I u2)), (3, .int (I u3)), (4, .int (I u4))] → W p l e ({ frames := 1, cells := 0, slots := 0, locals := 23 }) s m [.ref (q 0), .int (I n1), .int (I n2), .int (I n3)].toArray below meth c H locs 0 0 (MQ below (QV g A (p_V (MX g q lb) [] [75, 92, 93] [] σ Q)) [.ref (q 0), .int (I n1), .int (I n2), .int (I n3)].toArray s 0 0 A) (F0 m 3 ls []))) := ⟨_, fun _ _ _ _ _ => Iff.rfl⟩
  obtain ⟨P52, hP52⟩ : ∃ P : Int → Int → Int → Int → S0 → Prop, ∀ (u1 : Int) (u2 : Int) (u3 : Int) (u4 : Int) (τ : S0), (P u1 u2 u3 u4 τ ↔ (rg u1 → rg u2 → rg u3 → rg u4 → n_m τ → f_r [] [75, 92, 93] [] σ τ → ∀ (H : Heap) (locs : List Loc) (ls : Array Slot), KP g (MX g q lb τ) H → va_D A (MX g q lb τ) → va_S A s.heap H locs → lv_has ls 8 [(0, .ref (q 0)), (1, .int (I u1)), (2, .int (I u2)), (3, .int (I u3)), (4, .int (I u4))] → W p l e ({ frames := 1, cells := 0, slots := 0, locals := 23 }) s m [.ref (q 0), .int (I n1), .int (I n2), .int (I n3)].toArray below meth c H locs 0 0 (MQ below (QV g A (p_V (MX g q lb) [] [75, 92, 93] [] σ Q)) [.ref (q 0), .int (I n1), .int (I n2), .int (I n3)].toArray s 0 0 A) (F0 m 52 ls []))) := ⟨_, fun _ _ _ _ _ => Iff.rfl⟩
  obtain ⟨P60, hP60⟩ : ∃ P : Int → Int → Int → Int → S0 → Prop, ∀ (u1 : Int) (u2 : Int) (u3 : Int) (u5 : Int) (τ : S0), (P u1 u2 u3 u5 τ ↔ (rg u1 → rg u2 → rg u3 → rg u5 → n_m τ → f_r [] [75, 92, 93] [] σ τ → ∀ (H : Heap) (locs : List Loc) (ls : Array Slot), KP g (MX g q lb τ) H → va_D A (MX g q lb τ) → va_S A s.heap H locs → lv_has ls 8 [(0, .ref (q 0)), (1, .int (I u1)), (2, .int (I u2)), (3, .int (I u3)), (5, .int (I u5))] → W p l e ({ frames := 1, cells := 0, slots := 0, locals := 23 }) s m [.ref (q 0), .int (I n1), .int (I n2), .int (I n3)].toArray below meth c H locs 0 0 (MQ below (QV g A (p_V (MX g q lb) [] [75, 92, 93] [] σ Q)) [.ref (q 0), .int (I n1), .int (I n2), .int (I n3)].toArray s 0 0 A) (F0 m 60 ls []))) := ⟨_, fun _ _ _ _ _ => Iff.rfl⟩
  obtain ⟨P92, hP92⟩ : ∃ P : Int → Int → Int → Int → S0 → Prop, ∀ (u1 : Int) (u2 : Int) (u3 : Int) (u5 : Int) (τ : S0), (P u1 u2 u3 u5 τ ↔ (rg u1 → rg u2 → rg u3 → rg u5 → n_m τ → f_r [] [75, 92, 93] [] σ τ → ∀ (H : Heap) (locs : List Loc) (ls : Array Slot), KP g (MX g q lb τ) H → va_D A (MX g q lb τ) → va_S A s.heap H locs → lv_has ls 8 [(0, .ref (q 0)), (1, .int (I u1)), (2, .int (I u2)), (3, .int (I u3)), (5, .int (I u5))] → W p l e ({ frames := 1, cells := 0, slots := 0, locals := 23 }) s m [.ref (q 0), .int (I n1), .int (I n2), .int (I n3)].toArray below meth c H locs 0 0 (MQ below (QV g A (p_V (MX g q lb) [] [75, 92, 93] [] σ Q)) [.ref (q 0), .int (I n1), .int (I n2), .int (I n3)].toArray s 0 0 A) (F0 m 92 ls []))) := ⟨_, fun _ _ _ _ _ => Iff.rfl⟩
  obtain ⟨P203, hP203⟩ : ∃ P : Int → Int → Int → Int → Int → Int → Int → S0 → Prop, ∀ (u1 : Int) (u2 : Int) (u3 : Int) (u5 : Int) (k1 : Int) (k2 : Int) (k3 : Int) (τ : S0), (P u1 u2 u3 u5 k1 k2 k3 τ ↔ (rg u1 → rg u2 → rg u3 → rg u5 → rg k1 → rg k2 → rg k3 → n_m τ → f_r [] [75, 92, 93] [] σ τ → ∀ (H : Heap) (locs : List Loc) (ls : Array Slot), KP g (MX g q lb τ) H → va_D A (MX g q lb τ) → va_S A s.heap H locs → lv_has ls 8 [(0, .ref (q 0)), (1, .int (I u1)), (2, .int (I u2)), (3, .int (I u3)), (5, .int (I u5))] → W p l e ({ frames := 1, cells := 0, slots := 0, locals := 23 }) s m [.ref (q 0), .int (I n1), .int (I n2), .int (I n3)].toArray below meth c H locs 0 0 (MQ below (QV g A (p_V (MX g q lb) [] [75, 92, 93] [] σ Q)) [.ref (q 0), .int (I n1), .int (I n2), .int (I n3)].toArray s 0 0 A) (F0 m 203 ls [.int (I k3), .int (I k2), .int (I k1), .ref (q 101)]))) := ⟨_, fun _ _ _ _ _ _ _ _ => Iff.rfl⟩
  obtain ⟨P220, hP220⟩ : ∃ P : Int → Int → Int → Int → Int → S0 → Prop, ∀ (u1 : Int) (u2 : Int) (u3 : Int) (u4 : Int) (u5 : Int) (τ : S0), (P u1 u2 u3 u4 u5 τ ↔ (rg u1 → rg u2 → rg u3 → rg u4 → rg u5 → n_m τ → f_r [] [75, 92, 93] [] σ τ → ∀ (H : Heap) (locs : List Loc) (ls : Array Slot), KP g (MX g q lb τ) H → va_D A (MX g q lb τ) → va_S A s.heap H locs → lv_has ls 8 [(0, .ref (q 0)), (1, .int (I u1)), (2, .int (I u2)), (3, .int (I u3)), (4, .int (I u4)), (5, .int (I u5))] → W p l e ({ frames := 1, cells := 0, slots := 0, locals := 23 }) s m [.ref (q 0), .int (I n1), .int (I n2), .int (I n3)].toArray below meth c H locs 0 0 (MQ below (QV g A (p_V (MX g q lb) [] [75, 92, 93] [] σ Q)) [.ref (q 0), .int (I n1), .int (I n2), .int (I n3)].toArray s 0 0 A) (F0 m 220 ls []))) := ⟨_, fun _ _ _ _ _ _ => Iff.rfl⟩
  obtain ⟨P265, hP265⟩ : ∃ P : Int → Int → Int → Int → Int → S0 → Prop, ∀ (u1 : Int) (u2 : Int) (u3 : Int) (u5 : Int) (k0 : Int) (τ : S0), (P u1 u2 u3 u5 k0 τ ↔ (rg u1 → rg u2 → rg u3 → rg u5 → rg k0 → n_m τ → f_r [] [75, 92, 93] [] σ τ → ∀ (H : Heap) (locs : List Loc) (ls : Array Slot), KP g (MX g q lb τ) H → va_D A (MX g q lb τ) → va_S A s.heap H locs → lv_has ls 8 [(0, .ref (q 0)), (1, .int (I u1)), (2, .int (I u2)), (3, .int (I u3)), (5, .int (I u5))] → W p l e ({ frames := 1, cells := 0, slots := 0, locals := 23 }) s m [.ref (q 0), .int (I n1), .int (I n2), .int (I n3)].toArray below meth c H locs 0 0 (MQ below (QV g A (p_V (MX g q lb) [] [75, 92, 93] [] σ Q)) [.ref (q 0), .int (I n1), .int (I n2), .int (I n3)].toArray s 0 0 A) (F0 m 265 ls [.int (I k0)]))) := ⟨_, fun _ _ _ _ _ _ => Iff.rfl⟩
  refine (fun hw => ?_) (hw P3 P52 P60 P92 P203 P220 P265 ?_ ?_ ?_ ?_ ?_ ?_ ?_)
  ·
    refine lv_iconst (v := I 0) hx hb dX13_closeUnits_0 rfl ?_
    refine lv_istore (lv' := [(4, .int (I 0)), (0, .ref (q 0)), (1, .int (I n1)), (2, .int (I n2)), (3, .int (I n3))]) hx hb dX13_closeUnits_1 hl (by decide) rfl (fun ls hl => ?_)
    exact (hP3 _ _ _ _ _).mp hw r_n1 r_n2 r_n3 (by decide) hN hF H locs ls hP hD hS (lv_sub hl [1, 2, 3, 4, 0] rfl)
  ·
    intro u1 u2 u3 u4 τ hw
    refine (hP3 _ _ _ _ _).mpr ?_
    intro r_u1 r_u2 r_u3 r_u4 hN hF H locs ls hP hD hS hl
    have hB := hN
    refine lv_iload hx hb dX13_closeUnits_3 (lv_at hl 4 rfl) ?_
    refine lv_aload_n hx hb dX13_closeUnits_5 rfl (lv_at hl 0 rfl) ?_
    refine gfX13_sorts hx hb hts hK hP hown (hts _ tw_2130) (x := τ.1 46) rfl dX13_closeUnits_6 ?_
    refine bi_icmp_ge (tgt := 38) hx hb r_u4 (hB.1 46) dX13_closeUnits_9 (by decide) (fun c1 => ?_) (fun c1 => ?_)
    ·
      replace hw := hw.1 c1
      refine lv_aload_n hx hb dX13_closeUnits_38 rfl (lv_at hl 0 rfl) ?_
      refine gfX13_unitCount hx hb hts hK hP hown (hts _ tw_2145) (x := τ.1 48) rfl dX13_closeUnits_39 ?_
      refine bi_if_le (tgt := 49) hx hb (hB.1 48) dX13_closeUnits_42 (by decide) (fun c2 => ?_) (fun c2 => ?_)
      ·
        replace hw := hw.1 c2
        refine lv_iconst (v := I 0) hx hb dX13_closeUnits_49 rfl ?_
        refine lv_istore (lv' := [(4, .int (I 0)), (0, .ref (q 0)), (1, .int (I u1)), (2, .int (I u2)), (3, .int (I u3))]) hx hb dX13_closeUnits_50 hl (by decide) rfl (fun ls hl => ?_)
        exact (hP52 _ _ _ _ _).mp hw r_u1 r_u2 r_u3 (by decide) hN hF H locs ls hP hD hS (lv_sub hl [1, 2, 3, 4, 0] rfl)
      ·
        replace hw := hw.2 c2
        refine lv_iconst (v := I 1) hx hb dX13_closeUnits_45 rfl ?_
        refine lv_goto (tgt := 50) hx hb dX13_closeUnits_46 (by decide) ?_
        refine lv_istore (lv' := [(4, .int (I 1)), (0, .ref (q 0)), (1, .int (I u1)), (2, .int (I u2)), (3, .int (I u3))]) hx hb dX13_closeUnits_50 hl (by decide) rfl (fun ls hl => ?_)
        exact (hP52 _ _ _ _ _).mp hw r_u1 r_u2 r_u3 (by decide) hN hF H locs ls hP hD hS (lv_sub hl [1, 2, 3, 4, 0] rfl)
    ·
      replace hw := hw.2 c1
      refine lv_aload_n hx hb dX13_closeUnits_12 rfl (lv_at hl 0 rfl) ?_
      refine gfX13_base hx hb hts hK hP hown (hts _ tw_2157) dX13_closeUnits_13 ?_
      refine lv_iload hx hb dX13_closeUnits_16 (lv_at hl 4 rfl) ?_
      refine lv_aload_n hx hb dX13_closeUnits_18 rfl (lv_at hl 0 rfl) ?_
      refine gfX13_ways hx hb hts hK hP hown (hts _ tw_2129) dX13_closeUnits_19 ?_
      refine lv_aload_n hx hb dX13_closeUnits_22 rfl (lv_at hl 0 rfl) ?_
      refine lv_iload hx hb dX13_closeUnits_23 (lv_at hl 4 rfl) ?_
      refine lv_iload_n hx hb dX13_closeUnits_25 rfl (lv_at hl 1 rfl) ?_
      refine lv_iload_n hx hb dX13_closeUnits_26 rfl (lv_at hl 2 rfl) ?_
      obtain ⟨Q3, hc, hw⟩ := hw
      refine wc_i (X := MX g q lb) (va_runV (As := [.int (I u4), .int (I u1), .int (I u2)]) (rest := [.ref (q 79), .int (I u4), .ref (q 100)]) ⟨hx, hb, hml, hown, hts⟩ (L_X13_wayAt l g q lb hlb r_u4 r_u1 r_u2 hN hc H.size) (cwV 3 hts (TB_V tw_2956 tw_2958 ts_184 tw_15 co_X13_wayAt) rfl rfl rfl (by decide +kernel) ⟨Nat.le_of_ble_eq_true rfl, Nat.le_of_ble_eq_true rfl⟩) (preV (q0 := 0) (ci := 13) rfl xT_bl hP hK hNb hD rfl rfl xT_at) rfl rfl hl.1 rfl (lv_room (Nat.le_of_ble_eq_true rfl)) dX13_closeUnits_27 ⟨Nat.le_of_ble_eq_true rfl, Nat.le_of_ble_eq_true rfl⟩) hP hD hS hA (fun x4 H locs r_x4 hq hP hD hS => ?_)
      replace hw := hw x4 r_x4 hq
      obtain ⟨c6, hw⟩ := hw
      refine ldMX13_ways hx hb hK hP hN c6 dX13_closeUnits_30 (fun x7 r_x7 e_x7 => ?_)
      replace hw := hw x7 r_x7 e_x7
      obtain ⟨c8, hw⟩ := hw
      refine sdMX13_base hx hb hK hP hD hS c8 dX13_closeUnits_31 (fun H locs hP hD hS => ?_)
      have hN : n_m (s_a τ 92 u4 x7) := n_a (k := 92) (j := u4) hN (r_x7 : rg x7)
      have hF : f_r [] [75, 92, 93] [] σ (s_a τ 92 u4 x7) := f_a hF (by decide)
      refine lv_iinc (v := I (u4 + 1)) (lv' := [(4, .int (I (u4 + 1))), (0, .ref (q 0)), (1, .int (I u1)), (2, .int (I u2)), (3, .int (I u3))]) hx hb dX13_closeUnits_32 hl (k := 4) rfl (I_add _ _) (by decide) rfl (fun ls hl => ?_)
      refine lv_goto (tgt := 3) hx hb dX13_closeUnits_35 (by decide) ?_
      obtain ⟨c9, hw⟩ := hw
      exact (hP3 _ _ _ _ _).mp hw r_u1 r_u2 r_u3 c9 hN hF H locs ls hP hD hS (lv_sub hl [1, 2, 3, 4, 0] rfl)
  ·
    intro u1 u2 u3 u4 τ hw
    refine (hP52 _ _ _ _ _).mpr ?_
    intro r_u1 r_u2 r_u3 r_u4 hN hF H locs ls hP hD hS hl
    have hB := hN
    refine lv_iload hx hb dX13_closeUnits_52 (lv_at hl 4 rfl) ?_
    refine bi_if_eq (tgt := 299) hx hb r_u4 dX13_closeUnits_54 (by decide) (fun c10 => ?_) (fun c10 => ?_)
    ·
      replace hw := hw.1 c10
      exact xrv hx hb hr hlk hP hK hD hS ⟨_, hN, hF, rfl, hw⟩ (Nat.le_of_ble_eq_true rfl) (Nat.le_of_ble_eq_true rfl) dX13_closeUnits_299
    ·
      replace hw := hw.2 c10
      refine lv_iconst (v := I 0) hx hb dX13_closeUnits_57 rfl ?_
      refine lv_istore (lv' := [(5, .int (I 0)), (0, .ref (q 0)), (1, .int (I u1)), (2, .int (I u2)), (3, .int (I u3)), (4, .int (I u4))]) hx hb dX13_closeUnits_58 hl (by decide) rfl (fun ls hl => ?_)
      exact (hP60 _ _ _ _ _).mp hw r_u1 r_u2 r_u3 (by decide) hN hF H locs ls hP hD hS (lv_sub hl [1, 2, 3, 4, 0] rfl)
  ·
    intro u1 u2 u3 u5 τ hw
    refine (hP60 _ _ _ _ _).mpr ?_
    intro r_u1 r_u2 r_u3 r_u5 hN hF H locs ls hP hD hS hl
    have hB := hN
    refine lv_iload hx hb dX13_closeUnits_60 (lv_at hl 4 rfl) ?_
    refine lv_aload_n hx hb dX13_closeUnits_62 rfl (lv_at hl 0 rfl) ?_
    refine gfX13_sorts hx hb hts hK hP hown (hts _ tw_2130) (x := τ.1 46) rfl dX13_closeUnits_63 ?_
    refine bi_icmp_ge (tgt := 89) hx hb r_u5 (hB.1 46) dX13_closeUnits_66 (by decide) (fun c11 => ?_) (fun c11 => ?_)
    ·
      replace hw := hw.1 c11
      refine lv_iconst (v := I 0) hx hb dX13_closeUnits_89 rfl ?_
      refine lv_istore (lv' := [(5, .int (I 0)), (0, .ref (q 0)), (1, .int (I u1)), (2, .int (I u2)), (3, .int (I u3))]) hx hb dX13_closeUnits_90 hl (by decide) rfl (fun ls hl => ?_)
      exact (hP92 _ _ _ _ _).mp hw r_u1 r_u2 r_u3 (by decide) hN hF H locs ls hP hD hS (lv_sub hl [1, 2, 3, 4, 0] rfl)
    ·
      replace hw := hw.2 c11
      refine lv_aload_n hx hb dX13_closeUnits_69 rfl (lv_at hl 0 rfl) ?_
      refine gfX13_grown hx hb hts hK hP hown (hts _ tw_2158) dX13_closeUnits_70 ?_
      refine lv_iload hx hb dX13_closeUnits_73 (lv_at hl 4 rfl) ?_
      refine lv_aload_n hx hb dX13_closeUnits_75 rfl (lv_at hl 0 rfl) ?_
      refine gfX13_base hx hb hts hK hP hown (hts _ tw_2157) dX13_closeUnits_76 ?_
      refine lv_iload hx hb dX13_closeUnits_79 (lv_at hl 4 rfl) ?_
      obtain ⟨c12, hw⟩ := hw
      refine ldMX13_base hx hb hK hP hN c12 dX13_closeUnits_81 (fun x13 r_x13 e_x13 => ?_)
      replace hw := hw x13 r_x13 e_x13
      refine sdMX13_grown hx hb hK hP hD hS c12 dX13_closeUnits_82 (fun H locs hP hD hS => ?_)
      have hN : n_m (s_a τ 93 u5 x13) := n_a (k := 93) (j := u5) hN (r_x13 : rg x13)
      have hF : f_r [] [75, 92, 93] [] σ (s_a τ 93 u5 x13) := f_a hF (by decide)
      refine lv_iinc (v := I (u5 + 1)) (lv' := [(5, .int (I (u5 + 1))), (0, .ref (q 0)), (1, .int (I u1)), (2, .int (I u2)), (3, .int (I u3))]) hx hb dX13_closeUnits_83 hl (k := 4) rfl (I_add _ _) (by decide) rfl (fun ls hl => ?_)
      refine lv_goto (tgt := 60) hx hb dX13_closeUnits_86 (by decide) ?_
      obtain ⟨c14, hw⟩ := hw
      exact (hP60 _ _ _ _ _).mp hw r_u1 r_u2 r_u3 c14 hN hF H locs ls hP hD hS (lv_sub hl [1, 2, 3, 4, 0] rfl)
  ·
    intro u1 u2 u3 u5 τ hw
    refine (hP92 _ _ _ _ _).mpr ?_
    intro r_u1 r_u2 r_u3 r_u5 hN hF H locs ls hP hD hS hl
    have hB := hN
    refine lv_iload hx hb dX13_closeUnits_92 (lv_at hl 4 rfl) ?_
    refine lv_aload_n hx hb dX13_closeUnits_94 rfl (lv_at hl 0 rfl) ?_
    refine gfX13_unitCount hx hb hts hK hP hown (hts _ tw_2145) (x := τ.1 48) rfl dX13_closeUnits_95 ?_
    refine bi_icmp_ge (tgt := 214) hx hb r_u5 (hB.1 48) dX13_closeUnits_98 (by decide) (fun c15 => ?_) (fun c15 => ?_)
    ·
      replace hw := hw.1 c15
      refine lv_iconst (v := I 0) hx hb dX13_closeUnits_214 rfl ?_
      refine lv_istore (lv' := [(4, .int (I 0)), (0, .ref (q 0)), (1, .int (I u1)), (2, .int (I u2)), (3, .int (I u3)), (5, .int (I u5))]) hx hb dX13_closeUnits_215 hl (by decide) rfl (fun ls hl => ?_)
      refine lv_iconst (v := I 0) hx hb dX13_closeUnits_217 rfl ?_
      refine lv_istore (lv' := [(5, .int (I 0)), (4, .int (I 0)), (0, .ref (q 0)), (1, .int (I u1)), (2, .int (I u2)), (3, .int (I u3))]) hx hb dX13_closeUnits_218 hl (by decide) rfl (fun ls hl => ?_)
      exact (hP220 _ _ _ _ _ _).mp hw r_u1 r_u2 r_u3 (by decide) (by decide) hN hF H locs ls hP hD hS (lv_sub hl [2, 3, 4, 5, 1, 0] rfl)
    ·
      replace hw := hw.2 c15
      refine lv_aload_n hx hb dX13_closeUnits_101 rfl (lv_at hl 0 rfl) ?_
      refine gfX13_units hx hb hts hK hP hown (hts _ tw_2144) dX13_closeUnits_102 ?_
      refine lv_iload hx hb dX13_closeUnits_105 (lv_at hl 4 rfl) ?_
      obtain ⟨c16, hw⟩ := hw
      refine ldMX13_units hx hb hK hP hN c16 dX13_closeUnits_107 (fun x17 r_x17 e_x17 => ?_)
      replace hw := hw x17 r_x17 e_x17
      refine lv_iload_n hx hb dX13_closeUnits_108 rfl (lv_at hl 3 rfl) ?_
      refine bi_icmp_ge (tgt := 214) hx hb r_x17 r_u3 dX13_closeUnits_109 (by decide) (fun c18 => ?_) (fun c18 => ?_)
      ·
        replace hw := hw.1 c18
        refine lv_iconst (v := I 0) hx hb dX13_closeUnits_214 rfl ?_
        refine lv_istore (lv' := [(4, .int (I 0)), (0, .ref (q 0)), (1, .int (I u1)), (2, .int (I u2)), (3, .int (I u3)), (5, .int (I u5))]) hx hb dX13_closeUnits_215 hl (by decide) rfl (fun ls hl => ?_)
        refine lv_iconst (v := I 0) hx hb dX13_closeUnits_217 rfl ?_
        refine lv_istore (lv' := [(5, .int (I 0)), (4, .int (I 0)), (0, .ref (q 0)), (1, .int (I u1)), (2, .int (I u2)), (3, .int (I u3))]) hx hb dX13_closeUnits_218 hl (by decide) rfl (fun ls hl => ?_)
        exact (hP220 _ _ _ _ _ _).mp hw r_u1 r_u2 r_u3 (by decide) (by decide) hN hF H locs ls hP hD hS (lv_sub hl [2, 3, 4, 5, 1, 0] rfl)
      ·
        replace hw := hw.2 c18
        refine lv_aload_n hx hb dX13_closeUnits_112 rfl (lv_at hl 0 rfl) ?_
        refine gfX13_sortOf hx hb hts hK hP hown (hts _ tw_2124) dX13_closeUnits_113 ?_
        refine lv_aload_n hx hb dX13_closeUnits_116 rfl (lv_at hl 0 rfl) ?_
        refine gfX13_texts hx hb hts hK hP hown (hts _ tw_2028) dX13_closeUnits_117 ?_
        refine lv_aload_n hx hb dX13_closeUnits_120 rfl (lv_at hl 0 rfl) ?_
        refine gfX13_textAt hx hb hts hK hP hown (hts _ tw_2026) dX13_closeUnits_121 ?_
        refine lv_aload_n hx hb dX13_closeUnits_124 rfl (lv_at hl 0 rfl) ?_
        refine gfX13_units hx hb hts hK hP hown (hts _ tw_2144) dX13_closeUnits_125 ?_
        refine lv_iload hx hb dX13_closeUnits_128 (lv_at hl 4 rfl) ?_
        refine ldMX13_units hx hb hK hP hN c16 dX13_closeUnits_130 (fun x19 r_x19 e_x19 => ?_)
        replace hw := hw x19 r_x19 e_x19
        obtain ⟨c20, hw⟩ := hw
        refine ldMX13_textAt hx hb hK hP hN c20 dX13_closeUnits_131 (fun x21 r_x21 e_x21 => ?_)
        replace hw := hw x21 r_x21 e_x21
        obtain ⟨c22, hw⟩ := hw
        refine ldMX13_texts hx hb hK hP hN c22 dX13_closeUnits_132 (fun x23 r_x23 e_x23 => ?_)
        replace hw := hw x23 r_x23 e_x23
        obtain ⟨c24, hw⟩ := hw
        refine ldMX13_sortOf hx hb hK hP hN c24 dX13_closeUnits_133 (fun x25 r_x25 e_x25 => ?_)
        replace hw := hw x25 r_x25 e_x25
        refine lv_istore (lv' := [(6, .int (I x25)), (0, .ref (q 0)), (1, .int (I u1)), (2, .int (I u2)), (3, .int (I u3)), (5, .int (I u5))]) hx hb dX13_closeUnits_134 hl (by decide) rfl (fun ls hl => ?_)
        refine lv_aload_n hx hb dX13_closeUnits_136 rfl (lv_at hl 1 rfl) ?_
        refine gfX13_sortOf hx hb hts hK hP hown (hts _ tw_2124) dX13_closeUnits_137 ?_
        refine lv_aload_n hx hb dX13_closeUnits_140 rfl (lv_at hl 1 rfl) ?_
        refine gfX13_typeOf hx hb hts hK hP hown (hts _ tw_2020) dX13_closeUnits_141 ?_
        refine lv_aload_n hx hb dX13_closeUnits_144 rfl (lv_at hl 1 rfl) ?_
        refine gfX13_texts hx hb hts hK hP hown (hts _ tw_2028) dX13_closeUnits_145 ?_
        refine lv_aload_n hx hb dX13_closeUnits_148 rfl (lv_at hl 1 rfl) ?_
        refine gfX13_textAt hx hb hts hK hP hown (hts _ tw_2026) dX13_closeUnits_149 ?_
        refine lv_aload_n hx hb dX13_closeUnits_152 rfl (lv_at hl 1 rfl) ?_
        refine gfX13_units hx hb hts hK hP hown (hts _ tw_2144) dX13_closeUnits_153 ?_
        refine lv_iload hx hb dX13_closeUnits_156 (lv_at hl 5 rfl) ?_
        refine ldMX13_units hx hb hK hP hN c16 dX13_closeUnits_158 (fun x26 r_x26 e_x26 => ?_)
        replace hw := hw x26 r_x26 e_x26
        obtain ⟨c27, hw⟩ := hw
        refine ldMX13_textAt hx hb hK hP hN c27 dX13_closeUnits_159 (fun x28 r_x28 e_x28 => ?_)
        replace hw := hw x28 r_x28 e_x28
        refine lv_iconst (v := I 1) hx hb dX13_closeUnits_160 rfl ?_
        refine bi_iadd hx hb dX13_closeUnits_161 ?_
        obtain ⟨c29, hw⟩ := hw
        refine ldMX13_texts hx hb hK hP hN c29 dX13_closeUnits_162 (fun x30 r_x30 e_x30 => ?_)
        replace hw := hw x30 r_x30 e_x30
        obtain ⟨c31, hw⟩ := hw
        refine ldMX13_typeOf hx hb hK hP hN c31 dX13_closeUnits_163 (fun x32 r_x32 e_x32 => ?_)
        replace hw := hw x32 r_x32 e_x32
        obtain ⟨c33, hw⟩ := hw
        refine ldMX13_sortOf hx hb hK hP hN c33 dX13_closeUnits_164 (fun x34 r_x34 e_x34 => ?_)
        replace hw := hw x34 r_x34 e_x34
        refine lv_istore (lv' := [(7, .int (I x34)), (6, .int (I x25)), (0, .ref (q 0)), (1, .int (I u1)), (2, .int (I u2)), (3, .int (I u3)), (5, .int (I u5))]) hx hb dX13_closeUnits_165 hl (by decide) rfl (fun ls hl => ?_)
        refine lv_aload_n hx hb dX13_closeUnits_167 rfl (lv_at hl 2 rfl) ?_
        refine gfX13_grown hx hb hts hK hP hown (hts _ tw_2158) dX13_closeUnits_168 ?_
        refine lv_iload hx hb dX13_closeUnits_171 (lv_at hl 1 rfl) ?_
        refine lv_aload_n hx hb dX13_closeUnits_173 rfl (lv_at hl 2 rfl) ?_
        refine gfX13_grown hx hb hts hK hP hown (hts _ tw_2158) dX13_closeUnits_174 ?_
        refine lv_iload hx hb dX13_closeUnits_177 (lv_at hl 1 rfl) ?_
        obtain ⟨c35, hw⟩ := hw
        refine ldMX13_grown hx hb hK hP hN c35 dX13_closeUnits_179 (fun x36 r_x36 e_x36 => ?_)
        replace hw := hw x36 r_x36 e_x36
        refine lv_iload hx hb dX13_closeUnits_180 (lv_at hl 0 rfl) ?_
        refine lv_iconst (v := I (-1)) hx hb dX13_closeUnits_182 rfl ?_
        refine bi_icmp_ne (tgt := 190) hx hb r_x34 (by decide) dX13_closeUnits_183 (by decide) (fun c37 => ?_) (fun c37 => ?_)
        ·
          replace hw := hw.1 c37
          refine lv_aload_n hx hb dX13_closeUnits_190 rfl (lv_at hl 2 rfl) ?_
          refine gfX13_ways hx hb hts hK hP hown (hts _ tw_2129) dX13_closeUnits_191 ?_
          refine lv_aload_n hx hb dX13_closeUnits_194 rfl (lv_at hl 2 rfl) ?_
          refine lv_iload hx hb dX13_closeUnits_195 (lv_at hl 0 rfl) ?_
          refine lv_iload_n hx hb dX13_closeUnits_197 rfl (lv_at hl 3 rfl) ?_
          refine lv_iload_n hx hb dX13_closeUnits_198 rfl (lv_at hl 4 rfl) ?_
          obtain ⟨Q38, hc, hw⟩ := hw
          refine wc_i (X := MX g q lb) (va_runV (As := [.int (I x34), .int (I u1), .int (I u2)]) (rest := [.ref (q 79), .int (I x36), .int (I x25), .ref (q 101)]) ⟨hx, hb, hml, hown, hts⟩ (L_X13_wayAt l g q lb hlb r_x34 r_u1 r_u2 hN hc H.size) (cwV 3 hts (TB_V tw_2956 tw_2958 ts_184 tw_15 co_X13_wayAt) rfl rfl rfl (by decide +kernel) ⟨Nat.le_of_ble_eq_true rfl, Nat.le_of_ble_eq_true rfl⟩) (preV (q0 := 0) (ci := 13) rfl xT_bl hP hK hNb hD rfl rfl xT_at) rfl rfl hl.1 rfl (lv_room (Nat.le_of_ble_eq_true rfl)) dX13_closeUnits_199 ⟨Nat.le_of_ble_eq_true rfl, Nat.le_of_ble_eq_true rfl⟩) hP hD hS hA (fun x39 H locs r_x39 hq hP hD hS => ?_)
          replace hw := hw x39 r_x39 hq
          obtain ⟨c41, hw⟩ := hw
          refine ldMX13_ways hx hb hK hP hN c41 dX13_closeUnits_202 (fun x42 r_x42 e_x42 => ?_)
          replace hw := hw x42 r_x42 e_x42
          exact (hP203 _ _ _ _ _ _ _ _).mp hw r_u1 r_u2 r_u3 r_u5 r_x25 r_x36 r_x42 hN hF H locs ls hP hD hS (lv_sub hl [2, 3, 4, 5, 6] rfl)
        ·
          replace hw := hw.2 c37
          refine lv_iconst (v := I 0) hx hb dX13_closeUnits_186 rfl ?_
          refine lv_goto (tgt := 203) hx hb dX13_closeUnits_187 (by decide) ?_
          exact (hP203 _ _ _ _ _ _ _ _).mp hw r_u1 r_u2 r_u3 r_u5 r_x25 r_x36 (by decide) hN hF H locs ls hP hD hS (lv_sub hl [2, 3, 4, 5, 6] rfl)
  ·
    intro u1 u2 u3 u5 k1 k2 k3 τ hw
    refine (hP203 _ _ _ _ _ _ _ _).mpr ?_
    intro r_u1 r_u2 r_u3 r_u5 r_k1 r_k2 r_k3 hN hF H locs ls hP hD hS hl
    have hB := hN
    refine bi_iadd hx hb dX13_closeUnits_203 ?_
    obtain ⟨c56, hw⟩ := hw
    obtain ⟨Q57, hc, hw⟩ := hw
    refine wc_i (X := MX g q lb) (va_runS (As := [.int (I (k2 + k3))]) (rest := [.int (I k1), .ref (q 101)]) ⟨hx, hb, hml, hown, hts⟩ (L_X13_capped l g q lb hlb c56 hN hc H.size) (cwS 1 hts (TB_S tw_2976 tw_2977 tw_15 co_X13_capped) rfl rfl rfl (by decide +kernel) ⟨Nat.le_of_ble_eq_true rfl, Nat.le_of_ble_eq_true rfl⟩) (preS xT_bl hP hK hNb hD xT_at) rfl rfl hl.1 rfl (lv_room (Nat.le_of_ble_eq_true rfl)) dX13_closeUnits_204 ⟨Nat.le_of_ble_eq_true rfl, Nat.le_of_ble_eq_true rfl⟩) hP hD hS hA (fun x58 H locs r_x58 hq hP hD hS => ?_)
    replace hw := hw x58 r_x58 hq
    obtain ⟨c60, hw⟩ := hw
    refine sdMX13_grown hx hb hK hP hD hS c60 dX13_closeUnits_207 (fun H locs hP hD hS => ?_)
    have hN : n_m (s_a τ 93 k1 x58) := n_a (k := 93) (j := k1) hN (r_x58 : rg x58)
    have hF : f_r [] [75, 92, 93] [] σ (s_a τ 93 k1 x58) := f_a hF (by decide)
    refine lv_iinc (v := I (u5 + 1)) (lv' := [(5, .int (I (u5 + 1))), (0, .ref (q 0)), (1, .int (I u1)), (2, .int (I u2)), (3, .int (I u3))]) hx hb dX13_closeUnits_208 hl (k := 4) rfl (I_add _ _) (by decide) rfl (fun ls hl => ?_)
    refine lv_goto (tgt := 92) hx hb dX13_closeUnits_211 (by decide) ?_
    obtain ⟨c61, hw⟩ := hw
    exact (hP92 _ _ _ _ _).mp hw r_u1 r_u2 r_u3 c61 hN hF H locs ls hP hD hS (lv_sub hl [1, 2, 3, 4, 0] rfl)
  ·
    intro u1 u2 u3 u4 u5 τ hw
    refine (hP220 _ _ _ _ _ _).mpr ?_
    intro r_u1 r_u2 r_u3 r_u4 r_u5 hN hF H locs ls hP hD hS hl
    have hB := hN
    refine lv_iload hx hb dX13_closeUnits_220 (lv_at hl 5 rfl) ?_
    refine lv_aload_n hx hb dX13_closeUnits_222 rfl (lv_at hl 0 rfl) ?_
    refine gfX13_sorts hx hb hts hK hP hown (hts _ tw_2130) (x := τ.1 46) rfl dX13_closeUnits_223 ?_
    refine bi_icmp_ge (tgt := 296) hx hb r_u5 (hB.1 46) dX13_closeUnits_226 (by decide) (fun c43 => ?_) (fun c43 => ?_)
    ·
      replace hw := hw.1 c43
      refine lv_goto (tgt := 52) hx hb dX13_closeUnits_296 (by decide) ?_
      exact (hP52 _ _ _ _ _).mp hw r_u1 r_u2 r_u3 r_u4 hN hF H locs ls hP hD hS (lv_sub hl [0, 1, 2, 3, 4] rfl)
    ·
      replace hw := hw.2 c43
      refine lv_iload hx hb dX13_closeUnits_229 (lv_at hl 4 rfl) ?_
      refine bi_if_ne (tgt := 260) hx hb r_u4 dX13_closeUnits_231 (by decide) (fun c44 => ?_) (fun c44 => ?_)
      ·
        replace hw := hw.1 c44
        refine lv_iconst (v := I 1) hx hb dX13_closeUnits_260 rfl ?_
        refine lv_goto (tgt := 265) hx hb dX13_closeUnits_261 (by decide) ?_
        exact (hP265 _ _ _ _ _ _).mp hw r_u1 r_u2 r_u3 r_u5 (by decide) hN hF H locs ls hP hD hS (lv_sub hl [0, 1, 2, 3, 5] rfl)
      ·
        replace hw := hw.2 c44
        refine lv_aload_n hx hb dX13_closeUnits_234 rfl (lv_at hl 0 rfl) ?_
        refine gfX13_grown hx hb hts hK hP hown (hts _ tw_2158) dX13_closeUnits_235 ?_
        refine lv_iload hx hb dX13_closeUnits_238 (lv_at hl 5 rfl) ?_
        obtain ⟨c45, hw⟩ := hw
        refine ldMX13_grown hx hb hK hP hN c45 dX13_closeUnits_240 (fun x46 r_x46 e_x46 => ?_)
        replace hw := hw x46 r_x46 e_x46
        obtain ⟨Q47, hc, hw⟩ := hw
        refine wc_i (X := MX g q lb) (va_runS (As := [.int (I x46)]) (rest := []) ⟨hx, hb, hml, hown, hts⟩ (L_X13_capped l g q lb hlb r_x46 hN hc H.size) (cwS 1 hts (TB_S tw_2976 tw_2977 tw_15 co_X13_capped) rfl rfl rfl (by decide +kernel) ⟨Nat.le_of_ble_eq_true rfl, Nat.le_of_ble_eq_true rfl⟩) (preS xT_bl hP hK hNb hD xT_at) rfl rfl hl.1 rfl (lv_room (Nat.le_of_ble_eq_true rfl)) dX13_closeUnits_241 ⟨Nat.le_of_ble_eq_true rfl, Nat.le_of_ble_eq_true rfl⟩) hP hD hS hA (fun x48 H locs r_x48 hq hP hD hS => ?_)
        replace hw := hw x48 r_x48 hq
        refine lv_aload_n hx hb dX13_closeUnits_244 rfl (lv_at hl 0 rfl) ?_
        refine gfX13_ways hx hb hts hK hP hown (hts _ tw_2129) dX13_closeUnits_245 ?_
        refine lv_aload_n hx hb dX13_closeUnits_248 rfl (lv_at hl 0 rfl) ?_
        refine lv_iload hx hb dX13_closeUnits_249 (lv_at hl 5 rfl) ?_
        refine lv_iload_n hx hb dX13_closeUnits_251 rfl (lv_at hl 1 rfl) ?_
        refine lv_iload_n hx hb dX13_closeUnits_252 rfl (lv_at hl 2 rfl) ?_
        obtain ⟨Q50, hc, hw⟩ := hw
        refine wc_i (X := MX g q lb) (va_runV (As := [.int (I u5), .int (I u1), .int (I u2)]) (rest := [.ref (q 79), .int (I x48)]) ⟨hx, hb, hml, hown, hts⟩ (L_X13_wayAt l g q lb hlb r_u5 r_u1 r_u2 hN hc H.size) (cwV 3 hts (TB_V tw_2956 tw_2958 ts_184 tw_15 co_X13_wayAt) rfl rfl rfl (by decide +kernel) ⟨Nat.le_of_ble_eq_true rfl, Nat.le_of_ble_eq_true rfl⟩) (preV (q0 := 0) (ci := 13) rfl xT_bl hP hK hNb hD rfl rfl xT_at) rfl rfl hl.1 rfl (lv_room (Nat.le_of_ble_eq_true rfl)) dX13_closeUnits_253 ⟨Nat.le_of_ble_eq_true rfl, Nat.le_of_ble_eq_true rfl⟩) hP hD hS hA (fun x51 H locs r_x51 hq hP hD hS => ?_)
        replace hw := hw x51 r_x51 hq
        obtain ⟨c53, hw⟩ := hw
        refine ldMX13_ways hx hb hK hP hN c53 dX13_closeUnits_256 (fun x54 r_x54 e_x54 => ?_)
        replace hw := hw x54 r_x54 e_x54
        refine bi_icmp_le (tgt := 264) hx hb r_x48 r_x54 dX13_closeUnits_257 (by decide) (fun c55 => ?_) (fun c55 => ?_)
        ·
          replace hw := hw.1 c55
          refine lv_iconst (v := I 0) hx hb dX13_closeUnits_264 rfl ?_
          exact (hP265 _ _ _ _ _ _).mp hw r_u1 r_u2 r_u3 r_u5 (by decide) hN hF H locs ls hP hD hS (lv_sub hl [0, 1, 2, 3, 5] rfl)
        ·
          replace hw := hw.2 c55
          refine lv_iconst (v := I 1) hx hb dX13_closeUnits_260 rfl ?_
          refine lv_goto (tgt := 265) hx hb dX13_closeUnits_261 (by decide) ?_
          exact (hP265 _ _ _ _ _ _).mp hw r_u1 r_u2 r_u3 r_u5 (by decide) hN hF H locs ls hP hD hS (lv_sub hl [0, 1, 2, 3, 5] rfl)
  ·
    intro u1 u2 u3 u5 k0 τ hw
    refine (hP265 _ _ _ _ _ _).mpr ?_
    intro r_u1 r_u2 r_u3 r_u5 r_k0 hN hF H locs ls hP hD hS hl
    have hB := hN
    refine lv_istore (lv' := [(4, .int (I k0)), (0, .ref (q 0)), (1, .int (I u1)), (2, .int (I u2)), (3, .int (I u3)), (5, .int (I u5))]) hx hb dX13_closeUnits_265 hl (by decide) rfl (fun ls hl => ?_)
    refine lv_aload_n hx hb dX13_closeUnits_267 rfl (lv_at hl 1 rfl) ?_
    refine gfX13_ways hx hb hts hK hP hown (hts _ tw_2129) dX13_closeUnits_268 ?_
    refine lv_aload_n hx hb dX13_closeUnits_271 rfl (lv_at hl 1 rfl) ?_
    refine lv_iload hx hb dX13_closeUnits_272 (lv_at hl 5 rfl) ?_
    refine lv_iload_n hx hb dX13_closeUnits_274 rfl (lv_at hl 2 rfl) ?_
    refine lv_iload_n hx hb dX13_closeUnits_275 rfl (lv_at hl 3 rfl) ?_
    obtain ⟨Q62, hc, hw⟩ := hw
    refine wc_i (X := MX g q lb) (va_runV (As := [.int (I u5), .int (I u1), .int (I u2)]) (rest := [.ref (q 79)]) ⟨hx, hb, hml, hown, hts⟩ (L_X13_wayAt l g q lb hlb r_u5 r_u1 r_u2 hN hc H.size) (cwV 3 hts (TB_V tw_2956 tw_2958 ts_184 tw_15 co_X13_wayAt) rfl rfl rfl (by decide +kernel) ⟨Nat.le_of_ble_eq_true rfl, Nat.le_of_ble_eq_true rfl⟩) (preV (q0 := 0) (ci := 13) rfl xT_bl hP hK hNb hD rfl rfl xT_at) rfl rfl hl.1 rfl (lv_room (Nat.le_of_ble_eq_true rfl)) dX13_closeUnits_276 ⟨Nat.le_of_ble_eq_true rfl, Nat.le_of_ble_eq_true rfl⟩) hP hD hS hA (fun x63 H locs r_x63 hq hP hD hS => ?_)
    replace hw := hw x63 r_x63 hq
    refine lv_aload_n hx hb dX13_closeUnits_279 rfl (lv_at hl 1 rfl) ?_
    refine gfX13_grown hx hb hts hK hP hown (hts _ tw_2158) dX13_closeUnits_280 ?_
    refine lv_iload hx hb dX13_closeUnits_283 (lv_at hl 5 rfl) ?_
    obtain ⟨c65, hw⟩ := hw
    refine ldMX13_grown hx hb hK hP hN c65 dX13_closeUnits_285 (fun x66 r_x66 e_x66 => ?_)
    replace hw := hw x66 r_x66 e_x66
    obtain ⟨Q67, hc, hw⟩ := hw
    refine wc_i (X := MX g q lb) (va_runS (As := [.int (I x66)]) (rest := [.int (I x63), .ref (q 79)]) ⟨hx, hb, hml, hown, hts⟩ (L_X13_capped l g q lb hlb r_x66 hN hc H.size) (cwS 1 hts (TB_S tw_2976 tw_2977 tw_15 co_X13_capped) rfl rfl rfl (by decide +kernel) ⟨Nat.le_of_ble_eq_true rfl, Nat.le_of_ble_eq_true rfl⟩) (preS xT_bl hP hK hNb hD xT_at) rfl rfl hl.1 rfl (lv_room (Nat.le_of_ble_eq_true rfl)) dX13_closeUnits_286 ⟨Nat.le_of_ble_eq_true rfl, Nat.le_of_ble_eq_true rfl⟩) hP hD hS hA (fun x68 H locs r_x68 hq hP hD hS => ?_)
    replace hw := hw x68 r_x68 hq
    obtain ⟨c70, hw⟩ := hw
    refine sdMX13_ways hx hb hK hP hD hS c70 dX13_closeUnits_289 (fun H locs hP hD hS => ?_)
    have hN : n_m (s_a τ 75 x63 x68) := n_a (k := 75) (j := x63) hN (r_x68 : rg x68)
    have hF : f_r [] [75, 92, 93] [] σ (s_a τ 75 x63 x68) := f_a hF (by decide)
    refine lv_iinc (v := I (u5 + 1)) (lv' := [(5, .int (I (u5 + 1))), (4, .int (I k0)), (0, .ref (q 0)), (1, .int (I u1)), (2, .int (I u2)), (3, .int (I u3))]) hx hb dX13_closeUnits_290 hl (k := 5) rfl (I_add _ _) (by decide) rfl (fun ls hl => ?_)
    refine lv_goto (tgt := 220) hx hb dX13_closeUnits_293 (by decide) ?_
    obtain ⟨c71, hw⟩ := hw
    exact (hP220 _ _ _ _ _ _).mp hw r_u1 r_u2 r_u3 r_k0 c71 hN hF H locs ls hP hD hS (lv_sub hl [2, 3, 4, 5, 1, 0] rfl)
def W_X13_goTo (n1 : Int) (n2 : Int) (σ : S0) (Q : S0 → Prop) : Prop :=
  ∀ (P219 : Int → Int → Int → S0 → Prop) (P240 : Int → Int64 → Int64 → S0 → Prop),
  (∀ (u1 : Int) (u2 : Int) (k0 : Int) (τ : S0), ((0 ≤ u1 ∧ u1 < 30002) ∧ (∀ (x28 : Int64), x28 = τ.2.2 6 u1 → ((k0 = 0 → P240 u1 x28 0 τ) ∧ (¬ k0 = 0 → P240 u1 x28 (j_shl 1 u2) τ)))) → P219 u1 u2 k0 τ) →
  (∀ (k1 : Int) (k2 : Int64) (k3 : Int64) (τ : S0), ((0 ≤ k1 ∧ k1 < 30002) ∧ (Q (s_b τ 6 k1 (k2 ||| k3)))) → P240 k1 k2 k3 τ) →
  (0 ≤ n1 ∧ n1 < 30002) ∧ (∀ (x2 : Int), rg x2 → x2 = σ.2.1 78 n1 → (∀ (x3 : Int), rg x3 → x3 = σ.2.1 77 n1 → ((0 ≤ x2 ∧ x2 < 30002) ∧ (∀ (x5 : Int64), x5 = σ.2.2 5 x2 → (∀ (x6 : Int64), x6 = σ.2.2 6 x2 → ((x3 < 0 → (0 ≤ ((-2) - x3) ∧ ((-2) - x3) < 1001) ∧ (∀ (x9 : Int), rg x9 → x9 = σ.2.1 71 ((-2) - x3) → ((x9 = (-1) → Q σ) ∧ (¬ x9 = (-1) → (0 ≤ ((61 * x9) + n2) ∧ ((61 * x9) + n2) < 6200) ∧ (∀ (x12 : Int64), x12 = σ.2.2 3 ((61 * x9) + n2) → ((¬ (x5 &&& x12) = 0 → ∀ (x14 : Int64), x14 = σ.2.2 3 ((61 * x9) + n2) → (∀ (x15 : Int64), x15 = σ.2.2 5 n1 → ((¬ ((x5 &&& x14) &&& ((x5 &&& x14) - 1)) = 0 → P219 n1 n2 1 (s_b σ 5 n1 (x15 ||| (j_shl 1 n2)))) ∧ (((x5 &&& x14) &&& ((x5 &&& x14) - 1)) = 0 → ∀ (x17 : Int64), x17 = σ.2.2 4 ((61 * x9) + n2) → ((¬ (x5 &&& x17) = 0 → P219 n1 n2 1 (s_b σ 5 n1 (x15 ||| (j_shl 1 n2)))) ∧ ((x5 &&& x17) = 0 → ∀ (x19 : Int64), x19 = σ.2.2 3 ((61 * x9) + n2) → (((x6 &&& x19) = 0 → P219 n1 n2 0 (s_b σ 5 n1 (x15 ||| (j_shl 1 n2)))) ∧ (¬ (x6 &&& x19) = 0 → P219 n1 n2 1 (s_b σ 5 n1 (x15 ||| (j_shl 1 n2))))))))))) ∧ ((x5 &&& x12) = 0 → Q σ))))))) ∧ (0 ≤ x3 → (0 ≤ (n2 - 1) ∧ (n2 - 1) < 64) ∧ (∀ (x22 : Int), rg x22 → x22 = σ.2.1 72 (n2 - 1) → ((¬ x22 = x3 → Q σ) ∧ (x22 = x3 → (¬ ((j_shr x5 (n2 - 1)) &&& 1) = 1 → Q σ) ∧ (((j_shr x5 (n2 - 1)) &&& 1) = 1 → ∀ (x25 : Int64), x25 = σ.2.2 5 n1 → (∀ (x26 : Int64), x26 = σ.2.2 6 n1 → (Q (s_b (s_b σ 5 n1 (x25 ||| (j_shl 1 n2))) 6 n1 (x26 ||| (j_shl ((j_shr x6 (n2 - 1)) &&& 1) n2))))))))))))))))
set_option maxRecDepth 100000 in
set_option maxHeartbeats 4000000 in
theorem L_X13_goTo (l : Launch) (g : gG) (q : Nat → Nat) (lb : Nat) (hlb : lb < 2 ^ 31) {n1 : Int} {n2 : Int} {σ : S0} {Q : S0 → Prop} (r_n1 : rg n1) (r_n2 : rg n2) (hN : n_m σ) (hw : W_X13_goTo n1 n2 σ Q) (sz : Nat) : MetV l yX13_goTo cX13_goTo 13 { frames := 0, cells := 0, slots := 0, locals := 0 } g [.ref (q 0), .int (I n1), .int (I n2)] (MX g q lb σ) sz xT (p_V (MX g q lb) [] [] [5, 6] σ Q) 0 0 := by
  refine mkMet (Qc := fun A => QV g A (p_V (MX g q lb) [] [] [5, 6] σ Q)) (by decide) (Nat.le_of_ble_eq_true rfl) ?_
  intro p e s m below meth c A H ls hx hb hr hml hown hts hlk hnm hsz hP hK hNb hD hA hAe hS hX hl
  have hl : lv_has ls 13 [(0, .ref (q 0)), (1, .int (I n1)), (2, .int (I n2))] := hl
  have hB := hN
  have hF : f_r [] [] [5, 6] σ σ := f_0
  obtain ⟨locs, hlocs⟩ : ∃ z : List Loc, z = [] := ⟨_, rfl⟩
  rw [← hlocs] at hS ⊢
  obtain ⟨P219, hP219⟩ : ∃ P : Int → Int → Int → S0 → Prop, ∀ (u1 : Int) (u2 : Int) (k0 : Int) (τ : S0), (P u1 u2 k0 τ ↔ (rg u1 → rg u2 → rg k0 → n_m τ → f_r [] [] [5, 6] σ τ → ∀ (H : Heap) (locs : List Loc) (ls : Array Slot), KP g (MX g q lb τ) H → va_D A (MX g q lb τ) → va_S A s.heap H locs → lv_has ls 13 [(0, .ref (q 0)), (1, .int (I u1)), (2, .int (I u2))] → W p l e ({ frames := 0, cells := 0, slots := 0, locals := 0 }) s m [.ref (q 0), .int (I n1), .int (I n2)].toArray below meth c H locs 0 0 (MQ below (QV g A (p_V (MX g q lb) [] [] [5, 6] σ Q)) [.ref (q 0), .int (I n1), .int (I n2)].toArray s 0 0 A) (F0 m 219 ls [.int (I k0)]))) := ⟨_, fun _ _ _ _ => Iff.rfl⟩
  obtain ⟨P240, hP240⟩ : ∃ P : Int → Int64 → Int64 → S0 → Prop, ∀ (k1 : Int) (k2 : Int64) (k3 : Int64) (τ : S0), (P k1 k2 k3 τ ↔ (rg k1 → n_m τ → f_r [] [] [5, 6] σ τ → ∀ (H : Heap) (locs : List Loc) (ls : Array Slot), KP g (MX g q lb τ) H → va_D A (MX g q lb τ) → va_S A s.heap H locs → lv_has ls 13 [] → W p l e ({ frames := 0, cells := 0, slots := 0, locals := 0 }) s m [.ref (q 0), .int (I n1), .int (I n2)].toArray below meth c H locs 0 0 (MQ below (QV g A (p_V (MX g q lb) [] [] [5, 6] σ Q)) [.ref (q 0), .int (I n1), .int (I n2)].toArray s 0 0 A) (F0 m 240 ls [.long k3, .long k2, .int (I k1), .ref (q 91)]))) := ⟨_, fun _ _ _ _ => Iff.rfl⟩
  refine (fun hw => ?_) (hw P219 P240 ?_ ?_)
  ·
    refine lv_aload_n hx hb dX13_goTo_0 rfl (lv_at hl 0 rfl) ?_
    refine gfX13_ruleUp hx hb hts hK hP hown (hts _ tw_2135) dX13_goTo_1 ?_
    refine lv_iload_n hx hb dX13_goTo_4 rfl (lv_at hl 1 rfl) ?_
    obtain ⟨c1, hw⟩ := hw
    refine ldMX13_ruleUp hx hb hK hP hN c1 dX13_goTo_5 (fun x2 r_x2 e_x2 => ?_)
    replace hw := hw x2 r_x2 e_x2
    refine lv_istore_n (lv' := [(3, .int (I x2)), (0, .ref (q 0)), (1, .int (I n1)), (2, .int (I n2))]) hx hb dX13_goTo_6 rfl hl (by decide) rfl (fun ls hl => ?_)
    refine lv_aload_n hx hb dX13_goTo_7 rfl (lv_at hl 1 rfl) ?_
    refine gfX13_ruleStep hx hb hts hK hP hown (hts _ tw_2134) dX13_goTo_8 ?_
    refine lv_iload_n hx hb dX13_goTo_11 rfl (lv_at hl 2 rfl) ?_
    refine ldMX13_ruleStep hx hb hK hP hN c1 dX13_goTo_12 (fun x3 r_x3 e_x3 => ?_)
    replace hw := hw x3 r_x3 e_x3
    refine lv_istore (lv' := [(4, .int (I x3)), (3, .int (I x2)), (0, .ref (q 0)), (1, .int (I n1)), (2, .int (I n2))]) hx hb dX13_goTo_13 hl (by decide) rfl (fun ls hl => ?_)
    refine lv_aload_n hx hb dX13_goTo_15 rfl (lv_at hl 2 rfl) ?_
    refine gfX13_frontOne hx hb hts hK hP hown (hts _ tw_2141) dX13_goTo_16 ?_
    refine lv_iload_n hx hb dX13_goTo_19 rfl (lv_at hl 1 rfl) ?_
    obtain ⟨c4, hw⟩ := hw
    refine ldMX13_frontOne hx hb hK hP hN c4 dX13_goTo_20 (fun x5 e_x5 => ?_)
    replace hw := hw x5 e_x5
    refine lv_lstore (lv' := [(5, .long x5), (4, .int (I x3)), (3, .int (I x2)), (0, .ref (q 0)), (1, .int (I n1)), (2, .int (I n2))]) hx hb dX13_goTo_21 hl (by decide) rfl (fun ls hl => ?_)
    refine lv_aload_n hx hb dX13_goTo_23 rfl (lv_at hl 3 rfl) ?_
    refine gfX13_frontTwo hx hb hts hK hP hown (hts _ tw_2142) dX13_goTo_24 ?_
    refine lv_iload_n hx hb dX13_goTo_27 rfl (lv_at hl 2 rfl) ?_
    refine ldMX13_frontTwo hx hb hK hP hN c4 dX13_goTo_28 (fun x6 e_x6 => ?_)
    replace hw := hw x6 e_x6
    refine lv_lstore (lv' := [(7, .long x6), (5, .long x5), (4, .int (I x3)), (3, .int (I x2)), (0, .ref (q 0)), (1, .int (I n1)), (2, .int (I n2))]) hx hb dX13_goTo_29 hl (by decide) rfl (fun ls hl => ?_)
    refine lv_iload hx hb dX13_goTo_31 (lv_at hl 2 rfl) ?_
    refine bi_if_lt (tgt := 94) hx hb r_x3 dX13_goTo_33 (by decide) (fun c7 => ?_) (fun c7 => ?_)
    ·
      replace hw := hw.1 c7
      refine lv_aload_n hx hb dX13_goTo_94 rfl (lv_at hl 4 rfl) ?_
      refine gfX13_sortOf hx hb hts hK hP hown (hts _ tw_2124) dX13_goTo_95 ?_
      refine lv_bipush (v := I (-2)) hx hb dX13_goTo_98 (by decide) ?_
      refine lv_iload hx hb dX13_goTo_100 (lv_at hl 2 rfl) ?_
      refine bi_isub hx hb dX13_goTo_102 ?_
      obtain ⟨c8, hw⟩ := hw
      refine ldMX13_sortOf hx hb hK hP hN c8 dX13_goTo_103 (fun x9 r_x9 e_x9 => ?_)
      replace hw := hw x9 r_x9 e_x9
      refine lv_istore (lv' := [(9, .int (I x9)), (7, .long x6), (5, .long x5), (4, .int (I x3)), (3, .int (I x2)), (0, .ref (q 0)), (1, .int (I n1)), (2, .int (I n2))]) hx hb dX13_goTo_104 hl (by decide) rfl (fun ls hl => ?_)
      refine lv_iload hx hb dX13_goTo_106 (lv_at hl 0 rfl) ?_
      refine lv_iconst (v := I (-1)) hx hb dX13_goTo_108 rfl ?_
      refine bi_icmp_eq (tgt := 132) hx hb r_x9 (by decide) dX13_goTo_109 (by decide) (fun c10 => ?_) (fun c10 => ?_)
      ·
        replace hw := hw.1 c10
        exact xrv hx hb hr hlk hP hK hD hS ⟨_, hN, hF, rfl, hw⟩ (Nat.le_of_ble_eq_true rfl) (Nat.le_of_ble_eq_true rfl) dX13_goTo_132
      ·
        replace hw := hw.2 c10
        refine lv_lload hx hb dX13_goTo_112 (lv_at hl 2 rfl) ?_
        refine lv_aload_n hx hb dX13_goTo_114 rfl (lv_at hl 5 rfl) ?_
        refine gfX13_startsOne hx hb hts hK hP hown (hts _ tw_2132) dX13_goTo_115 ?_
        refine lv_bipush (v := I 61) hx hb dX13_goTo_118 (by decide) ?_
        refine lv_iload hx hb dX13_goTo_120 (lv_at hl 0 rfl) ?_
        refine bi_imul hx hb dX13_goTo_122 ?_
        refine lv_iload_n hx hb dX13_goTo_123 rfl (lv_at hl 7 rfl) ?_
        refine bi_iadd hx hb dX13_goTo_124 ?_
        obtain ⟨c11, hw⟩ := hw
        refine ldMX13_startsOne hx hb hK hP hN c11 dX13_goTo_125 (fun x12 e_x12 => ?_)
        replace hw := hw x12 e_x12
        refine lv_land hx hb dX13_goTo_126 ?_
        refine lv_lconst (v := 0) hx hb dX13_goTo_127 (by decide) ?_
        refine bi_lcmp_ne (tgt := 133) hx hb dX13_goTo_128 dX13_goTo_129 (by decide) (fun c13 => ?_) (fun c13 => ?_)
        ·
          replace hw := hw.1 c13
          refine lv_lload hx hb dX13_goTo_133 (lv_at hl 2 rfl) ?_
          refine lv_aload_n hx hb dX13_goTo_135 rfl (lv_at hl 5 rfl) ?_
          refine gfX13_startsOne hx hb hts hK hP hown (hts _ tw_2132) dX13_goTo_136 ?_
          refine lv_bipush (v := I 61) hx hb dX13_goTo_139 (by decide) ?_
          refine lv_iload hx hb dX13_goTo_141 (lv_at hl 0 rfl) ?_
          refine bi_imul hx hb dX13_goTo_143 ?_
          refine lv_iload_n hx hb dX13_goTo_144 rfl (lv_at hl 7 rfl) ?_
          refine bi_iadd hx hb dX13_goTo_145 ?_
          refine ldMX13_startsOne hx hb hK hP hN c11 dX13_goTo_146 (fun x14 e_x14 => ?_)
          replace hw := hw x14 e_x14
          refine lv_land hx hb dX13_goTo_147 ?_
          refine lv_lstore (lv' := [(10, .long (x5 &&& x14)), (9, .int (I x9)), (7, .long x6), (5, .long x5), (4, .int (I x3)), (3, .int (I x2)), (0, .ref (q 0)), (1, .int (I n1)), (2, .int (I n2))]) hx hb dX13_goTo_148 hl (by decide) rfl (fun ls hl => ?_)
          refine lv_aload_n hx hb dX13_goTo_150 rfl (lv_at hl 6 rfl) ?_
          refine gfX13_frontOne hx hb hts hK hP hown (hts _ tw_2141) dX13_goTo_151 ?_
          refine lv_iload_n hx hb dX13_goTo_154 rfl (lv_at hl 7 rfl) ?_
          refine lv_dup2_11 hx hb dX13_goTo_155 rfl rfl ?_
          refine ldMX13_frontOne hx hb hK hP hN c1 dX13_goTo_156 (fun x15 e_x15 => ?_)
          replace hw := hw x15 e_x15
          refine lv_lconst (v := 1) hx hb dX13_goTo_157 (by decide) ?_
          refine lv_iload_n hx hb dX13_goTo_158 rfl (lv_at hl 8 rfl) ?_
          refine bi_lshl hx hb dX13_goTo_159 ?_
          refine lv_lor hx hb dX13_goTo_160 ?_
          refine sdMX13_frontOne hx hb hK hP hD hS c1 dX13_goTo_161 (fun H locs hP hD hS => ?_)
          have hN : n_m (s_b σ 5 n1 (x15 ||| (j_shl 1 n2))) := n_b (k := 5) (j := n1) (x := (x15 ||| (j_shl 1 n2))) hN
          have hF : f_r [] [] [5, 6] σ (s_b σ 5 n1 (x15 ||| (j_shl 1 n2))) := f_b hF (by decide)
          refine lv_lload hx hb dX13_goTo_162 (lv_at hl 0 rfl) ?_
          refine lv_lload hx hb dX13_goTo_164 (lv_at hl 0 rfl) ?_
          refine lv_lconst (v := 1) hx hb dX13_goTo_166 (by decide) ?_
          refine lv_lsub hx hb dX13_goTo_167 ?_
          refine lv_land hx hb dX13_goTo_168 ?_
          refine lv_lconst (v := 0) hx hb dX13_goTo_169 (by decide) ?_
          refine bi_lcmp_ne (tgt := 214) hx hb dX13_goTo_170 dX13_goTo_171 (by decide) (fun c16 => ?_) (fun c16 => ?_)
          ·
            replace hw := hw.1 c16
            refine lv_iconst (v := I 1) hx hb dX13_goTo_214 rfl ?_
            refine lv_goto (tgt := 219) hx hb dX13_goTo_215 (by decide) ?_
            exact (hP219 _ _ _ _).mp hw r_n1 r_n2 (by decide) hN hF H locs ls hP hD hS (lv_sub hl [6, 7, 8] rfl)
          ·
            replace hw := hw.2 c16
            refine lv_lload hx hb dX13_goTo_174 (lv_at hl 3 rfl) ?_
            refine lv_aload_n hx hb dX13_goTo_176 rfl (lv_at hl 6 rfl) ?_
            refine gfX13_startsTwo hx hb hts hK hP hown (hts _ tw_2133) dX13_goTo_177 ?_
            refine lv_bipush (v := I 61) hx hb dX13_goTo_180 (by decide) ?_
            refine lv_iload hx hb dX13_goTo_182 (lv_at hl 1 rfl) ?_
            refine bi_imul hx hb dX13_goTo_184 ?_
            refine lv_iload_n hx hb dX13_goTo_185 rfl (lv_at hl 8 rfl) ?_
            refine bi_iadd hx hb dX13_goTo_186 ?_
            refine ldMX13_startsTwo hx hb hK hP hN c11 dX13_goTo_187 (fun x17 e_x17 => ?_)
            replace hw := hw x17 e_x17
            refine lv_land hx hb dX13_goTo_188 ?_
            refine lv_lconst (v := 0) hx hb dX13_goTo_189 (by decide) ?_
            refine bi_lcmp_ne (tgt := 214) hx hb dX13_goTo_190 dX13_goTo_191 (by decide) (fun c18 => ?_) (fun c18 => ?_)
            ·
              replace hw := hw.1 c18
              refine lv_iconst (v := I 1) hx hb dX13_goTo_214 rfl ?_
              refine lv_goto (tgt := 219) hx hb dX13_goTo_215 (by decide) ?_
              exact (hP219 _ _ _ _).mp hw r_n1 r_n2 (by decide) hN hF H locs ls hP hD hS (lv_sub hl [6, 7, 8] rfl)
            ·
              replace hw := hw.2 c18
              refine lv_lload hx hb dX13_goTo_194 (lv_at hl 2 rfl) ?_
              refine lv_aload_n hx hb dX13_goTo_196 rfl (lv_at hl 6 rfl) ?_
              refine gfX13_startsOne hx hb hts hK hP hown (hts _ tw_2132) dX13_goTo_197 ?_
              refine lv_bipush (v := I 61) hx hb dX13_goTo_200 (by decide) ?_
              refine lv_iload hx hb dX13_goTo_202 (lv_at hl 1 rfl) ?_
              refine bi_imul hx hb dX13_goTo_204 ?_
              refine lv_iload_n hx hb dX13_goTo_205 rfl (lv_at hl 8 rfl) ?_
              refine bi_iadd hx hb dX13_goTo_206 ?_
              refine ldMX13_startsOne hx hb hK hP hN c11 dX13_goTo_207 (fun x19 e_x19 => ?_)
              replace hw := hw x19 e_x19
              refine lv_land hx hb dX13_goTo_208 ?_
              refine lv_lconst (v := 0) hx hb dX13_goTo_209 (by decide) ?_
              refine bi_lcmp_eq (tgt := 218) hx hb dX13_goTo_210 dX13_goTo_211 (by decide) (fun c20 => ?_) (fun c20 => ?_)
              ·
                replace hw := hw.1 c20
                refine lv_iconst (v := I 0) hx hb dX13_goTo_218 rfl ?_
                exact (hP219 _ _ _ _).mp hw r_n1 r_n2 (by decide) hN hF H locs ls hP hD hS (lv_sub hl [6, 7, 8] rfl)
              ·
                replace hw := hw.2 c20
                refine lv_iconst (v := I 1) hx hb dX13_goTo_214 rfl ?_
                refine lv_goto (tgt := 219) hx hb dX13_goTo_215 (by decide) ?_
                exact (hP219 _ _ _ _).mp hw r_n1 r_n2 (by decide) hN hF H locs ls hP hD hS (lv_sub hl [6, 7, 8] rfl)
        ·
          replace hw := hw.2 c13
          exact xrv hx hb hr hlk hP hK hD hS ⟨_, hN, hF, rfl, hw⟩ (Nat.le_of_ble_eq_true rfl) (Nat.le_of_ble_eq_true rfl) dX13_goTo_132
    ·
      replace hw := hw.2 c7
      refine lv_aload_n hx hb dX13_goTo_36 rfl (lv_at hl 4 rfl) ?_
      refine gfX13_stretch hx hb hts hK hP hown (hts _ tw_2125) dX13_goTo_37 ?_
      refine lv_iload_n hx hb dX13_goTo_40 rfl (lv_at hl 6 rfl) ?_
      refine lv_iconst (v := I 1) hx hb dX13_goTo_41 rfl ?_
      refine bi_isub hx hb dX13_goTo_42 ?_
      obtain ⟨c21, hw⟩ := hw
      refine ldMX13_stretch hx hb hK hP hN c21 dX13_goTo_43 (fun x22 r_x22 e_x22 => ?_)
      replace hw := hw x22 r_x22 e_x22
      refine lv_iload hx hb dX13_goTo_44 (lv_at hl 2 rfl) ?_
      refine bi_icmp_ne (tgt := 93) hx hb r_x22 r_x3 dX13_goTo_46 (by decide) (fun c23 => ?_) (fun c23 => ?_)
      ·
        replace hw := hw.1 c23
        exact xrv hx hb hr hlk hP hK hD hS ⟨_, hN, hF, rfl, hw⟩ (Nat.le_of_ble_eq_true rfl) (Nat.le_of_ble_eq_true rfl) dX13_goTo_93
      ·
        replace hw := hw.2 c23
        refine lv_lload hx hb dX13_goTo_49 (lv_at hl 1 rfl) ?_
        refine lv_iload_n hx hb dX13_goTo_51 rfl (lv_at hl 6 rfl) ?_
        refine lv_iconst (v := I 1) hx hb dX13_goTo_52 rfl ?_
        refine bi_isub hx hb dX13_goTo_53 ?_
        refine bi_lshr hx hb dX13_goTo_54 ?_
        refine lv_lconst (v := 1) hx hb dX13_goTo_55 (by decide) ?_
        refine lv_land hx hb dX13_goTo_56 ?_
        refine lv_lconst (v := 1) hx hb dX13_goTo_57 (by decide) ?_
        refine bi_lcmp_ne (tgt := 93) hx hb dX13_goTo_58 dX13_goTo_59 (by decide) (fun c24 => ?_) (fun c24 => ?_)
        ·
          replace hw := hw.1 c24
          exact xrv hx hb hr hlk hP hK hD hS ⟨_, hN, hF, rfl, hw⟩ (Nat.le_of_ble_eq_true rfl) (Nat.le_of_ble_eq_true rfl) dX13_goTo_93
        ·
          replace hw := hw.2 c24
          refine lv_aload_n hx hb dX13_goTo_62 rfl (lv_at hl 4 rfl) ?_
          refine gfX13_frontOne hx hb hts hK hP hown (hts _ tw_2141) dX13_goTo_63 ?_
          refine lv_iload_n hx hb dX13_goTo_66 rfl (lv_at hl 5 rfl) ?_
          refine lv_dup2_11 hx hb dX13_goTo_67 rfl rfl ?_
          refine ldMX13_frontOne hx hb hK hP hN c1 dX13_goTo_68 (fun x25 e_x25 => ?_)
          replace hw := hw x25 e_x25
          refine lv_lconst (v := 1) hx hb dX13_goTo_69 (by decide) ?_
          refine lv_iload_n hx hb dX13_goTo_70 rfl (lv_at hl 6 rfl) ?_
          refine bi_lshl hx hb dX13_goTo_71 ?_
          refine lv_lor hx hb dX13_goTo_72 ?_
          refine sdMX13_frontOne hx hb hK hP hD hS c1 dX13_goTo_73 (fun H locs hP hD hS => ?_)
          have hN : n_m (s_b σ 5 n1 (x25 ||| (j_shl 1 n2))) := n_b (k := 5) (j := n1) (x := (x25 ||| (j_shl 1 n2))) hN
          have hF : f_r [] [] [5, 6] σ (s_b σ 5 n1 (x25 ||| (j_shl 1 n2))) := f_b hF (by decide)
          refine lv_aload_n hx hb dX13_goTo_74 rfl (lv_at hl 4 rfl) ?_
          refine gfX13_frontTwo hx hb hts hK hP hown (hts _ tw_2142) dX13_goTo_75 ?_
          refine lv_iload_n hx hb dX13_goTo_78 rfl (lv_at hl 5 rfl) ?_
          refine lv_dup2_11 hx hb dX13_goTo_79 rfl rfl ?_
          refine ldMX13_frontTwo hx hb hK hP hN c1 dX13_goTo_80 (fun x26 e_x26 => ?_)
          replace hw := hw x26 e_x26
          refine lv_lload hx hb dX13_goTo_81 (lv_at hl 0 rfl) ?_
          refine lv_iload_n hx hb dX13_goTo_83 rfl (lv_at hl 6 rfl) ?_
          refine lv_iconst (v := I 1) hx hb dX13_goTo_84 rfl ?_
          refine bi_isub hx hb dX13_goTo_85 ?_
          refine bi_lshr hx hb dX13_goTo_86 ?_
          refine lv_lconst (v := 1) hx hb dX13_goTo_87 (by decide) ?_
          refine lv_land hx hb dX13_goTo_88 ?_
          refine lv_iload_n hx hb dX13_goTo_89 rfl (lv_at hl 6 rfl) ?_
          refine bi_lshl hx hb dX13_goTo_90 ?_
          refine lv_lor hx hb dX13_goTo_91 ?_
          refine sdMX13_frontTwo hx hb hK hP hD hS c1 dX13_goTo_92 (fun H locs hP hD hS => ?_)
          have hN : n_m (s_b (s_b σ 5 n1 (x25 ||| (j_shl 1 n2))) 6 n1 (x26 ||| (j_shl ((j_shr x6 (n2 - 1)) &&& 1) n2))) := n_b (k := 6) (j := n1) (x := (x26 ||| (j_shl ((j_shr x6 (n2 - 1)) &&& 1) n2))) hN
          have hF : f_r [] [] [5, 6] σ (s_b (s_b σ 5 n1 (x25 ||| (j_shl 1 n2))) 6 n1 (x26 ||| (j_shl ((j_shr x6 (n2 - 1)) &&& 1) n2))) := f_b hF (by decide)
          exact xrv hx hb hr hlk hP hK hD hS ⟨_, hN, hF, rfl, hw⟩ (Nat.le_of_ble_eq_true rfl) (Nat.le_of_ble_eq_true rfl) dX13_goTo_93
  ·
    intro u1 u2 k0 τ hw
    refine (hP219 _ _ _ _).mpr ?_
    intro r_u1 r_u2 r_k0 hN hF H locs ls hP hD hS hl
    have hB := hN
    refine lv_istore (lv' := [(12, .int (I k0)), (0, .ref (q 0)), (1, .int (I u1)), (2, .int (I u2))]) hx hb dX13_goTo_219 hl (by decide) rfl (fun ls hl => ?_)
    refine lv_aload_n hx hb dX13_goTo_221 rfl (lv_at hl 1 rfl) ?_
    refine gfX13_frontTwo hx hb hts hK hP hown (hts _ tw_2142) dX13_goTo_222 ?_
    refine lv_iload_n hx hb dX13_goTo_225 rfl (lv_at hl 2 rfl) ?_
    refine lv_dup2_11 hx hb dX13_goTo_226 rfl rfl ?_
    obtain ⟨c27, hw⟩ := hw
    refine ldMX13_frontTwo hx hb hK hP hN c27 dX13_goTo_227 (fun x28 e_x28 => ?_)
    replace hw := hw x28 e_x28
    refine lv_iload hx hb dX13_goTo_228 (lv_at hl 0 rfl) ?_
    refine bi_if_eq (tgt := 239) hx hb r_k0 dX13_goTo_230 (by decide) (fun c29 => ?_) (fun c29 => ?_)
    ·
      replace hw := hw.1 c29
      refine lv_lconst (v := 0) hx hb dX13_goTo_239 (by decide) ?_
      exact (hP240 _ _ _ _).mp hw r_u1 hN hF H locs ls hP hD hS (lv_sub hl [] rfl)
    ·
      replace hw := hw.2 c29
      refine lv_lconst (v := 1) hx hb dX13_goTo_233 (by decide) ?_
      refine lv_iload_n hx hb dX13_goTo_234 rfl (lv_at hl 3 rfl) ?_
      refine bi_lshl hx hb dX13_goTo_235 ?_
      refine lv_goto (tgt := 240) hx hb dX13_goTo_236 (by decide) ?_
      exact (hP240 _ _ _ _).mp hw r_u1 hN hF H locs ls hP hD hS (lv_sub hl [] rfl)
  ·
    intro k1 k2 k3 τ hw
    refine (hP240 _ _ _ _).mpr ?_
    intro r_k1 hN hF H locs ls hP hD hS hl
    have hB := hN
    refine lv_lor hx hb dX13_goTo_240 ?_
    obtain ⟨c30, hw⟩ := hw
    refine sdMX13_frontTwo hx hb hK hP hD hS c30 dX13_goTo_241 (fun H locs hP hD hS => ?_)
    have hN : n_m (s_b τ 6 k1 (k2 ||| k3)) := n_b (k := 6) (j := k1) (x := (k2 ||| k3)) hN
    have hF : f_r [] [] [5, 6] σ (s_b τ 6 k1 (k2 ||| k3)) := f_b hF (by decide)
    exact xrv hx hb hr hlk hP hK hD hS ⟨_, hN, hF, rfl, hw⟩ (Nat.le_of_ble_eq_true rfl) (Nat.le_of_ble_eq_true rfl) dX13_goTo_242
def W_X13_isSortNode (n1 : Int) (σ : S0) (Q : Int → Prop) : Prop :=
  (0 ≤ n1 ∧ n1 < 30002) ∧ (∀ (x2 : Int), rg x2 → x2 = σ.2.1 78 n1 → ((¬ x2 = 0 → Q 0) ∧ (x2 = 0 → Q 1)))
set_option maxRecDepth 100000 in
set_option maxHeartbeats 4000000 in
theorem L_X13_isSortNode (l : Launch) (g : gG) (q : Nat → Nat) (lb : Nat) (hlb : lb < 2 ^ 31) {n1 : Int} {σ : S0} {Q : Int → Prop} (r_n1 : rg n1) (hN : n_m σ) (hw : W_X13_isSortNode n1 σ Q) (sz : Nat) : MetI l yX13_isSortNode cX13_isSortNode 2 (some .boolean) { frames := 0, cells := 0, slots := 0, locals := 0 } g [.ref (q 0), .int (I n1)] (MX g q lb σ) sz xT (p_i (MX g q lb) σ Q) 0 0 := by
  refine mkMet (Qc := fun A => QI g A (p_i (MX g q lb) σ Q)) (by decide) (Nat.le_of_ble_eq_true rfl) ?_
  intro p e s m below meth c A H ls hx hb hr hml hown hts hlk hnm hsz hP hK hNb hD hA hAe hS hX hl
  have hl : lv_has ls 2 [(0, .ref (q 0)), (1, .int (I n1))] := hl
  have hB := hN
  obtain ⟨locs, hlocs⟩ : ∃ z : List Loc, z = [] := ⟨_, rfl⟩
  rw [← hlocs] at hS ⊢
  refine lv_aload_n hx hb dX13_isSortNode_0 rfl (lv_at hl 0 rfl) ?_
  refine gfX13_ruleUp hx hb hts hK hP hown (hts _ tw_2135) dX13_isSortNode_1 ?_
  refine lv_iload_n hx hb dX13_isSortNode_4 rfl (lv_at hl 1 rfl) ?_
  obtain ⟨c1, hw⟩ := hw
  refine ldMX13_ruleUp hx hb hK hP hN c1 dX13_isSortNode_5 (fun x2 r_x2 e_x2 => ?_)
  replace hw := hw x2 r_x2 e_x2
  refine bi_if_ne (tgt := 13) hx hb r_x2 dX13_isSortNode_6 (by decide) (fun c3 => ?_) (fun c3 => ?_)
  ·
    replace hw := hw.1 c3
    refine lv_iconst (v := I 0) hx hb dX13_isSortNode_13 rfl ?_
    exact xrz hx hb hr (by decide) hlk hP hK hD hS ⟨_, (by decide), rfl, rfl, hw⟩ (Nat.le_of_ble_eq_true rfl) (Nat.le_of_ble_eq_true rfl) dX13_isSortNode_14
  ·
    replace hw := hw.2 c3
    refine lv_iconst (v := I 1) hx hb dX13_isSortNode_9 rfl ?_
    refine lv_goto (tgt := 14) hx hb dX13_isSortNode_10 (by decide) ?_
    exact xrz hx hb hr (by decide) hlk hP hK hD hS ⟨_, (by decide), rfl, rfl, hw⟩ (Nat.le_of_ble_eq_true rfl) (Nat.le_of_ble_eq_true rfl) dX13_isSortNode_14
def W_X13_isFirstVariable (n1 : Int) (σ : S0) (Q : Int → Prop) : Prop :=
  (0 ≤ n1 ∧ n1 < 30002) ∧ (∀ (x2 : Int), rg x2 → x2 = σ.2.1 78 n1 → (∃ (Q3 : Int → Prop), W_X13_isSortNode x2 σ Q3 ∧ ∀ (x4 : Int), rg x4 → Q3 x4 → ((x4 = 0 → Q 0) ∧ (¬ x4 = 0 → ∀ (x7 : Int), rg x7 → x7 = σ.2.1 77 n1 → ((0 ≤ x7 → Q 0) ∧ (x7 < 0 → Q 1))))))
set_option maxRecDepth 100000 in
set_option maxHeartbeats 4000000 in
theorem L_X13_isFirstVariable (l : Launch) (g : gG) (q : Nat → Nat) (lb : Nat) (hlb : lb < 2 ^ 31) {n1 : Int} {σ : S0} {Q : Int → Prop} (r_n1 : rg n1) (hN : n_m σ) (hw : W_X13_isFirstVariable n1 σ Q) (sz : Nat) : MetI l yX13_isFirstVariable cX13_isFirstVariable 2 (some .boolean) { frames := 1, cells := 0, slots := 0, locals := 21 } g [.ref (q 0), .int (I n1)] (MX g q lb σ) sz xT (p_i (MX g q lb) σ Q) 0 0 := by
  refine mkMet (Qc := fun A => QI g A (p_i (MX g q lb) σ Q)) (by decide) (Nat.le_of_ble_eq_true rfl) ?_
  intro p e s m below meth c A H ls hx hb hr hml hown hts hlk hnm hsz hP hK hNb hD hA hAe hS hX hl
  have hl : lv_has ls 2 [(0, .ref (q 0)), (1, .int (I n1))] := hl
  have hB := hN
  obtain ⟨locs, hlocs⟩ : ∃ z : List Loc, z = [] := ⟨_, rfl⟩
  rw [← hlocs] at hS ⊢
  refine lv_aload_n hx hb dX13_isFirstVariable_0 rfl (lv_at hl 0 rfl) ?_
  refine lv_aload_n hx hb dX13_isFirstVariable_1 rfl (lv_at hl 0 rfl) ?_
  refine gfX13_ruleUp hx hb hts hK hP hown (hts _ tw_2135) dX13_isFirstVariable_2 ?_
  refine lv_iload_n hx hb dX13_isFirstVariable_5 rfl (lv_at hl 1 rfl) ?_
  obtain ⟨c1, hw⟩ := hw
  refine ldMX13_ruleUp hx hb hK hP hN c1 dX13_isFirstVariable_6 (fun x2 r_x2 e_x2 => ?_)
  replace hw := hw x2 r_x2 e_x2
  obtain ⟨Q3, hc, hw⟩ := hw
  refine wc_i (X := MX g q lb) (va_runV (As := [.int (I x2)]) (rest := []) ⟨hx, hb, hml, hown, hts⟩ (L_X13_isSortNode l g q lb hlb r_x2 hN hc H.size) (cwV 1 hts (TB_V tw_2960 tw_2962 ts_185 tw_15 co_X13_isSortNode) rfl rfl rfl (by decide +kernel) ⟨Nat.le_of_ble_eq_true rfl, Nat.le_of_ble_eq_true rfl⟩) (preV (q0 := 0) (ci := 13) rfl xT_bl hP hK hNb hD rfl rfl xT_at) rfl rfl hl.1 rfl (lv_room (Nat.le_of_ble_eq_true rfl)) dX13_isFirstVariable_7 ⟨Nat.le_of_ble_eq_true rfl, Nat.le_of_ble_eq_true rfl⟩) hP hD hS hA (fun x4 H locs r_x4 hq hP hD hS => ?_)
  replace hw := hw x4 r_x4 hq
  refine bi_if_eq (tgt := 26) hx hb r_x4 dX13_isFirstVariable_10 (by decide) (fun c6 => ?_) (fun c6 => ?_)
  ·
    replace hw := hw.1 c6
    refine lv_iconst (v := I 0) hx hb dX13_isFirstVariable_26 rfl ?_
    exact xrz hx hb hr (by decide) hlk hP hK hD hS ⟨_, (by decide), rfl, rfl, hw⟩ (Nat.le_of_ble_eq_true rfl) (Nat.le_of_ble_eq_true rfl) dX13_isFirstVariable_27
  ·
    replace hw := hw.2 c6
    refine lv_aload_n hx hb dX13_isFirstVariable_13 rfl (lv_at hl 0 rfl) ?_
    refine gfX13_ruleStep hx hb hts hK hP hown (hts _ tw_2134) dX13_isFirstVariable_14 ?_
    refine lv_iload_n hx hb dX13_isFirstVariable_17 rfl (lv_at hl 1 rfl) ?_
    refine ldMX13_ruleStep hx hb hK hP hN c1 dX13_isFirstVariable_18 (fun x7 r_x7 e_x7 => ?_)
    replace hw := hw x7 r_x7 e_x7
    refine bi_if_ge (tgt := 26) hx hb r_x7 dX13_isFirstVariable_19 (by decide) (fun c8 => ?_) (fun c8 => ?_)
    ·
      replace hw := hw.1 c8
      refine lv_iconst (v := I 0) hx hb dX13_isFirstVariable_26 rfl ?_
      exact xrz hx hb hr (by decide) hlk hP hK hD hS ⟨_, (by decide), rfl, rfl, hw⟩ (Nat.le_of_ble_eq_true rfl) (Nat.le_of_ble_eq_true rfl) dX13_isFirstVariable_27
    ·
      replace hw := hw.2 c8
      refine lv_iconst (v := I 1) hx hb dX13_isFirstVariable_22 rfl ?_
      refine lv_goto (tgt := 27) hx hb dX13_isFirstVariable_23 (by decide) ?_
      exact xrz hx hb hr (by decide) hlk hP hK hD hS ⟨_, (by decide), rfl, rfl, hw⟩ (Nat.le_of_ble_eq_true rfl) (Nat.le_of_ble_eq_true rfl) dX13_isFirstVariable_27
def W_X13_countStretch (n1 : Int) (n2 : Int) (n3 : Int) (σ : S0) (Q : S0 → Prop) : Prop :=
  ∀ (P41 : Int → Int → Int → Int → S0 → Prop) (P137 : Int → Int → Int → Int → Int → S0 → Prop) (P210 : Int → Int → Int → Int → Int → Int → S0 → Prop) (P246 : Int → Int → Int → Int → Int → Int → Int → Int → S0 → Prop) (P283 : Int → Int → Int → Int → S0 → Prop) (P328 : Int → Int → Int → Int → Int → Int64 → Int64 → S0 → Prop) (P367 : Int → Int → Int → Int → Int → Int64 → Int64 → S0 → Prop) (P378 : Int → Int → Int → S0 → Prop),
  (∀ (u1 : Int) (u2 : Int) (u3 : Int) (u4 : Int) (τ : S0), ((τ.1 47 ≤ u4 → ∃ (Q14 : S0 → Prop), W_X13_closeUnits u1 u2 u3 τ Q14 ∧ ∀ (τ16 : S0), n_m τ16 → f_r [] [75, 92, 93] [] τ τ16 → Q14 τ16 → (P283 u1 u2 u3 0 τ16)) ∧ (u4 < τ.1 47 → (0 ≤ u4 ∧ u4 < 30002) ∧ (∀ (x18 : Int), rg x18 → x18 = τ.2.1 83 u4 → ((u3 ≤ x18 → rg (u4 + 1) ∧ P41 u1 u2 u3 (u4 + 1) τ) ∧ (x18 < u3 → ∃ (Q21 : Int → Prop), W_X13_isSortNode u4 τ Q21 ∧ ∀ (x22 : Int), rg x22 → Q21 x22 → ((¬ x22 = 0 → rg (u4 + 1) ∧ P41 u1 u2 u3 (u4 + 1) τ) ∧ (x22 = 0 → ∀ (x26 : Int), rg x26 → x26 = τ.2.1 78 u4 → ((0 ≤ x26 ∧ x26 < 30002) ∧ (∀ (x28 : Int64), x28 = τ.2.2 5 x26 → ((x28 = 0 → rg (u4 + 1) ∧ P41 u1 u2 u3 (u4 + 1) τ) ∧ (¬ x28 = 0 → ∃ (Q31 : Int → Prop), W_X13_isFirstVariable u4 τ Q31 ∧ ∀ (x32 : Int), rg x32 → Q31 x32 → ((x32 = 0 → ∃ (Q35 : S0 → Prop), W_X13_goTo u4 u2 τ Q35 ∧ ∀ (τ37 : S0), n_m τ37 → f_r [] [] [5, 6] τ τ37 → Q35 τ37 → (∀ (x38 : Int), rg x38 → x38 = τ37.2.1 81 u4 → ((u3 ≤ x38 → rg (u4 + 1) ∧ P41 u1 u2 u3 (u4 + 1) τ37) ∧ (x38 < u3 → ∀ (x41 : Int64), x41 = τ37.2.2 5 u4 → ((¬ ((j_shr x41 u2) &&& 1) = 1 → rg (u4 + 1) ∧ P41 u1 u2 u3 (u4 + 1) τ37) ∧ (((j_shr x41 u2) &&& 1) = 1 → P137 u1 u2 u3 u4 u4 τ37)))))) ∧ (¬ x32 = 0 → rg (u4 + 1) ∧ P41 u1 u2 u3 (u4 + 1) τ))))))))))))) → P41 u1 u2 u3 u4 τ) →
  (∀ (u1 : Int) (u2 : Int) (u3 : Int) (u4 : Int) (u5 : Int) (τ : S0), (∃ (Q54 : Int → Prop), W_X13_isSortNode u5 τ Q54 ∧ ∀ (x55 : Int), rg x55 → Q54 x55 → ((¬ x55 = 0 → (0 ≤ u5 ∧ u5 < 30002) ∧ (∀ (x59 : Int), rg x59 → x59 = τ.2.1 77 u5 → ((0 ≤ x59 ∧ x59 < 1001) ∧ (∀ (x61 : Int), rg x61 → x61 = τ.2.1 71 x59 → (∃ (Q62 : Int → Prop), W_X13_wayAt x61 u1 u2 τ Q62 ∧ ∀ (x63 : Int), rg x63 → Q62 x63 → ((0 ≤ u4 ∧ u4 < 30002) ∧ (∀ (x66 : Int64), x66 = τ.2.2 6 u4 → ((((j_shr x66 u2) &&& 1) = 1 → P210 u1 u2 u3 u4 x63 2 τ) ∧ (¬ ((j_shr x66 u2) &&& 1) = 1 → ∀ (x68 : Int), rg x68 → x68 = τ.2.1 82 u4 → ((u3 ≤ x68 → P210 u1 u2 u3 u4 x63 1 τ) ∧ (x68 < u3 → P210 u1 u2 u3 u4 x63 2 τ))))))))))) ∧ (x55 = 0 → (0 ≤ u5 ∧ u5 < 30002) ∧ (∀ (x71 : Int), rg x71 → x71 = τ.2.1 78 u5 → (P137 u1 u2 u3 u4 x71 τ))))) → P137 u1 u2 u3 u4 u5 τ) →
  (∀ (u1 : Int) (u2 : Int) (u3 : Int) (u4 : Int) (u6 : Int) (k0 : Int) (τ : S0), ((0 ≤ u6 ∧ u6 < 372100) ∧ (∀ (x101 : Int), rg x101 → x101 = τ.2.1 76 u6 → ((¬ x101 = (-1) → ∀ (x103 : Int), rg x103 → x103 = τ.2.1 76 u6 → (P246 u1 u2 u3 u4 u6 k0 u6 x103 τ)) ∧ (x101 = (-1) → (0 ≤ u4 ∧ u4 < 30002) ∧ (∀ (x105 : Int), rg x105 → x105 = τ.2.1 81 u4 → (P246 u1 u2 u3 u4 u6 k0 u6 x105 τ)))))) → P210 u1 u2 u3 u4 u6 k0 τ) →
  (∀ (u1 : Int) (u2 : Int) (u3 : Int) (u4 : Int) (u6 : Int) (u7 : Int) (k1 : Int) (k2 : Int) (τ : S0), ((0 ≤ k1 ∧ k1 < 372100) ∧ ((0 ≤ u6 ∧ u6 < 372100) ∧ (∀ (x110 : Int), rg x110 → x110 = τ.2.1 75 u6 → (rg (x110 + u7) ∧ ∃ (Q112 : Int → Prop), W_X13_capped (x110 + u7) (s_a τ 76 k1 k2) Q112 ∧ ∀ (x113 : Int), rg x113 → Q112 x113 → (rg (u4 + 1) ∧ P41 u1 u2 u3 (u4 + 1) (s_a (s_a τ 76 k1 k2) 75 u6 x113)))))) → P246 u1 u2 u3 u4 u6 u7 k1 k2 τ) →
  (∀ (u1 : Int) (u2 : Int) (u3 : Int) (u4 : Int) (τ : S0), ((τ.1 46 ≤ u4 → P378 u2 u3 1 τ) ∧ (u4 < τ.1 46 → (0 ≤ ((61 * u4) + u2) ∧ ((61 * u4) + u2) < 6200) ∧ (∀ (x47 : Int64), x47 = τ.2.2 3 ((61 * u4) + u2) → (∃ (Q48 : Int → Prop), W_X13_wayAt u4 u1 u2 τ Q48 ∧ ∀ (x49 : Int), rg x49 → Q48 x49 → ((0 ≤ x49 ∧ x49 < 372100) ∧ (∀ (x52 : Int), rg x52 → x52 = τ.2.1 75 x49 → ((x52 ≤ 0 → P328 u1 u2 u3 u4 ((61 * u4) + u2) x47 0 τ) ∧ (0 < x52 → P328 u1 u2 u3 u4 ((61 * u4) + u2) x47 (j_shl 1 u1) τ)))))))) → P283 u1 u2 u3 u4 τ) →
  (∀ (u1 : Int) (u2 : Int) (u3 : Int) (u4 : Int) (k1 : Int) (k2 : Int64) (k3 : Int64) (τ : S0), ((0 ≤ k1 ∧ k1 < 6200) ∧ ((0 ≤ ((61 * u4) + u2) ∧ ((61 * u4) + u2) < 6200) ∧ (∀ (x93 : Int64), x93 = τ.2.2 4 ((61 * u4) + u2) → (∃ (Q94 : Int → Prop), W_X13_wayAt u4 u1 u2 (s_b τ 3 k1 (k2 ||| k3)) Q94 ∧ ∀ (x95 : Int), rg x95 → Q94 x95 → ((0 ≤ x95 ∧ x95 < 372100) ∧ (∀ (x98 : Int), rg x98 → x98 = τ.2.1 75 x95 → ((x98 ≤ 1 → P367 u1 u2 u3 u4 ((61 * u4) + u2) x93 0 (s_b τ 3 k1 (k2 ||| k3))) ∧ (1 < x98 → P367 u1 u2 u3 u4 ((61 * u4) + u2) x93 (j_shl 1 u1) (s_b τ 3 k1 (k2 ||| k3)))))))))) → P328 u1 u2 u3 u4 k1 k2 k3 τ) →
  (∀ (u1 : Int) (u2 : Int) (u3 : Int) (u4 : Int) (k1 : Int) (k2 : Int64) (k3 : Int64) (τ : S0), ((0 ≤ k1 ∧ k1 < 6200) ∧ (rg (u4 + 1) ∧ P283 u1 u2 u3 (u4 + 1) (s_b τ 4 k1 (k2 ||| k3)))) → P367 u1 u2 u3 u4 k1 k2 k3 τ) →
  (∀ (u2 : Int) (u3 : Int) (u4 : Int) (τ : S0), ((τ.1 47 ≤ u4 → Q τ) ∧ (u4 < τ.1 47 → (0 ≤ u4 ∧ u4 < 30002) ∧ (∀ (x74 : Int), rg x74 → x74 = τ.2.1 83 u4 → ((u3 ≤ x74 → rg (u4 + 1) ∧ P378 u2 u3 (u4 + 1) τ) ∧ (x74 < u3 → ∃ (Q77 : Int → Prop), W_X13_isSortNode u4 τ Q77 ∧ ∀ (x78 : Int), rg x78 → Q77 x78 → ((¬ x78 = 0 → rg (u4 + 1) ∧ P378 u2 u3 (u4 + 1) τ) ∧ (x78 = 0 → ∃ (Q82 : Int → Prop), W_X13_isFirstVariable u4 τ Q82 ∧ ∀ (x83 : Int), rg x83 → Q82 x83 → ((x83 = 0 → rg (u4 + 1) ∧ P378 u2 u3 (u4 + 1) τ) ∧ (¬ x83 = 0 → ∃ (Q87 : S0 → Prop), W_X13_goTo u4 u2 τ Q87 ∧ ∀ (τ89 : S0), n_m τ89 → f_r [] [] [5, 6] τ τ89 → Q87 τ89 → (rg (u4 + 1) ∧ P378 u2 u3 (u4 + 1) τ89)))))))))) → P378 u2 u3 u4 τ) →
  rg (n1 + 1) ∧ (¬ n2 = (n1 + 1) → P41 n1 n2 n3 1 σ) ∧ (n2 = (n1 + 1) → (0 ≤ n1 ∧ n1 < 64) ∧ (∀ (x4 : Int), rg x4 → x4 = σ.2.1 73 n1 → ((x4 = (-1) → P41 n1 n2 n3 1 σ) ∧ (¬ x4 = (-1) → ∀ (x6 : Int), rg x6 → x6 = σ.2.1 73 n1 → (∃ (Q7 : Int → Prop), W_X13_wayAt x6 n1 n2 σ Q7 ∧ ∀ (x8 : Int), rg x8 → Q7 x8 → ((0 ≤ x8 ∧ x8 < 372100) ∧ (∀ (x11 : Int), rg x11 → x11 = σ.2.1 75 x8 → (rg (x11 + 1) ∧ P41 n1 n2 n3 1 (s_a σ 75 x8 (x11 + 1))))))))))
set_option maxRecDepth 100000 in
set_option maxHeartbeats 4000000 in
theorem L_X13_countStretch (l : Launch) (g : gG) (q : Nat → Nat) (lb : Nat) (hlb : lb < 2 ^ 31) {n1 : Int} {n2 : Int} {n3 : Int} {σ : S0} {Q : S0 → Prop} (r_n1 : rg n1) (r_n2 : rg n2) (r_n3 : rg n3) (hN : n_m σ) (hw : W_X13_countStretch n1 n2 n3 σ Q) (sz : Nat) : MetV l yX13_countStretch cX13_countStretch 8 { frames := 2, cells := 0, slots := 0, locals := 50 } g [.ref (q 0), .int (I n1), .int (I n2), .int (I n3)] (MX g q lb σ) sz xT (p_V (MX g q lb) [] [75, 76, 92, 93] [3, 4, 5, 6] σ Q) 0 0 := by
  refine mkMet (Qc := fun A => QV g A (p_V (MX g q lb) [] [75, 76, 92, 93] [3, 4, 5, 6] σ Q)) (by decide) (Nat.le_of_ble_eq_true rfl) ?_
  intro p e s m below meth c A H ls hx hb hr hml hown hts hlk hnm hsz hP hK hNb hD hA hAe hS hX hl
  have hl : lv_has ls 8 [(0, .ref (q 0)), (1, .int (I n1)), (2, .int (I n2)), (3, .int (I n3))] := hl
  have hB := hN
  have hF : f_r [] [75, 76, 92, 93] [3, 4, 5, 6] σ σ := f_0
  obtain ⟨locs, hlocs⟩ : ∃ z : List Loc, z = [] := ⟨_, rfl⟩
  rw [← hlocs] at hS ⊢
  obtain ⟨P41, hP41⟩ : ∃ P : Int → Int → Int → Int → S0 → Prop, ∀ (u1 : Int) (u2 : Int) (u3 : Int) (u4 : Int) (τ : S0), (P u1 u2 u3 u4 τ ↔ (rg u1 → rg u2 → rg u3 → rg u4 → n_m τ → f_r [] [75, 76, 92, 93] [3, 4, 5, 6] σ τ → ∀ (H : Heap) (locs : List Loc) (ls : Array Slot), KP g (MX g q lb τ) H → va_D A (MX g q lb τ) → va_S A s.heap H locs → lv_has ls 8 [(0, .ref (q 0)), (1, .int (I u1)), (2, .int (I u2)), (3, .int (I u3)), (4, .int (I u4))] → W p l e ({ frames := 2, cells := 0, slots := 0, locals := 50 }) s m [.ref (q 0), .int (I n1), .int (I n2), .int (I n3)].toArray below meth c H locs 0 0 (MQ below (QV g A (p_V (MX g q lb) [] [75, 76, 92, 93] [3, 4, 5, 6] σ Q)) [.ref (q 0), .int (I n1), .int (I n2), .int (I n3)].toArray s 0 0 A) (F0 m 41 ls []))) := ⟨_, fun _ _ _ _ _ => Iff.rfl⟩
  obtain ⟨P137, hP137⟩ : ∃ P : Int → Int → Int → Int → Int → S0 → Prop, ∀ (u1 : Int) (u2 : Int) (u3 : Int) (u4 : Int) (u5 : Int) (τ : S0), (P u1 u2 u3 u4 u5 τ ↔ (rg u1 → rg u2 → rg u3 → rg u4 → rg u5 → n_m τ → f_r [] [75, 76, 92, 93] [3, 4, 5, 6] σ τ → ∀ (H : Heap) (locs : List Loc) (ls : Array Slot), KP g (MX g q lb τ) H → va_D A (MX g q lb τ) → va_S A s.heap H locs → lv_has ls 8 [(0, .ref (q 0)), (1, .int (I u1)), (2, .int (I u2)), (3, .int (I u3)), (4, .int (I u4)), (5, .int (I u5))] → W p l e ({ frames := 2, cells := 0, slots := 0, locals := 50 }) s m [.ref (q 0), .int (I n1), .int (I n2), .int (I n3)].toArray below meth c H locs 0 0 (MQ below (QV g A (p_V (MX g q lb) [] [75, 76, 92, 93] [3, 4, 5, 6] σ Q)) [.ref (q 0), .int (I n1), .int (I n2), .int (I n3)].toArray s 0 0 A) (F0 m 137 ls []))) := ⟨_, fun _ _ _ _ _ _ => Iff.rfl⟩
  obtain ⟨P210, hP210⟩ : ∃ P : Int → Int → Int → Int → Int → Int → S0 → Prop, ∀ (u1 : Int) (u2 : Int) (u3 : Int) (u4 : Int) (u6 : Int) (k0 : Int) (τ : S0), (P u1 u2 u3 u4 u6 k0 τ ↔ (rg u1 → rg u2 → rg u3 → rg u4 → rg u6 → rg k0 → n_m τ → f_r [] [75, 76, 92, 93] [3, 4, 5, 6] σ τ → ∀ (H : Heap) (locs : List Loc) (ls : Array Slot), KP g (MX g q lb τ) H → va_D A (MX g q lb τ) → va_S A s.heap H locs → lv_has ls 8 [(0, .ref (q 0)), (1, .int (I u1)), (2, .int (I u2)), (3, .int (I u3)), (4, .int (I u4)), (6, .int (I u6))] → W p l e ({ frames := 2, cells := 0, slots := 0, locals := 50 }) s m [.ref (q 0), .int (I n1), .int (I n2), .int (I n3)].toArray below meth c H locs 0 0 (MQ below (QV g A (p_V (MX g q lb) [] [75, 76, 92, 93] [3, 4, 5, 6] σ Q)) [.ref (q 0), .int (I n1), .int (I n2), .int (I n3)].toArray s 0 0 A) (F0 m 210 ls [.int (I k0)]))) := ⟨_, fun _ _ _ _ _ _ _ => Iff.rfl⟩
  obtain ⟨P246, hP246⟩ : ∃ P : Int → Int → Int → Int → Int → Int → Int → Int → S0 → Prop, ∀ (u1 : Int) (u2 : Int) (u3 : Int) (u4 : Int) (u6 : Int) (u7 : Int) (k1 : Int) (k2 : Int) (τ : S0), (P u1 u2 u3 u4 u6 u7 k1 k2 τ ↔ (rg u1 → rg u2 → rg u3 → rg u4 → rg u6 → rg u7 → rg k1 → rg k2 → n_m τ → f_r [] [75, 76, 92, 93] [3, 4, 5, 6] σ τ → ∀ (H : Heap) (locs : List Loc) (ls : Array Slot), KP g (MX g q lb τ) H → va_D A (MX g q lb τ) → va_S A s.heap H locs → lv_has ls 8 [(0, .ref (q 0)), (1, .int (I u1)), (2, .int (I u2)), (3, .int (I u3)), (4, .int (I u4)), (6, .int (I u6)), (7, .int (I u7))] → W p l e ({ frames := 2, cells := 0, slots := 0, locals := 50 }) s m [.ref (q 0), .int (I n1), .int (I n2), .int (I n3)].toArray below meth c H locs 0 0 (MQ below (QV g A (p_V (MX g q lb) [] [75, 76, 92, 93] [3, 4, 5, 6] σ Q)) [.ref (q 0), .int (I n1), .int (I n2), .int (I n3)].toArray s 0 0 A) (F0 m 246 ls [.int (I k2), .int (I k1), .ref (q 80)]))) := ⟨_, fun _ _ _ _ _ _ _ _ _ => Iff.rfl⟩
  obtain ⟨P283, hP283⟩ : ∃ P : Int → Int → Int → Int → S0 → Prop, ∀ (u1 : Int) (u2 : Int) (u3 : Int) (u4 : Int) (τ : S0), (P u1 u2 u3 u4 τ ↔ (rg u1 → rg u2 → rg u3 → rg u4 → n_m τ → f_r [] [75, 76, 92, 93] [3, 4, 5, 6] σ τ → ∀ (H : Heap) (locs : List Loc) (ls : Array Slot), KP g (MX g q lb τ) H → va_D A (MX g q lb τ) → va_S A s.heap H locs → lv_has ls 8 [(0, .ref (q 0)), (1, .int (I u1)), (2, .int (I u2)), (3, .int (I u3)), (4, .int (I u4))] → W p l e ({ frames := 2, cells := 0, slots := 0, locals := 50 }) s m [.ref (q 0), .int (I n1), .int (I n2), .int (I n3)].toArray below meth c H locs 0 0 (MQ below (QV g A (p_V (MX g q lb) [] [75, 76, 92, 93] [3, 4, 5, 6] σ Q)) [.ref (q 0), .int (I n1), .int (I n2), .int (I n3)].toArray s 0 0 A) (F0 m 283 ls []))) := ⟨_, fun _ _ _ _ _ => Iff.rfl⟩
  obtain ⟨P328, hP328⟩ : ∃ P : Int → Int → Int → Int → Int → Int64 → Int64 → S0 → Prop, ∀ (u1 : Int) (u2 : Int) (u3 : Int) (u4 : Int) (k1 : Int) (k2 : Int64) (k3 : Int64) (τ : S0), (P u1 u2 u3 u4 k1 k2 k3 τ ↔ (rg u1 → rg u2 → rg u3 → rg u4 → rg k1 → n_m τ → f_r [] [75, 76, 92, 93] [3, 4, 5, 6] σ τ → ∀ (H : Heap) (locs : List Loc) (ls : Array Slot), KP g (MX g q lb τ) H → va_D A (MX g q lb τ) → va_S A s.heap H locs → lv_has ls 8 [(0, .ref (q 0)), (1, .int (I u1)), (2, .int (I u2)), (3, .int (I u3)), (4, .int (I u4))] → W p l e ({ frames := 2, cells := 0, slots := 0, locals := 50 }) s m [.ref (q 0), .int (I n1), .int (I n2), .int (I n3)].toArray below meth c H locs 0 0 (MQ below (QV g A (p_V (MX g q lb) [] [75, 76, 92, 93] [3, 4, 5, 6] σ Q)) [.ref (q 0), .int (I n1), .int (I n2), .int (I n3)].toArray s 0 0 A) (F0 m 328 ls [.long k3, .long k2, .int (I k1), .ref (q 81)]))) := ⟨_, fun _ _ _ _ _ _ _ _ => Iff.rfl⟩
  obtain ⟨P367, hP367⟩ : ∃ P : Int → Int → Int → Int → Int → Int64 → Int64 → S0 → Prop, ∀ (u1 : Int) (u2 : Int) (u3 : Int) (u4 : Int) (k1 : Int) (k2 : Int64) (k3 : Int64) (τ : S0), (P u1 u2 u3 u4 k1 k2 k3 τ ↔ (rg u1 → rg u2 → rg u3 → rg u4 → rg k1 → n_m τ → f_r [] [75, 76, 92, 93] [3, 4, 5, 6] σ τ → ∀ (H : Heap) (locs : List Loc) (ls : Array Slot), KP g (MX g q lb τ) H → va_D A (MX g q lb τ) → va_S A s.heap H locs → lv_has ls 8 [(0, .ref (q 0)), (1, .int (I u1)), (2, .int (I u2)), (3, .int (I u3)), (4, .int (I u4))] → W p l e ({ frames := 2, cells := 0, slots := 0, locals := 50 }) s m [.ref (q 0), .int (I n1), .int (I n2), .int (I n3)].toArray below meth c H locs 0 0 (MQ below (QV g A (p_V (MX g q lb) [] [75, 76, 92, 93] [3, 4, 5, 6] σ Q)) [.ref (q 0), .int (I n1), .int (I n2), .int (I n3)].toArray s 0 0 A) (F0 m 367 ls [.long k3, .long k2, .int (I k1), .ref (q 82)]))) := ⟨_, fun _ _ _ _ _ _ _ _ => Iff.rfl⟩
  obtain ⟨P378, hP378⟩ : ∃ P : Int → Int → Int → S0 → Prop, ∀ (u2 : Int) (u3 : Int) (u4 : Int) (τ : S0), (P u2 u3 u4 τ ↔ (rg u2 → rg u3 → rg u4 → n_m τ → f_r [] [75, 76, 92, 93] [3, 4, 5, 6] σ τ → ∀ (H : Heap) (locs : List Loc) (ls : Array Slot), KP g (MX g q lb τ) H → va_D A (MX g q lb τ) → va_S A s.heap H locs → lv_has ls 8 [(0, .ref (q 0)), (2, .int (I u2)), (3, .int (I u3)), (4, .int (I u4))] → W p l e ({ frames := 2, cells := 0, slots := 0, locals := 50 }) s m [.ref (q 0), .int (I n1), .int (I n2), .int (I n3)].toArray below meth c H locs 0 0 (MQ below (QV g A (p_V (MX g q lb) [] [75, 76, 92, 93] [3, 4, 5, 6] σ Q)) [.ref (q 0), .int (I n1), .int (I n2), .int (I n3)].toArray s 0 0 A) (F0 m 378 ls []))) := ⟨_, fun _ _ _ _ => Iff.rfl⟩
  refine (fun hw => ?_) (hw P41 P137 P210 P246 P283 P328 P367 P378 ?_ ?_ ?_ ?_ ?_ ?_ ?_ ?_)
  ·
    refine lv_iload_n hx hb dX13_countStretch_0 rfl (lv_at hl 2 rfl) ?_
    refine lv_iload_n hx hb dX13_countStretch_1 rfl (lv_at hl 1 rfl) ?_
    refine lv_iconst (v := I 1) hx hb dX13_countStretch_2 rfl ?_
    refine bi_iadd hx hb dX13_countStretch_3 ?_
    obtain ⟨c1, hw⟩ := hw
    refine bi_icmp_ne (tgt := 38) hx hb r_n2 c1 dX13_countStretch_4 (by decide) (fun c2 => ?_) (fun c2 => ?_)
    ·
      replace hw := hw.1 c2
      refine lv_iconst (v := I 1) hx hb dX13_countStretch_38 rfl ?_
      refine lv_istore (lv' := [(4, .int (I 1)), (0, .ref (q 0)), (1, .int (I n1)), (2, .int (I n2)), (3, .int (I n3))]) hx hb dX13_countStretch_39 hl (by decide) rfl (fun ls hl => ?_)
      exact (hP41 _ _ _ _ _).mp hw r_n1 r_n2 r_n3 (by decide) hN hF H locs ls hP hD hS (lv_sub hl [1, 2, 3, 4, 0] rfl)
    ·
      replace hw := hw.2 c2
      refine lv_aload_n hx hb dX13_countStretch_7 rfl (lv_at hl 0 rfl) ?_
      refine gfX13_leafSort hx hb hts hK hP hown (hts _ tw_2127) dX13_countStretch_8 ?_
      refine lv_iload_n hx hb dX13_countStretch_11 rfl (lv_at hl 1 rfl) ?_
      obtain ⟨c3, hw⟩ := hw
      refine ldMX13_leafSort hx hb hK hP hN c3 dX13_countStretch_12 (fun x4 r_x4 e_x4 => ?_)
      replace hw := hw x4 r_x4 e_x4
      refine lv_iconst (v := I (-1)) hx hb dX13_countStretch_13 rfl ?_
      refine bi_icmp_eq (tgt := 38) hx hb r_x4 (by decide) dX13_countStretch_14 (by decide) (fun c5 => ?_) (fun c5 => ?_)
      ·
        replace hw := hw.1 c5
        refine lv_iconst (v := I 1) hx hb dX13_countStretch_38 rfl ?_
        refine lv_istore (lv' := [(4, .int (I 1)), (0, .ref (q 0)), (1, .int (I n1)), (2, .int (I n2)), (3, .int (I n3))]) hx hb dX13_countStretch_39 hl (by decide) rfl (fun ls hl => ?_)
        exact (hP41 _ _ _ _ _).mp hw r_n1 r_n2 r_n3 (by decide) hN hF H locs ls hP hD hS (lv_sub hl [1, 2, 3, 4, 0] rfl)
      ·
        replace hw := hw.2 c5
        refine lv_aload_n hx hb dX13_countStretch_17 rfl (lv_at hl 0 rfl) ?_
        refine gfX13_ways hx hb hts hK hP hown (hts _ tw_2129) dX13_countStretch_18 ?_
        refine lv_aload_n hx hb dX13_countStretch_21 rfl (lv_at hl 0 rfl) ?_
        refine lv_aload_n hx hb dX13_countStretch_22 rfl (lv_at hl 0 rfl) ?_
        refine gfX13_leafSort hx hb hts hK hP hown (hts _ tw_2127) dX13_countStretch_23 ?_
        refine lv_iload_n hx hb dX13_countStretch_26 rfl (lv_at hl 1 rfl) ?_
        refine ldMX13_leafSort hx hb hK hP hN c3 dX13_countStretch_27 (fun x6 r_x6 e_x6 => ?_)
        replace hw := hw x6 r_x6 e_x6
        refine lv_iload_n hx hb dX13_countStretch_28 rfl (lv_at hl 1 rfl) ?_
        refine lv_iload_n hx hb dX13_countStretch_29 rfl (lv_at hl 2 rfl) ?_
        obtain ⟨Q7, hc, hw⟩ := hw
        refine wc_i (X := MX g q lb) (va_runV (As := [.int (I x6), .int (I n1), .int (I n2)]) (rest := [.ref (q 79)]) ⟨hx, hb, hml, hown, hts⟩ (L_X13_wayAt l g q lb hlb r_x6 r_n1 r_n2 hN hc H.size) (cwV 3 hts (TB_V tw_2956 tw_2958 ts_184 tw_15 co_X13_wayAt) rfl rfl rfl (by decide +kernel) ⟨Nat.le_of_ble_eq_true rfl, Nat.le_of_ble_eq_true rfl⟩) (preV (q0 := 0) (ci := 13) rfl xT_bl hP hK hNb hD rfl rfl xT_at) rfl rfl hl.1 rfl (lv_room (Nat.le_of_ble_eq_true rfl)) dX13_countStretch_30 ⟨Nat.le_of_ble_eq_true rfl, Nat.le_of_ble_eq_true rfl⟩) hP hD hS hA (fun x8 H locs r_x8 hq hP hD hS => ?_)
        replace hw := hw x8 r_x8 hq
        refine lv_dup2_11 hx hb dX13_countStretch_33 rfl rfl ?_
        obtain ⟨c10, hw⟩ := hw
        refine ldMX13_ways hx hb hK hP hN c10 dX13_countStretch_34 (fun x11 r_x11 e_x11 => ?_)
        replace hw := hw x11 r_x11 e_x11
        refine lv_iconst (v := I 1) hx hb dX13_countStretch_35 rfl ?_
        refine bi_iadd hx hb dX13_countStretch_36 ?_
        obtain ⟨c12, hw⟩ := hw
        refine sdMX13_ways hx hb hK hP hD hS c10 dX13_countStretch_37 (fun H locs hP hD hS => ?_)
        have hN : n_m (s_a σ 75 x8 (x11 + 1)) := n_a (k := 75) (j := x8) hN (c12 : rg (x11 + 1))
        have hF : f_r [] [75, 76, 92, 93] [3, 4, 5, 6] σ (s_a σ 75 x8 (x11 + 1)) := f_a hF (by decide)
        refine lv_iconst (v := I 1) hx hb dX13_countStretch_38 rfl ?_
        refine lv_istore (lv' := [(4, .int (I 1)), (0, .ref (q 0)), (1, .int (I n1)), (2, .int (I n2)), (3, .int (I n3))]) hx hb dX13_countStretch_39 hl (by decide) rfl (fun ls hl => ?_)
        exact (hP41 _ _ _ _ _).mp hw r_n1 r_n2 r_n3 (by decide) hN hF H locs ls hP hD hS (lv_sub hl [1, 2, 3, 4, 0] rfl)
  ·
    intro u1 u2 u3 u4 τ hw
    refine (hP41 _ _ _ _ _).mpr ?_
    intro r_u1 r_u2 r_u3 r_u4 hN hF H locs ls hP hD hS hl
    have hB := hN
    refine lv_iload hx hb dX13_countStretch_41 (lv_at hl 4 rfl) ?_
    refine lv_aload_n hx hb dX13_countStretch_43 rfl (lv_at hl 0 rfl) ?_
    refine gfX13_ruleNodes hx hb hts hK hP hown (hts _ tw_2143) (x := τ.1 47) rfl dX13_countStretch_44 ?_
    refine bi_icmp_ge (tgt := 273) hx hb r_u4 (hB.1 47) dX13_countStretch_47 (by decide) (fun c13 => ?_) (fun c13 => ?_)
    ·
      replace hw := hw.1 c13
      refine lv_aload_n hx hb dX13_countStretch_273 rfl (lv_at hl 0 rfl) ?_
      refine lv_iload_n hx hb dX13_countStretch_274 rfl (lv_at hl 1 rfl) ?_
      refine lv_iload_n hx hb dX13_countStretch_275 rfl (lv_at hl 2 rfl) ?_
      refine lv_iload_n hx hb dX13_countStretch_276 rfl (lv_at hl 3 rfl) ?_
      obtain ⟨Q14, hc, hw⟩ := hw
      refine wc_V (X := MX g q lb) (va_runV (As := [.int (I u1), .int (I u2), .int (I u3)]) (rest := []) ⟨hx, hb, hml, hown, hts⟩ (L_X13_closeUnits l g q lb hlb r_u1 r_u2 r_u3 hN hc H.size) (cwV 3 hts (TB_V tw_2979 tw_2981 ts_189 tw_15 co_X13_closeUnits) rfl rfl rfl (by decide +kernel) ⟨Nat.le_of_ble_eq_true rfl, Nat.le_of_ble_eq_true rfl⟩) (preV (q0 := 0) (ci := 13) rfl xT_bl hP hK hNb hD rfl rfl xT_at) rfl rfl hl.1 rfl (lv_room (Nat.le_of_ble_eq_true rfl)) dX13_countStretch_277 ⟨Nat.le_of_ble_eq_true rfl, Nat.le_of_ble_eq_true rfl⟩) hP hD hS hA (fun τ16 H locs hN hf hq hP hD hS => ?_)
      replace hw := hw τ16 hN hf hq
      have hF : f_r [] [75, 76, 92, 93] [3, 4, 5, 6] σ τ16 := f_t hF hf (by decide) (by decide) (by decide)
      have hB := hN
      refine lv_iconst (v := I 0) hx hb dX13_countStretch_280 rfl ?_
      refine lv_istore (lv' := [(4, .int (I 0)), (0, .ref (q 0)), (1, .int (I u1)), (2, .int (I u2)), (3, .int (I u3))]) hx hb dX13_countStretch_281 hl (by decide) rfl (fun ls hl => ?_)
      exact (hP283 _ _ _ _ _).mp hw r_u1 r_u2 r_u3 (by decide) hN hF H locs ls hP hD hS (lv_sub hl [1, 2, 3, 4, 0] rfl)
    ·
      replace hw := hw.2 c13
      refine lv_aload_n hx hb dX13_countStretch_50 rfl (lv_at hl 0 rfl) ?_
      refine gfX13_ruleLeast hx hb hts hK hP hown (hts _ tw_2140) dX13_countStretch_51 ?_
      refine lv_iload hx hb dX13_countStretch_54 (lv_at hl 4 rfl) ?_
      obtain ⟨c17, hw⟩ := hw
      refine ldMX13_ruleLeast hx hb hK hP hN c17 dX13_countStretch_56 (fun x18 r_x18 e_x18 => ?_)
      replace hw := hw x18 r_x18 e_x18
      refine lv_iload_n hx hb dX13_countStretch_57 rfl (lv_at hl 3 rfl) ?_
      refine bi_icmp_ge (tgt := 267) hx hb r_x18 r_u3 dX13_countStretch_58 (by decide) (fun c19 => ?_) (fun c19 => ?_)
      ·
        replace hw := hw.1 c19
        refine lv_iinc (v := I (u4 + 1)) (lv' := [(4, .int (I (u4 + 1))), (0, .ref (q 0)), (1, .int (I u1)), (2, .int (I u2)), (3, .int (I u3))]) hx hb dX13_countStretch_267 hl (k := 4) rfl (I_add _ _) (by decide) rfl (fun ls hl => ?_)
        refine lv_goto (tgt := 41) hx hb dX13_countStretch_270 (by decide) ?_
        obtain ⟨c20, hw⟩ := hw
        exact (hP41 _ _ _ _ _).mp hw r_u1 r_u2 r_u3 c20 hN hF H locs ls hP hD hS (lv_sub hl [1, 2, 3, 4, 0] rfl)
      ·
        replace hw := hw.2 c19
        refine lv_aload_n hx hb dX13_countStretch_61 rfl (lv_at hl 0 rfl) ?_
        refine lv_iload hx hb dX13_countStretch_62 (lv_at hl 4 rfl) ?_
        obtain ⟨Q21, hc, hw⟩ := hw
        refine wc_i (X := MX g q lb) (va_runV (As := [.int (I u4)]) (rest := []) ⟨hx, hb, hml, hown, hts⟩ (L_X13_isSortNode l g q lb hlb r_u4 hN hc H.size) (cwV 1 hts (TB_V tw_2960 tw_2962 ts_185 tw_15 co_X13_isSortNode) rfl rfl rfl (by decide +kernel) ⟨Nat.le_of_ble_eq_true rfl, Nat.le_of_ble_eq_true rfl⟩) (preV (q0 := 0) (ci := 13) rfl xT_bl hP hK hNb hD rfl rfl xT_at) rfl rfl hl.1 rfl (lv_room (Nat.le_of_ble_eq_true rfl)) dX13_countStretch_64 ⟨Nat.le_of_ble_eq_true rfl, Nat.le_of_ble_eq_true rfl⟩) hP hD hS hA (fun x22 H locs r_x22 hq hP hD hS => ?_)
        replace hw := hw x22 r_x22 hq
        refine bi_if_ne (tgt := 267) hx hb r_x22 dX13_countStretch_67 (by decide) (fun c24 => ?_) (fun c24 => ?_)
        ·
          replace hw := hw.1 c24
          refine lv_iinc (v := I (u4 + 1)) (lv' := [(4, .int (I (u4 + 1))), (0, .ref (q 0)), (1, .int (I u1)), (2, .int (I u2)), (3, .int (I u3))]) hx hb dX13_countStretch_267 hl (k := 4) rfl (I_add _ _) (by decide) rfl (fun ls hl => ?_)
          refine lv_goto (tgt := 41) hx hb dX13_countStretch_270 (by decide) ?_
          obtain ⟨c25, hw⟩ := hw
          exact (hP41 _ _ _ _ _).mp hw r_u1 r_u2 r_u3 c25 hN hF H locs ls hP hD hS (lv_sub hl [1, 2, 3, 4, 0] rfl)
        ·
          replace hw := hw.2 c24
          refine lv_aload_n hx hb dX13_countStretch_70 rfl (lv_at hl 0 rfl) ?_
          refine gfX13_frontOne hx hb hts hK hP hown (hts _ tw_2141) dX13_countStretch_71 ?_
          refine lv_aload_n hx hb dX13_countStretch_74 rfl (lv_at hl 0 rfl) ?_
          refine gfX13_ruleUp hx hb hts hK hP hown (hts _ tw_2135) dX13_countStretch_75 ?_
          refine lv_iload hx hb dX13_countStretch_78 (lv_at hl 4 rfl) ?_
          refine ldMX13_ruleUp hx hb hK hP hN c17 dX13_countStretch_80 (fun x26 r_x26 e_x26 => ?_)
          replace hw := hw x26 r_x26 e_x26
          obtain ⟨c27, hw⟩ := hw
          refine ldMX13_frontOne hx hb hK hP hN c27 dX13_countStretch_81 (fun x28 e_x28 => ?_)
          replace hw := hw x28 e_x28
          refine lv_lconst (v := 0) hx hb dX13_countStretch_82 (by decide) ?_
          refine bi_lcmp_eq (tgt := 267) hx hb dX13_countStretch_83 dX13_countStretch_84 (by decide) (fun c29 => ?_) (fun c29 => ?_)
          ·
            replace hw := hw.1 c29
            refine lv_iinc (v := I (u4 + 1)) (lv' := [(4, .int (I (u4 + 1))), (0, .ref (q 0)), (1, .int (I u1)), (2, .int (I u2)), (3, .int (I u3))]) hx hb dX13_countStretch_267 hl (k := 4) rfl (I_add _ _) (by decide) rfl (fun ls hl => ?_)
            refine lv_goto (tgt := 41) hx hb dX13_countStretch_270 (by decide) ?_
            obtain ⟨c30, hw⟩ := hw
            exact (hP41 _ _ _ _ _).mp hw r_u1 r_u2 r_u3 c30 hN hF H locs ls hP hD hS (lv_sub hl [1, 2, 3, 4, 0] rfl)
          ·
            replace hw := hw.2 c29
            refine lv_aload_n hx hb dX13_countStretch_87 rfl (lv_at hl 0 rfl) ?_
            refine lv_iload hx hb dX13_countStretch_88 (lv_at hl 4 rfl) ?_
            obtain ⟨Q31, hc, hw⟩ := hw
            refine wc_i (X := MX g q lb) (va_runV (As := [.int (I u4)]) (rest := []) ⟨hx, hb, hml, hown, hts⟩ (L_X13_isFirstVariable l g q lb hlb r_u4 hN hc H.size) (cwV 1 hts (TB_V tw_2968 tw_2970 ts_187 tw_15 co_X13_isFirstVariable) rfl rfl rfl (by decide +kernel) ⟨Nat.le_of_ble_eq_true rfl, Nat.le_of_ble_eq_true rfl⟩) (preV (q0 := 0) (ci := 13) rfl xT_bl hP hK hNb hD rfl rfl xT_at) rfl rfl hl.1 rfl (lv_room (Nat.le_of_ble_eq_true rfl)) dX13_countStretch_90 ⟨Nat.le_of_ble_eq_true rfl, Nat.le_of_ble_eq_true rfl⟩) hP hD hS hA (fun x32 H locs r_x32 hq hP hD hS => ?_)
            replace hw := hw x32 r_x32 hq
            refine bi_if_eq (tgt := 99) hx hb r_x32 dX13_countStretch_93 (by decide) (fun c34 => ?_) (fun c34 => ?_)
            ·
              replace hw := hw.1 c34
              refine lv_aload_n hx hb dX13_countStretch_99 rfl (lv_at hl 0 rfl) ?_
              refine lv_iload hx hb dX13_countStretch_100 (lv_at hl 4 rfl) ?_
              refine lv_iload_n hx hb dX13_countStretch_102 rfl (lv_at hl 2 rfl) ?_
              obtain ⟨Q35, hc, hw⟩ := hw
              refine wc_V (X := MX g q lb) (va_runV (As := [.int (I u4), .int (I u2)]) (rest := []) ⟨hx, hb, hml, hown, hts⟩ (L_X13_goTo l g q lb hlb r_u4 r_u2 hN hc H.size) (cwV 2 hts (TB_V tw_2972 tw_2974 ts_188 tw_15 co_X13_goTo) rfl rfl rfl (by decide +kernel) ⟨Nat.le_of_ble_eq_true rfl, Nat.le_of_ble_eq_true rfl⟩) (preV (q0 := 0) (ci := 13) rfl xT_bl hP hK hNb hD rfl rfl xT_at) rfl rfl hl.1 rfl (lv_room (Nat.le_of_ble_eq_true rfl)) dX13_countStretch_103 ⟨Nat.le_of_ble_eq_true rfl, Nat.le_of_ble_eq_true rfl⟩) hP hD hS hA (fun τ37 H locs hN hf hq hP hD hS => ?_)
              replace hw := hw τ37 hN hf hq
              have hF : f_r [] [75, 76, 92, 93] [3, 4, 5, 6] σ τ37 := f_t hF hf (by decide) (by decide) (by decide)
              have hB := hN
              refine lv_aload_n hx hb dX13_countStretch_106 rfl (lv_at hl 0 rfl) ?_
              refine gfX13_ruleFirst hx hb hts hK hP hown (hts _ tw_2138) dX13_countStretch_107 ?_
              refine lv_iload hx hb dX13_countStretch_110 (lv_at hl 4 rfl) ?_
              refine ldMX13_ruleFirst hx hb hK hP hN c17 dX13_countStretch_112 (fun x38 r_x38 e_x38 => ?_)
              replace hw := hw x38 r_x38 e_x38
              refine lv_iload_n hx hb dX13_countStretch_113 rfl (lv_at hl 3 rfl) ?_
              refine bi_icmp_ge (tgt := 267) hx hb r_x38 r_u3 dX13_countStretch_114 (by decide) (fun c39 => ?_) (fun c39 => ?_)
              ·
                replace hw := hw.1 c39
                refine lv_iinc (v := I (u4 + 1)) (lv' := [(4, .int (I (u4 + 1))), (0, .ref (q 0)), (1, .int (I u1)), (2, .int (I u2)), (3, .int (I u3))]) hx hb dX13_countStretch_267 hl (k := 4) rfl (I_add _ _) (by decide) rfl (fun ls hl => ?_)
                refine lv_goto (tgt := 41) hx hb dX13_countStretch_270 (by decide) ?_
                obtain ⟨c40, hw⟩ := hw
                exact (hP41 _ _ _ _ _).mp hw r_u1 r_u2 r_u3 c40 hN hF H locs ls hP hD hS (lv_sub hl [1, 2, 3, 4, 0] rfl)
              ·
                replace hw := hw.2 c39
                refine lv_aload_n hx hb dX13_countStretch_117 rfl (lv_at hl 0 rfl) ?_
                refine gfX13_frontOne hx hb hts hK hP hown (hts _ tw_2141) dX13_countStretch_118 ?_
                refine lv_iload hx hb dX13_countStretch_121 (lv_at hl 4 rfl) ?_
                refine ldMX13_frontOne hx hb hK hP hN c17 dX13_countStretch_123 (fun x41 e_x41 => ?_)
                replace hw := hw x41 e_x41
                refine lv_iload_n hx hb dX13_countStretch_124 rfl (lv_at hl 2 rfl) ?_
                refine bi_lshr hx hb dX13_countStretch_125 ?_
                refine lv_lconst (v := 1) hx hb dX13_countStretch_126 (by decide) ?_
                refine lv_land hx hb dX13_countStretch_127 ?_
                refine lv_lconst (v := 1) hx hb dX13_countStretch_128 (by decide) ?_
                refine bi_lcmp_ne (tgt := 267) hx hb dX13_countStretch_129 dX13_countStretch_130 (by decide) (fun c42 => ?_) (fun c42 => ?_)
                ·
                  replace hw := hw.1 c42
                  refine lv_iinc (v := I (u4 + 1)) (lv' := [(4, .int (I (u4 + 1))), (0, .ref (q 0)), (1, .int (I u1)), (2, .int (I u2)), (3, .int (I u3))]) hx hb dX13_countStretch_267 hl (k := 4) rfl (I_add _ _) (by decide) rfl (fun ls hl => ?_)
                  refine lv_goto (tgt := 41) hx hb dX13_countStretch_270 (by decide) ?_
                  obtain ⟨c43, hw⟩ := hw
                  exact (hP41 _ _ _ _ _).mp hw r_u1 r_u2 r_u3 c43 hN hF H locs ls hP hD hS (lv_sub hl [1, 2, 3, 4, 0] rfl)
                ·
                  replace hw := hw.2 c42
                  refine lv_iload hx hb dX13_countStretch_133 (lv_at hl 4 rfl) ?_
                  refine lv_istore (lv' := [(5, .int (I u4)), (0, .ref (q 0)), (1, .int (I u1)), (2, .int (I u2)), (3, .int (I u3)), (4, .int (I u4))]) hx hb dX13_countStretch_135 hl (by decide) rfl (fun ls hl => ?_)
                  exact (hP137 _ _ _ _ _ _).mp hw r_u1 r_u2 r_u3 r_u4 r_u4 hN hF H locs ls hP hD hS (lv_sub hl [1, 2, 3, 4, 5, 0] rfl)
            ·
              replace hw := hw.2 c34
              refine lv_goto (tgt := 267) hx hb dX13_countStretch_96 (by decide) ?_
              refine lv_iinc (v := I (u4 + 1)) (lv' := [(4, .int (I (u4 + 1))), (0, .ref (q 0)), (1, .int (I u1)), (2, .int (I u2)), (3, .int (I u3))]) hx hb dX13_countStretch_267 hl (k := 4) rfl (I_add _ _) (by decide) rfl (fun ls hl => ?_)
              refine lv_goto (tgt := 41) hx hb dX13_countStretch_270 (by decide) ?_
              obtain ⟨c44, hw⟩ := hw
              exact (hP41 _ _ _ _ _).mp hw r_u1 r_u2 r_u3 c44 hN hF H locs ls hP hD hS (lv_sub hl [1, 2, 3, 4, 0] rfl)
  ·
    intro u1 u2 u3 u4 u5 τ hw
    refine (hP137 _ _ _ _ _ _).mpr ?_
    intro r_u1 r_u2 r_u3 r_u4 r_u5 hN hF H locs ls hP hD hS hl
    have hB := hN
    refine lv_aload_n hx hb dX13_countStretch_137 rfl (lv_at hl 0 rfl) ?_
    refine lv_iload hx hb dX13_countStretch_138 (lv_at hl 5 rfl) ?_
    obtain ⟨Q54, hc, hw⟩ := hw
    refine wc_i (X := MX g q lb) (va_runV (As := [.int (I u5)]) (rest := []) ⟨hx, hb, hml, hown, hts⟩ (L_X13_isSortNode l g q lb hlb r_u5 hN hc H.size) (cwV 1 hts (TB_V tw_2960 tw_2962 ts_185 tw_15 co_X13_isSortNode) rfl rfl rfl (by decide +kernel) ⟨Nat.le_of_ble_eq_true rfl, Nat.le_of_ble_eq_true rfl⟩) (preV (q0 := 0) (ci := 13) rfl xT_bl hP hK hNb hD rfl rfl xT_at) rfl rfl hl.1 rfl (lv_room (Nat.le_of_ble_eq_true rfl)) dX13_countStretch_140 ⟨Nat.le_of_ble_eq_true rfl, Nat.le_of_ble_eq_true rfl⟩) hP hD hS hA (fun x55 H locs r_x55 hq hP hD hS => ?_)
    replace hw := hw x55 r_x55 hq
    refine bi_if_ne (tgt := 158) hx hb r_x55 dX13_countStretch_143 (by decide) (fun c57 => ?_) (fun c57 => ?_)
    ·
      replace hw := hw.1 c57
      refine lv_aload_n hx hb dX13_countStretch_158 rfl (lv_at hl 0 rfl) ?_
      refine lv_aload_n hx hb dX13_countStretch_159 rfl (lv_at hl 0 rfl) ?_
      refine gfX13_sortOf hx hb hts hK hP hown (hts _ tw_2124) dX13_countStretch_160 ?_
      refine lv_aload_n hx hb dX13_countStretch_163 rfl (lv_at hl 0 rfl) ?_
      refine gfX13_ruleStep hx hb hts hK hP hown (hts _ tw_2134) dX13_countStretch_164 ?_
      refine lv_iload hx hb dX13_countStretch_167 (lv_at hl 5 rfl) ?_
      obtain ⟨c58, hw⟩ := hw
      refine ldMX13_ruleStep hx hb hK hP hN c58 dX13_countStretch_169 (fun x59 r_x59 e_x59 => ?_)
      replace hw := hw x59 r_x59 e_x59
      obtain ⟨c60, hw⟩ := hw
      refine ldMX13_sortOf hx hb hK hP hN c60 dX13_countStretch_170 (fun x61 r_x61 e_x61 => ?_)
      replace hw := hw x61 r_x61 e_x61
      refine lv_iload_n hx hb dX13_countStretch_171 rfl (lv_at hl 1 rfl) ?_
      refine lv_iload_n hx hb dX13_countStretch_172 rfl (lv_at hl 2 rfl) ?_
      obtain ⟨Q62, hc, hw⟩ := hw
      refine wc_i (X := MX g q lb) (va_runV (As := [.int (I x61), .int (I u1), .int (I u2)]) (rest := []) ⟨hx, hb, hml, hown, hts⟩ (L_X13_wayAt l g q lb hlb r_x61 r_u1 r_u2 hN hc H.size) (cwV 3 hts (TB_V tw_2956 tw_2958 ts_184 tw_15 co_X13_wayAt) rfl rfl rfl (by decide +kernel) ⟨Nat.le_of_ble_eq_true rfl, Nat.le_of_ble_eq_true rfl⟩) (preV (q0 := 0) (ci := 13) rfl xT_bl hP hK hNb hD rfl rfl xT_at) rfl rfl hl.1 rfl (lv_room (Nat.le_of_ble_eq_true rfl)) dX13_countStretch_173 ⟨Nat.le_of_ble_eq_true rfl, Nat.le_of_ble_eq_true rfl⟩) hP hD hS hA (fun x63 H locs r_x63 hq hP hD hS => ?_)
      replace hw := hw x63 r_x63 hq
      refine lv_istore (lv' := [(6, .int (I x63)), (0, .ref (q 0)), (1, .int (I u1)), (2, .int (I u2)), (3, .int (I u3)), (4, .int (I u4)), (5, .int (I u5))]) hx hb dX13_countStretch_176 hl (by decide) rfl (fun ls hl => ?_)
      refine lv_aload_n hx hb dX13_countStretch_178 rfl (lv_at hl 1 rfl) ?_
      refine gfX13_frontTwo hx hb hts hK hP hown (hts _ tw_2142) dX13_countStretch_179 ?_
      refine lv_iload hx hb dX13_countStretch_182 (lv_at hl 5 rfl) ?_
      obtain ⟨c65, hw⟩ := hw
      refine ldMX13_frontTwo hx hb hK hP hN c65 dX13_countStretch_184 (fun x66 e_x66 => ?_)
      replace hw := hw x66 e_x66
      refine lv_iload_n hx hb dX13_countStretch_185 rfl (lv_at hl 3 rfl) ?_
      refine bi_lshr hx hb dX13_countStretch_186 ?_
      refine lv_lconst (v := 1) hx hb dX13_countStretch_187 (by decide) ?_
      refine lv_land hx hb dX13_countStretch_188 ?_
      refine lv_lconst (v := 1) hx hb dX13_countStretch_189 (by decide) ?_
      refine bi_lcmp_eq (tgt := 205) hx hb dX13_countStretch_190 dX13_countStretch_191 (by decide) (fun c67 => ?_) (fun c67 => ?_)
      ·
        replace hw := hw.1 c67
        refine lv_iconst (v := I 2) hx hb dX13_countStretch_205 rfl ?_
        refine lv_goto (tgt := 210) hx hb dX13_countStretch_206 (by decide) ?_
        exact (hP210 _ _ _ _ _ _ _).mp hw r_u1 r_u2 r_u3 r_u4 r_x63 (by decide) hN hF H locs ls hP hD hS (lv_sub hl [1, 2, 3, 4, 5, 0] rfl)
      ·
        replace hw := hw.2 c67
        refine lv_aload_n hx hb dX13_countStretch_194 rfl (lv_at hl 1 rfl) ?_
        refine gfX13_ruleOther hx hb hts hK hP hown (hts _ tw_2139) dX13_countStretch_195 ?_
        refine lv_iload hx hb dX13_countStretch_198 (lv_at hl 5 rfl) ?_
        refine ldMX13_ruleOther hx hb hK hP hN c65 dX13_countStretch_200 (fun x68 r_x68 e_x68 => ?_)
        replace hw := hw x68 r_x68 e_x68
        refine lv_iload_n hx hb dX13_countStretch_201 rfl (lv_at hl 4 rfl) ?_
        refine bi_icmp_ge (tgt := 209) hx hb r_x68 r_u3 dX13_countStretch_202 (by decide) (fun c69 => ?_) (fun c69 => ?_)
        ·
          replace hw := hw.1 c69
          refine lv_iconst (v := I 1) hx hb dX13_countStretch_209 rfl ?_
          exact (hP210 _ _ _ _ _ _ _).mp hw r_u1 r_u2 r_u3 r_u4 r_x63 (by decide) hN hF H locs ls hP hD hS (lv_sub hl [1, 2, 3, 4, 5, 0] rfl)
        ·
          replace hw := hw.2 c69
          refine lv_iconst (v := I 2) hx hb dX13_countStretch_205 rfl ?_
          refine lv_goto (tgt := 210) hx hb dX13_countStretch_206 (by decide) ?_
          exact (hP210 _ _ _ _ _ _ _).mp hw r_u1 r_u2 r_u3 r_u4 r_x63 (by decide) hN hF H locs ls hP hD hS (lv_sub hl [1, 2, 3, 4, 5, 0] rfl)
    ·
      replace hw := hw.2 c57
      refine lv_aload_n hx hb dX13_countStretch_146 rfl (lv_at hl 0 rfl) ?_
      refine gfX13_ruleUp hx hb hts hK hP hown (hts _ tw_2135) dX13_countStretch_147 ?_
      refine lv_iload hx hb dX13_countStretch_150 (lv_at hl 5 rfl) ?_
      obtain ⟨c70, hw⟩ := hw
      refine ldMX13_ruleUp hx hb hK hP hN c70 dX13_countStretch_152 (fun x71 r_x71 e_x71 => ?_)
      replace hw := hw x71 r_x71 e_x71
      refine lv_istore (lv' := [(5, .int (I x71)), (0, .ref (q 0)), (1, .int (I u1)), (2, .int (I u2)), (3, .int (I u3)), (4, .int (I u4))]) hx hb dX13_countStretch_153 hl (by decide) rfl (fun ls hl => ?_)
      refine lv_goto (tgt := 137) hx hb dX13_countStretch_155 (by decide) ?_
      exact (hP137 _ _ _ _ _ _).mp hw r_u1 r_u2 r_u3 r_u4 r_x71 hN hF H locs ls hP hD hS (lv_sub hl [1, 2, 3, 4, 5, 0] rfl)
  ·
    intro u1 u2 u3 u4 u6 k0 τ hw
    refine (hP210 _ _ _ _ _ _ _).mpr ?_
    intro r_u1 r_u2 r_u3 r_u4 r_u6 r_k0 hN hF H locs ls hP hD hS hl
    have hB := hN
    refine lv_istore (lv' := [(7, .int (I k0)), (0, .ref (q 0)), (1, .int (I u1)), (2, .int (I u2)), (3, .int (I u3)), (4, .int (I u4)), (6, .int (I u6))]) hx hb dX13_countStretch_210 hl (by decide) rfl (fun ls hl => ?_)
    refine lv_aload_n hx hb dX13_countStretch_212 rfl (lv_at hl 1 rfl) ?_
    refine gfX13_madeBy hx hb hts hK hP hown (hts _ tw_2131) dX13_countStretch_213 ?_
    refine lv_iload hx hb dX13_countStretch_216 (lv_at hl 6 rfl) ?_
    refine lv_aload_n hx hb dX13_countStretch_218 rfl (lv_at hl 1 rfl) ?_
    refine gfX13_madeBy hx hb hts hK hP hown (hts _ tw_2131) dX13_countStretch_219 ?_
    refine lv_iload hx hb dX13_countStretch_222 (lv_at hl 6 rfl) ?_
    obtain ⟨c100, hw⟩ := hw
    refine ldMX13_madeBy hx hb hK hP hN c100 dX13_countStretch_224 (fun x101 r_x101 e_x101 => ?_)
    replace hw := hw x101 r_x101 e_x101
    refine lv_iconst (v := I (-1)) hx hb dX13_countStretch_225 rfl ?_
    refine bi_icmp_ne (tgt := 239) hx hb r_x101 (by decide) dX13_countStretch_226 (by decide) (fun c102 => ?_) (fun c102 => ?_)
    ·
      replace hw := hw.1 c102
      refine lv_aload_n hx hb dX13_countStretch_239 rfl (lv_at hl 1 rfl) ?_
      refine gfX13_madeBy hx hb hts hK hP hown (hts _ tw_2131) dX13_countStretch_240 ?_
      refine lv_iload hx hb dX13_countStretch_243 (lv_at hl 6 rfl) ?_
      refine ldMX13_madeBy hx hb hK hP hN c100 dX13_countStretch_245 (fun x103 r_x103 e_x103 => ?_)
      replace hw := hw x103 r_x103 e_x103
      exact (hP246 _ _ _ _ _ _ _ _ _).mp hw r_u1 r_u2 r_u3 r_u4 r_u6 r_k0 r_u6 r_x103 hN hF H locs ls hP hD hS (lv_sub hl [1, 2, 3, 4, 5, 6, 0] rfl)
    ·
      replace hw := hw.2 c102
      refine lv_aload_n hx hb dX13_countStretch_229 rfl (lv_at hl 1 rfl) ?_
      refine gfX13_ruleFirst hx hb hts hK hP hown (hts _ tw_2138) dX13_countStretch_230 ?_
      refine lv_iload hx hb dX13_countStretch_233 (lv_at hl 5 rfl) ?_
      obtain ⟨c104, hw⟩ := hw
      refine ldMX13_ruleFirst hx hb hK hP hN c104 dX13_countStretch_235 (fun x105 r_x105 e_x105 => ?_)
      replace hw := hw x105 r_x105 e_x105
      refine lv_goto (tgt := 246) hx hb dX13_countStretch_236 (by decide) ?_
      exact (hP246 _ _ _ _ _ _ _ _ _).mp hw r_u1 r_u2 r_u3 r_u4 r_u6 r_k0 r_u6 r_x105 hN hF H locs ls hP hD hS (lv_sub hl [1, 2, 3, 4, 5, 6, 0] rfl)
  ·
    intro u1 u2 u3 u4 u6 u7 k1 k2 τ hw
    refine (hP246 _ _ _ _ _ _ _ _ _).mpr ?_
    intro r_u1 r_u2 r_u3 r_u4 r_u6 r_u7 r_k1 r_k2 hN hF H locs ls hP hD hS hl
    have hB := hN
    obtain ⟨c108, hw⟩ := hw
    refine sdMX13_madeBy hx hb hK hP hD hS c108 dX13_countStretch_246 (fun H locs hP hD hS => ?_)
    have hN : n_m (s_a τ 76 k1 k2) := n_a (k := 76) (j := k1) hN (r_k2 : rg k2)
    have hF : f_r [] [75, 76, 92, 93] [3, 4, 5, 6] σ (s_a τ 76 k1 k2) := f_a hF (by decide)
    refine lv_aload_n hx hb dX13_countStretch_247 rfl (lv_at hl 0 rfl) ?_
    refine gfX13_ways hx hb hts hK hP hown (hts _ tw_2129) dX13_countStretch_248 ?_
    refine lv_iload hx hb dX13_countStretch_251 (lv_at hl 5 rfl) ?_
    refine lv_aload_n hx hb dX13_countStretch_253 rfl (lv_at hl 0 rfl) ?_
    refine gfX13_ways hx hb hts hK hP hown (hts _ tw_2129) dX13_countStretch_254 ?_
    refine lv_iload hx hb dX13_countStretch_257 (lv_at hl 5 rfl) ?_
    obtain ⟨c109, hw⟩ := hw
    refine ldMX13_ways hx hb hK hP hN c109 dX13_countStretch_259 (fun x110 r_x110 e_x110 => ?_)
    replace hw := hw x110 r_x110 e_x110
    refine lv_iload hx hb dX13_countStretch_260 (lv_at hl 6 rfl) ?_
    refine bi_iadd hx hb dX13_countStretch_262 ?_
    obtain ⟨c111, hw⟩ := hw
    obtain ⟨Q112, hc, hw⟩ := hw
    refine wc_i (X := MX g q lb) (va_runS (As := [.int (I (x110 + u7))]) (rest := [.int (I u6), .ref (q 79)]) ⟨hx, hb, hml, hown, hts⟩ (L_X13_capped l g q lb hlb c111 hN hc H.size) (cwS 1 hts (TB_S tw_2976 tw_2977 tw_15 co_X13_capped) rfl rfl rfl (by decide +kernel) ⟨Nat.le_of_ble_eq_true rfl, Nat.le_of_ble_eq_true rfl⟩) (preS xT_bl hP hK hNb hD xT_at) rfl rfl hl.1 rfl (lv_room (Nat.le_of_ble_eq_true rfl)) dX13_countStretch_263 ⟨Nat.le_of_ble_eq_true rfl, Nat.le_of_ble_eq_true rfl⟩) hP hD hS hA (fun x113 H locs r_x113 hq hP hD hS => ?_)
    replace hw := hw x113 r_x113 hq
    refine sdMX13_ways hx hb hK hP hD hS c109 dX13_countStretch_266 (fun H locs hP hD hS => ?_)
    have hN : n_m (s_a (s_a τ 76 k1 k2) 75 u6 x113) := n_a (k := 75) (j := u6) hN (r_x113 : rg x113)
    have hF : f_r [] [75, 76, 92, 93] [3, 4, 5, 6] σ (s_a (s_a τ 76 k1 k2) 75 u6 x113) := f_a hF (by decide)
    refine lv_iinc (v := I (u4 + 1)) (lv' := [(4, .int (I (u4 + 1))), (0, .ref (q 0)), (1, .int (I u1)), (2, .int (I u2)), (3, .int (I u3)), (6, .int (I u6)), (7, .int (I u7))]) hx hb dX13_countStretch_267 hl (k := 4) rfl (I_add _ _) (by decide) rfl (fun ls hl => ?_)
    refine lv_goto (tgt := 41) hx hb dX13_countStretch_270 (by decide) ?_
    obtain ⟨c115, hw⟩ := hw
    exact (hP41 _ _ _ _ _).mp hw r_u1 r_u2 r_u3 c115 hN hF H locs ls hP hD hS (lv_sub hl [1, 2, 3, 4, 0] rfl)
  ·
    intro u1 u2 u3 u4 τ hw
    refine (hP283 _ _ _ _ _).mpr ?_
    intro r_u1 r_u2 r_u3 r_u4 hN hF H locs ls hP hD hS hl
    have hB := hN
    refine lv_iload hx hb dX13_countStretch_283 (lv_at hl 4 rfl) ?_
    refine lv_aload_n hx hb dX13_countStretch_285 rfl (lv_at hl 0 rfl) ?_
    refine gfX13_sorts hx hb hts hK hP hown (hts _ tw_2130) (x := τ.1 46) rfl dX13_countStretch_286 ?_
    refine bi_icmp_ge (tgt := 375) hx hb r_u4 (hB.1 46) dX13_countStretch_289 (by decide) (fun c45 => ?_) (fun c45 => ?_)
    ·
      replace hw := hw.1 c45
      refine lv_iconst (v := I 1) hx hb dX13_countStretch_375 rfl ?_
      refine lv_istore (lv' := [(4, .int (I 1)), (0, .ref (q 0)), (1, .int (I u1)), (2, .int (I u2)), (3, .int (I u3))]) hx hb dX13_countStretch_376 hl (by decide) rfl (fun ls hl => ?_)
      exact (hP378 _ _ _ _).mp hw r_u2 r_u3 (by decide) hN hF H locs ls hP hD hS (lv_sub hl [1, 3, 4, 0] rfl)
    ·
      replace hw := hw.2 c45
      refine lv_aload_n hx hb dX13_countStretch_292 rfl (lv_at hl 0 rfl) ?_
      refine gfX13_startsOne hx hb hts hK hP hown (hts _ tw_2132) dX13_countStretch_293 ?_
      refine lv_bipush (v := I 61) hx hb dX13_countStretch_296 (by decide) ?_
      refine lv_iload hx hb dX13_countStretch_298 (lv_at hl 4 rfl) ?_
      refine bi_imul hx hb dX13_countStretch_300 ?_
      refine lv_iload_n hx hb dX13_countStretch_301 rfl (lv_at hl 2 rfl) ?_
      refine bi_iadd hx hb dX13_countStretch_302 ?_
      refine lv_dup2_11 hx hb dX13_countStretch_303 rfl rfl ?_
      obtain ⟨c46, hw⟩ := hw
      refine ldMX13_startsOne hx hb hK hP hN c46 dX13_countStretch_304 (fun x47 e_x47 => ?_)
      replace hw := hw x47 e_x47
      refine lv_aload_n hx hb dX13_countStretch_305 rfl (lv_at hl 0 rfl) ?_
      refine gfX13_ways hx hb hts hK hP hown (hts _ tw_2129) dX13_countStretch_306 ?_
      refine lv_aload_n hx hb dX13_countStretch_309 rfl (lv_at hl 0 rfl) ?_
      refine lv_iload hx hb dX13_countStretch_310 (lv_at hl 4 rfl) ?_
      refine lv_iload_n hx hb dX13_countStretch_312 rfl (lv_at hl 1 rfl) ?_
      refine lv_iload_n hx hb dX13_countStretch_313 rfl (lv_at hl 2 rfl) ?_
      obtain ⟨Q48, hc, hw⟩ := hw
      refine wc_i (X := MX g q lb) (va_runV (As := [.int (I u4), .int (I u1), .int (I u2)]) (rest := [.ref (q 79), .long x47, .int (I ((61 * u4) + u2)), .ref (q 81)]) ⟨hx, hb, hml, hown, hts⟩ (L_X13_wayAt l g q lb hlb r_u4 r_u1 r_u2 hN hc H.size) (cwV 3 hts (TB_V tw_2956 tw_2958 ts_184 tw_15 co_X13_wayAt) rfl rfl rfl (by decide +kernel) ⟨Nat.le_of_ble_eq_true rfl, Nat.le_of_ble_eq_true rfl⟩) (preV (q0 := 0) (ci := 13) rfl xT_bl hP hK hNb hD rfl rfl xT_at) rfl rfl hl.1 rfl (lv_room (Nat.le_of_ble_eq_true rfl)) dX13_countStretch_314 ⟨Nat.le_of_ble_eq_true rfl, Nat.le_of_ble_eq_true rfl⟩) hP hD hS hA (fun x49 H locs r_x49 hq hP hD hS => ?_)
      replace hw := hw x49 r_x49 hq
      obtain ⟨c51, hw⟩ := hw
      refine ldMX13_ways hx hb hK hP hN c51 dX13_countStretch_317 (fun x52 r_x52 e_x52 => ?_)
      replace hw := hw x52 r_x52 e_x52
      refine bi_if_le (tgt := 327) hx hb r_x52 dX13_countStretch_318 (by decide) (fun c53 => ?_) (fun c53 => ?_)
      ·
        replace hw := hw.1 c53
        refine lv_lconst (v := 0) hx hb dX13_countStretch_327 (by decide) ?_
        exact (hP328 _ _ _ _ _ _ _ _).mp hw r_u1 r_u2 r_u3 r_u4 (rg_ix c46.1 c46.2 (by decide)) hN hF H locs ls hP hD hS (lv_sub hl [0, 1, 2, 3, 4] rfl)
      ·
        replace hw := hw.2 c53
        refine lv_lconst (v := 1) hx hb dX13_countStretch_321 (by decide) ?_
        refine lv_iload_n hx hb dX13_countStretch_322 rfl (lv_at hl 1 rfl) ?_
        refine bi_lshl hx hb dX13_countStretch_323 ?_
        refine lv_goto (tgt := 328) hx hb dX13_countStretch_324 (by decide) ?_
        exact (hP328 _ _ _ _ _ _ _ _).mp hw r_u1 r_u2 r_u3 r_u4 (rg_ix c46.1 c46.2 (by decide)) hN hF H locs ls hP hD hS (lv_sub hl [0, 1, 2, 3, 4] rfl)
  ·
    intro u1 u2 u3 u4 k1 k2 k3 τ hw
    refine (hP328 _ _ _ _ _ _ _ _).mpr ?_
    intro r_u1 r_u2 r_u3 r_u4 r_k1 hN hF H locs ls hP hD hS hl
    have hB := hN
    refine lv_lor hx hb dX13_countStretch_328 ?_
    obtain ⟨c91, hw⟩ := hw
    refine sdMX13_startsOne hx hb hK hP hD hS c91 dX13_countStretch_329 (fun H locs hP hD hS => ?_)
    have hN : n_m (s_b τ 3 k1 (k2 ||| k3)) := n_b (k := 3) (j := k1) (x := (k2 ||| k3)) hN
    have hF : f_r [] [75, 76, 92, 93] [3, 4, 5, 6] σ (s_b τ 3 k1 (k2 ||| k3)) := f_b hF (by decide)
    refine lv_aload_n hx hb dX13_countStretch_330 rfl (lv_at hl 0 rfl) ?_
    refine gfX13_startsTwo hx hb hts hK hP hown (hts _ tw_2133) dX13_countStretch_331 ?_
    refine lv_bipush (v := I 61) hx hb dX13_countStretch_334 (by decide) ?_
    refine lv_iload hx hb dX13_countStretch_336 (lv_at hl 4 rfl) ?_
    refine bi_imul hx hb dX13_countStretch_338 ?_
    refine lv_iload_n hx hb dX13_countStretch_339 rfl (lv_at hl 2 rfl) ?_
    refine bi_iadd hx hb dX13_countStretch_340 ?_
    refine lv_dup2_11 hx hb dX13_countStretch_341 rfl rfl ?_
    obtain ⟨c92, hw⟩ := hw
    refine ldMX13_startsTwo hx hb hK hP hN c92 dX13_countStretch_342 (fun x93 e_x93 => ?_)
    replace hw := hw x93 e_x93
    refine lv_aload_n hx hb dX13_countStretch_343 rfl (lv_at hl 0 rfl) ?_
    refine gfX13_ways hx hb hts hK hP hown (hts _ tw_2129) dX13_countStretch_344 ?_
    refine lv_aload_n hx hb dX13_countStretch_347 rfl (lv_at hl 0 rfl) ?_
    refine lv_iload hx hb dX13_countStretch_348 (lv_at hl 4 rfl) ?_
    refine lv_iload_n hx hb dX13_countStretch_350 rfl (lv_at hl 1 rfl) ?_
    refine lv_iload_n hx hb dX13_countStretch_351 rfl (lv_at hl 2 rfl) ?_
    obtain ⟨Q94, hc, hw⟩ := hw
    refine wc_i (X := MX g q lb) (va_runV (As := [.int (I u4), .int (I u1), .int (I u2)]) (rest := [.ref (q 79), .long x93, .int (I ((61 * u4) + u2)), .ref (q 82)]) ⟨hx, hb, hml, hown, hts⟩ (L_X13_wayAt l g q lb hlb r_u4 r_u1 r_u2 hN hc H.size) (cwV 3 hts (TB_V tw_2956 tw_2958 ts_184 tw_15 co_X13_wayAt) rfl rfl rfl (by decide +kernel) ⟨Nat.le_of_ble_eq_true rfl, Nat.le_of_ble_eq_true rfl⟩) (preV (q0 := 0) (ci := 13) rfl xT_bl hP hK hNb hD rfl rfl xT_at) rfl rfl hl.1 rfl (lv_room (Nat.le_of_ble_eq_true rfl)) dX13_countStretch_352 ⟨Nat.le_of_ble_eq_true rfl, Nat.le_of_ble_eq_true rfl⟩) hP hD hS hA (fun x95 H locs r_x95 hq hP hD hS => ?_)
    replace hw := hw x95 r_x95 hq
    obtain ⟨c97, hw⟩ := hw
    refine ldMX13_ways hx hb hK hP hN c97 dX13_countStretch_355 (fun x98 r_x98 e_x98 => ?_)
    replace hw := hw x98 r_x98 e_x98
    refine lv_iconst (v := I 1) hx hb dX13_countStretch_356 rfl ?_
    refine bi_icmp_le (tgt := 366) hx hb r_x98 (by decide) dX13_countStretch_357 (by decide) (fun c99 => ?_) (fun c99 => ?_)
    ·
      replace hw := hw.1 c99
      refine lv_lconst (v := 0) hx hb dX13_countStretch_366 (by decide) ?_
      exact (hP367 _ _ _ _ _ _ _ _).mp hw r_u1 r_u2 r_u3 r_u4 (rg_ix c92.1 c92.2 (by decide)) hN hF H locs ls hP hD hS (lv_sub hl [0, 1, 2, 3, 4] rfl)
    ·
      replace hw := hw.2 c99
      refine lv_lconst (v := 1) hx hb dX13_countStretch_360 (by decide) ?_
      refine lv_iload_n hx hb dX13_countStretch_361 rfl (lv_at hl 1 rfl) ?_
      refine bi_lshl hx hb dX13_countStretch_362 ?_
      refine lv_goto (tgt := 367) hx hb dX13_countStretch_363 (by decide) ?_
      exact (hP367 _ _ _ _ _ _ _ _).mp hw r_u1 r_u2 r_u3 r_u4 (rg_ix c92.1 c92.2 (by decide)) hN hF H locs ls hP hD hS (lv_sub hl [0, 1, 2, 3, 4] rfl)
  ·
    intro u1 u2 u3 u4 k1 k2 k3 τ hw
    refine (hP367 _ _ _ _ _ _ _ _).mpr ?_
    intro r_u1 r_u2 r_u3 r_u4 r_k1 hN hF H locs ls hP hD hS hl
    have hB := hN
    refine lv_lor hx hb dX13_countStretch_367 ?_
    obtain ⟨c106, hw⟩ := hw
    refine sdMX13_startsTwo hx hb hK hP hD hS c106 dX13_countStretch_368 (fun H locs hP hD hS => ?_)
    have hN : n_m (s_b τ 4 k1 (k2 ||| k3)) := n_b (k := 4) (j := k1) (x := (k2 ||| k3)) hN
    have hF : f_r [] [75, 76, 92, 93] [3, 4, 5, 6] σ (s_b τ 4 k1 (k2 ||| k3)) := f_b hF (by decide)
    refine lv_iinc (v := I (u4 + 1)) (lv' := [(4, .int (I (u4 + 1))), (0, .ref (q 0)), (1, .int (I u1)), (2, .int (I u2)), (3, .int (I u3))]) hx hb dX13_countStretch_369 hl (k := 4) rfl (I_add _ _) (by decide) rfl (fun ls hl => ?_)
    refine lv_goto (tgt := 283) hx hb dX13_countStretch_372 (by decide) ?_
    obtain ⟨c107, hw⟩ := hw
    exact (hP283 _ _ _ _ _).mp hw r_u1 r_u2 r_u3 c107 hN hF H locs ls hP hD hS (lv_sub hl [1, 2, 3, 4, 0] rfl)
  ·
    intro u2 u3 u4 τ hw
    refine (hP378 _ _ _ _).mpr ?_
    intro r_u2 r_u3 r_u4 hN hF H locs ls hP hD hS hl
    have hB := hN
    refine lv_iload hx hb dX13_countStretch_378 (lv_at hl 3 rfl) ?_
    refine lv_aload_n hx hb dX13_countStretch_380 rfl (lv_at hl 0 rfl) ?_
    refine gfX13_ruleNodes hx hb hts hK hP hown (hts _ tw_2143) (x := τ.1 47) rfl dX13_countStretch_381 ?_
    refine bi_icmp_ge (tgt := 429) hx hb r_u4 (hB.1 47) dX13_countStretch_384 (by decide) (fun c72 => ?_) (fun c72 => ?_)
    ·
      replace hw := hw.1 c72
      exact xrv hx hb hr hlk hP hK hD hS ⟨_, hN, hF, rfl, hw⟩ (Nat.le_of_ble_eq_true rfl) (Nat.le_of_ble_eq_true rfl) dX13_countStretch_429
    ·
      replace hw := hw.2 c72
      refine lv_aload_n hx hb dX13_countStretch_387 rfl (lv_at hl 0 rfl) ?_
      refine gfX13_ruleLeast hx hb hts hK hP hown (hts _ tw_2140) dX13_countStretch_388 ?_
      refine lv_iload hx hb dX13_countStretch_391 (lv_at hl 3 rfl) ?_
      obtain ⟨c73, hw⟩ := hw
      refine ldMX13_ruleLeast hx hb hK hP hN c73 dX13_countStretch_393 (fun x74 r_x74 e_x74 => ?_)
      replace hw := hw x74 r_x74 e_x74
      refine lv_iload_n hx hb dX13_countStretch_394 rfl (lv_at hl 2 rfl) ?_
      refine bi_icmp_ge (tgt := 423) hx hb r_x74 r_u3 dX13_countStretch_395 (by decide) (fun c75 => ?_) (fun c75 => ?_)
      ·
        replace hw := hw.1 c75
        refine lv_iinc (v := I (u4 + 1)) (lv' := [(4, .int (I (u4 + 1))), (0, .ref (q 0)), (2, .int (I u2)), (3, .int (I u3))]) hx hb dX13_countStretch_423 hl (k := 3) rfl (I_add _ _) (by decide) rfl (fun ls hl => ?_)
        refine lv_goto (tgt := 378) hx hb dX13_countStretch_426 (by decide) ?_
        obtain ⟨c76, hw⟩ := hw
        exact (hP378 _ _ _ _).mp hw r_u2 r_u3 c76 hN hF H locs ls hP hD hS (lv_sub hl [1, 2, 3, 0] rfl)
      ·
        replace hw := hw.2 c75
        refine lv_aload_n hx hb dX13_countStretch_398 rfl (lv_at hl 0 rfl) ?_
        refine lv_iload hx hb dX13_countStretch_399 (lv_at hl 3 rfl) ?_
        obtain ⟨Q77, hc, hw⟩ := hw
        refine wc_i (X := MX g q lb) (va_runV (As := [.int (I u4)]) (rest := []) ⟨hx, hb, hml, hown, hts⟩ (L_X13_isSortNode l g q lb hlb r_u4 hN hc H.size) (cwV 1 hts (TB_V tw_2960 tw_2962 ts_185 tw_15 co_X13_isSortNode) rfl rfl rfl (by decide +kernel) ⟨Nat.le_of_ble_eq_true rfl, Nat.le_of_ble_eq_true rfl⟩) (preV (q0 := 0) (ci := 13) rfl xT_bl hP hK hNb hD rfl rfl xT_at) rfl rfl hl.1 rfl (lv_room (Nat.le_of_ble_eq_true rfl)) dX13_countStretch_401 ⟨Nat.le_of_ble_eq_true rfl, Nat.le_of_ble_eq_true rfl⟩) hP hD hS hA (fun x78 H locs r_x78 hq hP hD hS => ?_)
        replace hw := hw x78 r_x78 hq
        refine bi_if_ne (tgt := 423) hx hb r_x78 dX13_countStretch_404 (by decide) (fun c80 => ?_) (fun c80 => ?_)
        ·
          replace hw := hw.1 c80
          refine lv_iinc (v := I (u4 + 1)) (lv' := [(4, .int (I (u4 + 1))), (0, .ref (q 0)), (2, .int (I u2)), (3, .int (I u3))]) hx hb dX13_countStretch_423 hl (k := 3) rfl (I_add _ _) (by decide) rfl (fun ls hl => ?_)
          refine lv_goto (tgt := 378) hx hb dX13_countStretch_426 (by decide) ?_
          obtain ⟨c81, hw⟩ := hw
          exact (hP378 _ _ _ _).mp hw r_u2 r_u3 c81 hN hF H locs ls hP hD hS (lv_sub hl [1, 2, 3, 0] rfl)
        ·
          replace hw := hw.2 c80
          refine lv_aload_n hx hb dX13_countStretch_407 rfl (lv_at hl 0 rfl) ?_
          refine lv_iload hx hb dX13_countStretch_408 (lv_at hl 3 rfl) ?_
          obtain ⟨Q82, hc, hw⟩ := hw
          refine wc_i (X := MX g q lb) (va_runV (As := [.int (I u4)]) (rest := []) ⟨hx, hb, hml, hown, hts⟩ (L_X13_isFirstVariable l g q lb hlb r_u4 hN hc H.size) (cwV 1 hts (TB_V tw_2968 tw_2970 ts_187 tw_15 co_X13_isFirstVariable) rfl rfl rfl (by decide +kernel) ⟨Nat.le_of_ble_eq_true rfl, Nat.le_of_ble_eq_true rfl⟩) (preV (q0 := 0) (ci := 13) rfl xT_bl hP hK hNb hD rfl rfl xT_at) rfl rfl hl.1 rfl (lv_room (Nat.le_of_ble_eq_true rfl)) dX13_countStretch_410 ⟨Nat.le_of_ble_eq_true rfl, Nat.le_of_ble_eq_true rfl⟩) hP hD hS hA (fun x83 H locs r_x83 hq hP hD hS => ?_)
          replace hw := hw x83 r_x83 hq
          refine bi_if_eq (tgt := 423) hx hb r_x83 dX13_countStretch_413 (by decide) (fun c85 => ?_) (fun c85 => ?_)
          ·
            replace hw := hw.1 c85
            refine lv_iinc (v := I (u4 + 1)) (lv' := [(4, .int (I (u4 + 1))), (0, .ref (q 0)), (2, .int (I u2)), (3, .int (I u3))]) hx hb dX13_countStretch_423 hl (k := 3) rfl (I_add _ _) (by decide) rfl (fun ls hl => ?_)
            refine lv_goto (tgt := 378) hx hb dX13_countStretch_426 (by decide) ?_
            obtain ⟨c86, hw⟩ := hw
            exact (hP378 _ _ _ _).mp hw r_u2 r_u3 c86 hN hF H locs ls hP hD hS (lv_sub hl [1, 2, 3, 0] rfl)
          ·
            replace hw := hw.2 c85
            refine lv_aload_n hx hb dX13_countStretch_416 rfl (lv_at hl 0 rfl) ?_
            refine lv_iload hx hb dX13_countStretch_417 (lv_at hl 3 rfl) ?_
            refine lv_iload_n hx hb dX13_countStretch_419 rfl (lv_at hl 1 rfl) ?_
            obtain ⟨Q87, hc, hw⟩ := hw
            refine wc_V (X := MX g q lb) (va_runV (As := [.int (I u4), .int (I u2)]) (rest := []) ⟨hx, hb, hml, hown, hts⟩ (L_X13_goTo l g q lb hlb r_u4 r_u2 hN hc H.size) (cwV 2 hts (TB_V tw_2972 tw_2974 ts_188 tw_15 co_X13_goTo) rfl rfl rfl (by decide +kernel) ⟨Nat.le_of_ble_eq_true rfl, Nat.le_of_ble_eq_true rfl⟩) (preV (q0 := 0) (ci := 13) rfl xT_bl hP hK hNb hD rfl rfl xT_at) rfl rfl hl.1 rfl (lv_room (Nat.le_of_ble_eq_true rfl)) dX13_countStretch_420 ⟨Nat.le_of_ble_eq_true rfl, Nat.le_of_ble_eq_true rfl⟩) hP hD hS hA (fun τ89 H locs hN hf hq hP hD hS => ?_)
            replace hw := hw τ89 hN hf hq
            have hF : f_r [] [75, 76, 92, 93] [3, 4, 5, 6] σ τ89 := f_t hF hf (by decide) (by decide) (by decide)
            have hB := hN
            refine lv_iinc (v := I (u4 + 1)) (lv' := [(4, .int (I (u4 + 1))), (0, .ref (q 0)), (2, .int (I u2)), (3, .int (I u3))]) hx hb dX13_countStretch_423 hl (k := 3) rfl (I_add _ _) (by decide) rfl (fun ls hl => ?_)
            refine lv_goto (tgt := 378) hx hb dX13_countStretch_426 (by decide) ?_
            obtain ⟨c90, hw⟩ := hw
            exact (hP378 _ _ _ _).mp hw r_u2 r_u3 c90 hN hF H locs ls hP hD hS (lv_sub hl [1, 2, 3, 0] rfl)
def W_X13_countWays (n1 : Int) (n2 : Int) (σ : S0) (Q : Int → S0 → Prop) : Prop :=
  ∀ (P18 : Int → Int → Int → S0 → Prop) (P29 : Int → Int → Int → Int → S0 → Prop) (P70 : Int → Int → Int → Int → Int → S0 → Prop) (P134 : Int → Int → Int → S0 → Prop) (P141 : Int → Int → Int → Int → S0 → Prop) (P172 : Int → Int → Int → Int → Int → Int64 → S0 → Prop) (P192 : Int → Int → Int → Int → S0 → Prop),
  (∀ (u1 : Int) (u2 : Int) (u3 : Int) (τ : S0), ((τ.1 46 ≤ u3 → rg (τ.1 45 - 1) ∧ P134 u1 u2 (τ.1 45 - 1) τ) ∧ (u3 < τ.1 46 → P29 u1 u2 u3 0 τ)) → P18 u1 u2 u3 τ) →
  (∀ (u1 : Int) (u2 : Int) (u3 : Int) (u4 : Int) (τ : S0), ((τ.1 45 < u4 → rg (u3 + 1) ∧ P18 u1 u2 (u3 + 1) τ) ∧ (u4 ≤ τ.1 45 → (0 ≤ ((61 * u3) + u4) ∧ ((61 * u3) + u4) < 6200) ∧ (rg (u4 + 1) ∧ P70 u1 u2 u3 u4 (u4 + 1) (s_b (s_b τ 3 ((61 * u3) + u4) 0) 4 ((61 * u3) + u4) 0)))) → P29 u1 u2 u3 u4 τ) →
  (∀ (u1 : Int) (u2 : Int) (u3 : Int) (u4 : Int) (u5 : Int) (τ : S0), ((τ.1 45 < u5 → rg (u4 + 1) ∧ P29 u1 u2 u3 (u4 + 1) τ) ∧ (u5 ≤ τ.1 45 → ∃ (Q27 : Int → Prop), W_X13_wayAt u3 u4 u5 τ Q27 ∧ ∀ (x28 : Int), rg x28 → Q27 x28 → ((0 ≤ x28 ∧ x28 < 372100) ∧ (∃ (Q31 : Int → Prop), W_X13_wayAt u3 u4 u5 (s_a τ 75 x28 0) Q31 ∧ ∀ (x32 : Int), rg x32 → Q31 x32 → ((0 ≤ x32 ∧ x32 < 372100) ∧ (rg (u5 + 1) ∧ P70 u1 u2 u3 u4 (u5 + 1) (s_a (s_a τ 75 x28 0) 76 x32 (-1)))))))) → P70 u1 u2 u3 u4 u5 τ) →
  (∀ (u1 : Int) (u2 : Int) (u3 : Int) (τ : S0), ((u3 < 0 → (u1 = (-1) → Q 0 τ) ∧ (¬ u1 = (-1) → (¬ τ.1 45 = 0 → ∃ (Q10 : Int → Prop), W_X13_wayAt u1 0 (τ.1 45) τ Q10 ∧ ∀ (x11 : Int), rg x11 → Q10 x11 → ((0 ≤ x11 ∧ x11 < 372100) ∧ (∀ (x14 : Int), rg x14 → x14 = τ.2.1 75 x11 → (Q x14 τ)))) ∧ (τ.1 45 = 0 → Q 0 τ))) ∧ (0 ≤ u3 → P141 u1 u2 u3 1 τ)) → P134 u1 u2 u3 τ) →
  (∀ (u1 : Int) (u2 : Int) (u3 : Int) (u4 : Int) (τ : S0), ((τ.1 47 ≤ u4 → rg (u3 + 1) ∧ P192 u1 u2 u3 (u3 + 1) τ) ∧ (u4 < τ.1 47 → ∃ (Q21 : Int → Prop), W_X13_isSortNode u4 τ Q21 ∧ ∀ (x22 : Int), rg x22 → Q21 x22 → ((x22 = 0 → P172 u1 u2 u3 u4 u4 0 τ) ∧ (¬ x22 = 0 → P172 u1 u2 u3 u4 u4 (j_shl 1 u3) τ)))) → P141 u1 u2 u3 u4 τ) →
  (∀ (u1 : Int) (u2 : Int) (u3 : Int) (u4 : Int) (k1 : Int) (k2 : Int64) (τ : S0), ((0 ≤ k1 ∧ k1 < 30002) ∧ ((0 ≤ u4 ∧ u4 < 30002) ∧ (rg (u4 + 1) ∧ P141 u1 u2 u3 (u4 + 1) (s_b (s_b τ 5 k1 k2) 6 u4 0)))) → P172 u1 u2 u3 u4 k1 k2 τ) →
  (∀ (u1 : Int) (u2 : Int) (u3 : Int) (u4 : Int) (τ : S0), ((τ.1 45 < u4 → rg (u3 + (-1)) ∧ P134 u1 u2 (u3 + (-1)) τ) ∧ (u4 ≤ τ.1 45 → ∃ (Q38 : S0 → Prop), W_X13_countStretch u3 u4 u2 τ Q38 ∧ ∀ (τ40 : S0), n_m τ40 → f_r [] [75, 76, 92, 93] [3, 4, 5, 6] τ τ40 → Q38 τ40 → (rg (u4 + 1) ∧ P192 u1 u2 u3 (u4 + 1) τ40))) → P192 u1 u2 u3 u4 τ) →
  (¬ σ.1 49 = 0 → P18 n1 n2 0 (s_v σ 50 n2)) ∧ (σ.1 49 = 0 → ∃ (Q2 : S0 → Prop), W_X13_treeRules (s_v σ 50 n2) Q2 ∧ ∀ (τ4 : S0), n_m τ4 → f_r [47, 48, 49] [77, 78, 79, 80, 81, 82, 83, 84] [] (s_v σ 50 n2) τ4 → Q2 τ4 → (P18 n1 n2 0 τ4))
set_option maxRecDepth 100000 in
set_option maxHeartbeats 4000000 in
theorem L_X13_countWays (l : Launch) (g : gG) (q : Nat → Nat) (lb : Nat) (hlb : lb < 2 ^ 31) {n1 : Int} {n2 : Int} {σ : S0} {Q : Int → S0 → Prop} (r_n1 : rg n1) (r_n2 : rg n2) (hN : n_m σ) (hw : W_X13_countWays n1 n2 σ Q) (sz : Nat) : MetI l yX13_countWays cX13_countWays 6 (some .int) { frames := 4, cells := 0, slots := 0, locals := 92 } g [.ref (q 0), .int (I n1), .int (I n2)] (MX g q lb σ) sz xT (p_I (MX g q lb) [47, 48, 49, 50] [75, 76, 77, 78, 79, 80, 81, 82, 83, 84, 92, 93] [3, 4, 5, 6] σ Q) 0 0 := by
  refine mkMet (Qc := fun A => QI g A (p_I (MX g q lb) [47, 48, 49, 50] [75, 76, 77, 78, 79, 80, 81, 82, 83, 84, 92, 93] [3, 4, 5, 6] σ Q)) (by decide) (Nat.le_of_ble_eq_true rfl) ?_
  intro p e s m below meth c A H ls hx hb hr hml hown hts hlk hnm hsz hP hK hNb hD hA hAe hS hX hl
  have hl : lv_has ls 6 [(0, .ref (q 0)), (1, .int (I n1)), (2, .int (I n2))] := hl
  have hB := hN
  have hF : f_r [47, 48, 49, 50] [75, 76, 77, 78, 79, 80, 81, 82, 83, 84, 92, 93] [3, 4, 5, 6] σ σ := f_0
  obtain ⟨locs, hlocs⟩ : ∃ z : List Loc, z = [] := ⟨_, rfl⟩
  rw [← hlocs] at hS ⊢
  obtain ⟨P18, hP18⟩ : ∃ P : Int → Int → Int → S0 → Prop, ∀ (u1 : Int) (u2 : Int) (u3 : Int) (τ : S0), (P u1 u2 u3 τ ↔ (rg u1 → rg u2 → rg u3 → n_m τ → f_r [47, 48, 49, 50] [75, 76, 77, 78, 79, 80, 81, 82, 83, 84, 92, 93] [3, 4, 5, 6] σ τ → ∀ (H : Heap) (locs : List Loc) (ls : Array Slot), KP g (MX g q lb τ) H → va_D A (MX g q lb τ) → va_S A s.heap H locs → lv_has ls 6 [(0, .ref (q 0)), (1, .int (I u1)), (2, .int (I u2)), (3, .int (I u3))] → W p l e ({ frames := 4, cells := 0, slots := 0, locals := 92 }) s m [.ref (q 0), .int (I n1), .int (I n2)].toArray below meth c H locs 0 0 (MQ below (QI g A (p_I (MX g q lb) [47, 48, 49, 50] [75, 76, 77, 78, 79, 80, 81, 82, 83, 84, 92, 93] [3, 4, 5, 6] σ Q)) [.ref (q 0), .int (I n1), .int (I n2)].toArray s 0 0 A) (F0 m 18 ls []))) := ⟨_, fun _ _ _ _ => Iff.rfl⟩
  obtain ⟨P29, hP29⟩ : ∃ P : Int → Int → Int → Int → S0 → Prop, ∀ (u1 : Int) (u2 : Int) (u3 : Int) (u4 : Int) (τ : S0), (P u1 u2 u3 u4 τ ↔ (rg u1 → rg u2 → rg u3 → rg u4 → n_m τ → f_r [47, 48, 49, 50] [75, 76, 77, 78, 79, 80, 81, 82, 83, 84, 92, 93] [3, 4, 5, 6] σ τ → ∀ (H : Heap) (locs : List Loc) (ls : Array Slot), KP g (MX g q lb τ) H → va_D A (MX g q lb τ) → va_S A s.heap H locs → lv_has ls 6 [(0, .ref (q 0)), (1, .int (I u1)), (2, .int (I u2)), (3, .int (I u3)), (4, .int (I u4))] → W p l e ({ frames := 4, cells := 0, slots := 0, locals := 92 }) s m [.ref (q 0), .int (I n1), .int (I n2)].toArray below meth c H locs 0 0 (MQ below (QI g A (p_I (MX g q lb) [47, 48, 49, 50] [75, 76, 77, 78, 79, 80, 81, 82, 83, 84, 92, 93] [3, 4, 5, 6] σ Q)) [.ref (q 0), .int (I n1), .int (I n2)].toArray s 0 0 A) (F0 m 29 ls []))) := ⟨_, fun _ _ _ _ _ => Iff.rfl⟩
  obtain ⟨P70, hP70⟩ : ∃ P : Int → Int → Int → Int → Int → S0 → Prop, ∀ (u1 : Int) (u2 : Int) (u3 : Int) (u4 : Int) (u5 : Int) (τ : S0), (P u1 u2 u3 u4 u5 τ ↔ (rg u1 → rg u2 → rg u3 → rg u4 → rg u5 → n_m τ → f_r [47, 48, 49, 50] [75, 76, 77, 78, 79, 80, 81, 82, 83, 84, 92, 93] [3, 4, 5, 6] σ τ → ∀ (H : Heap) (locs : List Loc) (ls : Array Slot), KP g (MX g q lb τ) H → va_D A (MX g q lb τ) → va_S A s.heap H locs → lv_has ls 6 [(0, .ref (q 0)), (1, .int (I u1)), (2, .int (I u2)), (3, .int (I u3)), (4, .int (I u4)), (5, .int (I u5))] → W p l e ({ frames := 4, cells := 0, slots := 0, locals := 92 }) s m [.ref (q 0), .int (I n1), .int (I n2)].toArray below meth c H locs 0 0 (MQ below (QI g A (p_I (MX g q lb) [47, 48, 49, 50] [75, 76, 77, 78, 79, 80, 81, 82, 83, 84, 92, 93] [3, 4, 5, 6] σ Q)) [.ref (q 0), .int (I n1), .int (I n2)].toArray s 0 0 A) (F0 m 70 ls []))) := ⟨_, fun _ _ _ _ _ _ => Iff.rfl⟩
  obtain ⟨P134, hP134⟩ : ∃ P : Int → Int → Int → S0 → Prop, ∀ (u1 : Int) (u2 : Int) (u3 : Int) (τ : S0), (P u1 u2 u3 τ ↔ (rg u1 → rg u2 → rg u3 → n_m τ → f_r [47, 48, 49, 50] [75, 76, 77, 78, 79, 80, 81, 82, 83, 84, 92, 93] [3, 4, 5, 6] σ τ → ∀ (H : Heap) (locs : List Loc) (ls : Array Slot), KP g (MX g q lb τ) H → va_D A (MX g q lb τ) → va_S A s.heap H locs → lv_has ls 6 [(0, .ref (q 0)), (1, .int (I u1)), (2, .int (I u2)), (3, .int (I u3))] → W p l e ({ frames := 4, cells := 0, slots := 0, locals := 92 }) s m [.ref (q 0), .int (I n1), .int (I n2)].toArray below meth c H locs 0 0 (MQ below (QI g A (p_I (MX g q lb) [47, 48, 49, 50] [75, 76, 77, 78, 79, 80, 81, 82, 83, 84, 92, 93] [3, 4, 5, 6] σ Q)) [.ref (q 0), .int (I n1), .int (I n2)].toArray s 0 0 A) (F0 m 134 ls []))) := ⟨_, fun _ _ _ _ => Iff.rfl⟩
  obtain ⟨P141, hP141⟩ : ∃ P : Int → Int → Int → Int → S0 → Prop, ∀ (u1 : Int) (u2 : Int) (u3 : Int) (u4 : Int) (τ : S0), (P u1 u2 u3 u4 τ ↔ (rg u1 → rg u2 → rg u3 → rg u4 → n_m τ → f_r [47, 48, 49, 50] [75, 76, 77, 78, 79, 80, 81, 82, 83, 84, 92, 93] [3, 4, 5, 6] σ τ → ∀ (H : Heap) (locs : List Loc) (ls : Array Slot), KP g (MX g q lb τ) H → va_D A (MX g q lb τ) → va_S A s.heap H locs → lv_has ls 6 [(0, .ref (q 0)), (1, .int (I u1)), (2, .int (I u2)), (3, .int (I u3)), (4, .int (I u4))] → W p l e ({ frames := 4, cells := 0, slots := 0, locals := 92 }) s m [.ref (q 0), .int (I n1), .int (I n2)].toArray below meth c H locs 0 0 (MQ below (QI g A (p_I (MX g q lb) [47, 48, 49, 50] [75, 76, 77, 78, 79, 80, 81, 82, 83, 84, 92, 93] [3, 4, 5, 6] σ Q)) [.ref (q 0), .int (I n1), .int (I n2)].toArray s 0 0 A) (F0 m 141 ls []))) := ⟨_, fun _ _ _ _ _ => Iff.rfl⟩
  obtain ⟨P172, hP172⟩ : ∃ P : Int → Int → Int → Int → Int → Int64 → S0 → Prop, ∀ (u1 : Int) (u2 : Int) (u3 : Int) (u4 : Int) (k1 : Int) (k2 : Int64) (τ : S0), (P u1 u2 u3 u4 k1 k2 τ ↔ (rg u1 → rg u2 → rg u3 → rg u4 → rg k1 → n_m τ → f_r [47, 48, 49, 50] [75, 76, 77, 78, 79, 80, 81, 82, 83, 84, 92, 93] [3, 4, 5, 6] σ τ → ∀ (H : Heap) (locs : List Loc) (ls : Array Slot), KP g (MX g q lb τ) H → va_D A (MX g q lb τ) → va_S A s.heap H locs → lv_has ls 6 [(0, .ref (q 0)), (1, .int (I u1)), (2, .int (I u2)), (3, .int (I u3)), (4, .int (I u4))] → W p l e ({ frames := 4, cells := 0, slots := 0, locals := 92 }) s m [.ref (q 0), .int (I n1), .int (I n2)].toArray below meth c H locs 0 0 (MQ below (QI g A (p_I (MX g q lb) [47, 48, 49, 50] [75, 76, 77, 78, 79, 80, 81, 82, 83, 84, 92, 93] [3, 4, 5, 6] σ Q)) [.ref (q 0), .int (I n1), .int (I n2)].toArray s 0 0 A) (F0 m 172 ls [.long k2, .int (I k1), .ref (q 90)]))) := ⟨_, fun _ _ _ _ _ _ _ => Iff.rfl⟩
  obtain ⟨P192, hP192⟩ : ∃ P : Int → Int → Int → Int → S0 → Prop, ∀ (u1 : Int) (u2 : Int) (u3 : Int) (u4 : Int) (τ : S0), (P u1 u2 u3 u4 τ ↔ (rg u1 → rg u2 → rg u3 → rg u4 → n_m τ → f_r [47, 48, 49, 50] [75, 76, 77, 78, 79, 80, 81, 82, 83, 84, 92, 93] [3, 4, 5, 6] σ τ → ∀ (H : Heap) (locs : List Loc) (ls : Array Slot), KP g (MX g q lb τ) H → va_D A (MX g q lb τ) → va_S A s.heap H locs → lv_has ls 6 [(0, .ref (q 0)), (1, .int (I u1)), (2, .int (I u2)), (3, .int (I u3)), (4, .int (I u4))] → W p l e ({ frames := 4, cells := 0, slots := 0, locals := 92 }) s m [.ref (q 0), .int (I n1), .int (I n2)].toArray below meth c H locs 0 0 (MQ below (QI g A (p_I (MX g q lb) [47, 48, 49, 50] [75, 76, 77, 78, 79, 80, 81, 82, 83, 84, 92, 93] [3, 4, 5, 6] σ Q)) [.ref (q 0), .int (I n1), .int (I n2)].toArray s 0 0 A) (F0 m 192 ls []))) := ⟨_, fun _ _ _ _ _ => Iff.rfl⟩
  refine (fun hw => ?_) (hw P18 P29 P70 P134 P141 P172 P192 ?_ ?_ ?_ ?_ ?_ ?_ ?_)
  ·
    refine lv_aload_n hx hb dX13_countWays_0 rfl (lv_at hl 0 rfl) ?_
    refine lv_iload_n hx hb dX13_countWays_1 rfl (lv_at hl 2 rfl) ?_
    refine pfX13_rowLimit hx hb hts hK hP hD hS hown (hts _ tw_2147) dX13_countWays_2 (fun H locs hP hD hS => ?_)
    have hN : n_m (s_v σ 50 n2) := n_v (i := 50) hN (r_n2 : rg n2)
    have hF : f_r [47, 48, 49, 50] [75, 76, 77, 78, 79, 80, 81, 82, 83, 84, 92, 93] [3, 4, 5, 6] σ (s_v σ 50 n2) := f_v hF (by decide)
    refine lv_aload_n hx hb dX13_countWays_5 rfl (lv_at hl 0 rfl) ?_
    refine gfX13_isTreed hx hb hts hK hP hown (hts _ tw_2146) (x := σ.1 49) rfl dX13_countWays_6 ?_
    refine bi_if_ne (tgt := 16) hx hb (hB.1 49) dX13_countWays_9 (by decide) (fun c1 => ?_) (fun c1 => ?_)
    ·
      replace hw := hw.1 c1
      refine lv_iconst (v := I 0) hx hb dX13_countWays_16 rfl ?_
      refine lv_istore_n (lv' := [(3, .int (I 0)), (0, .ref (q 0)), (1, .int (I n1)), (2, .int (I n2))]) hx hb dX13_countWays_17 rfl hl (by decide) rfl (fun ls hl => ?_)
      exact (hP18 _ _ _ _).mp hw r_n1 r_n2 (by decide) hN hF H locs ls hP hD hS (lv_sub hl [1, 2, 3, 0] rfl)
    ·
      replace hw := hw.2 c1
      refine lv_aload_n hx hb dX13_countWays_12 rfl (lv_at hl 0 rfl) ?_
      obtain ⟨Q2, hc, hw⟩ := hw
      refine wc_V (X := MX g q lb) (va_runV (As := []) (rest := []) ⟨hx, hb, hml, hown, hts⟩ (L_X13_treeRules l g q lb hlb  hN hc H.size) (cwV 0 hts (TB_V tw_2932 tw_2934 ts_178 tw_15 co_X13_treeRules) rfl rfl rfl (by decide +kernel) ⟨Nat.le_of_ble_eq_true rfl, Nat.le_of_ble_eq_true rfl⟩) (preV (q0 := 0) (ci := 13) rfl xT_bl hP hK hNb hD rfl rfl xT_at) rfl rfl hl.1 rfl (lv_room (Nat.le_of_ble_eq_true rfl)) dX13_countWays_13 ⟨Nat.le_of_ble_eq_true rfl, Nat.le_of_ble_eq_true rfl⟩) hP hD hS hA (fun τ4 H locs hN hf hq hP hD hS => ?_)
      replace hw := hw τ4 hN hf hq
      have hF : f_r [47, 48, 49, 50] [75, 76, 77, 78, 79, 80, 81, 82, 83, 84, 92, 93] [3, 4, 5, 6] σ τ4 := f_t hF hf (by decide) (by decide) (by decide)
      have hB := hN
      refine lv_iconst (v := I 0) hx hb dX13_countWays_16 rfl ?_
      refine lv_istore_n (lv' := [(3, .int (I 0)), (0, .ref (q 0)), (1, .int (I n1)), (2, .int (I n2))]) hx hb dX13_countWays_17 rfl hl (by decide) rfl (fun ls hl => ?_)
      exact (hP18 _ _ _ _).mp hw r_n1 r_n2 (by decide) hN hF H locs ls hP hD hS (lv_sub hl [1, 2, 3, 0] rfl)
  ·
    intro u1 u2 u3 τ hw
    refine (hP18 _ _ _ _).mpr ?_
    intro r_u1 r_u2 r_u3 hN hF H locs ls hP hD hS hl
    have hB := hN
    refine lv_iload_n hx hb dX13_countWays_18 rfl (lv_at hl 3 rfl) ?_
    refine lv_aload_n hx hb dX13_countWays_19 rfl (lv_at hl 0 rfl) ?_
    refine gfX13_sorts hx hb hts hK hP hown (hts _ tw_2130) (x := τ.1 46) rfl dX13_countWays_20 ?_
    refine bi_icmp_ge (tgt := 127) hx hb r_u3 (hB.1 46) dX13_countWays_23 (by decide) (fun c5 => ?_) (fun c5 => ?_)
    ·
      replace hw := hw.1 c5
      refine lv_aload_n hx hb dX13_countWays_127 rfl (lv_at hl 0 rfl) ?_
      refine gfX13_rowSize hx hb hts hK hP hown (hts _ tw_2126) (x := τ.1 45) rfl dX13_countWays_128 ?_
      refine lv_iconst (v := I 1) hx hb dX13_countWays_131 rfl ?_
      refine bi_isub hx hb dX13_countWays_132 ?_
      refine lv_istore_n (lv' := [(3, .int (I (τ.1 45 - 1))), (0, .ref (q 0)), (1, .int (I u1)), (2, .int (I u2))]) hx hb dX13_countWays_133 rfl hl (by decide) rfl (fun ls hl => ?_)
      obtain ⟨c6, hw⟩ := hw
      exact (hP134 _ _ _ _).mp hw r_u1 r_u2 c6 hN hF H locs ls hP hD hS (lv_sub hl [1, 2, 3, 0] rfl)
    ·
      replace hw := hw.2 c5
      refine lv_iconst (v := I 0) hx hb dX13_countWays_26 rfl ?_
      refine lv_istore (lv' := [(4, .int (I 0)), (0, .ref (q 0)), (1, .int (I u1)), (2, .int (I u2)), (3, .int (I u3))]) hx hb dX13_countWays_27 hl (by decide) rfl (fun ls hl => ?_)
      exact (hP29 _ _ _ _ _).mp hw r_u1 r_u2 r_u3 (by decide) hN hF H locs ls hP hD hS (lv_sub hl [1, 2, 3, 4, 0] rfl)
  ·
    intro u1 u2 u3 u4 τ hw
    refine (hP29 _ _ _ _ _).mpr ?_
    intro r_u1 r_u2 r_u3 r_u4 hN hF H locs ls hP hD hS hl
    have hB := hN
    refine lv_iload hx hb dX13_countWays_29 (lv_at hl 4 rfl) ?_
    refine lv_aload_n hx hb dX13_countWays_31 rfl (lv_at hl 0 rfl) ?_
    refine gfX13_rowSize hx hb hts hK hP hown (hts _ tw_2126) (x := τ.1 45) rfl dX13_countWays_32 ?_
    refine bi_icmp_gt (tgt := 121) hx hb r_u4 (hB.1 45) dX13_countWays_35 (by decide) (fun c15 => ?_) (fun c15 => ?_)
    ·
      replace hw := hw.1 c15
      refine lv_iinc (v := I (u3 + 1)) (lv' := [(3, .int (I (u3 + 1))), (0, .ref (q 0)), (1, .int (I u1)), (2, .int (I u2)), (4, .int (I u4))]) hx hb dX13_countWays_121 hl (k := 3) rfl (I_add _ _) (by decide) rfl (fun ls hl => ?_)
      refine lv_goto (tgt := 18) hx hb dX13_countWays_124 (by decide) ?_
      obtain ⟨c16, hw⟩ := hw
      exact (hP18 _ _ _ _).mp hw r_u1 r_u2 c16 hN hF H locs ls hP hD hS (lv_sub hl [1, 2, 3, 0] rfl)
    ·
      replace hw := hw.2 c15
      refine lv_aload_n hx hb dX13_countWays_38 rfl (lv_at hl 0 rfl) ?_
      refine gfX13_startsOne hx hb hts hK hP hown (hts _ tw_2132) dX13_countWays_39 ?_
      refine lv_bipush (v := I 61) hx hb dX13_countWays_42 (by decide) ?_
      refine lv_iload_n hx hb dX13_countWays_44 rfl (lv_at hl 3 rfl) ?_
      refine bi_imul hx hb dX13_countWays_45 ?_
      refine lv_iload hx hb dX13_countWays_46 (lv_at hl 4 rfl) ?_
      refine bi_iadd hx hb dX13_countWays_48 ?_
      refine lv_lconst (v := 0) hx hb dX13_countWays_49 (by decide) ?_
      obtain ⟨c17, hw⟩ := hw
      refine sdMX13_startsOne hx hb hK hP hD hS c17 dX13_countWays_50 (fun H locs hP hD hS => ?_)
      have hN : n_m (s_b τ 3 ((61 * u3) + u4) 0) := n_b (k := 3) (j := ((61 * u3) + u4)) (x := 0) hN
      have hF : f_r [47, 48, 49, 50] [75, 76, 77, 78, 79, 80, 81, 82, 83, 84, 92, 93] [3, 4, 5, 6] σ (s_b τ 3 ((61 * u3) + u4) 0) := f_b hF (by decide)
      refine lv_aload_n hx hb dX13_countWays_51 rfl (lv_at hl 0 rfl) ?_
      refine gfX13_startsTwo hx hb hts hK hP hown (hts _ tw_2133) dX13_countWays_52 ?_
      refine lv_bipush (v := I 61) hx hb dX13_countWays_55 (by decide) ?_
      refine lv_iload_n hx hb dX13_countWays_57 rfl (lv_at hl 3 rfl) ?_
      refine bi_imul hx hb dX13_countWays_58 ?_
      refine lv_iload hx hb dX13_countWays_59 (lv_at hl 4 rfl) ?_
      refine bi_iadd hx hb dX13_countWays_61 ?_
      refine lv_lconst (v := 0) hx hb dX13_countWays_62 (by decide) ?_
      refine sdMX13_startsTwo hx hb hK hP hD hS c17 dX13_countWays_63 (fun H locs hP hD hS => ?_)
      have hN : n_m (s_b (s_b τ 3 ((61 * u3) + u4) 0) 4 ((61 * u3) + u4) 0) := n_b (k := 4) (j := ((61 * u3) + u4)) (x := 0) hN
      have hF : f_r [47, 48, 49, 50] [75, 76, 77, 78, 79, 80, 81, 82, 83, 84, 92, 93] [3, 4, 5, 6] σ (s_b (s_b τ 3 ((61 * u3) + u4) 0) 4 ((61 * u3) + u4) 0) := f_b hF (by decide)
      refine lv_iload hx hb dX13_countWays_64 (lv_at hl 4 rfl) ?_
      refine lv_iconst (v := I 1) hx hb dX13_countWays_66 rfl ?_
      refine bi_iadd hx hb dX13_countWays_67 ?_
      refine lv_istore (lv' := [(5, .int (I (u4 + 1))), (0, .ref (q 0)), (1, .int (I u1)), (2, .int (I u2)), (3, .int (I u3)), (4, .int (I u4))]) hx hb dX13_countWays_68 hl (by decide) rfl (fun ls hl => ?_)
      obtain ⟨c18, hw⟩ := hw
      exact (hP70 _ _ _ _ _ _).mp hw r_u1 r_u2 r_u3 r_u4 c18 hN hF H locs ls hP hD hS (lv_sub hl [1, 2, 3, 4, 5, 0] rfl)
  ·
    intro u1 u2 u3 u4 u5 τ hw
    refine (hP70 _ _ _ _ _ _).mpr ?_
    intro r_u1 r_u2 r_u3 r_u4 r_u5 hN hF H locs ls hP hD hS hl
    have hB := hN
    refine lv_iload hx hb dX13_countWays_70 (lv_at hl 5 rfl) ?_
    refine lv_aload_n hx hb dX13_countWays_72 rfl (lv_at hl 0 rfl) ?_
    refine gfX13_rowSize hx hb hts hK hP hown (hts _ tw_2126) (x := τ.1 45) rfl dX13_countWays_73 ?_
    refine bi_icmp_gt (tgt := 115) hx hb r_u5 (hB.1 45) dX13_countWays_76 (by decide) (fun c25 => ?_) (fun c25 => ?_)
    ·
      replace hw := hw.1 c25
      refine lv_iinc (v := I (u4 + 1)) (lv' := [(4, .int (I (u4 + 1))), (0, .ref (q 0)), (1, .int (I u1)), (2, .int (I u2)), (3, .int (I u3)), (5, .int (I u5))]) hx hb dX13_countWays_115 hl (k := 4) rfl (I_add _ _) (by decide) rfl (fun ls hl => ?_)
      refine lv_goto (tgt := 29) hx hb dX13_countWays_118 (by decide) ?_
      obtain ⟨c26, hw⟩ := hw
      exact (hP29 _ _ _ _ _).mp hw r_u1 r_u2 r_u3 c26 hN hF H locs ls hP hD hS (lv_sub hl [1, 2, 3, 4, 0] rfl)
    ·
      replace hw := hw.2 c25
      refine lv_aload_n hx hb dX13_countWays_79 rfl (lv_at hl 0 rfl) ?_
      refine gfX13_ways hx hb hts hK hP hown (hts _ tw_2129) dX13_countWays_80 ?_
      refine lv_aload_n hx hb dX13_countWays_83 rfl (lv_at hl 0 rfl) ?_
      refine lv_iload_n hx hb dX13_countWays_84 rfl (lv_at hl 3 rfl) ?_
      refine lv_iload hx hb dX13_countWays_85 (lv_at hl 4 rfl) ?_
      refine lv_iload hx hb dX13_countWays_87 (lv_at hl 5 rfl) ?_
      obtain ⟨Q27, hc, hw⟩ := hw
      refine wc_i (X := MX g q lb) (va_runV (As := [.int (I u3), .int (I u4), .int (I u5)]) (rest := [.ref (q 79)]) ⟨hx, hb, hml, hown, hts⟩ (L_X13_wayAt l g q lb hlb r_u3 r_u4 r_u5 hN hc H.size) (cwV 3 hts (TB_V tw_2956 tw_2958 ts_184 tw_15 co_X13_wayAt) rfl rfl rfl (by decide +kernel) ⟨Nat.le_of_ble_eq_true rfl, Nat.le_of_ble_eq_true rfl⟩) (preV (q0 := 0) (ci := 13) rfl xT_bl hP hK hNb hD rfl rfl xT_at) rfl rfl hl.1 rfl (lv_room (Nat.le_of_ble_eq_true rfl)) dX13_countWays_89 ⟨Nat.le_of_ble_eq_true rfl, Nat.le_of_ble_eq_true rfl⟩) hP hD hS hA (fun x28 H locs r_x28 hq hP hD hS => ?_)
      replace hw := hw x28 r_x28 hq
      refine lv_iconst (v := I 0) hx hb dX13_countWays_92 rfl ?_
      obtain ⟨c30, hw⟩ := hw
      refine sdMX13_ways hx hb hK hP hD hS c30 dX13_countWays_93 (fun H locs hP hD hS => ?_)
      have hN : n_m (s_a τ 75 x28 0) := n_a (k := 75) (j := x28) hN ((by decide) : rg 0)
      have hF : f_r [47, 48, 49, 50] [75, 76, 77, 78, 79, 80, 81, 82, 83, 84, 92, 93] [3, 4, 5, 6] σ (s_a τ 75 x28 0) := f_a hF (by decide)
      refine lv_aload_n hx hb dX13_countWays_94 rfl (lv_at hl 0 rfl) ?_
      refine gfX13_madeBy hx hb hts hK hP hown (hts _ tw_2131) dX13_countWays_95 ?_
      refine lv_aload_n hx hb dX13_countWays_98 rfl (lv_at hl 0 rfl) ?_
      refine lv_iload_n hx hb dX13_countWays_99 rfl (lv_at hl 3 rfl) ?_
      refine lv_iload hx hb dX13_countWays_100 (lv_at hl 4 rfl) ?_
      refine lv_iload hx hb dX13_countWays_102 (lv_at hl 5 rfl) ?_
      obtain ⟨Q31, hc, hw⟩ := hw
      refine wc_i (X := MX g q lb) (va_runV (As := [.int (I u3), .int (I u4), .int (I u5)]) (rest := [.ref (q 80)]) ⟨hx, hb, hml, hown, hts⟩ (L_X13_wayAt l g q lb hlb r_u3 r_u4 r_u5 hN hc H.size) (cwV 3 hts (TB_V tw_2956 tw_2958 ts_184 tw_15 co_X13_wayAt) rfl rfl rfl (by decide +kernel) ⟨Nat.le_of_ble_eq_true rfl, Nat.le_of_ble_eq_true rfl⟩) (preV (q0 := 0) (ci := 13) rfl xT_bl hP hK hNb hD rfl rfl xT_at) rfl rfl hl.1 rfl (lv_room (Nat.le_of_ble_eq_true rfl)) dX13_countWays_104 ⟨Nat.le_of_ble_eq_true rfl, Nat.le_of_ble_eq_true rfl⟩) hP hD hS hA (fun x32 H locs r_x32 hq hP hD hS => ?_)
      replace hw := hw x32 r_x32 hq
      refine lv_iconst (v := I (-1)) hx hb dX13_countWays_107 rfl ?_
      obtain ⟨c34, hw⟩ := hw
      refine sdMX13_madeBy hx hb hK hP hD hS c34 dX13_countWays_108 (fun H locs hP hD hS => ?_)
      have hN : n_m (s_a (s_a τ 75 x28 0) 76 x32 (-1)) := n_a (k := 76) (j := x32) hN ((by decide) : rg (-1))
      have hF : f_r [47, 48, 49, 50] [75, 76, 77, 78, 79, 80, 81, 82, 83, 84, 92, 93] [3, 4, 5, 6] σ (s_a (s_a τ 75 x28 0) 76 x32 (-1)) := f_a hF (by decide)
      refine lv_iinc (v := I (u5 + 1)) (lv' := [(5, .int (I (u5 + 1))), (0, .ref (q 0)), (1, .int (I u1)), (2, .int (I u2)), (3, .int (I u3)), (4, .int (I u4))]) hx hb dX13_countWays_109 hl (k := 5) rfl (I_add _ _) (by decide) rfl (fun ls hl => ?_)
      refine lv_goto (tgt := 70) hx hb dX13_countWays_112 (by decide) ?_
      obtain ⟨c35, hw⟩ := hw
      exact (hP70 _ _ _ _ _ _).mp hw r_u1 r_u2 r_u3 r_u4 c35 hN hF H locs ls hP hD hS (lv_sub hl [1, 2, 3, 4, 5, 0] rfl)
  ·
    intro u1 u2 u3 τ hw
    refine (hP134 _ _ _ _).mpr ?_
    intro r_u1 r_u2 r_u3 hN hF H locs ls hP hD hS hl
    have hB := hN
    refine lv_iload_n hx hb dX13_countWays_134 rfl (lv_at hl 3 rfl) ?_
    refine bi_if_lt (tgt := 221) hx hb r_u3 dX13_countWays_135 (by decide) (fun c7 => ?_) (fun c7 => ?_)
    ·
      replace hw := hw.1 c7
      refine lv_iload_n hx hb dX13_countWays_221 rfl (lv_at hl 1 rfl) ?_
      refine lv_iconst (v := I (-1)) hx hb dX13_countWays_222 rfl ?_
      refine bi_icmp_eq (tgt := 233) hx hb r_u1 (by decide) dX13_countWays_223 (by decide) (fun c8 => ?_) (fun c8 => ?_)
      ·
        replace hw := hw.1 c8
        refine lv_iconst (v := I 0) hx hb dX13_countWays_233 rfl ?_
        refine lv_goto (tgt := 252) hx hb dX13_countWays_234 (by decide) ?_
        exact xri hx hb hr hlk hP hK hD hS ⟨_, _, (by decide), rfl, hN, hF, rfl, hw⟩ (Nat.le_of_ble_eq_true rfl) (Nat.le_of_ble_eq_true rfl) dX13_countWays_252
      ·
        replace hw := hw.2 c8
        refine lv_aload_n hx hb dX13_countWays_226 rfl (lv_at hl 0 rfl) ?_
        refine gfX13_rowSize hx hb hts hK hP hown (hts _ tw_2126) (x := τ.1 45) rfl dX13_countWays_227 ?_
        refine bi_if_ne (tgt := 237) hx hb (hB.1 45) dX13_countWays_230 (by decide) (fun c9 => ?_) (fun c9 => ?_)
        ·
          replace hw := hw.1 c9
          refine lv_aload_n hx hb dX13_countWays_237 rfl (lv_at hl 0 rfl) ?_
          refine gfX13_ways hx hb hts hK hP hown (hts _ tw_2129) dX13_countWays_238 ?_
          refine lv_aload_n hx hb dX13_countWays_241 rfl (lv_at hl 0 rfl) ?_
          refine lv_iload_n hx hb dX13_countWays_242 rfl (lv_at hl 1 rfl) ?_
          refine lv_iconst (v := I 0) hx hb dX13_countWays_243 rfl ?_
          refine lv_aload_n hx hb dX13_countWays_244 rfl (lv_at hl 0 rfl) ?_
          refine gfX13_rowSize hx hb hts hK hP hown (hts _ tw_2126) (x := τ.1 45) rfl dX13_countWays_245 ?_
          obtain ⟨Q10, hc, hw⟩ := hw
          refine wc_i (X := MX g q lb) (va_runV (As := [.int (I u1), .int (I 0), .int (I (τ.1 45))]) (rest := [.ref (q 79)]) ⟨hx, hb, hml, hown, hts⟩ (L_X13_wayAt l g q lb hlb r_u1 (by decide) (hB.1 45) hN hc H.size) (cwV 3 hts (TB_V tw_2956 tw_2958 ts_184 tw_15 co_X13_wayAt) rfl rfl rfl (by decide +kernel) ⟨Nat.le_of_ble_eq_true rfl, Nat.le_of_ble_eq_true rfl⟩) (preV (q0 := 0) (ci := 13) rfl xT_bl hP hK hNb hD rfl rfl xT_at) rfl rfl hl.1 rfl (lv_room (Nat.le_of_ble_eq_true rfl)) dX13_countWays_248 ⟨Nat.le_of_ble_eq_true rfl, Nat.le_of_ble_eq_true rfl⟩) hP hD hS hA (fun x11 H locs r_x11 hq hP hD hS => ?_)
          replace hw := hw x11 r_x11 hq
          obtain ⟨c13, hw⟩ := hw
          refine ldMX13_ways hx hb hK hP hN c13 dX13_countWays_251 (fun x14 r_x14 e_x14 => ?_)
          replace hw := hw x14 r_x14 e_x14
          exact xri hx hb hr hlk hP hK hD hS ⟨_, _, r_x14, rfl, hN, hF, rfl, hw⟩ (Nat.le_of_ble_eq_true rfl) (Nat.le_of_ble_eq_true rfl) dX13_countWays_252
        ·
          replace hw := hw.2 c9
          refine lv_iconst (v := I 0) hx hb dX13_countWays_233 rfl ?_
          refine lv_goto (tgt := 252) hx hb dX13_countWays_234 (by decide) ?_
          exact xri hx hb hr hlk hP hK hD hS ⟨_, _, (by decide), rfl, hN, hF, rfl, hw⟩ (Nat.le_of_ble_eq_true rfl) (Nat.le_of_ble_eq_true rfl) dX13_countWays_252
    ·
      replace hw := hw.2 c7
      refine lv_iconst (v := I 1) hx hb dX13_countWays_138 rfl ?_
      refine lv_istore (lv' := [(4, .int (I 1)), (0, .ref (q 0)), (1, .int (I u1)), (2, .int (I u2)), (3, .int (I u3))]) hx hb dX13_countWays_139 hl (by decide) rfl (fun ls hl => ?_)
      exact (hP141 _ _ _ _ _).mp hw r_u1 r_u2 r_u3 (by decide) hN hF H locs ls hP hD hS (lv_sub hl [1, 2, 3, 4, 0] rfl)
  ·
    intro u1 u2 u3 u4 τ hw
    refine (hP141 _ _ _ _ _).mpr ?_
    intro r_u1 r_u2 r_u3 r_u4 hN hF H locs ls hP hD hS hl
    have hB := hN
    refine lv_iload hx hb dX13_countWays_141 (lv_at hl 4 rfl) ?_
    refine lv_aload_n hx hb dX13_countWays_143 rfl (lv_at hl 0 rfl) ?_
    refine gfX13_ruleNodes hx hb hts hK hP hown (hts _ tw_2143) (x := τ.1 47) rfl dX13_countWays_144 ?_
    refine bi_icmp_ge (tgt := 187) hx hb r_u4 (hB.1 47) dX13_countWays_147 (by decide) (fun c19 => ?_) (fun c19 => ?_)
    ·
      replace hw := hw.1 c19
      refine lv_iload_n hx hb dX13_countWays_187 rfl (lv_at hl 3 rfl) ?_
      refine lv_iconst (v := I 1) hx hb dX13_countWays_188 rfl ?_
      refine bi_iadd hx hb dX13_countWays_189 ?_
      refine lv_istore (lv' := [(4, .int (I (u3 + 1))), (0, .ref (q 0)), (1, .int (I u1)), (2, .int (I u2)), (3, .int (I u3))]) hx hb dX13_countWays_190 hl (by decide) rfl (fun ls hl => ?_)
      obtain ⟨c20, hw⟩ := hw
      exact (hP192 _ _ _ _ _).mp hw r_u1 r_u2 r_u3 c20 hN hF H locs ls hP hD hS (lv_sub hl [1, 2, 3, 4, 0] rfl)
    ·
      replace hw := hw.2 c19
      refine lv_aload_n hx hb dX13_countWays_150 rfl (lv_at hl 0 rfl) ?_
      refine gfX13_frontOne hx hb hts hK hP hown (hts _ tw_2141) dX13_countWays_151 ?_
      refine lv_iload hx hb dX13_countWays_154 (lv_at hl 4 rfl) ?_
      refine lv_aload_n hx hb dX13_countWays_156 rfl (lv_at hl 0 rfl) ?_
      refine lv_iload hx hb dX13_countWays_157 (lv_at hl 4 rfl) ?_
      obtain ⟨Q21, hc, hw⟩ := hw
      refine wc_i (X := MX g q lb) (va_runV (As := [.int (I u4)]) (rest := [.int (I u4), .ref (q 90)]) ⟨hx, hb, hml, hown, hts⟩ (L_X13_isSortNode l g q lb hlb r_u4 hN hc H.size) (cwV 1 hts (TB_V tw_2960 tw_2962 ts_185 tw_15 co_X13_isSortNode) rfl rfl rfl (by decide +kernel) ⟨Nat.le_of_ble_eq_true rfl, Nat.le_of_ble_eq_true rfl⟩) (preV (q0 := 0) (ci := 13) rfl xT_bl hP hK hNb hD rfl rfl xT_at) rfl rfl hl.1 rfl (lv_room (Nat.le_of_ble_eq_true rfl)) dX13_countWays_159 ⟨Nat.le_of_ble_eq_true rfl, Nat.le_of_ble_eq_true rfl⟩) hP hD hS hA (fun x22 H locs r_x22 hq hP hD hS => ?_)
      replace hw := hw x22 r_x22 hq
      refine bi_if_eq (tgt := 171) hx hb r_x22 dX13_countWays_162 (by decide) (fun c24 => ?_) (fun c24 => ?_)
      ·
        replace hw := hw.1 c24
        refine lv_lconst (v := 0) hx hb dX13_countWays_171 (by decide) ?_
        exact (hP172 _ _ _ _ _ _ _).mp hw r_u1 r_u2 r_u3 r_u4 r_u4 hN hF H locs ls hP hD hS (lv_sub hl [0, 1, 2, 3, 4] rfl)
      ·
        replace hw := hw.2 c24
        refine lv_lconst (v := 1) hx hb dX13_countWays_165 (by decide) ?_
        refine lv_iload_n hx hb dX13_countWays_166 rfl (lv_at hl 3 rfl) ?_
        refine bi_lshl hx hb dX13_countWays_167 ?_
        refine lv_goto (tgt := 172) hx hb dX13_countWays_168 (by decide) ?_
        exact (hP172 _ _ _ _ _ _ _).mp hw r_u1 r_u2 r_u3 r_u4 r_u4 hN hF H locs ls hP hD hS (lv_sub hl [0, 1, 2, 3, 4] rfl)
  ·
    intro u1 u2 u3 u4 k1 k2 τ hw
    refine (hP172 _ _ _ _ _ _ _).mpr ?_
    intro r_u1 r_u2 r_u3 r_u4 r_k1 hN hF H locs ls hP hD hS hl
    have hB := hN
    obtain ⟨c42, hw⟩ := hw
    refine sdMX13_frontOne hx hb hK hP hD hS c42 dX13_countWays_172 (fun H locs hP hD hS => ?_)
    have hN : n_m (s_b τ 5 k1 k2) := n_b (k := 5) (j := k1) (x := k2) hN
    have hF : f_r [47, 48, 49, 50] [75, 76, 77, 78, 79, 80, 81, 82, 83, 84, 92, 93] [3, 4, 5, 6] σ (s_b τ 5 k1 k2) := f_b hF (by decide)
    refine lv_aload_n hx hb dX13_countWays_173 rfl (lv_at hl 0 rfl) ?_
    refine gfX13_frontTwo hx hb hts hK hP hown (hts _ tw_2142) dX13_countWays_174 ?_
    refine lv_iload hx hb dX13_countWays_177 (lv_at hl 4 rfl) ?_
    refine lv_lconst (v := 0) hx hb dX13_countWays_179 (by decide) ?_
    obtain ⟨c43, hw⟩ := hw
    refine sdMX13_frontTwo hx hb hK hP hD hS c43 dX13_countWays_180 (fun H locs hP hD hS => ?_)
    have hN : n_m (s_b (s_b τ 5 k1 k2) 6 u4 0) := n_b (k := 6) (j := u4) (x := 0) hN
    have hF : f_r [47, 48, 49, 50] [75, 76, 77, 78, 79, 80, 81, 82, 83, 84, 92, 93] [3, 4, 5, 6] σ (s_b (s_b τ 5 k1 k2) 6 u4 0) := f_b hF (by decide)
    refine lv_iinc (v := I (u4 + 1)) (lv' := [(4, .int (I (u4 + 1))), (0, .ref (q 0)), (1, .int (I u1)), (2, .int (I u2)), (3, .int (I u3))]) hx hb dX13_countWays_181 hl (k := 4) rfl (I_add _ _) (by decide) rfl (fun ls hl => ?_)
    refine lv_goto (tgt := 141) hx hb dX13_countWays_184 (by decide) ?_
    obtain ⟨c44, hw⟩ := hw
    exact (hP141 _ _ _ _ _).mp hw r_u1 r_u2 r_u3 c44 hN hF H locs ls hP hD hS (lv_sub hl [1, 2, 3, 4, 0] rfl)
  ·
    intro u1 u2 u3 u4 τ hw
    refine (hP192 _ _ _ _ _).mpr ?_
    intro r_u1 r_u2 r_u3 r_u4 hN hF H locs ls hP hD hS hl
    have hB := hN
    refine lv_iload hx hb dX13_countWays_192 (lv_at hl 4 rfl) ?_
    refine lv_aload_n hx hb dX13_countWays_194 rfl (lv_at hl 0 rfl) ?_
    refine gfX13_rowSize hx hb hts hK hP hown (hts _ tw_2126) (x := τ.1 45) rfl dX13_countWays_195 ?_
    refine bi_icmp_gt (tgt := 215) hx hb r_u4 (hB.1 45) dX13_countWays_198 (by decide) (fun c36 => ?_) (fun c36 => ?_)
    ·
      replace hw := hw.1 c36
      refine lv_iinc (v := I (u3 + (-1))) (lv' := [(3, .int (I (u3 + (-1)))), (0, .ref (q 0)), (1, .int (I u1)), (2, .int (I u2)), (4, .int (I u4))]) hx hb dX13_countWays_215 hl (k := 3) rfl (I_add _ _) (by decide) rfl (fun ls hl => ?_)
      refine lv_goto (tgt := 134) hx hb dX13_countWays_218 (by decide) ?_
      obtain ⟨c37, hw⟩ := hw
      exact (hP134 _ _ _ _).mp hw r_u1 r_u2 c37 hN hF H locs ls hP hD hS (lv_sub hl [1, 2, 3, 0] rfl)
    ·
      replace hw := hw.2 c36
      refine lv_aload_n hx hb dX13_countWays_201 rfl (lv_at hl 0 rfl) ?_
      refine lv_iload_n hx hb dX13_countWays_202 rfl (lv_at hl 3 rfl) ?_
      refine lv_iload hx hb dX13_countWays_203 (lv_at hl 4 rfl) ?_
      refine lv_iload_n hx hb dX13_countWays_205 rfl (lv_at hl 2 rfl) ?_
      obtain ⟨Q38, hc, hw⟩ := hw
      refine wc_V (X := MX g q lb) (va_runV (As := [.int (I u3), .int (I u4), .int (I u2)]) (rest := []) ⟨hx, hb, hml, hown, hts⟩ (L_X13_countStretch l g q lb hlb r_u3 r_u4 r_u2 hN hc H.size) (cwV 3 hts (TB_V tw_2964 tw_2966 ts_186 tw_15 co_X13_countStretch) rfl rfl rfl (by decide +kernel) ⟨Nat.le_of_ble_eq_true rfl, Nat.le_of_ble_eq_true rfl⟩) (preV (q0 := 0) (ci := 13) rfl xT_bl hP hK hNb hD rfl rfl xT_at) rfl rfl hl.1 rfl (lv_room (Nat.le_of_ble_eq_true rfl)) dX13_countWays_206 ⟨Nat.le_of_ble_eq_true rfl, Nat.le_of_ble_eq_true rfl⟩) hP hD hS hA (fun τ40 H locs hN hf hq hP hD hS => ?_)
      replace hw := hw τ40 hN hf hq
      have hF : f_r [47, 48, 49, 50] [75, 76, 77, 78, 79, 80, 81, 82, 83, 84, 92, 93] [3, 4, 5, 6] σ τ40 := f_t hF hf (by decide) (by decide) (by decide)
      have hB := hN
      refine lv_iinc (v := I (u4 + 1)) (lv' := [(4, .int (I (u4 + 1))), (0, .ref (q 0)), (1, .int (I u1)), (2, .int (I u2)), (3, .int (I u3))]) hx hb dX13_countWays_209 hl (k := 4) rfl (I_add _ _) (by decide) rfl (fun ls hl => ?_)
      refine lv_goto (tgt := 192) hx hb dX13_countWays_212 (by decide) ?_
      obtain ⟨c41, hw⟩ := hw
      exact (hP192 _ _ _ _ _).mp hw r_u1 r_u2 r_u3 c41 hN hF H locs ls hP hD hS (lv_sub hl [1, 2, 3, 4, 0] rfl)
def W_X13_treeSort (n1 : Int) (σ : S0) (Q : Int → Prop) : Prop :=
  (0 ≤ n1 ∧ n1 < 1001) ∧ (∀ (x2 : Int), rg x2 → x2 = σ.2.1 8 n1 → ((x2 = 0 → (n1 = σ.1 11 → (σ.1 10 = (-1) → Q (-1)) ∧ (¬ σ.1 10 = (-1) → (0 ≤ σ.1 10 ∧ σ.1 10 < 1001) ∧ (∀ (x7 : Int), rg x7 → x7 = σ.2.1 8 (σ.1 10) → ((x7 = 0 → ∀ (x9 : Int), rg x9 → x9 = σ.2.1 71 (σ.1 10) → (Q x9)) ∧ (¬ x7 = 0 → Q (-1)))))) ∧ (¬ n1 = σ.1 11 → ∀ (x10 : Int), rg x10 → x10 = σ.2.1 71 n1 → (Q x10))) ∧ (¬ x2 = 0 → Q (-1))))
set_option maxRecDepth 100000 in
set_option maxHeartbeats 4000000 in
theorem L_X13_treeSort (l : Launch) (g : gG) (q : Nat → Nat) (lb : Nat) (hlb : lb < 2 ^ 31) {n1 : Int} {σ : S0} {Q : Int → Prop} (r_n1 : rg n1) (hN : n_m σ) (hw : W_X13_treeSort n1 σ Q) (sz : Nat) : MetI l yX13_treeSort cX13_treeSort 2 (some .int) { frames := 0, cells := 0, slots := 0, locals := 0 } g [.ref (q 0), .int (I n1)] (MX g q lb σ) sz xT (p_i (MX g q lb) σ Q) 0 0 := by
  refine mkMet (Qc := fun A => QI g A (p_i (MX g q lb) σ Q)) (by decide) (Nat.le_of_ble_eq_true rfl) ?_
  intro p e s m below meth c A H ls hx hb hr hml hown hts hlk hnm hsz hP hK hNb hD hA hAe hS hX hl
  have hl : lv_has ls 2 [(0, .ref (q 0)), (1, .int (I n1))] := hl
  have hB := hN
  obtain ⟨locs, hlocs⟩ : ∃ z : List Loc, z = [] := ⟨_, rfl⟩
  rw [← hlocs] at hS ⊢
  refine lv_aload_n hx hb dX13_treeSort_0 rfl (lv_at hl 0 rfl) ?_
  refine gfX13_isVariable hx hb hts hK hP hown (hts _ tw_2018) dX13_treeSort_1 ?_
  refine lv_iload_n hx hb dX13_treeSort_4 rfl (lv_at hl 1 rfl) ?_
  obtain ⟨c1, hw⟩ := hw
  refine ldMX13_isVariable hx hb hK hP hN c1 dX13_treeSort_5 (fun x2 r_x2 e_x2 => ?_)
  replace hw := hw x2 r_x2 e_x2
  refine bi_if_eq (tgt := 11) hx hb r_x2 dX13_treeSort_6 (by decide) (fun c3 => ?_) (fun c3 => ?_)
  ·
    replace hw := hw.1 c3
    refine lv_iload_n hx hb dX13_treeSort_11 rfl (lv_at hl 1 rfl) ?_
    refine lv_aload_n hx hb dX13_treeSort_12 rfl (lv_at hl 0 rfl) ?_
    refine gfX13_turnstile hx hb hts hK hP hown (hts _ tw_2048) (x := σ.1 11) rfl dX13_treeSort_13 ?_
    refine bi_icmp_eq (tgt := 28) hx hb r_n1 (hB.1 11) dX13_treeSort_16 (by decide) (fun c4 => ?_) (fun c4 => ?_)
    ·
      replace hw := hw.1 c4
      refine lv_aload_n hx hb dX13_treeSort_28 rfl (lv_at hl 0 rfl) ?_
      refine gfX13_wff hx hb hts hK hP hown (hts _ tw_2047) (x := σ.1 10) rfl dX13_treeSort_29 ?_
      refine lv_iconst (v := I (-1)) hx hb dX13_treeSort_32 rfl ?_
      refine bi_icmp_eq (tgt := 48) hx hb (hB.1 10) (by decide) dX13_treeSort_33 (by decide) (fun c5 => ?_) (fun c5 => ?_)
      ·
        replace hw := hw.1 c5
        refine lv_iconst (v := I (-1)) hx hb dX13_treeSort_48 rfl ?_
        refine lv_goto (tgt := 61) hx hb dX13_treeSort_49 (by decide) ?_
        exact xri hx hb hr hlk hP hK hD hS ⟨_, (by decide), rfl, rfl, hw⟩ (Nat.le_of_ble_eq_true rfl) (Nat.le_of_ble_eq_true rfl) dX13_treeSort_61
      ·
        replace hw := hw.2 c5
        refine lv_aload_n hx hb dX13_treeSort_36 rfl (lv_at hl 0 rfl) ?_
        refine gfX13_isVariable hx hb hts hK hP hown (hts _ tw_2018) dX13_treeSort_37 ?_
        refine lv_aload_n hx hb dX13_treeSort_40 rfl (lv_at hl 0 rfl) ?_
        refine gfX13_wff hx hb hts hK hP hown (hts _ tw_2047) (x := σ.1 10) rfl dX13_treeSort_41 ?_
        obtain ⟨c6, hw⟩ := hw
        refine ldMX13_isVariable hx hb hK hP hN c6 dX13_treeSort_44 (fun x7 r_x7 e_x7 => ?_)
        replace hw := hw x7 r_x7 e_x7
        refine bi_if_eq (tgt := 52) hx hb r_x7 dX13_treeSort_45 (by decide) (fun c8 => ?_) (fun c8 => ?_)
        ·
          replace hw := hw.1 c8
          refine lv_aload_n hx hb dX13_treeSort_52 rfl (lv_at hl 0 rfl) ?_
          refine gfX13_sortOf hx hb hts hK hP hown (hts _ tw_2124) dX13_treeSort_53 ?_
          refine lv_aload_n hx hb dX13_treeSort_56 rfl (lv_at hl 0 rfl) ?_
          refine gfX13_wff hx hb hts hK hP hown (hts _ tw_2047) (x := σ.1 10) rfl dX13_treeSort_57 ?_
          refine ldMX13_sortOf hx hb hK hP hN c6 dX13_treeSort_60 (fun x9 r_x9 e_x9 => ?_)
          replace hw := hw x9 r_x9 e_x9
          exact xri hx hb hr hlk hP hK hD hS ⟨_, r_x9, rfl, rfl, hw⟩ (Nat.le_of_ble_eq_true rfl) (Nat.le_of_ble_eq_true rfl) dX13_treeSort_61
        ·
          replace hw := hw.2 c8
          refine lv_iconst (v := I (-1)) hx hb dX13_treeSort_48 rfl ?_
          refine lv_goto (tgt := 61) hx hb dX13_treeSort_49 (by decide) ?_
          exact xri hx hb hr hlk hP hK hD hS ⟨_, (by decide), rfl, rfl, hw⟩ (Nat.le_of_ble_eq_true rfl) (Nat.le_of_ble_eq_true rfl) dX13_treeSort_61
    ·
      replace hw := hw.2 c4
      refine lv_aload_n hx hb dX13_treeSort_19 rfl (lv_at hl 0 rfl) ?_
      refine gfX13_sortOf hx hb hts hK hP hown (hts _ tw_2124) dX13_treeSort_20 ?_
      refine lv_iload_n hx hb dX13_treeSort_23 rfl (lv_at hl 1 rfl) ?_
      refine ldMX13_sortOf hx hb hK hP hN c1 dX13_treeSort_24 (fun x10 r_x10 e_x10 => ?_)
      replace hw := hw x10 r_x10 e_x10
      refine lv_goto (tgt := 61) hx hb dX13_treeSort_25 (by decide) ?_
      exact xri hx hb hr hlk hP hK hD hS ⟨_, r_x10, rfl, rfl, hw⟩ (Nat.le_of_ble_eq_true rfl) (Nat.le_of_ble_eq_true rfl) dX13_treeSort_61
  ·
    replace hw := hw.2 c3
    refine lv_iconst (v := I (-1)) hx hb dX13_treeSort_9 rfl ?_
    exact xri hx hb hr hlk hP hK hD hS ⟨_, (by decide), rfl, rfl, hw⟩ (Nat.le_of_ble_eq_true rfl) (Nat.le_of_ble_eq_true rfl) dX13_treeSort_10
def W_X13_takeStatement (n1 : Int) (σ : S0) (Q : S0 → Prop) : Prop :=
  ∀ (P18 : Int → Int → S0 → Prop) (P93 : Int → Int → Int → Int → Int → S0 → Prop),
  (∀ (u1 : Int) (u2 : Int) (τ : S0), ((τ.1 45 ≤ u2 → Q τ) ∧ (u2 < τ.1 45 → (0 ≤ u1 ∧ u1 < 1501) ∧ (∀ (x9 : Int), rg x9 → x9 = τ.2.1 14 u1 → ((0 ≤ ((x9 + 1) + u2) ∧ ((x9 + 1) + u2) < 30400) ∧ (∀ (x11 : Int), rg x11 → x11 = τ.2.1 17 ((x9 + 1) + u2) → (∀ (x12 : Int), rg x12 → x12 = τ.2.1 14 u1 → ((0 ≤ ((x12 + 1) + u2) ∧ ((x12 + 1) + u2) < 30400) ∧ (∀ (x14 : Int), rg x14 → x14 = τ.2.1 16 ((x12 + 1) + u2) → ((0 ≤ u2 ∧ u2 < 64) ∧ ((¬ x11 = (-1) → (0 ≤ x11 ∧ x11 < 1501) ∧ (∀ (x18 : Int), rg x18 → x18 = τ.2.1 14 x11 → ((0 ≤ x18 ∧ x18 < 30400) ∧ (∀ (x20 : Int), rg x20 → x20 = τ.2.1 16 x18 → ((0 ≤ x20 ∧ x20 < 1001) ∧ (∀ (x22 : Int), rg x22 → x22 = τ.2.1 71 x20 → (P93 u1 u2 x11 u2 x22 (s_a τ 72 u2 x14)))))))) ∧ (x11 = (-1) → P93 u1 u2 x11 u2 (-1) (s_a τ 72 u2 x14)))))))))))) → P18 u1 u2 τ) →
  (∀ (u1 : Int) (u2 : Int) (u3 : Int) (k1 : Int) (k2 : Int) (τ : S0), ((0 ≤ k1 ∧ k1 < 64) ∧ ((0 ≤ u2 ∧ u2 < 64) ∧ (rg (u2 + 1) ∧ P18 u1 (u2 + 1) (s_a (s_a τ 73 k1 k2) 74 u2 u3)))) → P93 u1 u2 u3 k1 k2 τ) →
  ∃ (Q1 : S0 → Prop), W_X13_findSorts σ Q1 ∧ ∀ (τ3 : S0), n_m τ3 → f_r [46] [71] [] σ τ3 → Q1 τ3 → ((0 ≤ n1 ∧ n1 < 1501) ∧ (∀ (x5 : Int), rg x5 → x5 = τ3.2.1 15 n1 → (rg (x5 - 1) ∧ P18 n1 0 (s_v τ3 45 (x5 - 1)))))
set_option maxRecDepth 100000 in
set_option maxHeartbeats 4000000 in
theorem L_X13_takeStatement (l : Launch) (g : gG) (q : Nat → Nat) (lb : Nat) (hlb : lb < 2 ^ 31) {n1 : Int} {σ : S0} {Q : S0 → Prop} (r_n1 : rg n1) (hN : n_m σ) (hw : W_X13_takeStatement n1 σ Q) (sz : Nat) : MetV l yX13_takeStatement cX13_takeStatement 4 { frames := 2, cells := 0, slots := 0, locals := 42 } g [.ref (q 0), .int (I n1)] (MX g q lb σ) sz xT (p_V (MX g q lb) [45, 46] [71, 72, 73, 74] [] σ Q) 0 0 := by
  refine mkMet (Qc := fun A => QV g A (p_V (MX g q lb) [45, 46] [71, 72, 73, 74] [] σ Q)) (by decide) (Nat.le_of_ble_eq_true rfl) ?_
  intro p e s m below meth c A H ls hx hb hr hml hown hts hlk hnm hsz hP hK hNb hD hA hAe hS hX hl
  have hl : lv_has ls 4 [(0, .ref (q 0)), (1, .int (I n1))] := hl
  have hB := hN
  have hF : f_r [45, 46] [71, 72, 73, 74] [] σ σ := f_0
  obtain ⟨locs, hlocs⟩ : ∃ z : List Loc, z = [] := ⟨_, rfl⟩
  rw [← hlocs] at hS ⊢
  obtain ⟨P18, hP18⟩ : ∃ P : Int → Int → S0 → Prop, ∀ (u1 : Int) (u2 : Int) (τ : S0), (P u1 u2 τ ↔ (rg u1 → rg u2 → n_m τ → f_r [45, 46] [71, 72, 73, 74] [] σ τ → ∀ (H : Heap) (locs : List Loc) (ls : Array Slot), KP g (MX g q lb τ) H → va_D A (MX g q lb τ) → va_S A s.heap H locs → lv_has ls 4 [(0, .ref (q 0)), (1, .int (I u1)), (2, .int (I u2))] → W p l e ({ frames := 2, cells := 0, slots := 0, locals := 42 }) s m [.ref (q 0), .int (I n1)].toArray below meth c H locs 0 0 (MQ below (QV g A (p_V (MX g q lb) [45, 46] [71, 72, 73, 74] [] σ Q)) [.ref (q 0), .int (I n1)].toArray s 0 0 A) (F0 m 18 ls []))) := ⟨_, fun _ _ _ => Iff.rfl⟩
  obtain ⟨P93, hP93⟩ : ∃ P : Int → Int → Int → Int → Int → S0 → Prop, ∀ (u1 : Int) (u2 : Int) (u3 : Int) (k1 : Int) (k2 : Int) (τ : S0), (P u1 u2 u3 k1 k2 τ ↔ (rg u1 → rg u2 → rg u3 → rg k1 → rg k2 → n_m τ → f_r [45, 46] [71, 72, 73, 74] [] σ τ → ∀ (H : Heap) (locs : List Loc) (ls : Array Slot), KP g (MX g q lb τ) H → va_D A (MX g q lb τ) → va_S A s.heap H locs → lv_has ls 4 [(0, .ref (q 0)), (1, .int (I u1)), (2, .int (I u2)), (3, .int (I u3))] → W p l e ({ frames := 2, cells := 0, slots := 0, locals := 42 }) s m [.ref (q 0), .int (I n1)].toArray below meth c H locs 0 0 (MQ below (QV g A (p_V (MX g q lb) [45, 46] [71, 72, 73, 74] [] σ Q)) [.ref (q 0), .int (I n1)].toArray s 0 0 A) (F0 m 93 ls [.int (I k2), .int (I k1), .ref (q 77)]))) := ⟨_, fun _ _ _ _ _ _ => Iff.rfl⟩
  refine (fun hw => ?_) (hw P18 P93 ?_ ?_)
  ·
    refine lv_aload_n hx hb dX13_takeStatement_0 rfl (lv_at hl 0 rfl) ?_
    obtain ⟨Q1, hc, hw⟩ := hw
    refine wc_V (X := MX g q lb) (va_runV (As := []) (rest := []) ⟨hx, hb, hml, hown, hts⟩ (L_X13_findSorts l g q lb hlb  hN hc H.size) (cwV 0 hts (TB_V tw_2916 tw_2918 ts_174 tw_15 co_X13_findSorts) rfl rfl rfl (by decide +kernel) ⟨Nat.le_of_ble_eq_true rfl, Nat.le_of_ble_eq_true rfl⟩) (preV (q0 := 0) (ci := 13) rfl xT_bl hP hK hNb hD rfl rfl xT_at) rfl rfl hl.1 rfl (lv_room (Nat.le_of_ble_eq_true rfl)) dX13_takeStatement_1 ⟨Nat.le_of_ble_eq_true rfl, Nat.le_of_ble_eq_true rfl⟩) hP hD hS hA (fun τ3 H locs hN hf hq hP hD hS => ?_)
    replace hw := hw τ3 hN hf hq
    have hF : f_r [45, 46] [71, 72, 73, 74] [] σ τ3 := f_t hF hf (by decide) (by decide) (by decide)
    have hB := hN
    refine lv_aload_n hx hb dX13_takeStatement_4 rfl (lv_at hl 0 rfl) ?_
    refine lv_aload_n hx hb dX13_takeStatement_5 rfl (lv_at hl 0 rfl) ?_
    refine gfX13_textSize hx hb hts hK hP hown (hts _ tw_2027) dX13_takeStatement_6 ?_
    refine lv_iload_n hx hb dX13_takeStatement_9 rfl (lv_at hl 1 rfl) ?_
    obtain ⟨c4, hw⟩ := hw
    refine ldMX13_textSize hx hb hK hP hN c4 dX13_takeStatement_10 (fun x5 r_x5 e_x5 => ?_)
    replace hw := hw x5 r_x5 e_x5
    refine lv_iconst (v := I 1) hx hb dX13_takeStatement_11 rfl ?_
    refine bi_isub hx hb dX13_takeStatement_12 ?_
    obtain ⟨c6, hw⟩ := hw
    refine pfX13_rowSize hx hb hts hK hP hD hS hown (hts _ tw_2126) dX13_takeStatement_13 (fun H locs hP hD hS => ?_)
    have hN : n_m (s_v τ3 45 (x5 - 1)) := n_v (i := 45) hN (c6 : rg (x5 - 1))
    have hF : f_r [45, 46] [71, 72, 73, 74] [] σ (s_v τ3 45 (x5 - 1)) := f_v hF (by decide)
    refine lv_iconst (v := I 0) hx hb dX13_takeStatement_16 rfl ?_
    refine lv_istore_n (lv' := [(2, .int (I 0)), (0, .ref (q 0)), (1, .int (I n1))]) hx hb dX13_takeStatement_17 rfl hl (by decide) rfl (fun ls hl => ?_)
    exact (hP18 _ _ _).mp hw r_n1 (by decide) hN hF H locs ls hP hD hS (lv_sub hl [1, 2, 0] rfl)
  ·
    intro u1 u2 τ hw
    refine (hP18 _ _ _).mpr ?_
    intro r_u1 r_u2 hN hF H locs ls hP hD hS hl
    have hB := hN
    refine lv_iload_n hx hb dX13_takeStatement_18 rfl (lv_at hl 2 rfl) ?_
    refine lv_aload_n hx hb dX13_takeStatement_19 rfl (lv_at hl 0 rfl) ?_
    refine gfX13_rowSize hx hb hts hK hP hown (hts _ tw_2126) (x := τ.1 45) rfl dX13_takeStatement_20 ?_
    refine bi_icmp_ge (tgt := 107) hx hb r_u2 (hB.1 45) dX13_takeStatement_23 (by decide) (fun c7 => ?_) (fun c7 => ?_)
    ·
      replace hw := hw.1 c7
      exact xrv hx hb hr hlk hP hK hD hS ⟨_, hN, hF, rfl, hw⟩ (Nat.le_of_ble_eq_true rfl) (Nat.le_of_ble_eq_true rfl) dX13_takeStatement_107
    ·
      replace hw := hw.2 c7
      refine lv_aload_n hx hb dX13_takeStatement_26 rfl (lv_at hl 0 rfl) ?_
      refine gfX13_floats hx hb hts hK hP hown (hts _ tw_2029) dX13_takeStatement_27 ?_
      refine lv_aload_n hx hb dX13_takeStatement_30 rfl (lv_at hl 0 rfl) ?_
      refine gfX13_textAt hx hb hts hK hP hown (hts _ tw_2026) dX13_takeStatement_31 ?_
      refine lv_iload_n hx hb dX13_takeStatement_34 rfl (lv_at hl 1 rfl) ?_
      obtain ⟨c8, hw⟩ := hw
      refine ldMX13_textAt hx hb hK hP hN c8 dX13_takeStatement_35 (fun x9 r_x9 e_x9 => ?_)
      replace hw := hw x9 r_x9 e_x9
      refine lv_iconst (v := I 1) hx hb dX13_takeStatement_36 rfl ?_
      refine bi_iadd hx hb dX13_takeStatement_37 ?_
      refine lv_iload_n hx hb dX13_takeStatement_38 rfl (lv_at hl 2 rfl) ?_
      refine bi_iadd hx hb dX13_takeStatement_39 ?_
      obtain ⟨c10, hw⟩ := hw
      refine ldMX13_floats hx hb hK hP hN c10 dX13_takeStatement_40 (fun x11 r_x11 e_x11 => ?_)
      replace hw := hw x11 r_x11 e_x11
      refine lv_istore_n (lv' := [(3, .int (I x11)), (0, .ref (q 0)), (1, .int (I u1)), (2, .int (I u2))]) hx hb dX13_takeStatement_41 rfl hl (by decide) rfl (fun ls hl => ?_)
      refine lv_aload_n hx hb dX13_takeStatement_42 rfl (lv_at hl 1 rfl) ?_
      refine gfX13_stretch hx hb hts hK hP hown (hts _ tw_2125) dX13_takeStatement_43 ?_
      refine lv_iload_n hx hb dX13_takeStatement_46 rfl (lv_at hl 3 rfl) ?_
      refine lv_aload_n hx hb dX13_takeStatement_47 rfl (lv_at hl 1 rfl) ?_
      refine gfX13_texts hx hb hts hK hP hown (hts _ tw_2028) dX13_takeStatement_48 ?_
      refine lv_aload_n hx hb dX13_takeStatement_51 rfl (lv_at hl 1 rfl) ?_
      refine gfX13_textAt hx hb hts hK hP hown (hts _ tw_2026) dX13_takeStatement_52 ?_
      refine lv_iload_n hx hb dX13_takeStatement_55 rfl (lv_at hl 2 rfl) ?_
      refine ldMX13_textAt hx hb hK hP hN c8 dX13_takeStatement_56 (fun x12 r_x12 e_x12 => ?_)
      replace hw := hw x12 r_x12 e_x12
      refine lv_iconst (v := I 1) hx hb dX13_takeStatement_57 rfl ?_
      refine bi_iadd hx hb dX13_takeStatement_58 ?_
      refine lv_iload_n hx hb dX13_takeStatement_59 rfl (lv_at hl 3 rfl) ?_
      refine bi_iadd hx hb dX13_takeStatement_60 ?_
      obtain ⟨c13, hw⟩ := hw
      refine ldMX13_texts hx hb hK hP hN c13 dX13_takeStatement_61 (fun x14 r_x14 e_x14 => ?_)
      replace hw := hw x14 r_x14 e_x14
      obtain ⟨c15, hw⟩ := hw
      refine sdMX13_stretch hx hb hK hP hD hS c15 dX13_takeStatement_62 (fun H locs hP hD hS => ?_)
      have hN : n_m (s_a τ 72 u2 x14) := n_a (k := 72) (j := u2) hN (r_x14 : rg x14)
      have hF : f_r [45, 46] [71, 72, 73, 74] [] σ (s_a τ 72 u2 x14) := f_a hF (by decide)
      refine lv_aload_n hx hb dX13_takeStatement_63 rfl (lv_at hl 1 rfl) ?_
      refine gfX13_leafSort hx hb hts hK hP hown (hts _ tw_2127) dX13_takeStatement_64 ?_
      refine lv_iload_n hx hb dX13_takeStatement_67 rfl (lv_at hl 3 rfl) ?_
      refine lv_iload_n hx hb dX13_takeStatement_68 rfl (lv_at hl 0 rfl) ?_
      refine lv_iconst (v := I (-1)) hx hb dX13_takeStatement_69 rfl ?_
      refine bi_icmp_ne (tgt := 77) hx hb r_x11 (by decide) dX13_takeStatement_70 (by decide) (fun c16 => ?_) (fun c16 => ?_)
      ·
        replace hw := hw.1 c16
        refine lv_aload_n hx hb dX13_takeStatement_77 rfl (lv_at hl 1 rfl) ?_
        refine gfX13_sortOf hx hb hts hK hP hown (hts _ tw_2124) dX13_takeStatement_78 ?_
        refine lv_aload_n hx hb dX13_takeStatement_81 rfl (lv_at hl 1 rfl) ?_
        refine gfX13_texts hx hb hts hK hP hown (hts _ tw_2028) dX13_takeStatement_82 ?_
        refine lv_aload_n hx hb dX13_takeStatement_85 rfl (lv_at hl 1 rfl) ?_
        refine gfX13_textAt hx hb hts hK hP hown (hts _ tw_2026) dX13_takeStatement_86 ?_
        refine lv_iload_n hx hb dX13_takeStatement_89 rfl (lv_at hl 0 rfl) ?_
        obtain ⟨c17, hw⟩ := hw
        refine ldMX13_textAt hx hb hK hP hN c17 dX13_takeStatement_90 (fun x18 r_x18 e_x18 => ?_)
        replace hw := hw x18 r_x18 e_x18
        obtain ⟨c19, hw⟩ := hw
        refine ldMX13_texts hx hb hK hP hN c19 dX13_takeStatement_91 (fun x20 r_x20 e_x20 => ?_)
        replace hw := hw x20 r_x20 e_x20
        obtain ⟨c21, hw⟩ := hw
        refine ldMX13_sortOf hx hb hK hP hN c21 dX13_takeStatement_92 (fun x22 r_x22 e_x22 => ?_)
        replace hw := hw x22 r_x22 e_x22
        exact (hP93 _ _ _ _ _ _).mp hw r_u1 r_u2 r_x11 r_u2 r_x22 hN hF H locs ls hP hD hS (lv_sub hl [1, 2, 3, 0] rfl)
      ·
        replace hw := hw.2 c16
        refine lv_iconst (v := I (-1)) hx hb dX13_takeStatement_73 rfl ?_
        refine lv_goto (tgt := 93) hx hb dX13_takeStatement_74 (by decide) ?_
        exact (hP93 _ _ _ _ _ _).mp hw r_u1 r_u2 r_x11 r_u2 (by decide) hN hF H locs ls hP hD hS (lv_sub hl [1, 2, 3, 0] rfl)
  ·
    intro u1 u2 u3 k1 k2 τ hw
    refine (hP93 _ _ _ _ _ _).mpr ?_
    intro r_u1 r_u2 r_u3 r_k1 r_k2 hN hF H locs ls hP hD hS hl
    have hB := hN
    obtain ⟨c23, hw⟩ := hw
    refine sdMX13_leafSort hx hb hK hP hD hS c23 dX13_takeStatement_93 (fun H locs hP hD hS => ?_)
    have hN : n_m (s_a τ 73 k1 k2) := n_a (k := 73) (j := k1) hN (r_k2 : rg k2)
    have hF : f_r [45, 46] [71, 72, 73, 74] [] σ (s_a τ 73 k1 k2) := f_a hF (by decide)
    refine lv_aload_n hx hb dX13_takeStatement_94 rfl (lv_at hl 0 rfl) ?_
    refine gfX13_leafIs hx hb hts hK hP hown (hts _ tw_2128) dX13_takeStatement_95 ?_
    refine lv_iload_n hx hb dX13_takeStatement_98 rfl (lv_at hl 2 rfl) ?_
    refine lv_iload_n hx hb dX13_takeStatement_99 rfl (lv_at hl 3 rfl) ?_
    obtain ⟨c24, hw⟩ := hw
    refine sdMX13_leafIs hx hb hK hP hD hS c24 dX13_takeStatement_100 (fun H locs hP hD hS => ?_)
    have hN : n_m (s_a (s_a τ 73 k1 k2) 74 u2 u3) := n_a (k := 74) (j := u2) hN (r_u3 : rg u3)
    have hF : f_r [45, 46] [71, 72, 73, 74] [] σ (s_a (s_a τ 73 k1 k2) 74 u2 u3) := f_a hF (by decide)
    refine lv_iinc (v := I (u2 + 1)) (lv' := [(2, .int (I (u2 + 1))), (0, .ref (q 0)), (1, .int (I u1)), (3, .int (I u3))]) hx hb dX13_takeStatement_101 hl (k := 2) rfl (I_add _ _) (by decide) rfl (fun ls hl => ?_)
    refine lv_goto (tgt := 18) hx hb dX13_takeStatement_104 (by decide) ?_
    obtain ⟨c25, hw⟩ := hw
    exact (hP18 _ _ _).mp hw r_u1 c25 hN hF H locs ls hP hD hS (lv_sub hl [1, 2, 0] rfl)
def W_X13_newNode (n1 : Int) (n2 : Int) (n3 : Int) (σ : S0) (Q : Int → S0 → Prop) : Prop :=
  (0 ≤ σ.1 51 ∧ σ.1 51 < 60000) ∧ (rg (σ.1 51 + 1) ∧ rg ((σ.1 51 + 1) - 1) ∧ Q ((σ.1 51 + 1) - 1) (s_v (s_a (s_a (s_a σ 90 (σ.1 51) n1) 88 (σ.1 51) n2) 89 (σ.1 51) n3) 51 (σ.1 51 + 1)))
set_option maxRecDepth 100000 in
set_option maxHeartbeats 4000000 in
theorem L_X13_newNode (l : Launch) (g : gG) (q : Nat → Nat) (lb : Nat) (hlb : lb < 2 ^ 31) {n1 : Int} {n2 : Int} {n3 : Int} {σ : S0} {Q : Int → S0 → Prop} (r_n1 : rg n1) (r_n2 : rg n2) (r_n3 : rg n3) (hN : n_m σ) (hw : W_X13_newNode n1 n2 n3 σ Q) (sz : Nat) : MetI l yX13_newNode cX13_newNode 4 (some .int) { frames := 0, cells := 0, slots := 0, locals := 0 } g [.ref (q 0), .int (I n1), .int (I n2), .int (I n3)] (MX g q lb σ) sz xT (p_I (MX g q lb) [51] [88, 89, 90] [] σ Q) 0 0 := by
  refine mkMet (Qc := fun A => QI g A (p_I (MX g q lb) [51] [88, 89, 90] [] σ Q)) (by decide) (Nat.le_of_ble_eq_true rfl) ?_
  intro p e s m below meth c A H ls hx hb hr hml hown hts hlk hnm hsz hP hK hNb hD hA hAe hS hX hl
  have hl : lv_has ls 4 [(0, .ref (q 0)), (1, .int (I n1)), (2, .int (I n2)), (3, .int (I n3))] := hl
  have hB := hN
  have hF : f_r [51] [88, 89, 90] [] σ σ := f_0
  obtain ⟨locs, hlocs⟩ : ∃ z : List Loc, z = [] := ⟨_, rfl⟩
  rw [← hlocs] at hS ⊢
  refine lv_aload_n hx hb dX13_newNode_0 rfl (lv_at hl 0 rfl) ?_
  refine gfX13_nodeSort hx hb hts hK hP hown (hts _ tw_2153) dX13_newNode_1 ?_
  refine lv_aload_n hx hb dX13_newNode_4 rfl (lv_at hl 0 rfl) ?_
  refine gfX13_nodes hx hb hts hK hP hown (hts _ tw_2155) (x := σ.1 51) rfl dX13_newNode_5 ?_
  refine lv_iload_n hx hb dX13_newNode_8 rfl (lv_at hl 1 rfl) ?_
  obtain ⟨c1, hw⟩ := hw
  refine sdMX13_nodeSort hx hb hK hP hD hS c1 dX13_newNode_9 (fun H locs hP hD hS => ?_)
  have hN : n_m (s_a σ 90 (σ.1 51) n1) := n_a (k := 90) (j := σ.1 51) hN (r_n1 : rg n1)
  have hF : f_r [51] [88, 89, 90] [] σ (s_a σ 90 (σ.1 51) n1) := f_a hF (by decide)
  refine lv_aload_n hx hb dX13_newNode_10 rfl (lv_at hl 0 rfl) ?_
  refine gfX13_nodeFrom hx hb hts hK hP hown (hts _ tw_2151) dX13_newNode_11 ?_
  refine lv_aload_n hx hb dX13_newNode_14 rfl (lv_at hl 0 rfl) ?_
  refine gfX13_nodes hx hb hts hK hP hown (hts _ tw_2155) (x := σ.1 51) rfl dX13_newNode_15 ?_
  refine lv_iload_n hx hb dX13_newNode_18 rfl (lv_at hl 2 rfl) ?_
  refine sdMX13_nodeFrom hx hb hK hP hD hS c1 dX13_newNode_19 (fun H locs hP hD hS => ?_)
  have hN : n_m (s_a (s_a σ 90 (σ.1 51) n1) 88 (σ.1 51) n2) := n_a (k := 88) (j := σ.1 51) hN (r_n2 : rg n2)
  have hF : f_r [51] [88, 89, 90] [] σ (s_a (s_a σ 90 (σ.1 51) n1) 88 (σ.1 51) n2) := f_a hF (by decide)
  refine lv_aload_n hx hb dX13_newNode_20 rfl (lv_at hl 0 rfl) ?_
  refine gfX13_nodeTo hx hb hts hK hP hown (hts _ tw_2152) dX13_newNode_21 ?_
  refine lv_aload_n hx hb dX13_newNode_24 rfl (lv_at hl 0 rfl) ?_
  refine gfX13_nodes hx hb hts hK hP hown (hts _ tw_2155) (x := σ.1 51) rfl dX13_newNode_25 ?_
  refine lv_iload_n hx hb dX13_newNode_28 rfl (lv_at hl 3 rfl) ?_
  refine sdMX13_nodeTo hx hb hK hP hD hS c1 dX13_newNode_29 (fun H locs hP hD hS => ?_)
  have hN : n_m (s_a (s_a (s_a σ 90 (σ.1 51) n1) 88 (σ.1 51) n2) 89 (σ.1 51) n3) := n_a (k := 89) (j := σ.1 51) hN (r_n3 : rg n3)
  have hF : f_r [51] [88, 89, 90] [] σ (s_a (s_a (s_a σ 90 (σ.1 51) n1) 88 (σ.1 51) n2) 89 (σ.1 51) n3) := f_a hF (by decide)
  refine lv_aload_n hx hb dX13_newNode_30 rfl (lv_at hl 0 rfl) ?_
  refine lv_dup hx hb dX13_newNode_31 rfl ?_
  refine gfX13_nodes hx hb hts hK hP hown (hts _ tw_2155) (x := σ.1 51) rfl dX13_newNode_32 ?_
  refine lv_iconst (v := I 1) hx hb dX13_newNode_35 rfl ?_
  refine bi_iadd hx hb dX13_newNode_36 ?_
  obtain ⟨c2, hw⟩ := hw
  refine pfX13_nodes hx hb hts hK hP hD hS hown (hts _ tw_2155) dX13_newNode_37 (fun H locs hP hD hS => ?_)
  have hN : n_m (s_v (s_a (s_a (s_a σ 90 (σ.1 51) n1) 88 (σ.1 51) n2) 89 (σ.1 51) n3) 51 (σ.1 51 + 1)) := n_v (i := 51) hN (c2 : rg (σ.1 51 + 1))
  have hF : f_r [51] [88, 89, 90] [] σ (s_v (s_a (s_a (s_a σ 90 (σ.1 51) n1) 88 (σ.1 51) n2) 89 (σ.1 51) n3) 51 (σ.1 51 + 1)) := f_v hF (by decide)
  refine lv_aload_n hx hb dX13_newNode_40 rfl (lv_at hl 0 rfl) ?_
  refine gfX13_nodes hx hb hts hK hP hown (hts _ tw_2155) (x := (σ.1 51 + 1)) rfl dX13_newNode_41 ?_
  refine lv_iconst (v := I 1) hx hb dX13_newNode_44 rfl ?_
  refine bi_isub hx hb dX13_newNode_45 ?_
  obtain ⟨c3, hw⟩ := hw
  exact xri hx hb hr hlk hP hK hD hS ⟨_, _, c3, rfl, hN, hF, rfl, hw⟩ (Nat.le_of_ble_eq_true rfl) (Nat.le_of_ble_eq_true rfl) dX13_newNode_46
def W_X13_hypOf (n1 : Int) (n2 : Int) (σ : S0) (Q : Int → Prop) : Prop :=
  ∀ (P2 : Int → Int → Int → Prop),
  (∀ (u1 : Int) (u2 : Int) (u3 : Int), ((0 ≤ u1 ∧ u1 < 1501) ∧ (∀ (x2 : Int), rg x2 → x2 = σ.2.1 19 u1 → ((x2 ≤ u3 → Q (-1)) ∧ (u3 < x2 → ∀ (x4 : Int), rg x4 → x4 = σ.2.1 18 u1 → ((0 ≤ (x4 + u3) ∧ (x4 + u3) < 90100) ∧ (∀ (x6 : Int), rg x6 → x6 = σ.2.1 20 (x4 + u3) → ((0 ≤ x6 ∧ x6 < 1501) ∧ (∀ (x8 : Int), rg x8 → x8 = σ.2.1 14 x6 → ((0 ≤ (x8 + 1) ∧ (x8 + 1) < 30400) ∧ (∀ (x10 : Int), rg x10 → x10 = σ.2.1 16 (x8 + 1) → ((¬ x10 = u2 → rg (u3 + 1) ∧ P2 u1 u2 (u3 + 1)) ∧ (x10 = u2 → Q u3)))))))))))) → P2 u1 u2 u3) →
  P2 n1 n2 0
set_option maxRecDepth 100000 in
set_option maxHeartbeats 4000000 in
theorem L_X13_hypOf (l : Launch) (g : gG) (q : Nat → Nat) (lb : Nat) (hlb : lb < 2 ^ 31) {n1 : Int} {n2 : Int} {σ : S0} {Q : Int → Prop} (r_n1 : rg n1) (r_n2 : rg n2) (hN : n_m σ) (hw : W_X13_hypOf n1 n2 σ Q) (sz : Nat) : MetI l yX13_hypOf cX13_hypOf 4 (some .int) { frames := 0, cells := 0, slots := 0, locals := 0 } g [.ref (q 0), .int (I n1), .int (I n2)] (MX g q lb σ) sz xT (p_i (MX g q lb) σ Q) 0 0 := by
  refine mkMet (Qc := fun A => QI g A (p_i (MX g q lb) σ Q)) (by decide) (Nat.le_of_ble_eq_true rfl) ?_
  intro p e s m below meth c A H ls hx hb hr hml hown hts hlk hnm hsz hP hK hNb hD hA hAe hS hX hl
  have hl : lv_has ls 4 [(0, .ref (q 0)), (1, .int (I n1)), (2, .int (I n2))] := hl
  have hB := hN
  obtain ⟨locs, hlocs⟩ : ∃ z : List Loc, z = [] := ⟨_, rfl⟩
  rw [← hlocs] at hS ⊢
  obtain ⟨P2, hP2⟩ : ∃ P : Int → Int → Int → Prop, ∀ (u1 : Int) (u2 : Int) (u3 : Int), (P u1 u2 u3 ↔ (rg u1 → rg u2 → rg u3 → ∀ (H : Heap) (locs : List Loc) (ls : Array Slot), KP g (MX g q lb σ) H → va_D A (MX g q lb σ) → va_S A s.heap H locs → lv_has ls 4 [(0, .ref (q 0)), (1, .int (I u1)), (2, .int (I u2)), (3, .int (I u3))] → W p l e ({ frames := 0, cells := 0, slots := 0, locals := 0 }) s m [.ref (q 0), .int (I n1), .int (I n2)].toArray below meth c H locs 0 0 (MQ below (QI g A (p_i (MX g q lb) σ Q)) [.ref (q 0), .int (I n1), .int (I n2)].toArray s 0 0 A) (F0 m 2 ls []))) := ⟨_, fun _ _ _ => Iff.rfl⟩
  refine (fun hw => ?_) (hw P2 ?_)
  ·
    refine lv_iconst (v := I 0) hx hb dX13_hypOf_0 rfl ?_
    refine lv_istore_n (lv' := [(3, .int (I 0)), (0, .ref (q 0)), (1, .int (I n1)), (2, .int (I n2))]) hx hb dX13_hypOf_1 rfl hl (by decide) rfl (fun ls hl => ?_)
    exact (hP2 _ _ _).mp hw r_n1 r_n2 (by decide)  H locs ls hP hD hS (lv_sub hl [1, 2, 3, 0] rfl)
  ·
    intro u1 u2 u3 hw
    refine (hP2 _ _ _).mpr ?_
    intro r_u1 r_u2 r_u3 H locs ls hP hD hS hl
    refine lv_iload_n hx hb dX13_hypOf_2 rfl (lv_at hl 3 rfl) ?_
    refine lv_aload_n hx hb dX13_hypOf_3 rfl (lv_at hl 0 rfl) ?_
    refine gfX13_hypSize hx hb hts hK hP hown (hts _ tw_2032) dX13_hypOf_4 ?_
    refine lv_iload_n hx hb dX13_hypOf_7 rfl (lv_at hl 1 rfl) ?_
    obtain ⟨c1, hw⟩ := hw
    refine ldMX13_hypSize hx hb hK hP hN c1 dX13_hypOf_8 (fun x2 r_x2 e_x2 => ?_)
    replace hw := hw x2 r_x2 e_x2
    refine bi_icmp_ge (tgt := 49) hx hb r_u3 r_x2 dX13_hypOf_9 (by decide) (fun c3 => ?_) (fun c3 => ?_)
    ·
      replace hw := hw.1 c3
      refine lv_iconst (v := I (-1)) hx hb dX13_hypOf_49 rfl ?_
      exact xri hx hb hr hlk hP hK hD hS ⟨_, (by decide), rfl, rfl, hw⟩ (Nat.le_of_ble_eq_true rfl) (Nat.le_of_ble_eq_true rfl) dX13_hypOf_50
    ·
      replace hw := hw.2 c3
      refine lv_aload_n hx hb dX13_hypOf_12 rfl (lv_at hl 0 rfl) ?_
      refine gfX13_texts hx hb hts hK hP hown (hts _ tw_2028) dX13_hypOf_13 ?_
      refine lv_aload_n hx hb dX13_hypOf_16 rfl (lv_at hl 0 rfl) ?_
      refine gfX13_textAt hx hb hts hK hP hown (hts _ tw_2026) dX13_hypOf_17 ?_
      refine lv_aload_n hx hb dX13_hypOf_20 rfl (lv_at hl 0 rfl) ?_
      refine gfX13_hyps hx hb hts hK hP hown (hts _ tw_2033) dX13_hypOf_21 ?_
      refine lv_aload_n hx hb dX13_hypOf_24 rfl (lv_at hl 0 rfl) ?_
      refine gfX13_hypAt hx hb hts hK hP hown (hts _ tw_2031) dX13_hypOf_25 ?_
      refine lv_iload_n hx hb dX13_hypOf_28 rfl (lv_at hl 1 rfl) ?_
      refine ldMX13_hypAt hx hb hK hP hN c1 dX13_hypOf_29 (fun x4 r_x4 e_x4 => ?_)
      replace hw := hw x4 r_x4 e_x4
      refine lv_iload_n hx hb dX13_hypOf_30 rfl (lv_at hl 3 rfl) ?_
      refine bi_iadd hx hb dX13_hypOf_31 ?_
      obtain ⟨c5, hw⟩ := hw
      refine ldMX13_hyps hx hb hK hP hN c5 dX13_hypOf_32 (fun x6 r_x6 e_x6 => ?_)
      replace hw := hw x6 r_x6 e_x6
      obtain ⟨c7, hw⟩ := hw
      refine ldMX13_textAt hx hb hK hP hN c7 dX13_hypOf_33 (fun x8 r_x8 e_x8 => ?_)
      replace hw := hw x8 r_x8 e_x8
      refine lv_iconst (v := I 1) hx hb dX13_hypOf_34 rfl ?_
      refine bi_iadd hx hb dX13_hypOf_35 ?_
      obtain ⟨c9, hw⟩ := hw
      refine ldMX13_texts hx hb hK hP hN c9 dX13_hypOf_36 (fun x10 r_x10 e_x10 => ?_)
      replace hw := hw x10 r_x10 e_x10
      refine lv_iload_n hx hb dX13_hypOf_37 rfl (lv_at hl 2 rfl) ?_
      refine bi_icmp_ne (tgt := 43) hx hb r_x10 r_u2 dX13_hypOf_38 (by decide) (fun c11 => ?_) (fun c11 => ?_)
      ·
        replace hw := hw.1 c11
        refine lv_iinc (v := I (u3 + 1)) (lv' := [(3, .int (I (u3 + 1))), (0, .ref (q 0)), (1, .int (I u1)), (2, .int (I u2))]) hx hb dX13_hypOf_43 hl (k := 3) rfl (I_add _ _) (by decide) rfl (fun ls hl => ?_)
        refine lv_goto (tgt := 2) hx hb dX13_hypOf_46 (by decide) ?_
        obtain ⟨c12, hw⟩ := hw
        exact (hP2 _ _ _).mp hw r_u1 r_u2 c12  H locs ls hP hD hS (lv_sub hl [1, 2, 3, 0] rfl)
      ·
        replace hw := hw.2 c11
        refine lv_iload_n hx hb dX13_hypOf_41 rfl (lv_at hl 3 rfl) ?_
        exact xri hx hb hr hlk hP hK hD hS ⟨_, r_u3, rfl, rfl, hw⟩ (Nat.le_of_ble_eq_true rfl) (Nat.le_of_ble_eq_true rfl) dX13_hypOf_42
def W_X13_part (n1 : Int) (n2 : Int) (σ : S0) (Q : S0 → Prop) : Prop :=
  ∀ (P133 : Int → Int → Int → Int → Int → S0 → Prop) (P183 : Int → Int → Int → Int → Int → Int → Int → Int → S0 → Prop),
  (∀ (u1 : Int) (u2 : Int) (u4 : Int) (u5 : Int) (u6 : Int) (τ : S0), ((u6 < 1 → Q τ) ∧ (1 ≤ u6 → (0 ≤ ((u4 + u6) - 1) ∧ ((u4 + u6) - 1) < 30400) ∧ (∀ (x34 : Int), rg x34 → x34 = τ.2.1 16 ((u4 + u6) - 1) → ((0 ≤ x34 ∧ x34 < 1001) ∧ (∀ (x36 : Int), rg x36 → x36 = τ.2.1 8 x34 → ((x36 = 0 → rg (u5 - 1) ∧ rg (u6 + (-1)) ∧ P133 u1 u2 u4 (u5 - 1) (u6 + (-1)) τ) ∧ (¬ x36 = 0 → ∀ (x40 : Int), rg x40 → x40 = τ.2.1 10 x34 → ((0 ≤ x40 ∧ x40 < 1001) ∧ (∀ (x42 : Int), rg x42 → x42 = τ.2.1 71 x40 → (rg (u5 - 1) ∧ P183 u1 u2 u4 u5 u6 x34 (u5 - 1) x42 τ)))))))))) → P133 u1 u2 u4 u5 u6 τ) →
  (∀ (u1 : Int) (u2 : Int) (u4 : Int) (u5 : Int) (u6 : Int) (u7 : Int) (u8 : Int) (u9 : Int) (τ : S0), ((0 ≤ ((61 * (u6 - 1)) + u8) ∧ ((61 * (u6 - 1)) + u8) < 3800) ∧ (∀ (x45 : Int), rg x45 → x45 = τ.2.1 85 ((61 * (u6 - 1)) + u8) → ((x45 = 0 → rg (u8 + (-1)) ∧ P183 u1 u2 u4 u5 u6 u7 (u8 + (-1)) u9 τ) ∧ (¬ x45 = 0 → ∃ (Q48 : Int → Prop), W_X13_wayAt u9 u8 u5 τ Q48 ∧ ∀ (x49 : Int), rg x49 → Q48 x49 → ((0 ≤ x49 ∧ x49 < 372100) ∧ (∀ (x52 : Int), rg x52 → x52 = τ.2.1 75 x49 → ((¬ x52 = 0 → (0 ≤ u1 ∧ u1 < 60000) ∧ (∀ (x55 : Int), rg x55 → x55 = τ.2.1 87 u1 → (∃ (Q56 : Int → Prop), W_X13_hypOf u2 u7 τ Q56 ∧ ∀ (x57 : Int), rg x57 → Q56 x57 → (∃ (Q59 : Int → S0 → Prop), W_X13_newNode u9 u8 u5 τ Q59 ∧ ∀ (x60 : Int) (τ61 : S0), rg x60 → n_m τ61 → f_r [51] [88, 89, 90] [] τ τ61 → Q59 x60 τ61 → ((0 ≤ (x55 + x57) ∧ (x55 + x57) < 120000) ∧ (rg (u6 + (-1)) ∧ P133 u1 u2 u4 u8 (u6 + (-1)) (s_a τ61 91 (x55 + x57) x60))))))) ∧ (x52 = 0 → rg (u8 + (-1)) ∧ P183 u1 u2 u4 u5 u6 u7 (u8 + (-1)) u9 τ)))))))) → P183 u1 u2 u4 u5 u6 u7 u8 u9 τ) →
  (0 ≤ n1 ∧ n1 < 60000) ∧ ((0 ≤ n2 ∧ n2 < 1501) ∧ (∀ (x3 : Int), rg x3 → x3 = σ.2.1 19 n2 → (rg (σ.1 52 + x3) ∧ ∀ (x5 : Int), rg x5 → x5 = σ.2.1 15 n2 → (∀ (x6 : Int), rg x6 → x6 = σ.2.1 14 n2 → (∃ (Q7 : Int → Prop), W_X13_isUnit n2 (s_v (s_a (s_a σ 86 n1 n2) 87 n1 (σ.1 52)) 52 (σ.1 52 + x3)) Q7 ∧ ∀ (x8 : Int), rg x8 → Q7 x8 → ((x8 = 0 → ∀ (x11 : Int), rg x11 → x11 = σ.2.1 88 n1 → (∀ (x12 : Int), rg x12 → x12 = σ.2.1 89 n1 → (∃ (Q13 : Int → S0 → Prop), W_X13_match n2 x11 x12 (s_v (s_a (s_a σ 86 n1 n2) 87 n1 (σ.1 52)) 52 (σ.1 52 + x3)) Q13 ∧ ∀ (x14 : Int) (τ15 : S0), rg x14 → n_m τ15 → f_r [] [85] [] (s_v (s_a (s_a σ 86 n1 n2) 87 n1 (σ.1 52)) 52 (σ.1 52 + x3)) τ15 → Q13 x14 τ15 → (∀ (x16 : Int), rg x16 → x16 = τ15.2.1 89 n1 → (rg (x6 + 1) ∧ rg (x5 - 1) ∧ P133 n1 n2 (x6 + 1) x16 (x5 - 1) τ15))))) ∧ (¬ x8 = 0 → ∀ (x19 : Int), rg x19 → x19 = (st (σ.2.1 87) n1 (σ.1 52)) n1 → ((0 ≤ (x6 + 1) ∧ (x6 + 1) < 30400) ∧ (∀ (x21 : Int), rg x21 → x21 = σ.2.1 16 (x6 + 1) → ((0 ≤ x21 ∧ x21 < 1001) ∧ (∀ (x23 : Int), rg x23 → x23 = σ.2.1 10 x21 → ((0 ≤ x23 ∧ x23 < 1001) ∧ (∀ (x25 : Int), rg x25 → x25 = σ.2.1 71 x23 → (∀ (x26 : Int), rg x26 → x26 = σ.2.1 88 n1 → (∀ (x27 : Int), rg x27 → x27 = σ.2.1 89 n1 → (∃ (Q28 : Int → S0 → Prop), W_X13_newNode x25 x26 x27 (s_v (s_a (s_a σ 86 n1 n2) 87 n1 (σ.1 52)) 52 (σ.1 52 + x3)) Q28 ∧ ∀ (x29 : Int) (τ30 : S0), rg x29 → n_m τ30 → f_r [51] [88, 89, 90] [] (s_v (s_a (s_a σ 86 n1 n2) 87 n1 (σ.1 52)) 52 (σ.1 52 + x3)) τ30 → Q28 x29 τ30 → ((0 ≤ x19 ∧ x19 < 120000) ∧ (Q (s_a τ30 91 x19 x29)))))))))))))))))))
set_option maxRecDepth 100000 in
set_option maxHeartbeats 4000000 in
theorem L_X13_part (l : Launch) (g : gG) (q : Nat → Nat) (lb : Nat) (hlb : lb < 2 ^ 31) {n1 : Int} {n2 : Int} {σ : S0} {Q : S0 → Prop} (r_n1 : rg n1) (r_n2 : rg n2) (hN : n_m σ) (hw : W_X13_part n1 n2 σ Q) (sz : Nat) : MetV l yX13_part cX13_part 10 { frames := 2, cells := 0, slots := 0, locals := 57 } g [.ref (q 0), .int (I n1), .int (I n2)] (MX g q lb σ) sz xT (p_V (MX g q lb) [51, 52] [85, 86, 87, 88, 89, 90, 91] [] σ Q) 0 0 := by
  refine mkMet (Qc := fun A => QV g A (p_V (MX g q lb) [51, 52] [85, 86, 87, 88, 89, 90, 91] [] σ Q)) (by decide) (Nat.le_of_ble_eq_true rfl) ?_
  intro p e s m below meth c A H ls hx hb hr hml hown hts hlk hnm hsz hP hK hNb hD hA hAe hS hX hl
  have hl : lv_has ls 10 [(0, .ref (q 0)), (1, .int (I n1)), (2, .int (I n2))] := hl
  have hB := hN
  have hF : f_r [51, 52] [85, 86, 87, 88, 89, 90, 91] [] σ σ := f_0
  obtain ⟨locs, hlocs⟩ : ∃ z : List Loc, z = [] := ⟨_, rfl⟩
  rw [← hlocs] at hS ⊢
  obtain ⟨P133, hP133⟩ : ∃ P : Int → Int → Int → Int → Int → S0 → Prop, ∀ (u1 : Int) (u2 : Int) (u4 : Int) (u5 : Int) (u6 : Int) (τ : S0), (P u1 u2 u4 u5 u6 τ ↔ (rg u1 → rg u2 → rg u4 → rg u5 → rg u6 → n_m τ → f_r [51, 52] [85, 86, 87, 88, 89, 90, 91] [] σ τ → ∀ (H : Heap) (locs : List Loc) (ls : Array Slot), KP g (MX g q lb τ) H → va_D A (MX g q lb τ) → va_S A s.heap H locs → lv_has ls 10 [(0, .ref (q 0)), (1, .int (I u1)), (2, .int (I u2)), (4, .int (I u4)), (5, .int (I u5)), (6, .int (I u6))] → W p l e ({ frames := 2, cells := 0, slots := 0, locals := 57 }) s m [.ref (q 0), .int (I n1), .int (I n2)].toArray below meth c H locs 0 0 (MQ below (QV g A (p_V (MX g q lb) [51, 52] [85, 86, 87, 88, 89, 90, 91] [] σ Q)) [.ref (q 0), .int (I n1), .int (I n2)].toArray s 0 0 A) (F0 m 133 ls []))) := ⟨_, fun _ _ _ _ _ _ => Iff.rfl⟩
  obtain ⟨P183, hP183⟩ : ∃ P : Int → Int → Int → Int → Int → Int → Int → Int → S0 → Prop, ∀ (u1 : Int) (u2 : Int) (u4 : Int) (u5 : Int) (u6 : Int) (u7 : Int) (u8 : Int) (u9 : Int) (τ : S0), (P u1 u2 u4 u5 u6 u7 u8 u9 τ ↔ (rg u1 → rg u2 → rg u4 → rg u5 → rg u6 → rg u7 → rg u8 → rg u9 → n_m τ → f_r [51, 52] [85, 86, 87, 88, 89, 90, 91] [] σ τ → ∀ (H : Heap) (locs : List Loc) (ls : Array Slot), KP g (MX g q lb τ) H → va_D A (MX g q lb τ) → va_S A s.heap H locs → lv_has ls 10 [(0, .ref (q 0)), (1, .int (I u1)), (2, .int (I u2)), (4, .int (I u4)), (5, .int (I u5)), (6, .int (I u6)), (7, .int (I u7)), (8, .int (I u8)), (9, .int (I u9))] → W p l e ({ frames := 2, cells := 0, slots := 0, locals := 57 }) s m [.ref (q 0), .int (I n1), .int (I n2)].toArray below meth c H locs 0 0 (MQ below (QV g A (p_V (MX g q lb) [51, 52] [85, 86, 87, 88, 89, 90, 91] [] σ Q)) [.ref (q 0), .int (I n1), .int (I n2)].toArray s 0 0 A) (F0 m 183 ls []))) := ⟨_, fun _ _ _ _ _ _ _ _ _ => Iff.rfl⟩
  refine (fun hw => ?_) (hw P133 P183 ?_ ?_)
  ·
    refine lv_aload_n hx hb dX13_part_0 rfl (lv_at hl 0 rfl) ?_
    refine gfX13_nodeIs hx hb hts hK hP hown (hts _ tw_2149) dX13_part_1 ?_
    refine lv_iload_n hx hb dX13_part_4 rfl (lv_at hl 1 rfl) ?_
    refine lv_iload_n hx hb dX13_part_5 rfl (lv_at hl 2 rfl) ?_
    obtain ⟨c1, hw⟩ := hw
    refine sdMX13_nodeIs hx hb hK hP hD hS c1 dX13_part_6 (fun H locs hP hD hS => ?_)
    have hN : n_m (s_a σ 86 n1 n2) := n_a (k := 86) (j := n1) hN (r_n2 : rg n2)
    have hF : f_r [51, 52] [85, 86, 87, 88, 89, 90, 91] [] σ (s_a σ 86 n1 n2) := f_a hF (by decide)
    refine lv_aload_n hx hb dX13_part_7 rfl (lv_at hl 0 rfl) ?_
    refine gfX13_nodeKids hx hb hts hK hP hown (hts _ tw_2150) dX13_part_8 ?_
    refine lv_iload_n hx hb dX13_part_11 rfl (lv_at hl 1 rfl) ?_
    refine lv_aload_n hx hb dX13_part_12 rfl (lv_at hl 0 rfl) ?_
    refine gfX13_kidCount hx hb hts hK hP hown (hts _ tw_2156) (x := σ.1 52) rfl dX13_part_13 ?_
    refine sdMX13_nodeKids hx hb hK hP hD hS c1 dX13_part_16 (fun H locs hP hD hS => ?_)
    have hN : n_m (s_a (s_a σ 86 n1 n2) 87 n1 (σ.1 52)) := n_a (k := 87) (j := n1) hN ((hB.1 52) : rg (σ.1 52))
    have hF : f_r [51, 52] [85, 86, 87, 88, 89, 90, 91] [] σ (s_a (s_a σ 86 n1 n2) 87 n1 (σ.1 52)) := f_a hF (by decide)
    refine lv_aload_n hx hb dX13_part_17 rfl (lv_at hl 0 rfl) ?_
    refine lv_dup hx hb dX13_part_18 rfl ?_
    refine gfX13_kidCount hx hb hts hK hP hown (hts _ tw_2156) (x := σ.1 52) rfl dX13_part_19 ?_
    refine lv_aload_n hx hb dX13_part_22 rfl (lv_at hl 0 rfl) ?_
    refine gfX13_hypSize hx hb hts hK hP hown (hts _ tw_2032) dX13_part_23 ?_
    refine lv_iload_n hx hb dX13_part_26 rfl (lv_at hl 2 rfl) ?_
    obtain ⟨c2, hw⟩ := hw
    refine ldMX13_hypSize hx hb hK hP hN c2 dX13_part_27 (fun x3 r_x3 e_x3 => ?_)
    replace hw := hw x3 r_x3 e_x3
    refine bi_iadd hx hb dX13_part_28 ?_
    obtain ⟨c4, hw⟩ := hw
    refine pfX13_kidCount hx hb hts hK hP hD hS hown (hts _ tw_2156) dX13_part_29 (fun H locs hP hD hS => ?_)
    have hN : n_m (s_v (s_a (s_a σ 86 n1 n2) 87 n1 (σ.1 52)) 52 (σ.1 52 + x3)) := n_v (i := 52) hN (c4 : rg (σ.1 52 + x3))
    have hF : f_r [51, 52] [85, 86, 87, 88, 89, 90, 91] [] σ (s_v (s_a (s_a σ 86 n1 n2) 87 n1 (σ.1 52)) 52 (σ.1 52 + x3)) := f_v hF (by decide)
    refine lv_aload_n hx hb dX13_part_32 rfl (lv_at hl 0 rfl) ?_
    refine gfX13_textSize hx hb hts hK hP hown (hts _ tw_2027) dX13_part_33 ?_
    refine lv_iload_n hx hb dX13_part_36 rfl (lv_at hl 2 rfl) ?_
    refine ldMX13_textSize hx hb hK hP hN c2 dX13_part_37 (fun x5 r_x5 e_x5 => ?_)
    replace hw := hw x5 r_x5 e_x5
    refine lv_iconst (v := I 1) hx hb dX13_part_38 rfl ?_
    refine bi_isub hx hb dX13_part_39 ?_
    refine lv_istore_n (lv' := [(3, .int (I (x5 - 1))), (0, .ref (q 0)), (1, .int (I n1)), (2, .int (I n2))]) hx hb dX13_part_40 rfl hl (by decide) rfl (fun ls hl => ?_)
    refine lv_aload_n hx hb dX13_part_41 rfl (lv_at hl 1 rfl) ?_
    refine gfX13_textAt hx hb hts hK hP hown (hts _ tw_2026) dX13_part_42 ?_
    refine lv_iload_n hx hb dX13_part_45 rfl (lv_at hl 3 rfl) ?_
    refine ldMX13_textAt hx hb hK hP hN c2 dX13_part_46 (fun x6 r_x6 e_x6 => ?_)
    replace hw := hw x6 r_x6 e_x6
    refine lv_iconst (v := I 1) hx hb dX13_part_47 rfl ?_
    refine bi_iadd hx hb dX13_part_48 ?_
    refine lv_istore (lv' := [(4, .int (I (x6 + 1))), (3, .int (I (x5 - 1))), (0, .ref (q 0)), (1, .int (I n1)), (2, .int (I n2))]) hx hb dX13_part_49 hl (by decide) rfl (fun ls hl => ?_)
    refine lv_aload_n hx hb dX13_part_51 rfl (lv_at hl 2 rfl) ?_
    refine lv_iload_n hx hb dX13_part_52 rfl (lv_at hl 4 rfl) ?_
    obtain ⟨Q7, hc, hw⟩ := hw
    refine wc_i (X := MX g q lb) (va_runV (As := [.int (I n2)]) (rest := []) ⟨hx, hb, hml, hown, hts⟩ (L_X13_isUnit l g q lb hlb r_n2 hN hc H.size) (cwV 1 hts (TB_V tw_2944 tw_2946 ts_181 tw_15 co_X13_isUnit) rfl rfl rfl (by decide +kernel) ⟨Nat.le_of_ble_eq_true rfl, Nat.le_of_ble_eq_true rfl⟩) (preV (q0 := 0) (ci := 13) rfl xT_bl hP hK hNb hD rfl rfl xT_at) rfl rfl hl.1 rfl (lv_room (Nat.le_of_ble_eq_true rfl)) dX13_part_53 ⟨Nat.le_of_ble_eq_true rfl, Nat.le_of_ble_eq_true rfl⟩) hP hD hS hA (fun x8 H locs r_x8 hq hP hD hS => ?_)
    replace hw := hw x8 r_x8 hq
    refine bi_if_eq (tgt := 104) hx hb r_x8 dX13_part_56 (by decide) (fun c10 => ?_) (fun c10 => ?_)
    ·
      replace hw := hw.1 c10
      refine lv_aload_n hx hb dX13_part_104 rfl (lv_at hl 2 rfl) ?_
      refine lv_iload_n hx hb dX13_part_105 rfl (lv_at hl 4 rfl) ?_
      refine lv_aload_n hx hb dX13_part_106 rfl (lv_at hl 2 rfl) ?_
      refine gfX13_nodeFrom hx hb hts hK hP hown (hts _ tw_2151) dX13_part_107 ?_
      refine lv_iload_n hx hb dX13_part_110 rfl (lv_at hl 3 rfl) ?_
      refine ldMX13_nodeFrom hx hb hK hP hN c1 dX13_part_111 (fun x11 r_x11 e_x11 => ?_)
      replace hw := hw x11 r_x11 e_x11
      refine lv_aload_n hx hb dX13_part_112 rfl (lv_at hl 2 rfl) ?_
      refine gfX13_nodeTo hx hb hts hK hP hown (hts _ tw_2152) dX13_part_113 ?_
      refine lv_iload_n hx hb dX13_part_116 rfl (lv_at hl 3 rfl) ?_
      refine ldMX13_nodeTo hx hb hK hP hN c1 dX13_part_117 (fun x12 r_x12 e_x12 => ?_)
      replace hw := hw x12 r_x12 e_x12
      obtain ⟨Q13, hc, hw⟩ := hw
      refine wc_I (X := MX g q lb) (va_runV (As := [.int (I n2), .int (I x11), .int (I x12)]) (rest := []) ⟨hx, hb, hml, hown, hts⟩ (L_X13_match l g q lb hlb r_n2 r_x11 r_x12 hN hc H.size) (cwV 3 hts (TB_V tw_2999 tw_3001 ts_194 tw_15 co_X13_match) rfl rfl rfl (by decide +kernel) ⟨Nat.le_of_ble_eq_true rfl, Nat.le_of_ble_eq_true rfl⟩) (preV (q0 := 0) (ci := 13) rfl xT_bl hP hK hNb hD rfl rfl xT_at) rfl rfl hl.1 rfl (lv_room (Nat.le_of_ble_eq_true rfl)) dX13_part_118 ⟨Nat.le_of_ble_eq_true rfl, Nat.le_of_ble_eq_true rfl⟩) hP hD hS hA (fun x14 τ15 H locs r_x14 hN hf hq hP hD hS => ?_)
      replace hw := hw x14 τ15 r_x14 hN hf hq
      have hF : f_r [51, 52] [85, 86, 87, 88, 89, 90, 91] [] σ τ15 := f_t hF hf (by decide) (by decide) (by decide)
      have hB := hN
      refine lv_pop hx hb dX13_part_121 rfl ?_
      refine lv_aload_n hx hb dX13_part_122 rfl (lv_at hl 2 rfl) ?_
      refine gfX13_nodeTo hx hb hts hK hP hown (hts _ tw_2152) dX13_part_123 ?_
      refine lv_iload_n hx hb dX13_part_126 rfl (lv_at hl 3 rfl) ?_
      refine ldMX13_nodeTo hx hb hK hP hN c1 dX13_part_127 (fun x16 r_x16 e_x16 => ?_)
      replace hw := hw x16 r_x16 e_x16
      refine lv_istore (lv' := [(5, .int (I x16)), (4, .int (I (x6 + 1))), (3, .int (I (x5 - 1))), (0, .ref (q 0)), (1, .int (I n1)), (2, .int (I n2))]) hx hb dX13_part_128 hl (by decide) rfl (fun ls hl => ?_)
      refine lv_iload_n hx hb dX13_part_130 rfl (lv_at hl 2 rfl) ?_
      refine lv_istore (lv' := [(6, .int (I (x5 - 1))), (5, .int (I x16)), (4, .int (I (x6 + 1))), (3, .int (I (x5 - 1))), (0, .ref (q 0)), (1, .int (I n1)), (2, .int (I n2))]) hx hb dX13_part_131 hl (by decide) rfl (fun ls hl => ?_)
      obtain ⟨c17, hw⟩ := hw
      obtain ⟨c18, hw⟩ := hw
      exact (hP133 _ _ _ _ _ _).mp hw r_n1 r_n2 c17 r_x16 c18 hN hF H locs ls hP hD hS (lv_sub hl [4, 5, 6, 2, 1, 0] rfl)
    ·
      replace hw := hw.2 c10
      refine lv_aload_n hx hb dX13_part_59 rfl (lv_at hl 2 rfl) ?_
      refine gfX13_kids hx hb hts hK hP hown (hts _ tw_2154) dX13_part_60 ?_
      refine lv_aload_n hx hb dX13_part_63 rfl (lv_at hl 2 rfl) ?_
      refine gfX13_nodeKids hx hb hts hK hP hown (hts _ tw_2150) dX13_part_64 ?_
      refine lv_iload_n hx hb dX13_part_67 rfl (lv_at hl 3 rfl) ?_
      refine ldMX13_nodeKids hx hb hK hP hN c1 dX13_part_68 (fun x19 r_x19 e_x19 => ?_)
      replace hw := hw x19 r_x19 e_x19
      refine lv_aload_n hx hb dX13_part_69 rfl (lv_at hl 2 rfl) ?_
      refine lv_aload_n hx hb dX13_part_70 rfl (lv_at hl 2 rfl) ?_
      refine gfX13_sortOf hx hb hts hK hP hown (hts _ tw_2124) dX13_part_71 ?_
      refine lv_aload_n hx hb dX13_part_74 rfl (lv_at hl 2 rfl) ?_
      refine gfX13_typeOf hx hb hts hK hP hown (hts _ tw_2020) dX13_part_75 ?_
      refine lv_aload_n hx hb dX13_part_78 rfl (lv_at hl 2 rfl) ?_
      refine gfX13_texts hx hb hts hK hP hown (hts _ tw_2028) dX13_part_79 ?_
      refine lv_iload hx hb dX13_part_82 (lv_at hl 0 rfl) ?_
      obtain ⟨c20, hw⟩ := hw
      refine ldMX13_texts hx hb hK hP hN c20 dX13_part_84 (fun x21 r_x21 e_x21 => ?_)
      replace hw := hw x21 r_x21 e_x21
      obtain ⟨c22, hw⟩ := hw
      refine ldMX13_typeOf hx hb hK hP hN c22 dX13_part_85 (fun x23 r_x23 e_x23 => ?_)
      replace hw := hw x23 r_x23 e_x23
      obtain ⟨c24, hw⟩ := hw
      refine ldMX13_sortOf hx hb hK hP hN c24 dX13_part_86 (fun x25 r_x25 e_x25 => ?_)
      replace hw := hw x25 r_x25 e_x25
      refine lv_aload_n hx hb dX13_part_87 rfl (lv_at hl 2 rfl) ?_
      refine gfX13_nodeFrom hx hb hts hK hP hown (hts _ tw_2151) dX13_part_88 ?_
      refine lv_iload_n hx hb dX13_part_91 rfl (lv_at hl 3 rfl) ?_
      refine ldMX13_nodeFrom hx hb hK hP hN c1 dX13_part_92 (fun x26 r_x26 e_x26 => ?_)
      replace hw := hw x26 r_x26 e_x26
      refine lv_aload_n hx hb dX13_part_93 rfl (lv_at hl 2 rfl) ?_
      refine gfX13_nodeTo hx hb hts hK hP hown (hts _ tw_2152) dX13_part_94 ?_
      refine lv_iload_n hx hb dX13_part_97 rfl (lv_at hl 3 rfl) ?_
      refine ldMX13_nodeTo hx hb hK hP hN c1 dX13_part_98 (fun x27 r_x27 e_x27 => ?_)
      replace hw := hw x27 r_x27 e_x27
      obtain ⟨Q28, hc, hw⟩ := hw
      refine wc_I (X := MX g q lb) (va_runV (As := [.int (I x25), .int (I x26), .int (I x27)]) (rest := [.int (I x19), .ref (q 99)]) ⟨hx, hb, hml, hown, hts⟩ (L_X13_newNode l g q lb hlb r_x25 r_x26 r_x27 hN hc H.size) (cwV 3 hts (TB_V tw_2987 tw_2989 ts_191 tw_15 co_X13_newNode) rfl rfl rfl (by decide +kernel) ⟨Nat.le_of_ble_eq_true rfl, Nat.le_of_ble_eq_true rfl⟩) (preV (q0 := 0) (ci := 13) rfl xT_bl hP hK hNb hD rfl rfl xT_at) rfl rfl hl.1 rfl (lv_room (Nat.le_of_ble_eq_true rfl)) dX13_part_99 ⟨Nat.le_of_ble_eq_true rfl, Nat.le_of_ble_eq_true rfl⟩) hP hD hS hA (fun x29 τ30 H locs r_x29 hN hf hq hP hD hS => ?_)
      replace hw := hw x29 τ30 r_x29 hN hf hq
      have hF : f_r [51, 52] [85, 86, 87, 88, 89, 90, 91] [] σ τ30 := f_t hF hf (by decide) (by decide) (by decide)
      have hB := hN
      obtain ⟨c31, hw⟩ := hw
      refine sdMX13_kids hx hb hK hP hD hS c31 dX13_part_102 (fun H locs hP hD hS => ?_)
      have hN : n_m (s_a τ30 91 x19 x29) := n_a (k := 91) (j := x19) hN (r_x29 : rg x29)
      have hF : f_r [51, 52] [85, 86, 87, 88, 89, 90, 91] [] σ (s_a τ30 91 x19 x29) := f_a hF (by decide)
      exact xrv hx hb hr hlk hP hK hD hS ⟨_, hN, hF, rfl, hw⟩ (Nat.le_of_ble_eq_true rfl) (Nat.le_of_ble_eq_true rfl) dX13_part_103
  ·
    intro u1 u2 u4 u5 u6 τ hw
    refine (hP133 _ _ _ _ _ _).mpr ?_
    intro r_u1 r_u2 r_u4 r_u5 r_u6 hN hF H locs ls hP hD hS hl
    have hB := hN
    refine lv_iload hx hb dX13_part_133 (lv_at hl 5 rfl) ?_
    refine lv_iconst (v := I 1) hx hb dX13_part_135 rfl ?_
    refine bi_icmp_lt (tgt := 264) hx hb r_u6 (by decide) dX13_part_136 (by decide) (fun c32 => ?_) (fun c32 => ?_)
    ·
      replace hw := hw.1 c32
      exact xrv hx hb hr hlk hP hK hD hS ⟨_, hN, hF, rfl, hw⟩ (Nat.le_of_ble_eq_true rfl) (Nat.le_of_ble_eq_true rfl) dX13_part_264
    ·
      replace hw := hw.2 c32
      refine lv_aload_n hx hb dX13_part_139 rfl (lv_at hl 0 rfl) ?_
      refine gfX13_texts hx hb hts hK hP hown (hts _ tw_2028) dX13_part_140 ?_
      refine lv_iload hx hb dX13_part_143 (lv_at hl 3 rfl) ?_
      refine lv_iload hx hb dX13_part_145 (lv_at hl 5 rfl) ?_
      refine bi_iadd hx hb dX13_part_147 ?_
      refine lv_iconst (v := I 1) hx hb dX13_part_148 rfl ?_
      refine bi_isub hx hb dX13_part_149 ?_
      obtain ⟨c33, hw⟩ := hw
      refine ldMX13_texts hx hb hK hP hN c33 dX13_part_150 (fun x34 r_x34 e_x34 => ?_)
      replace hw := hw x34 r_x34 e_x34
      refine lv_istore (lv' := [(7, .int (I x34)), (0, .ref (q 0)), (1, .int (I u1)), (2, .int (I u2)), (4, .int (I u4)), (5, .int (I u5)), (6, .int (I u6))]) hx hb dX13_part_151 hl (by decide) rfl (fun ls hl => ?_)
      refine lv_iload hx hb dX13_part_153 (lv_at hl 5 rfl) ?_
      refine lv_iconst (v := I 1) hx hb dX13_part_155 rfl ?_
      refine bi_isub hx hb dX13_part_156 ?_
      refine lv_istore (lv' := [(8, .int (I (u5 - 1))), (7, .int (I x34)), (0, .ref (q 0)), (1, .int (I u1)), (2, .int (I u2)), (4, .int (I u4)), (5, .int (I u5)), (6, .int (I u6))]) hx hb dX13_part_157 hl (by decide) rfl (fun ls hl => ?_)
      refine lv_aload_n hx hb dX13_part_159 rfl (lv_at hl 2 rfl) ?_
      refine gfX13_isVariable hx hb hts hK hP hown (hts _ tw_2018) dX13_part_160 ?_
      refine lv_iload hx hb dX13_part_163 (lv_at hl 1 rfl) ?_
      obtain ⟨c35, hw⟩ := hw
      refine ldMX13_isVariable hx hb hK hP hN c35 dX13_part_165 (fun x36 r_x36 e_x36 => ?_)
      replace hw := hw x36 r_x36 e_x36
      refine bi_if_eq (tgt := 254) hx hb r_x36 dX13_part_166 (by decide) (fun c37 => ?_) (fun c37 => ?_)
      ·
        replace hw := hw.1 c37
        refine lv_iload hx hb dX13_part_254 (lv_at hl 0 rfl) ?_
        refine lv_istore (lv' := [(5, .int (I (u5 - 1))), (8, .int (I (u5 - 1))), (7, .int (I x34)), (0, .ref (q 0)), (1, .int (I u1)), (2, .int (I u2)), (4, .int (I u4)), (6, .int (I u6))]) hx hb dX13_part_256 hl (by decide) rfl (fun ls hl => ?_)
        refine lv_iinc (v := I (u6 + (-1))) (lv' := [(6, .int (I (u6 + (-1)))), (5, .int (I (u5 - 1))), (8, .int (I (u5 - 1))), (7, .int (I x34)), (0, .ref (q 0)), (1, .int (I u1)), (2, .int (I u2)), (4, .int (I u4))]) hx hb dX13_part_258 hl (k := 7) rfl (I_add _ _) (by decide) rfl (fun ls hl => ?_)
        refine lv_goto (tgt := 133) hx hb dX13_part_261 (by decide) ?_
        obtain ⟨c38, hw⟩ := hw
        obtain ⟨c39, hw⟩ := hw
        exact (hP133 _ _ _ _ _ _).mp hw r_u1 r_u2 r_u4 c38 c39 hN hF H locs ls hP hD hS (lv_sub hl [4, 5, 6, 7, 1, 0] rfl)
      ·
        replace hw := hw.2 c37
        refine lv_aload_n hx hb dX13_part_169 rfl (lv_at hl 2 rfl) ?_
        refine gfX13_sortOf hx hb hts hK hP hown (hts _ tw_2124) dX13_part_170 ?_
        refine lv_aload_n hx hb dX13_part_173 rfl (lv_at hl 2 rfl) ?_
        refine gfX13_typeOf hx hb hts hK hP hown (hts _ tw_2020) dX13_part_174 ?_
        refine lv_iload hx hb dX13_part_177 (lv_at hl 1 rfl) ?_
        refine ldMX13_typeOf hx hb hK hP hN c35 dX13_part_179 (fun x40 r_x40 e_x40 => ?_)
        replace hw := hw x40 r_x40 e_x40
        obtain ⟨c41, hw⟩ := hw
        refine ldMX13_sortOf hx hb hK hP hN c41 dX13_part_180 (fun x42 r_x42 e_x42 => ?_)
        replace hw := hw x42 r_x42 e_x42
        refine lv_istore (lv' := [(9, .int (I x42)), (8, .int (I (u5 - 1))), (7, .int (I x34)), (0, .ref (q 0)), (1, .int (I u1)), (2, .int (I u2)), (4, .int (I u4)), (5, .int (I u5)), (6, .int (I u6))]) hx hb dX13_part_181 hl (by decide) rfl (fun ls hl => ?_)
        obtain ⟨c43, hw⟩ := hw
        exact (hP183 _ _ _ _ _ _ _ _ _).mp hw r_u1 r_u2 r_u4 r_u5 r_u6 r_x34 c43 r_x42 hN hF H locs ls hP hD hS (lv_sub hl [3, 4, 5, 6, 7, 8, 2, 1, 0] rfl)
  ·
    intro u1 u2 u4 u5 u6 u7 u8 u9 τ hw
    refine (hP183 _ _ _ _ _ _ _ _ _).mpr ?_
    intro r_u1 r_u2 r_u4 r_u5 r_u6 r_u7 r_u8 r_u9 hN hF H locs ls hP hD hS hl
    have hB := hN
    refine lv_aload_n hx hb dX13_part_183 rfl (lv_at hl 0 rfl) ?_
    refine gfX13_front hx hb hts hK hP hown (hts _ tw_2148) dX13_part_184 ?_
    refine lv_bipush (v := I 61) hx hb dX13_part_187 (by decide) ?_
    refine lv_iload hx hb dX13_part_189 (lv_at hl 5 rfl) ?_
    refine lv_iconst (v := I 1) hx hb dX13_part_191 rfl ?_
    refine bi_isub hx hb dX13_part_192 ?_
    refine bi_imul hx hb dX13_part_193 ?_
    refine lv_iload hx hb dX13_part_194 (lv_at hl 7 rfl) ?_
    refine bi_iadd hx hb dX13_part_196 ?_
    obtain ⟨c44, hw⟩ := hw
    refine ldMX13_front hx hb hK hP hN c44 dX13_part_197 (fun x45 r_x45 e_x45 => ?_)
    replace hw := hw x45 r_x45 e_x45
    refine bi_if_eq (tgt := 219) hx hb r_x45 dX13_part_198 (by decide) (fun c46 => ?_) (fun c46 => ?_)
    ·
      replace hw := hw.1 c46
      refine lv_iinc (v := I (u8 + (-1))) (lv' := [(8, .int (I (u8 + (-1)))), (0, .ref (q 0)), (1, .int (I u1)), (2, .int (I u2)), (4, .int (I u4)), (5, .int (I u5)), (6, .int (I u6)), (7, .int (I u7)), (9, .int (I u9))]) hx hb dX13_part_219 hl (k := 7) rfl (I_add _ _) (by decide) rfl (fun ls hl => ?_)
      refine lv_goto (tgt := 183) hx hb dX13_part_222 (by decide) ?_
      obtain ⟨c47, hw⟩ := hw
      exact (hP183 _ _ _ _ _ _ _ _ _).mp hw r_u1 r_u2 r_u4 r_u5 r_u6 r_u7 c47 r_u9 hN hF H locs ls hP hD hS (lv_sub hl [1, 2, 3, 4, 5, 6, 7, 0, 8] rfl)
    ·
      replace hw := hw.2 c46
      refine lv_aload_n hx hb dX13_part_201 rfl (lv_at hl 0 rfl) ?_
      refine gfX13_ways hx hb hts hK hP hown (hts _ tw_2129) dX13_part_202 ?_
      refine lv_aload_n hx hb dX13_part_205 rfl (lv_at hl 0 rfl) ?_
      refine lv_iload hx hb dX13_part_206 (lv_at hl 8 rfl) ?_
      refine lv_iload hx hb dX13_part_208 (lv_at hl 7 rfl) ?_
      refine lv_iload hx hb dX13_part_210 (lv_at hl 4 rfl) ?_
      obtain ⟨Q48, hc, hw⟩ := hw
      refine wc_i (X := MX g q lb) (va_runV (As := [.int (I u9), .int (I u8), .int (I u5)]) (rest := [.ref (q 79)]) ⟨hx, hb, hml, hown, hts⟩ (L_X13_wayAt l g q lb hlb r_u9 r_u8 r_u5 hN hc H.size) (cwV 3 hts (TB_V tw_2956 tw_2958 ts_184 tw_15 co_X13_wayAt) rfl rfl rfl (by decide +kernel) ⟨Nat.le_of_ble_eq_true rfl, Nat.le_of_ble_eq_true rfl⟩) (preV (q0 := 0) (ci := 13) rfl xT_bl hP hK hNb hD rfl rfl xT_at) rfl rfl hl.1 rfl (lv_room (Nat.le_of_ble_eq_true rfl)) dX13_part_212 ⟨Nat.le_of_ble_eq_true rfl, Nat.le_of_ble_eq_true rfl⟩) hP hD hS hA (fun x49 H locs r_x49 hq hP hD hS => ?_)
      replace hw := hw x49 r_x49 hq
      obtain ⟨c51, hw⟩ := hw
      refine ldMX13_ways hx hb hK hP hN c51 dX13_part_215 (fun x52 r_x52 e_x52 => ?_)
      replace hw := hw x52 r_x52 e_x52
      refine bi_if_ne (tgt := 225) hx hb r_x52 dX13_part_216 (by decide) (fun c53 => ?_) (fun c53 => ?_)
      ·
        replace hw := hw.1 c53
        refine lv_aload_n hx hb dX13_part_225 rfl (lv_at hl 0 rfl) ?_
        refine gfX13_kids hx hb hts hK hP hown (hts _ tw_2154) dX13_part_226 ?_
        refine lv_aload_n hx hb dX13_part_229 rfl (lv_at hl 0 rfl) ?_
        refine gfX13_nodeKids hx hb hts hK hP hown (hts _ tw_2150) dX13_part_230 ?_
        refine lv_iload_n hx hb dX13_part_233 rfl (lv_at hl 1 rfl) ?_
        obtain ⟨c54, hw⟩ := hw
        refine ldMX13_nodeKids hx hb hK hP hN c54 dX13_part_234 (fun x55 r_x55 e_x55 => ?_)
        replace hw := hw x55 r_x55 e_x55
        refine lv_aload_n hx hb dX13_part_235 rfl (lv_at hl 0 rfl) ?_
        refine lv_iload_n hx hb dX13_part_236 rfl (lv_at hl 2 rfl) ?_
        refine lv_iload hx hb dX13_part_237 (lv_at hl 6 rfl) ?_
        obtain ⟨Q56, hc, hw⟩ := hw
        refine wc_i (X := MX g q lb) (va_runV (As := [.int (I u2), .int (I u7)]) (rest := [.int (I x55), .ref (q 99)]) ⟨hx, hb, hml, hown, hts⟩ (L_X13_hypOf l g q lb hlb r_u2 r_u7 hN hc H.size) (cwV 2 hts (TB_V tw_3003 tw_3005 ts_195 tw_15 co_X13_hypOf) rfl rfl rfl (by decide +kernel) ⟨Nat.le_of_ble_eq_true rfl, Nat.le_of_ble_eq_true rfl⟩) (preV (q0 := 0) (ci := 13) rfl xT_bl hP hK hNb hD rfl rfl xT_at) rfl rfl hl.1 rfl (lv_room (Nat.le_of_ble_eq_true rfl)) dX13_part_239 ⟨Nat.le_of_ble_eq_true rfl, Nat.le_of_ble_eq_true rfl⟩) hP hD hS hA (fun x57 H locs r_x57 hq hP hD hS => ?_)
        replace hw := hw x57 r_x57 hq
        refine bi_iadd hx hb dX13_part_242 ?_
        refine lv_aload_n hx hb dX13_part_243 rfl (lv_at hl 0 rfl) ?_
        refine lv_iload hx hb dX13_part_244 (lv_at hl 8 rfl) ?_
        refine lv_iload hx hb dX13_part_246 (lv_at hl 7 rfl) ?_
        refine lv_iload hx hb dX13_part_248 (lv_at hl 4 rfl) ?_
        obtain ⟨Q59, hc, hw⟩ := hw
        refine wc_I (X := MX g q lb) (va_runV (As := [.int (I u9), .int (I u8), .int (I u5)]) (rest := [.int (I (x55 + x57)), .ref (q 99)]) ⟨hx, hb, hml, hown, hts⟩ (L_X13_newNode l g q lb hlb r_u9 r_u8 r_u5 hN hc H.size) (cwV 3 hts (TB_V tw_2987 tw_2989 ts_191 tw_15 co_X13_newNode) rfl rfl rfl (by decide +kernel) ⟨Nat.le_of_ble_eq_true rfl, Nat.le_of_ble_eq_true rfl⟩) (preV (q0 := 0) (ci := 13) rfl xT_bl hP hK hNb hD rfl rfl xT_at) rfl rfl hl.1 rfl (lv_room (Nat.le_of_ble_eq_true rfl)) dX13_part_250 ⟨Nat.le_of_ble_eq_true rfl, Nat.le_of_ble_eq_true rfl⟩) hP hD hS hA (fun x60 τ61 H locs r_x60 hN hf hq hP hD hS => ?_)
        replace hw := hw x60 τ61 r_x60 hN hf hq
        have hF : f_r [51, 52] [85, 86, 87, 88, 89, 90, 91] [] σ τ61 := f_t hF hf (by decide) (by decide) (by decide)
        have hB := hN
        obtain ⟨c62, hw⟩ := hw
        refine sdMX13_kids hx hb hK hP hD hS c62 dX13_part_253 (fun H locs hP hD hS => ?_)
        have hN : n_m (s_a τ61 91 (x55 + x57) x60) := n_a (k := 91) (j := (x55 + x57)) hN (r_x60 : rg x60)
        have hF : f_r [51, 52] [85, 86, 87, 88, 89, 90, 91] [] σ (s_a τ61 91 (x55 + x57) x60) := f_a hF (by decide)
        refine lv_iload hx hb dX13_part_254 (lv_at hl 7 rfl) ?_
        refine lv_istore (lv' := [(5, .int (I u8)), (0, .ref (q 0)), (1, .int (I u1)), (2, .int (I u2)), (4, .int (I u4)), (6, .int (I u6)), (7, .int (I u7)), (8, .int (I u8)), (9, .int (I u9))]) hx hb dX13_part_256 hl (by decide) rfl (fun ls hl => ?_)
        refine lv_iinc (v := I (u6 + (-1))) (lv' := [(6, .int (I (u6 + (-1)))), (5, .int (I u8)), (0, .ref (q 0)), (1, .int (I u1)), (2, .int (I u2)), (4, .int (I u4)), (7, .int (I u7)), (8, .int (I u8)), (9, .int (I u9))]) hx hb dX13_part_258 hl (k := 5) rfl (I_add _ _) (by decide) rfl (fun ls hl => ?_)
        refine lv_goto (tgt := 133) hx hb dX13_part_261 (by decide) ?_
        obtain ⟨c63, hw⟩ := hw
        exact (hP133 _ _ _ _ _ _).mp hw r_u1 r_u2 r_u4 r_u8 c63 hN hF H locs ls hP hD hS (lv_sub hl [2, 3, 4, 5, 1, 0] rfl)
      ·
        replace hw := hw.2 c53
        refine lv_iinc (v := I (u8 + (-1))) (lv' := [(8, .int (I (u8 + (-1)))), (0, .ref (q 0)), (1, .int (I u1)), (2, .int (I u2)), (4, .int (I u4)), (5, .int (I u5)), (6, .int (I u6)), (7, .int (I u7)), (9, .int (I u9))]) hx hb dX13_part_219 hl (k := 7) rfl (I_add _ _) (by decide) rfl (fun ls hl => ?_)
        refine lv_goto (tgt := 183) hx hb dX13_part_222 (by decide) ?_
        obtain ⟨c64, hw⟩ := hw
        exact (hP183 _ _ _ _ _ _ _ _ _).mp hw r_u1 r_u2 r_u4 r_u5 r_u6 r_u7 c64 r_u9 hN hF H locs ls hP hD hS (lv_sub hl [1, 2, 3, 4, 5, 6, 7, 0, 8] rfl)
def W_X13_lookAt (n1 : Int) (σ : S0) (Q : S0 → Prop) : Prop :=
  ∀ (P51 : Int → Int → Int → S0 → Prop) (P73 : Int → Int → Int → Int → Int → S0 → Prop) (P191 : Int → Int → Int → Int → Int → Int → S0 → Prop) (P218 : Int → Int → S0 → Prop),
  (∀ (u1 : Int) (u2 : Int) (u3 : Int) (τ : S0), ((0 ≤ u1 ∧ u1 < 60000) ∧ (∀ (x13 : Int), rg x13 → x13 = τ.2.1 90 u1 → (∃ (Q14 : Int → Prop), W_X13_wayAt x13 u2 u3 τ Q14 ∧ ∀ (x15 : Int), rg x15 → Q14 x15 → ((0 ≤ x15 ∧ x15 < 372100) ∧ (∀ (x18 : Int), rg x18 → x18 = τ.2.1 76 x15 → (P73 u1 u2 u3 x18 0 τ)))))) → P51 u1 u2 u3 τ) →
  (∀ (u1 : Int) (u2 : Int) (u3 : Int) (u4 : Int) (u5 : Int) (τ : S0), ((τ.1 48 ≤ u5 → P218 u1 u4 τ) ∧ (u5 < τ.1 48 → (0 ≤ u5 ∧ u5 < 1501) ∧ (∀ (x21 : Int), rg x21 → x21 = τ.2.1 84 u5 → ((τ.1 50 ≤ x21 → P218 u1 u4 τ) ∧ (x21 < τ.1 50 → (¬ u4 = (-1) → P218 u1 u4 τ) ∧ (u4 = (-1) → ∀ (x24 : Int), rg x24 → x24 = τ.2.1 84 u5 → ((0 ≤ x24 ∧ x24 < 1501) ∧ (∀ (x26 : Int), rg x26 → x26 = τ.2.1 14 x24 → ((0 ≤ (x26 + 1) ∧ (x26 + 1) < 30400) ∧ (∀ (x28 : Int), rg x28 → x28 = τ.2.1 16 (x26 + 1) → ((0 ≤ x28 ∧ x28 < 1001) ∧ (∀ (x30 : Int), rg x30 → x30 = τ.2.1 10 x28 → ((0 ≤ x30 ∧ x30 < 1001) ∧ (∀ (x32 : Int), rg x32 → x32 = τ.2.1 71 x30 → (∀ (x33 : Int), rg x33 → x33 = τ.2.1 84 u5 → ((0 ≤ x33 ∧ x33 < 1501) ∧ (∀ (x35 : Int), rg x35 → x35 = τ.2.1 14 x33 → ((0 ≤ x35 ∧ x35 < 30400) ∧ (∀ (x37 : Int), rg x37 → x37 = τ.2.1 16 x35 → ((0 ≤ x37 ∧ x37 < 1001) ∧ (∀ (x39 : Int), rg x39 → x39 = τ.2.1 71 x37 → ((0 ≤ u1 ∧ u1 < 60000) ∧ (∀ (x41 : Int), rg x41 → x41 = τ.2.1 90 u1 → ((¬ x39 = x41 → P191 u1 u2 u3 u4 u5 0 τ) ∧ (x39 = x41 → (x32 = (-1) → P191 u1 u2 u3 u4 u5 0 τ) ∧ (¬ x32 = (-1) → ∃ (Q44 : Int → Prop), W_X13_wayAt x32 u2 u3 τ Q44 ∧ ∀ (x45 : Int), rg x45 → Q44 x45 → ((0 ≤ x45 ∧ x45 < 372100) ∧ (∀ (x48 : Int), rg x48 → x48 = τ.2.1 75 x45 → ((x48 ≤ 0 → P191 u1 u2 u3 u4 u5 0 τ) ∧ (0 < x48 → P191 u1 u2 u3 u4 u5 1 τ)))))))))))))))))))))))))))))) → P73 u1 u2 u3 u4 u5 τ) →
  (∀ (u1 : Int) (u2 : Int) (u3 : Int) (u4 : Int) (u5 : Int) (k0 : Int) (τ : S0), ((k0 = 0 → rg (u5 + 1) ∧ P73 u1 u2 u3 u4 (u5 + 1) τ) ∧ (¬ k0 = 0 → (0 ≤ u5 ∧ u5 < 1501) ∧ (∀ (x57 : Int), rg x57 → x57 = τ.2.1 84 u5 → (rg (u5 + 1) ∧ P73 u1 u2 u3 x57 (u5 + 1) τ)))) → P191 u1 u2 u3 u4 u5 k0 τ) →
  (∀ (u1 : Int) (u4 : Int) (τ : S0), ((u4 = (-1) → Q τ) ∧ (¬ u4 = (-1) → ∃ (Q51 : S0 → Prop), W_X13_part u1 u4 τ Q51 ∧ ∀ (τ53 : S0), n_m τ53 → f_r [51, 52] [85, 86, 87, 88, 89, 90, 91] [] τ τ53 → Q51 τ53 → (Q τ53))) → P218 u1 u4 τ) →
  (0 ≤ n1 ∧ n1 < 60000) ∧ (∀ (x2 : Int), rg x2 → x2 = σ.2.1 88 n1 → (∀ (x3 : Int), rg x3 → x3 = σ.2.1 89 n1 → (rg (x2 + 1) ∧ (¬ x3 = (x2 + 1) → P51 n1 x2 x3 σ) ∧ (x3 = (x2 + 1) → (0 ≤ x2 ∧ x2 < 64) ∧ (∀ (x7 : Int), rg x7 → x7 = σ.2.1 73 x2 → (∀ (x8 : Int), rg x8 → x8 = σ.2.1 90 n1 → ((¬ x7 = x8 → P51 n1 x2 x3 σ) ∧ (x7 = x8 → ∀ (x10 : Int), rg x10 → x10 = σ.2.1 74 x2 → (rg ((-1) - x10) ∧ Q (s_a σ 86 n1 ((-1) - x10)))))))))))
set_option maxRecDepth 100000 in
set_option maxHeartbeats 4000000 in
theorem L_X13_lookAt (l : Launch) (g : gG) (q : Nat → Nat) (lb : Nat) (hlb : lb < 2 ^ 31) {n1 : Int} {σ : S0} {Q : S0 → Prop} (r_n1 : rg n1) (hN : n_m σ) (hw : W_X13_lookAt n1 σ Q) (sz : Nat) : MetV l yX13_lookAt cX13_lookAt 8 { frames := 3, cells := 0, slots := 0, locals := 86 } g [.ref (q 0), .int (I n1)] (MX g q lb σ) sz xT (p_V (MX g q lb) [51, 52] [85, 86, 87, 88, 89, 90, 91] [] σ Q) 0 0 := by
  refine mkMet (Qc := fun A => QV g A (p_V (MX g q lb) [51, 52] [85, 86, 87, 88, 89, 90, 91] [] σ Q)) (by decide) (Nat.le_of_ble_eq_true rfl) ?_
  intro p e s m below meth c A H ls hx hb hr hml hown hts hlk hnm hsz hP hK hNb hD hA hAe hS hX hl
  have hl : lv_has ls 8 [(0, .ref (q 0)), (1, .int (I n1))] := hl
  have hB := hN
  have hF : f_r [51, 52] [85, 86, 87, 88, 89, 90, 91] [] σ σ := f_0
  obtain ⟨locs, hlocs⟩ : ∃ z : List Loc, z = [] := ⟨_, rfl⟩
  rw [← hlocs] at hS ⊢
  obtain ⟨P51, hP51⟩ : ∃ P : Int → Int → Int → S0 → Prop, ∀ (u1 : Int) (u2 : Int) (u3 : Int) (τ : S0), (P u1 u2 u3 τ ↔ (rg u1 → rg u2 → rg u3 → n_m τ → f_r [51, 52] [85, 86, 87, 88, 89, 90, 91] [] σ τ → ∀ (H : Heap) (locs : List Loc) (ls : Array Slot), KP g (MX g q lb τ) H → va_D A (MX g q lb τ) → va_S A s.heap H locs → lv_has ls 8 [(0, .ref (q 0)), (1, .int (I u1)), (2, .int (I u2)), (3, .int (I u3))] → W p l e ({ frames := 3, cells := 0, slots := 0, locals := 86 }) s m [.ref (q 0), .int (I n1)].toArray below meth c H locs 0 0 (MQ below (QV g A (p_V (MX g q lb) [51, 52] [85, 86, 87, 88, 89, 90, 91] [] σ Q)) [.ref (q 0), .int (I n1)].toArray s 0 0 A) (F0 m 51 ls []))) := ⟨_, fun _ _ _ _ => Iff.rfl⟩
  obtain ⟨P73, hP73⟩ : ∃ P : Int → Int → Int → Int → Int → S0 → Prop, ∀ (u1 : Int) (u2 : Int) (u3 : Int) (u4 : Int) (u5 : Int) (τ : S0), (P u1 u2 u3 u4 u5 τ ↔ (rg u1 → rg u2 → rg u3 → rg u4 → rg u5 → n_m τ → f_r [51, 52] [85, 86, 87, 88, 89, 90, 91] [] σ τ → ∀ (H : Heap) (locs : List Loc) (ls : Array Slot), KP g (MX g q lb τ) H → va_D A (MX g q lb τ) → va_S A s.heap H locs → lv_has ls 8 [(0, .ref (q 0)), (1, .int (I u1)), (2, .int (I u2)), (3, .int (I u3)), (4, .int (I u4)), (5, .int (I u5))] → W p l e ({ frames := 3, cells := 0, slots := 0, locals := 86 }) s m [.ref (q 0), .int (I n1)].toArray below meth c H locs 0 0 (MQ below (QV g A (p_V (MX g q lb) [51, 52] [85, 86, 87, 88, 89, 90, 91] [] σ Q)) [.ref (q 0), .int (I n1)].toArray s 0 0 A) (F0 m 73 ls []))) := ⟨_, fun _ _ _ _ _ _ => Iff.rfl⟩
  obtain ⟨P191, hP191⟩ : ∃ P : Int → Int → Int → Int → Int → Int → S0 → Prop, ∀ (u1 : Int) (u2 : Int) (u3 : Int) (u4 : Int) (u5 : Int) (k0 : Int) (τ : S0), (P u1 u2 u3 u4 u5 k0 τ ↔ (rg u1 → rg u2 → rg u3 → rg u4 → rg u5 → rg k0 → n_m τ → f_r [51, 52] [85, 86, 87, 88, 89, 90, 91] [] σ τ → ∀ (H : Heap) (locs : List Loc) (ls : Array Slot), KP g (MX g q lb τ) H → va_D A (MX g q lb τ) → va_S A s.heap H locs → lv_has ls 8 [(0, .ref (q 0)), (1, .int (I u1)), (2, .int (I u2)), (3, .int (I u3)), (4, .int (I u4)), (5, .int (I u5))] → W p l e ({ frames := 3, cells := 0, slots := 0, locals := 86 }) s m [.ref (q 0), .int (I n1)].toArray below meth c H locs 0 0 (MQ below (QV g A (p_V (MX g q lb) [51, 52] [85, 86, 87, 88, 89, 90, 91] [] σ Q)) [.ref (q 0), .int (I n1)].toArray s 0 0 A) (F0 m 191 ls [.int (I k0)]))) := ⟨_, fun _ _ _ _ _ _ _ => Iff.rfl⟩
  obtain ⟨P218, hP218⟩ : ∃ P : Int → Int → S0 → Prop, ∀ (u1 : Int) (u4 : Int) (τ : S0), (P u1 u4 τ ↔ (rg u1 → rg u4 → n_m τ → f_r [51, 52] [85, 86, 87, 88, 89, 90, 91] [] σ τ → ∀ (H : Heap) (locs : List Loc) (ls : Array Slot), KP g (MX g q lb τ) H → va_D A (MX g q lb τ) → va_S A s.heap H locs → lv_has ls 8 [(0, .ref (q 0)), (1, .int (I u1)), (4, .int (I u4))] → W p l e ({ frames := 3, cells := 0, slots := 0, locals := 86 }) s m [.ref (q 0), .int (I n1)].toArray below meth c H locs 0 0 (MQ below (QV g A (p_V (MX g q lb) [51, 52] [85, 86, 87, 88, 89, 90, 91] [] σ Q)) [.ref (q 0), .int (I n1)].toArray s 0 0 A) (F0 m 218 ls []))) := ⟨_, fun _ _ _ => Iff.rfl⟩
  refine (fun hw => ?_) (hw P51 P73 P191 P218 ?_ ?_ ?_ ?_)
  ·
    refine lv_aload_n hx hb dX13_lookAt_0 rfl (lv_at hl 0 rfl) ?_
    refine gfX13_nodeFrom hx hb hts hK hP hown (hts _ tw_2151) dX13_lookAt_1 ?_
    refine lv_iload_n hx hb dX13_lookAt_4 rfl (lv_at hl 1 rfl) ?_
    obtain ⟨c1, hw⟩ := hw
    refine ldMX13_nodeFrom hx hb hK hP hN c1 dX13_lookAt_5 (fun x2 r_x2 e_x2 => ?_)
    replace hw := hw x2 r_x2 e_x2
    refine lv_istore_n (lv' := [(2, .int (I x2)), (0, .ref (q 0)), (1, .int (I n1))]) hx hb dX13_lookAt_6 rfl hl (by decide) rfl (fun ls hl => ?_)
    refine lv_aload_n hx hb dX13_lookAt_7 rfl (lv_at hl 1 rfl) ?_
    refine gfX13_nodeTo hx hb hts hK hP hown (hts _ tw_2152) dX13_lookAt_8 ?_
    refine lv_iload_n hx hb dX13_lookAt_11 rfl (lv_at hl 2 rfl) ?_
    refine ldMX13_nodeTo hx hb hK hP hN c1 dX13_lookAt_12 (fun x3 r_x3 e_x3 => ?_)
    replace hw := hw x3 r_x3 e_x3
    refine lv_istore_n (lv' := [(3, .int (I x3)), (2, .int (I x2)), (0, .ref (q 0)), (1, .int (I n1))]) hx hb dX13_lookAt_13 rfl hl (by decide) rfl (fun ls hl => ?_)
    refine lv_iload_n hx hb dX13_lookAt_14 rfl (lv_at hl 0 rfl) ?_
    refine lv_iload_n hx hb dX13_lookAt_15 rfl (lv_at hl 1 rfl) ?_
    refine lv_iconst (v := I 1) hx hb dX13_lookAt_16 rfl ?_
    refine bi_iadd hx hb dX13_lookAt_17 ?_
    obtain ⟨c4, hw⟩ := hw
    refine bi_icmp_ne (tgt := 51) hx hb r_x3 c4 dX13_lookAt_18 (by decide) (fun c5 => ?_) (fun c5 => ?_)
    ·
      replace hw := hw.1 c5
      exact (hP51 _ _ _ _).mp hw r_n1 r_x2 r_x3 hN hF H locs ls hP hD hS (lv_sub hl [2, 3, 1, 0] rfl)
    ·
      replace hw := hw.2 c5
      refine lv_aload_n hx hb dX13_lookAt_21 rfl (lv_at hl 2 rfl) ?_
      refine gfX13_leafSort hx hb hts hK hP hown (hts _ tw_2127) dX13_lookAt_22 ?_
      refine lv_iload_n hx hb dX13_lookAt_25 rfl (lv_at hl 1 rfl) ?_
      obtain ⟨c6, hw⟩ := hw
      refine ldMX13_leafSort hx hb hK hP hN c6 dX13_lookAt_26 (fun x7 r_x7 e_x7 => ?_)
      replace hw := hw x7 r_x7 e_x7
      refine lv_aload_n hx hb dX13_lookAt_27 rfl (lv_at hl 2 rfl) ?_
      refine gfX13_nodeSort hx hb hts hK hP hown (hts _ tw_2153) dX13_lookAt_28 ?_
      refine lv_iload_n hx hb dX13_lookAt_31 rfl (lv_at hl 3 rfl) ?_
      refine ldMX13_nodeSort hx hb hK hP hN c1 dX13_lookAt_32 (fun x8 r_x8 e_x8 => ?_)
      replace hw := hw x8 r_x8 e_x8
      refine bi_icmp_ne (tgt := 51) hx hb r_x7 r_x8 dX13_lookAt_33 (by decide) (fun c9 => ?_) (fun c9 => ?_)
      ·
        replace hw := hw.1 c9
        exact (hP51 _ _ _ _).mp hw r_n1 r_x2 r_x3 hN hF H locs ls hP hD hS (lv_sub hl [2, 3, 1, 0] rfl)
      ·
        replace hw := hw.2 c9
        refine lv_aload_n hx hb dX13_lookAt_36 rfl (lv_at hl 2 rfl) ?_
        refine gfX13_nodeIs hx hb hts hK hP hown (hts _ tw_2149) dX13_lookAt_37 ?_
        refine lv_iload_n hx hb dX13_lookAt_40 rfl (lv_at hl 3 rfl) ?_
        refine lv_iconst (v := I (-1)) hx hb dX13_lookAt_41 rfl ?_
        refine lv_aload_n hx hb dX13_lookAt_42 rfl (lv_at hl 2 rfl) ?_
        refine gfX13_leafIs hx hb hts hK hP hown (hts _ tw_2128) dX13_lookAt_43 ?_
        refine lv_iload_n hx hb dX13_lookAt_46 rfl (lv_at hl 1 rfl) ?_
        refine ldMX13_leafIs hx hb hK hP hN c6 dX13_lookAt_47 (fun x10 r_x10 e_x10 => ?_)
        replace hw := hw x10 r_x10 e_x10
        refine bi_isub hx hb dX13_lookAt_48 ?_
        obtain ⟨c11, hw⟩ := hw
        refine sdMX13_nodeIs hx hb hK hP hD hS c1 dX13_lookAt_49 (fun H locs hP hD hS => ?_)
        have hN : n_m (s_a σ 86 n1 ((-1) - x10)) := n_a (k := 86) (j := n1) hN (c11 : rg ((-1) - x10))
        have hF : f_r [51, 52] [85, 86, 87, 88, 89, 90, 91] [] σ (s_a σ 86 n1 ((-1) - x10)) := f_a hF (by decide)
        exact xrv hx hb hr hlk hP hK hD hS ⟨_, hN, hF, rfl, hw⟩ (Nat.le_of_ble_eq_true rfl) (Nat.le_of_ble_eq_true rfl) dX13_lookAt_50
  ·
    intro u1 u2 u3 τ hw
    refine (hP51 _ _ _ _).mpr ?_
    intro r_u1 r_u2 r_u3 hN hF H locs ls hP hD hS hl
    have hB := hN
    refine lv_aload_n hx hb dX13_lookAt_51 rfl (lv_at hl 0 rfl) ?_
    refine gfX13_madeBy hx hb hts hK hP hown (hts _ tw_2131) dX13_lookAt_52 ?_
    refine lv_aload_n hx hb dX13_lookAt_55 rfl (lv_at hl 0 rfl) ?_
    refine lv_aload_n hx hb dX13_lookAt_56 rfl (lv_at hl 0 rfl) ?_
    refine gfX13_nodeSort hx hb hts hK hP hown (hts _ tw_2153) dX13_lookAt_57 ?_
    refine lv_iload_n hx hb dX13_lookAt_60 rfl (lv_at hl 1 rfl) ?_
    obtain ⟨c12, hw⟩ := hw
    refine ldMX13_nodeSort hx hb hK hP hN c12 dX13_lookAt_61 (fun x13 r_x13 e_x13 => ?_)
    replace hw := hw x13 r_x13 e_x13
    refine lv_iload_n hx hb dX13_lookAt_62 rfl (lv_at hl 2 rfl) ?_
    refine lv_iload_n hx hb dX13_lookAt_63 rfl (lv_at hl 3 rfl) ?_
    obtain ⟨Q14, hc, hw⟩ := hw
    refine wc_i (X := MX g q lb) (va_runV (As := [.int (I x13), .int (I u2), .int (I u3)]) (rest := [.ref (q 80)]) ⟨hx, hb, hml, hown, hts⟩ (L_X13_wayAt l g q lb hlb r_x13 r_u2 r_u3 hN hc H.size) (cwV 3 hts (TB_V tw_2956 tw_2958 ts_184 tw_15 co_X13_wayAt) rfl rfl rfl (by decide +kernel) ⟨Nat.le_of_ble_eq_true rfl, Nat.le_of_ble_eq_true rfl⟩) (preV (q0 := 0) (ci := 13) rfl xT_bl hP hK hNb hD rfl rfl xT_at) rfl rfl hl.1 rfl (lv_room (Nat.le_of_ble_eq_true rfl)) dX13_lookAt_64 ⟨Nat.le_of_ble_eq_true rfl, Nat.le_of_ble_eq_true rfl⟩) hP hD hS hA (fun x15 H locs r_x15 hq hP hD hS => ?_)
    replace hw := hw x15 r_x15 hq
    obtain ⟨c17, hw⟩ := hw
    refine ldMX13_madeBy hx hb hK hP hN c17 dX13_lookAt_67 (fun x18 r_x18 e_x18 => ?_)
    replace hw := hw x18 r_x18 e_x18
    refine lv_istore (lv' := [(4, .int (I x18)), (0, .ref (q 0)), (1, .int (I u1)), (2, .int (I u2)), (3, .int (I u3))]) hx hb dX13_lookAt_68 hl (by decide) rfl (fun ls hl => ?_)
    refine lv_iconst (v := I 0) hx hb dX13_lookAt_70 rfl ?_
    refine lv_istore (lv' := [(5, .int (I 0)), (4, .int (I x18)), (0, .ref (q 0)), (1, .int (I u1)), (2, .int (I u2)), (3, .int (I u3))]) hx hb dX13_lookAt_71 hl (by decide) rfl (fun ls hl => ?_)
    exact (hP73 _ _ _ _ _ _).mp hw r_u1 r_u2 r_u3 r_x18 (by decide) hN hF H locs ls hP hD hS (lv_sub hl [2, 3, 4, 5, 1, 0] rfl)
  ·
    intro u1 u2 u3 u4 u5 τ hw
    refine (hP73 _ _ _ _ _ _).mpr ?_
    intro r_u1 r_u2 r_u3 r_u4 r_u5 hN hF H locs ls hP hD hS hl
    have hB := hN
    refine lv_iload hx hb dX13_lookAt_73 (lv_at hl 5 rfl) ?_
    refine lv_aload_n hx hb dX13_lookAt_75 rfl (lv_at hl 0 rfl) ?_
    refine gfX13_unitCount hx hb hts hK hP hown (hts _ tw_2145) (x := τ.1 48) rfl dX13_lookAt_76 ?_
    refine bi_icmp_ge (tgt := 218) hx hb r_u5 (hB.1 48) dX13_lookAt_79 (by decide) (fun c19 => ?_) (fun c19 => ?_)
    ·
      replace hw := hw.1 c19
      exact (hP218 _ _ _).mp hw r_u1 r_u4 hN hF H locs ls hP hD hS (lv_sub hl [0, 1, 4] rfl)
    ·
      replace hw := hw.2 c19
      refine lv_aload_n hx hb dX13_lookAt_82 rfl (lv_at hl 0 rfl) ?_
      refine gfX13_units hx hb hts hK hP hown (hts _ tw_2144) dX13_lookAt_83 ?_
      refine lv_iload hx hb dX13_lookAt_86 (lv_at hl 5 rfl) ?_
      obtain ⟨c20, hw⟩ := hw
      refine ldMX13_units hx hb hK hP hN c20 dX13_lookAt_88 (fun x21 r_x21 e_x21 => ?_)
      replace hw := hw x21 r_x21 e_x21
      refine lv_aload_n hx hb dX13_lookAt_89 rfl (lv_at hl 0 rfl) ?_
      refine gfX13_rowLimit hx hb hts hK hP hown (hts _ tw_2147) (x := τ.1 50) rfl dX13_lookAt_90 ?_
      refine bi_icmp_ge (tgt := 218) hx hb r_x21 (hB.1 50) dX13_lookAt_93 (by decide) (fun c22 => ?_) (fun c22 => ?_)
      ·
        replace hw := hw.1 c22
        exact (hP218 _ _ _).mp hw r_u1 r_u4 hN hF H locs ls hP hD hS (lv_sub hl [0, 1, 4] rfl)
      ·
        replace hw := hw.2 c22
        refine lv_iload hx hb dX13_lookAt_96 (lv_at hl 4 rfl) ?_
        refine lv_iconst (v := I (-1)) hx hb dX13_lookAt_98 rfl ?_
        refine bi_icmp_ne (tgt := 218) hx hb r_u4 (by decide) dX13_lookAt_99 (by decide) (fun c23 => ?_) (fun c23 => ?_)
        ·
          replace hw := hw.1 c23
          exact (hP218 _ _ _).mp hw r_u1 r_u4 hN hF H locs ls hP hD hS (lv_sub hl [0, 1, 4] rfl)
        ·
          replace hw := hw.2 c23
          refine lv_aload_n hx hb dX13_lookAt_102 rfl (lv_at hl 0 rfl) ?_
          refine gfX13_sortOf hx hb hts hK hP hown (hts _ tw_2124) dX13_lookAt_103 ?_
          refine lv_aload_n hx hb dX13_lookAt_106 rfl (lv_at hl 0 rfl) ?_
          refine gfX13_typeOf hx hb hts hK hP hown (hts _ tw_2020) dX13_lookAt_107 ?_
          refine lv_aload_n hx hb dX13_lookAt_110 rfl (lv_at hl 0 rfl) ?_
          refine gfX13_texts hx hb hts hK hP hown (hts _ tw_2028) dX13_lookAt_111 ?_
          refine lv_aload_n hx hb dX13_lookAt_114 rfl (lv_at hl 0 rfl) ?_
          refine gfX13_textAt hx hb hts hK hP hown (hts _ tw_2026) dX13_lookAt_115 ?_
          refine lv_aload_n hx hb dX13_lookAt_118 rfl (lv_at hl 0 rfl) ?_
          refine gfX13_units hx hb hts hK hP hown (hts _ tw_2144) dX13_lookAt_119 ?_
          refine lv_iload hx hb dX13_lookAt_122 (lv_at hl 5 rfl) ?_
          refine ldMX13_units hx hb hK hP hN c20 dX13_lookAt_124 (fun x24 r_x24 e_x24 => ?_)
          replace hw := hw x24 r_x24 e_x24
          obtain ⟨c25, hw⟩ := hw
          refine ldMX13_textAt hx hb hK hP hN c25 dX13_lookAt_125 (fun x26 r_x26 e_x26 => ?_)
          replace hw := hw x26 r_x26 e_x26
          refine lv_iconst (v := I 1) hx hb dX13_lookAt_126 rfl ?_
          refine bi_iadd hx hb dX13_lookAt_127 ?_
          obtain ⟨c27, hw⟩ := hw
          refine ldMX13_texts hx hb hK hP hN c27 dX13_lookAt_128 (fun x28 r_x28 e_x28 => ?_)
          replace hw := hw x28 r_x28 e_x28
          obtain ⟨c29, hw⟩ := hw
          refine ldMX13_typeOf hx hb hK hP hN c29 dX13_lookAt_129 (fun x30 r_x30 e_x30 => ?_)
          replace hw := hw x30 r_x30 e_x30
          obtain ⟨c31, hw⟩ := hw
          refine ldMX13_sortOf hx hb hK hP hN c31 dX13_lookAt_130 (fun x32 r_x32 e_x32 => ?_)
          replace hw := hw x32 r_x32 e_x32
          refine lv_istore (lv' := [(6, .int (I x32)), (0, .ref (q 0)), (1, .int (I u1)), (2, .int (I u2)), (3, .int (I u3)), (4, .int (I u4)), (5, .int (I u5))]) hx hb dX13_lookAt_131 hl (by decide) rfl (fun ls hl => ?_)
          refine lv_aload_n hx hb dX13_lookAt_133 rfl (lv_at hl 1 rfl) ?_
          refine gfX13_sortOf hx hb hts hK hP hown (hts _ tw_2124) dX13_lookAt_134 ?_
          refine lv_aload_n hx hb dX13_lookAt_137 rfl (lv_at hl 1 rfl) ?_
          refine gfX13_texts hx hb hts hK hP hown (hts _ tw_2028) dX13_lookAt_138 ?_
          refine lv_aload_n hx hb dX13_lookAt_141 rfl (lv_at hl 1 rfl) ?_
          refine gfX13_textAt hx hb hts hK hP hown (hts _ tw_2026) dX13_lookAt_142 ?_
          refine lv_aload_n hx hb dX13_lookAt_145 rfl (lv_at hl 1 rfl) ?_
          refine gfX13_units hx hb hts hK hP hown (hts _ tw_2144) dX13_lookAt_146 ?_
          refine lv_iload hx hb dX13_lookAt_149 (lv_at hl 6 rfl) ?_
          refine ldMX13_units hx hb hK hP hN c20 dX13_lookAt_151 (fun x33 r_x33 e_x33 => ?_)
          replace hw := hw x33 r_x33 e_x33
          obtain ⟨c34, hw⟩ := hw
          refine ldMX13_textAt hx hb hK hP hN c34 dX13_lookAt_152 (fun x35 r_x35 e_x35 => ?_)
          replace hw := hw x35 r_x35 e_x35
          obtain ⟨c36, hw⟩ := hw
          refine ldMX13_texts hx hb hK hP hN c36 dX13_lookAt_153 (fun x37 r_x37 e_x37 => ?_)
          replace hw := hw x37 r_x37 e_x37
          obtain ⟨c38, hw⟩ := hw
          refine ldMX13_sortOf hx hb hK hP hN c38 dX13_lookAt_154 (fun x39 r_x39 e_x39 => ?_)
          replace hw := hw x39 r_x39 e_x39
          refine lv_aload_n hx hb dX13_lookAt_155 rfl (lv_at hl 1 rfl) ?_
          refine gfX13_nodeSort hx hb hts hK hP hown (hts _ tw_2153) dX13_lookAt_156 ?_
          refine lv_iload_n hx hb dX13_lookAt_159 rfl (lv_at hl 2 rfl) ?_
          obtain ⟨c40, hw⟩ := hw
          refine ldMX13_nodeSort hx hb hK hP hN c40 dX13_lookAt_160 (fun x41 r_x41 e_x41 => ?_)
          replace hw := hw x41 r_x41 e_x41
          refine bi_icmp_ne (tgt := 190) hx hb r_x39 r_x41 dX13_lookAt_161 (by decide) (fun c42 => ?_) (fun c42 => ?_)
          ·
            replace hw := hw.1 c42
            refine lv_iconst (v := I 0) hx hb dX13_lookAt_190 rfl ?_
            exact (hP191 _ _ _ _ _ _ _).mp hw r_u1 r_u2 r_u3 r_u4 r_u5 (by decide) hN hF H locs ls hP hD hS (lv_sub hl [1, 2, 3, 4, 5, 6] rfl)
          ·
            replace hw := hw.2 c42
            refine lv_iload hx hb dX13_lookAt_164 (lv_at hl 0 rfl) ?_
            refine lv_iconst (v := I (-1)) hx hb dX13_lookAt_166 rfl ?_
            refine bi_icmp_eq (tgt := 190) hx hb r_x32 (by decide) dX13_lookAt_167 (by decide) (fun c43 => ?_) (fun c43 => ?_)
            ·
              replace hw := hw.1 c43
              refine lv_iconst (v := I 0) hx hb dX13_lookAt_190 rfl ?_
              exact (hP191 _ _ _ _ _ _ _).mp hw r_u1 r_u2 r_u3 r_u4 r_u5 (by decide) hN hF H locs ls hP hD hS (lv_sub hl [1, 2, 3, 4, 5, 6] rfl)
            ·
              replace hw := hw.2 c43
              refine lv_aload_n hx hb dX13_lookAt_170 rfl (lv_at hl 1 rfl) ?_
              refine gfX13_ways hx hb hts hK hP hown (hts _ tw_2129) dX13_lookAt_171 ?_
              refine lv_aload_n hx hb dX13_lookAt_174 rfl (lv_at hl 1 rfl) ?_
              refine lv_iload hx hb dX13_lookAt_175 (lv_at hl 0 rfl) ?_
              refine lv_iload_n hx hb dX13_lookAt_177 rfl (lv_at hl 3 rfl) ?_
              refine lv_iload_n hx hb dX13_lookAt_178 rfl (lv_at hl 4 rfl) ?_
              obtain ⟨Q44, hc, hw⟩ := hw
              refine wc_i (X := MX g q lb) (va_runV (As := [.int (I x32), .int (I u2), .int (I u3)]) (rest := [.ref (q 79)]) ⟨hx, hb, hml, hown, hts⟩ (L_X13_wayAt l g q lb hlb r_x32 r_u2 r_u3 hN hc H.size) (cwV 3 hts (TB_V tw_2956 tw_2958 ts_184 tw_15 co_X13_wayAt) rfl rfl rfl (by decide +kernel) ⟨Nat.le_of_ble_eq_true rfl, Nat.le_of_ble_eq_true rfl⟩) (preV (q0 := 0) (ci := 13) rfl xT_bl hP hK hNb hD rfl rfl xT_at) rfl rfl hl.1 rfl (lv_room (Nat.le_of_ble_eq_true rfl)) dX13_lookAt_179 ⟨Nat.le_of_ble_eq_true rfl, Nat.le_of_ble_eq_true rfl⟩) hP hD hS hA (fun x45 H locs r_x45 hq hP hD hS => ?_)
              replace hw := hw x45 r_x45 hq
              obtain ⟨c47, hw⟩ := hw
              refine ldMX13_ways hx hb hK hP hN c47 dX13_lookAt_182 (fun x48 r_x48 e_x48 => ?_)
              replace hw := hw x48 r_x48 e_x48
              refine bi_if_le (tgt := 190) hx hb r_x48 dX13_lookAt_183 (by decide) (fun c49 => ?_) (fun c49 => ?_)
              ·
                replace hw := hw.1 c49
                refine lv_iconst (v := I 0) hx hb dX13_lookAt_190 rfl ?_
                exact (hP191 _ _ _ _ _ _ _).mp hw r_u1 r_u2 r_u3 r_u4 r_u5 (by decide) hN hF H locs ls hP hD hS (lv_sub hl [1, 2, 3, 4, 5, 6] rfl)
              ·
                replace hw := hw.2 c49
                refine lv_iconst (v := I 1) hx hb dX13_lookAt_186 rfl ?_
                refine lv_goto (tgt := 191) hx hb dX13_lookAt_187 (by decide) ?_
                exact (hP191 _ _ _ _ _ _ _).mp hw r_u1 r_u2 r_u3 r_u4 r_u5 (by decide) hN hF H locs ls hP hD hS (lv_sub hl [1, 2, 3, 4, 5, 6] rfl)
  ·
    intro u1 u2 u3 u4 u5 k0 τ hw
    refine (hP191 _ _ _ _ _ _ _).mpr ?_
    intro r_u1 r_u2 r_u3 r_u4 r_u5 r_k0 hN hF H locs ls hP hD hS hl
    have hB := hN
    refine lv_istore (lv' := [(7, .int (I k0)), (0, .ref (q 0)), (1, .int (I u1)), (2, .int (I u2)), (3, .int (I u3)), (4, .int (I u4)), (5, .int (I u5))]) hx hb dX13_lookAt_191 hl (by decide) rfl (fun ls hl => ?_)
    refine lv_iload hx hb dX13_lookAt_193 (lv_at hl 0 rfl) ?_
    refine bi_if_eq (tgt := 208) hx hb r_k0 dX13_lookAt_195 (by decide) (fun c54 => ?_) (fun c54 => ?_)
    ·
      replace hw := hw.1 c54
      refine lv_iload hx hb dX13_lookAt_208 (lv_at hl 5 rfl) ?_
      refine lv_istore (lv' := [(4, .int (I u4)), (7, .int (I k0)), (0, .ref (q 0)), (1, .int (I u1)), (2, .int (I u2)), (3, .int (I u3)), (5, .int (I u5))]) hx hb dX13_lookAt_210 hl (by decide) rfl (fun ls hl => ?_)
      refine lv_iinc (v := I (u5 + 1)) (lv' := [(5, .int (I (u5 + 1))), (4, .int (I u4)), (7, .int (I k0)), (0, .ref (q 0)), (1, .int (I u1)), (2, .int (I u2)), (3, .int (I u3))]) hx hb dX13_lookAt_212 hl (k := 6) rfl (I_add _ _) (by decide) rfl (fun ls hl => ?_)
      refine lv_goto (tgt := 73) hx hb dX13_lookAt_215 (by decide) ?_
      obtain ⟨c55, hw⟩ := hw
      exact (hP73 _ _ _ _ _ _).mp hw r_u1 r_u2 r_u3 r_u4 c55 hN hF H locs ls hP hD hS (lv_sub hl [3, 4, 5, 6, 1, 0] rfl)
    ·
      replace hw := hw.2 c54
      refine lv_aload_n hx hb dX13_lookAt_198 rfl (lv_at hl 1 rfl) ?_
      refine gfX13_units hx hb hts hK hP hown (hts _ tw_2144) dX13_lookAt_199 ?_
      refine lv_iload hx hb dX13_lookAt_202 (lv_at hl 6 rfl) ?_
      obtain ⟨c56, hw⟩ := hw
      refine ldMX13_units hx hb hK hP hN c56 dX13_lookAt_204 (fun x57 r_x57 e_x57 => ?_)
      replace hw := hw x57 r_x57 e_x57
      refine lv_goto (tgt := 210) hx hb dX13_lookAt_205 (by decide) ?_
      refine lv_istore (lv' := [(4, .int (I x57)), (7, .int (I k0)), (0, .ref (q 0)), (1, .int (I u1)), (2, .int (I u2)), (3, .int (I u3)), (5, .int (I u5))]) hx hb dX13_lookAt_210 hl (by decide) rfl (fun ls hl => ?_)
      refine lv_iinc (v := I (u5 + 1)) (lv' := [(5, .int (I (u5 + 1))), (4, .int (I x57)), (7, .int (I k0)), (0, .ref (q 0)), (1, .int (I u1)), (2, .int (I u2)), (3, .int (I u3))]) hx hb dX13_lookAt_212 hl (k := 6) rfl (I_add _ _) (by decide) rfl (fun ls hl => ?_)
      refine lv_goto (tgt := 73) hx hb dX13_lookAt_215 (by decide) ?_
      obtain ⟨c58, hw⟩ := hw
      exact (hP73 _ _ _ _ _ _).mp hw r_u1 r_u2 r_u3 r_x57 c58 hN hF H locs ls hP hD hS (lv_sub hl [3, 4, 5, 6, 1, 0] rfl)
  ·
    intro u1 u4 τ hw
    refine (hP218 _ _ _).mpr ?_
    intro r_u1 r_u4 hN hF H locs ls hP hD hS hl
    have hB := hN
    refine lv_iload hx hb dX13_lookAt_218 (lv_at hl 2 rfl) ?_
    refine lv_iconst (v := I (-1)) hx hb dX13_lookAt_220 rfl ?_
    refine bi_icmp_eq (tgt := 231) hx hb r_u4 (by decide) dX13_lookAt_221 (by decide) (fun c50 => ?_) (fun c50 => ?_)
    ·
      replace hw := hw.1 c50
      exact xrv hx hb hr hlk hP hK hD hS ⟨_, hN, hF, rfl, hw⟩ (Nat.le_of_ble_eq_true rfl) (Nat.le_of_ble_eq_true rfl) dX13_lookAt_231
    ·
      replace hw := hw.2 c50
      refine lv_aload_n hx hb dX13_lookAt_224 rfl (lv_at hl 0 rfl) ?_
      refine lv_iload_n hx hb dX13_lookAt_225 rfl (lv_at hl 1 rfl) ?_
      refine lv_iload hx hb dX13_lookAt_226 (lv_at hl 2 rfl) ?_
      obtain ⟨Q51, hc, hw⟩ := hw
      refine wc_V (X := MX g q lb) (va_runV (As := [.int (I u1), .int (I u4)]) (rest := []) ⟨hx, hb, hml, hown, hts⟩ (L_X13_part l g q lb hlb r_u1 r_u4 hN hc H.size) (cwV 2 hts (TB_V tw_2995 tw_2997 ts_193 tw_15 co_X13_part) rfl rfl rfl (by decide +kernel) ⟨Nat.le_of_ble_eq_true rfl, Nat.le_of_ble_eq_true rfl⟩) (preV (q0 := 0) (ci := 13) rfl xT_bl hP hK hNb hD rfl rfl xT_at) rfl rfl hl.1 rfl (lv_room (Nat.le_of_ble_eq_true rfl)) dX13_lookAt_228 ⟨Nat.le_of_ble_eq_true rfl, Nat.le_of_ble_eq_true rfl⟩) hP hD hS hA (fun τ53 H locs hN hf hq hP hD hS => ?_)
      replace hw := hw τ53 hN hf hq
      have hF : f_r [51, 52] [85, 86, 87, 88, 89, 90, 91] [] σ τ53 := f_t hF hf (by decide) (by decide) (by decide)
      have hB := hN
      exact xrv hx hb hr hlk hP hK hD hS ⟨_, hN, hF, rfl, hw⟩ (Nat.le_of_ble_eq_true rfl) (Nat.le_of_ble_eq_true rfl) dX13_lookAt_231
def W_X13_makeTree (n1 : Int) (σ : S0) (Q : Int → S0 → Prop) : Prop :=
  ∀ (P13 : Int → Int → S0 → Prop),
  (∀ (u2 : Int) (u3 : Int) (τ : S0), ((τ.1 51 ≤ u3 → Q u2 τ) ∧ (u3 < τ.1 51 → ∃ (Q5 : S0 → Prop), W_X13_lookAt u3 τ Q5 ∧ ∀ (τ7 : S0), n_m τ7 → f_r [51, 52] [85, 86, 87, 88, 89, 90, 91] [] τ τ7 → Q5 τ7 → (rg (u3 + 1) ∧ P13 u2 (u3 + 1) τ7))) → P13 u2 u3 τ) →
  ∃ (Q1 : Int → S0 → Prop), W_X13_newNode n1 0 (σ.1 45) σ Q1 ∧ ∀ (x2 : Int) (τ3 : S0), rg x2 → n_m τ3 → f_r [51] [88, 89, 90] [] σ τ3 → Q1 x2 τ3 → (P13 x2 x2 τ3)
set_option maxRecDepth 100000 in
set_option maxHeartbeats 4000000 in
theorem L_X13_makeTree (l : Launch) (g : gG) (q : Nat → Nat) (lb : Nat) (hlb : lb < 2 ^ 31) {n1 : Int} {σ : S0} {Q : Int → S0 → Prop} (r_n1 : rg n1) (hN : n_m σ) (hw : W_X13_makeTree n1 σ Q) (sz : Nat) : MetI l yX13_makeTree cX13_makeTree 4 (some .int) { frames := 4, cells := 0, slots := 0, locals := 113 } g [.ref (q 0), .int (I n1)] (MX g q lb σ) sz xT (p_I (MX g q lb) [51, 52] [85, 86, 87, 88, 89, 90, 91] [] σ Q) 0 0 := by
  refine mkMet (Qc := fun A => QI g A (p_I (MX g q lb) [51, 52] [85, 86, 87, 88, 89, 90, 91] [] σ Q)) (by decide) (Nat.le_of_ble_eq_true rfl) ?_
  intro p e s m below meth c A H ls hx hb hr hml hown hts hlk hnm hsz hP hK hNb hD hA hAe hS hX hl
  have hl : lv_has ls 4 [(0, .ref (q 0)), (1, .int (I n1))] := hl
  have hB := hN
  have hF : f_r [51, 52] [85, 86, 87, 88, 89, 90, 91] [] σ σ := f_0
  obtain ⟨locs, hlocs⟩ : ∃ z : List Loc, z = [] := ⟨_, rfl⟩
  rw [← hlocs] at hS ⊢
  obtain ⟨P13, hP13⟩ : ∃ P : Int → Int → S0 → Prop, ∀ (u2 : Int) (u3 : Int) (τ : S0), (P u2 u3 τ ↔ (rg u2 → rg u3 → n_m τ → f_r [51, 52] [85, 86, 87, 88, 89, 90, 91] [] σ τ → ∀ (H : Heap) (locs : List Loc) (ls : Array Slot), KP g (MX g q lb τ) H → va_D A (MX g q lb τ) → va_S A s.heap H locs → lv_has ls 4 [(0, .ref (q 0)), (2, .int (I u2)), (3, .int (I u3))] → W p l e ({ frames := 4, cells := 0, slots := 0, locals := 113 }) s m [.ref (q 0), .int (I n1)].toArray below meth c H locs 0 0 (MQ below (QI g A (p_I (MX g q lb) [51, 52] [85, 86, 87, 88, 89, 90, 91] [] σ Q)) [.ref (q 0), .int (I n1)].toArray s 0 0 A) (F0 m 13 ls []))) := ⟨_, fun _ _ _ => Iff.rfl⟩
  refine (fun hw => ?_) (hw P13 ?_)
  ·
    refine lv_aload_n hx hb dX13_makeTree_0 rfl (lv_at hl 0 rfl) ?_
    refine lv_iload_n hx hb dX13_makeTree_1 rfl (lv_at hl 1 rfl) ?_
    refine lv_iconst (v := I 0) hx hb dX13_makeTree_2 rfl ?_
    refine lv_aload_n hx hb dX13_makeTree_3 rfl (lv_at hl 0 rfl) ?_
    refine gfX13_rowSize hx hb hts hK hP hown (hts _ tw_2126) (x := σ.1 45) rfl dX13_makeTree_4 ?_
    obtain ⟨Q1, hc, hw⟩ := hw
    refine wc_I (X := MX g q lb) (va_runV (As := [.int (I n1), .int (I 0), .int (I (σ.1 45))]) (rest := []) ⟨hx, hb, hml, hown, hts⟩ (L_X13_newNode l g q lb hlb r_n1 (by decide) (hB.1 45) hN hc H.size) (cwV 3 hts (TB_V tw_2987 tw_2989 ts_191 tw_15 co_X13_newNode) rfl rfl rfl (by decide +kernel) ⟨Nat.le_of_ble_eq_true rfl, Nat.le_of_ble_eq_true rfl⟩) (preV (q0 := 0) (ci := 13) rfl xT_bl hP hK hNb hD rfl rfl xT_at) rfl rfl hl.1 rfl (lv_room (Nat.le_of_ble_eq_true rfl)) dX13_makeTree_7 ⟨Nat.le_of_ble_eq_true rfl, Nat.le_of_ble_eq_true rfl⟩) hP hD hS hA (fun x2 τ3 H locs r_x2 hN hf hq hP hD hS => ?_)
    replace hw := hw x2 τ3 r_x2 hN hf hq
    have hF : f_r [51, 52] [85, 86, 87, 88, 89, 90, 91] [] σ τ3 := f_t hF hf (by decide) (by decide) (by decide)
    have hB := hN
    refine lv_istore_n (lv' := [(2, .int (I x2)), (0, .ref (q 0)), (1, .int (I n1))]) hx hb dX13_makeTree_10 rfl hl (by decide) rfl (fun ls hl => ?_)
    refine lv_iload_n hx hb dX13_makeTree_11 rfl (lv_at hl 0 rfl) ?_
    refine lv_istore_n (lv' := [(3, .int (I x2)), (2, .int (I x2)), (0, .ref (q 0)), (1, .int (I n1))]) hx hb dX13_makeTree_12 rfl hl (by decide) rfl (fun ls hl => ?_)
    exact (hP13 _ _ _).mp hw r_x2 r_x2 hN hF H locs ls hP hD hS (lv_sub hl [2, 1, 0] rfl)
  ·
    intro u2 u3 τ hw
    refine (hP13 _ _ _).mpr ?_
    intro r_u2 r_u3 hN hF H locs ls hP hD hS hl
    have hB := hN
    refine lv_iload_n hx hb dX13_makeTree_13 rfl (lv_at hl 2 rfl) ?_
    refine lv_aload_n hx hb dX13_makeTree_14 rfl (lv_at hl 0 rfl) ?_
    refine gfX13_nodes hx hb hts hK hP hown (hts _ tw_2155) (x := τ.1 51) rfl dX13_makeTree_15 ?_
    refine bi_icmp_ge (tgt := 32) hx hb r_u3 (hB.1 51) dX13_makeTree_18 (by decide) (fun c4 => ?_) (fun c4 => ?_)
    ·
      replace hw := hw.1 c4
      refine lv_iload_n hx hb dX13_makeTree_32 rfl (lv_at hl 1 rfl) ?_
      exact xri hx hb hr hlk hP hK hD hS ⟨_, _, r_u2, rfl, hN, hF, rfl, hw⟩ (Nat.le_of_ble_eq_true rfl) (Nat.le_of_ble_eq_true rfl) dX13_makeTree_33
    ·
      replace hw := hw.2 c4
      refine lv_aload_n hx hb dX13_makeTree_21 rfl (lv_at hl 0 rfl) ?_
      refine lv_iload_n hx hb dX13_makeTree_22 rfl (lv_at hl 2 rfl) ?_
      obtain ⟨Q5, hc, hw⟩ := hw
      refine wc_V (X := MX g q lb) (va_runV (As := [.int (I u3)]) (rest := []) ⟨hx, hb, hml, hown, hts⟩ (L_X13_lookAt l g q lb hlb r_u3 hN hc H.size) (cwV 1 hts (TB_V tw_2991 tw_2993 ts_192 tw_15 co_X13_lookAt) rfl rfl rfl (by decide +kernel) ⟨Nat.le_of_ble_eq_true rfl, Nat.le_of_ble_eq_true rfl⟩) (preV (q0 := 0) (ci := 13) rfl xT_bl hP hK hNb hD rfl rfl xT_at) rfl rfl hl.1 rfl (lv_room (Nat.le_of_ble_eq_true rfl)) dX13_makeTree_23 ⟨Nat.le_of_ble_eq_true rfl, Nat.le_of_ble_eq_true rfl⟩) hP hD hS hA (fun τ7 H locs hN hf hq hP hD hS => ?_)
      replace hw := hw τ7 hN hf hq
      have hF : f_r [51, 52] [85, 86, 87, 88, 89, 90, 91] [] σ τ7 := f_t hF hf (by decide) (by decide) (by decide)
      have hB := hN
      refine lv_iinc (v := I (u3 + 1)) (lv' := [(3, .int (I (u3 + 1))), (0, .ref (q 0)), (2, .int (I u2))]) hx hb dX13_makeTree_26 hl (k := 2) rfl (I_add _ _) (by decide) rfl (fun ls hl => ?_)
      refine lv_goto (tgt := 13) hx hb dX13_makeTree_29 (by decide) ?_
      obtain ⟨c8, hw⟩ := hw
      exact (hP13 _ _ _).mp hw r_u2 c8 hN hF H locs ls hP hD hS (lv_sub hl [1, 2, 0] rfl)
def W_X13_treeOf (n1 : Int) (σ : S0) (Q : Int → S0 → Prop) : Prop :=
  ∃ (Q1 : S0 → Prop), W_X13_takeStatement n1 σ Q1 ∧ ∀ (τ3 : S0), n_m τ3 → f_r [45, 46] [71, 72, 73, 74] [] σ τ3 → Q1 τ3 → ((0 ≤ n1 ∧ n1 < 1501) ∧ (∀ (x5 : Int), rg x5 → x5 = τ3.2.1 14 n1 → ((0 ≤ x5 ∧ x5 < 30400) ∧ (∀ (x7 : Int), rg x7 → x7 = τ3.2.1 16 x5 → (∃ (Q8 : Int → Prop), W_X13_treeSort x7 τ3 Q8 ∧ ∀ (x9 : Int), rg x9 → Q8 x9 → (∃ (Q11 : Int → S0 → Prop), W_X13_countWays x9 n1 τ3 Q11 ∧ ∀ (x12 : Int) (τ13 : S0), rg x12 → n_m τ13 → f_r [47, 48, 49, 50] [75, 76, 77, 78, 79, 80, 81, 82, 83, 84, 92, 93] [3, 4, 5, 6] τ3 τ13 → Q11 x12 τ13 → ((¬ x12 = 1 → Q (-1) (s_a τ13 94 n1 x12)) ∧ (x12 = 1 → ∃ (Q15 : Int → S0 → Prop), W_X13_makeTree x9 (s_a τ13 94 n1 x12) Q15 ∧ ∀ (x16 : Int) (τ17 : S0), rg x16 → n_m τ17 → f_r [51, 52] [85, 86, 87, 88, 89, 90, 91] [] (s_a τ13 94 n1 x12) τ17 → Q15 x16 τ17 → (Q x16 τ17)))))))))
set_option maxRecDepth 100000 in
set_option maxHeartbeats 4000000 in
theorem L_X13_treeOf (l : Launch) (g : gG) (q : Nat → Nat) (lb : Nat) (hlb : lb < 2 ^ 31) {n1 : Int} {σ : S0} {Q : Int → S0 → Prop} (r_n1 : rg n1) (hN : n_m σ) (hw : W_X13_treeOf n1 σ Q) (sz : Nat) : MetI l yX13_treeOf cX13_treeOf 4 (some .int) { frames := 5, cells := 0, slots := 0, locals := 136 } g [.ref (q 0), .int (I n1)] (MX g q lb σ) sz xT (p_I (MX g q lb) [45, 46, 47, 48, 49, 50, 51, 52] [71, 72, 73, 74, 75, 76, 77, 78, 79, 80, 81, 82, 83, 84, 85, 86, 87, 88, 89, 90, 91, 92, 93, 94] [3, 4, 5, 6] σ Q) 0 0 := by
  refine mkMet (Qc := fun A => QI g A (p_I (MX g q lb) [45, 46, 47, 48, 49, 50, 51, 52] [71, 72, 73, 74, 75, 76, 77, 78, 79, 80, 81, 82, 83, 84, 85, 86, 87, 88, 89, 90, 91, 92, 93, 94] [3, 4, 5, 6] σ Q)) (by decide) (Nat.le_of_ble_eq_true rfl) ?_
  intro p e s m below meth c A H ls hx hb hr hml hown hts hlk hnm hsz hP hK hNb hD hA hAe hS hX hl
  have hl : lv_has ls 4 [(0, .ref (q 0)), (1, .int (I n1))] := hl
  have hB := hN
  have hF : f_r [45, 46, 47, 48, 49, 50, 51, 52] [71, 72, 73, 74, 75, 76, 77, 78, 79, 80, 81, 82, 83, 84, 85, 86, 87, 88, 89, 90, 91, 92, 93, 94] [3, 4, 5, 6] σ σ := f_0
  obtain ⟨locs, hlocs⟩ : ∃ z : List Loc, z = [] := ⟨_, rfl⟩
  rw [← hlocs] at hS ⊢
  refine lv_aload_n hx hb dX13_treeOf_0 rfl (lv_at hl 0 rfl) ?_
  refine lv_iload_n hx hb dX13_treeOf_1 rfl (lv_at hl 1 rfl) ?_
  obtain ⟨Q1, hc, hw⟩ := hw
  refine wc_V (X := MX g q lb) (va_runV (As := [.int (I n1)]) (rest := []) ⟨hx, hb, hml, hown, hts⟩ (L_X13_takeStatement l g q lb hlb r_n1 hN hc H.size) (cwV 1 hts (TB_V tw_2912 tw_2914 ts_173 tw_15 co_X13_takeStatement) rfl rfl rfl (by decide +kernel) ⟨Nat.le_of_ble_eq_true rfl, Nat.le_of_ble_eq_true rfl⟩) (preV (q0 := 0) (ci := 13) rfl xT_bl hP hK hNb hD rfl rfl xT_at) rfl rfl hl.1 rfl (lv_room (Nat.le_of_ble_eq_true rfl)) dX13_treeOf_2 ⟨Nat.le_of_ble_eq_true rfl, Nat.le_of_ble_eq_true rfl⟩) hP hD hS hA (fun τ3 H locs hN hf hq hP hD hS => ?_)
  replace hw := hw τ3 hN hf hq
  have hF : f_r [45, 46, 47, 48, 49, 50, 51, 52] [71, 72, 73, 74, 75, 76, 77, 78, 79, 80, 81, 82, 83, 84, 85, 86, 87, 88, 89, 90, 91, 92, 93, 94] [3, 4, 5, 6] σ τ3 := f_t hF hf (by decide) (by decide) (by decide)
  have hB := hN
  refine lv_aload_n hx hb dX13_treeOf_5 rfl (lv_at hl 0 rfl) ?_
  refine lv_aload_n hx hb dX13_treeOf_6 rfl (lv_at hl 0 rfl) ?_
  refine gfX13_texts hx hb hts hK hP hown (hts _ tw_2028) dX13_treeOf_7 ?_
  refine lv_aload_n hx hb dX13_treeOf_10 rfl (lv_at hl 0 rfl) ?_
  refine gfX13_textAt hx hb hts hK hP hown (hts _ tw_2026) dX13_treeOf_11 ?_
  refine lv_iload_n hx hb dX13_treeOf_14 rfl (lv_at hl 1 rfl) ?_
  obtain ⟨c4, hw⟩ := hw
  refine ldMX13_textAt hx hb hK hP hN c4 dX13_treeOf_15 (fun x5 r_x5 e_x5 => ?_)
  replace hw := hw x5 r_x5 e_x5
  obtain ⟨c6, hw⟩ := hw
  refine ldMX13_texts hx hb hK hP hN c6 dX13_treeOf_16 (fun x7 r_x7 e_x7 => ?_)
  replace hw := hw x7 r_x7 e_x7
  obtain ⟨Q8, hc, hw⟩ := hw
  refine wc_i (X := MX g q lb) (va_runV (As := [.int (I x7)]) (rest := []) ⟨hx, hb, hml, hown, hts⟩ (L_X13_treeSort l g q lb hlb r_x7 hN hc H.size) (cwV 1 hts (TB_V tw_2924 tw_2926 ts_176 tw_15 co_X13_treeSort) rfl rfl rfl (by decide +kernel) ⟨Nat.le_of_ble_eq_true rfl, Nat.le_of_ble_eq_true rfl⟩) (preV (q0 := 0) (ci := 13) rfl xT_bl hP hK hNb hD rfl rfl xT_at) rfl rfl hl.1 rfl (lv_room (Nat.le_of_ble_eq_true rfl)) dX13_treeOf_17 ⟨Nat.le_of_ble_eq_true rfl, Nat.le_of_ble_eq_true rfl⟩) hP hD hS hA (fun x9 H locs r_x9 hq hP hD hS => ?_)
  replace hw := hw x9 r_x9 hq
  refine lv_istore_n (lv' := [(2, .int (I x9)), (0, .ref (q 0)), (1, .int (I n1))]) hx hb dX13_treeOf_20 rfl hl (by decide) rfl (fun ls hl => ?_)
  refine lv_aload_n hx hb dX13_treeOf_21 rfl (lv_at hl 1 rfl) ?_
  refine lv_iload_n hx hb dX13_treeOf_22 rfl (lv_at hl 0 rfl) ?_
  refine lv_iload_n hx hb dX13_treeOf_23 rfl (lv_at hl 2 rfl) ?_
  obtain ⟨Q11, hc, hw⟩ := hw
  refine wc_I (X := MX g q lb) (va_runV (As := [.int (I x9), .int (I n1)]) (rest := []) ⟨hx, hb, hml, hown, hts⟩ (L_X13_countWays l g q lb hlb r_x9 r_n1 hN hc H.size) (cwV 2 hts (TB_V tw_2928 tw_2930 ts_177 tw_15 co_X13_countWays) rfl rfl rfl (by decide +kernel) ⟨Nat.le_of_ble_eq_true rfl, Nat.le_of_ble_eq_true rfl⟩) (preV (q0 := 0) (ci := 13) rfl xT_bl hP hK hNb hD rfl rfl xT_at) rfl rfl hl.1 rfl (lv_room (Nat.le_of_ble_eq_true rfl)) dX13_treeOf_24 ⟨Nat.le_of_ble_eq_true rfl, Nat.le_of_ble_eq_true rfl⟩) hP hD hS hA (fun x12 τ13 H locs r_x12 hN hf hq hP hD hS => ?_)
  replace hw := hw x12 τ13 r_x12 hN hf hq
  have hF : f_r [45, 46, 47, 48, 49, 50, 51, 52] [71, 72, 73, 74, 75, 76, 77, 78, 79, 80, 81, 82, 83, 84, 85, 86, 87, 88, 89, 90, 91, 92, 93, 94] [3, 4, 5, 6] σ τ13 := f_t hF hf (by decide) (by decide) (by decide)
  have hB := hN
  refine lv_istore_n (lv' := [(3, .int (I x12)), (2, .int (I x9)), (0, .ref (q 0)), (1, .int (I n1))]) hx hb dX13_treeOf_27 rfl hl (by decide) rfl (fun ls hl => ?_)
  refine lv_aload_n hx hb dX13_treeOf_28 rfl (lv_at hl 2 rfl) ?_
  refine gfX13_treeCount hx hb hts hK hP hown (hts _ tw_2159) dX13_treeOf_29 ?_
  refine lv_iload_n hx hb dX13_treeOf_32 rfl (lv_at hl 3 rfl) ?_
  refine lv_iload_n hx hb dX13_treeOf_33 rfl (lv_at hl 0 rfl) ?_
  refine sdMX13_treeCount hx hb hK hP hD hS c4 dX13_treeOf_34 (fun H locs hP hD hS => ?_)
  have hN : n_m (s_a τ13 94 n1 x12) := n_a (k := 94) (j := n1) hN (r_x12 : rg x12)
  have hF : f_r [45, 46, 47, 48, 49, 50, 51, 52] [71, 72, 73, 74, 75, 76, 77, 78, 79, 80, 81, 82, 83, 84, 85, 86, 87, 88, 89, 90, 91, 92, 93, 94] [3, 4, 5, 6] σ (s_a τ13 94 n1 x12) := f_a hF (by decide)
  refine lv_iload_n hx hb dX13_treeOf_35 rfl (lv_at hl 0 rfl) ?_
  refine lv_iconst (v := I 1) hx hb dX13_treeOf_36 rfl ?_
  refine bi_icmp_ne (tgt := 48) hx hb r_x12 (by decide) dX13_treeOf_37 (by decide) (fun c14 => ?_) (fun c14 => ?_)
  ·
    replace hw := hw.1 c14
    refine lv_iconst (v := I (-1)) hx hb dX13_treeOf_48 rfl ?_
    exact xri hx hb hr hlk hP hK hD hS ⟨_, _, (by decide), rfl, hN, hF, rfl, hw⟩ (Nat.le_of_ble_eq_true rfl) (Nat.le_of_ble_eq_true rfl) dX13_treeOf_49
  ·
    replace hw := hw.2 c14
    refine lv_aload_n hx hb dX13_treeOf_40 rfl (lv_at hl 2 rfl) ?_
    refine lv_iload_n hx hb dX13_treeOf_41 rfl (lv_at hl 1 rfl) ?_
    obtain ⟨Q15, hc, hw⟩ := hw
    refine wc_I (X := MX g q lb) (va_runV (As := [.int (I x9)]) (rest := []) ⟨hx, hb, hml, hown, hts⟩ (L_X13_makeTree l g q lb hlb r_x9 hN hc H.size) (cwV 1 hts (TB_V tw_2983 tw_2985 ts_190 tw_15 co_X13_makeTree) rfl rfl rfl (by decide +kernel) ⟨Nat.le_of_ble_eq_true rfl, Nat.le_of_ble_eq_true rfl⟩) (preV (q0 := 0) (ci := 13) rfl xT_bl hP hK hNb hD rfl rfl xT_at) rfl rfl hl.1 rfl (lv_room (Nat.le_of_ble_eq_true rfl)) dX13_treeOf_42 ⟨Nat.le_of_ble_eq_true rfl, Nat.le_of_ble_eq_true rfl⟩) hP hD hS hA (fun x16 τ17 H locs r_x16 hN hf hq hP hD hS => ?_)
    replace hw := hw x16 τ17 r_x16 hN hf hq
    have hF : f_r [45, 46, 47, 48, 49, 50, 51, 52] [71, 72, 73, 74, 75, 76, 77, 78, 79, 80, 81, 82, 83, 84, 85, 86, 87, 88, 89, 90, 91, 92, 93, 94] [3, 4, 5, 6] σ τ17 := f_t hF hf (by decide) (by decide) (by decide)
    have hB := hN
    refine lv_goto (tgt := 49) hx hb dX13_treeOf_45 (by decide) ?_
    exact xri hx hb hr hlk hP hK hD hS ⟨_, _, r_x16, rfl, hN, hF, rfl, hw⟩ (Nat.le_of_ble_eq_true rfl) (Nat.le_of_ble_eq_true rfl) dX13_treeOf_49
def W_X13_countTrees (n1 : Int) (σ : S0) (Q : Int → S0 → Prop) : Prop :=
  ∀ (P37 : Int → Int → Int → Int → Int → S0 → Prop) (P66 : Int → Int → Int → Int → Int → S0 → Prop) (P132 : Int → Int → Int → S0 → Prop),
  (∀ (u1 : Int) (u2 : Int) (u3 : Int) (u4 : Int) (u5 : Int) (τ : S0), ((24 ≤ u5 → P66 u1 u2 u3 u4 u2 τ) ∧ (u5 < 24 → (0 ≤ ((24 * u1) + u5) ∧ ((24 * u1) + u5) < 36024) ∧ (rg (u5 + 1) ∧ P37 u1 u2 u3 u4 (u5 + 1) (s_b τ 7 ((24 * u1) + u5) 0)))) → P37 u1 u2 u3 u4 u5 τ) →
  (∀ (u1 : Int) (u2 : Int) (u3 : Int) (u4 : Int) (u5 : Int) (τ : S0), ((τ.1 51 ≤ u5 → P132 u1 u2 u3 τ) ∧ (u5 < τ.1 51 → (u4 = (-1) → P132 u1 u2 u3 τ) ∧ (¬ u4 = (-1) → (0 ≤ u5 ∧ u5 < 60000) ∧ (∀ (x16 : Int), rg x16 → x16 = τ.2.1 86 u5 → ((x16 < 0 → rg (u5 + 1) ∧ P66 u1 u2 u3 u4 (u5 + 1) τ) ∧ (0 ≤ x16 → ∀ (x19 : Int), rg x19 → x19 = τ.2.1 86 u5 → (∀ (x20 : Int), rg x20 → (0 ≤ x19 → x20 = x19 / 64) → (x19 < 0 → x20 = -((-x19) / 64)) → ((0 ≤ ((24 * u1) + x20) ∧ ((24 * u1) + x20) < 36024) ∧ (∀ (x22 : Int64), x22 = τ.2.2 7 ((24 * u1) + x20) → (∀ (x23 : Int), rg x23 → x23 = τ.2.1 86 u5 → (∀ (x24 : Int), rg x24 → (0 ≤ x23 → x24 = x23 % 64) → (x23 < 0 → x24 = -((-x23) % 64)) → (rg (u5 + 1) ∧ P66 u1 u2 u3 u4 (u5 + 1) (s_b τ 7 ((24 * u1) + x20) (x22 ||| (j_shl 1 x24))))))))))))))) → P66 u1 u2 u3 u4 u5 τ) →
  (∀ (u1 : Int) (u2 : Int) (u3 : Int) (τ : S0), ((0 ≤ u1 ∧ u1 < 1501) ∧ (∀ (x27 : Int), rg x27 → x27 = τ.2.1 94 u1 → (Q x27 (s_v (s_v τ 51 u2) 52 u3)))) → P132 u1 u2 u3 τ) →
  (0 ≤ n1 ∧ n1 < 1501) ∧ (∀ (x2 : Int), rg x2 → x2 = σ.2.1 94 n1 → ((x2 = (-1) → ∃ (Q4 : Int → S0 → Prop), W_X13_treeOf n1 σ Q4 ∧ ∀ (x5 : Int) (τ6 : S0), rg x5 → n_m τ6 → f_r [45, 46, 47, 48, 49, 50, 51, 52] [71, 72, 73, 74, 75, 76, 77, 78, 79, 80, 81, 82, 83, 84, 85, 86, 87, 88, 89, 90, 91, 92, 93, 94] [3, 4, 5, 6] σ τ6 → Q4 x5 τ6 → (rg (σ.1 51) ∧ rg (σ.1 52) ∧ P37 n1 (σ.1 51) (σ.1 52) x5 0 τ6)) ∧ (¬ x2 = (-1) → ∀ (x9 : Int), rg x9 → x9 = σ.2.1 94 n1 → (Q x9 σ))))
set_option maxRecDepth 100000 in
set_option maxHeartbeats 4000000 in
theorem L_X13_countTrees (l : Launch) (g : gG) (q : Nat → Nat) (lb : Nat) (hlb : lb < 2 ^ 31) {n1 : Int} {σ : S0} {Q : Int → S0 → Prop} (r_n1 : rg n1) (hN : n_m σ) (hw : W_X13_countTrees n1 σ Q) (sz : Nat) : MetI l yX13_countTrees cX13_countTrees 6 (some .int) { frames := 6, cells := 0, slots := 0, locals := 159 } g [.ref (q 0), .int (I n1)] (MX g q lb σ) sz xT (p_I (MX g q lb) [45, 46, 47, 48, 49, 50, 51, 52] [71, 72, 73, 74, 75, 76, 77, 78, 79, 80, 81, 82, 83, 84, 85, 86, 87, 88, 89, 90, 91, 92, 93, 94] [3, 4, 5, 6, 7] σ Q) 0 0 := by
  refine mkMet (Qc := fun A => QI g A (p_I (MX g q lb) [45, 46, 47, 48, 49, 50, 51, 52] [71, 72, 73, 74, 75, 76, 77, 78, 79, 80, 81, 82, 83, 84, 85, 86, 87, 88, 89, 90, 91, 92, 93, 94] [3, 4, 5, 6, 7] σ Q)) (by decide) (Nat.le_of_ble_eq_true rfl) ?_
  intro p e s m below meth c A H ls hx hb hr hml hown hts hlk hnm hsz hP hK hNb hD hA hAe hS hX hl
  have hl : lv_has ls 6 [(0, .ref (q 0)), (1, .int (I n1))] := hl
  have hB := hN
  have hF : f_r [45, 46, 47, 48, 49, 50, 51, 52] [71, 72, 73, 74, 75, 76, 77, 78, 79, 80, 81, 82, 83, 84, 85, 86, 87, 88, 89, 90, 91, 92, 93, 94] [3, 4, 5, 6, 7] σ σ := f_0
  obtain ⟨locs, hlocs⟩ : ∃ z : List Loc, z = [] := ⟨_, rfl⟩
  rw [← hlocs] at hS ⊢
  obtain ⟨P37, hP37⟩ : ∃ P : Int → Int → Int → Int → Int → S0 → Prop, ∀ (u1 : Int) (u2 : Int) (u3 : Int) (u4 : Int) (u5 : Int) (τ : S0), (P u1 u2 u3 u4 u5 τ ↔ (rg u1 → rg u2 → rg u3 → rg u4 → rg u5 → n_m τ → f_r [45, 46, 47, 48, 49, 50, 51, 52] [71, 72, 73, 74, 75, 76, 77, 78, 79, 80, 81, 82, 83, 84, 85, 86, 87, 88, 89, 90, 91, 92, 93, 94] [3, 4, 5, 6, 7] σ τ → ∀ (H : Heap) (locs : List Loc) (ls : Array Slot), KP g (MX g q lb τ) H → va_D A (MX g q lb τ) → va_S A s.heap H locs → lv_has ls 6 [(0, .ref (q 0)), (1, .int (I u1)), (2, .int (I u2)), (3, .int (I u3)), (4, .int (I u4)), (5, .int (I u5))] → W p l e ({ frames := 6, cells := 0, slots := 0, locals := 159 }) s m [.ref (q 0), .int (I n1)].toArray below meth c H locs 0 0 (MQ below (QI g A (p_I (MX g q lb) [45, 46, 47, 48, 49, 50, 51, 52] [71, 72, 73, 74, 75, 76, 77, 78, 79, 80, 81, 82, 83, 84, 85, 86, 87, 88, 89, 90, 91, 92, 93, 94] [3, 4, 5, 6, 7] σ Q)) [.ref (q 0), .int (I n1)].toArray s 0 0 A) (F0 m 37 ls []))) := ⟨_, fun _ _ _ _ _ _ => Iff.rfl⟩
  obtain ⟨P66, hP66⟩ : ∃ P : Int → Int → Int → Int → Int → S0 → Prop, ∀ (u1 : Int) (u2 : Int) (u3 : Int) (u4 : Int) (u5 : Int) (τ : S0), (P u1 u2 u3 u4 u5 τ ↔ (rg u1 → rg u2 → rg u3 → rg u4 → rg u5 → n_m τ → f_r [45, 46, 47, 48, 49, 50, 51, 52] [71, 72, 73, 74, 75, 76, 77, 78, 79, 80, 81, 82, 83, 84, 85, 86, 87, 88, 89, 90, 91, 92, 93, 94] [3, 4, 5, 6, 7] σ τ → ∀ (H : Heap) (locs : List Loc) (ls : Array Slot), KP g (MX g q lb τ) H → va_D A (MX g q lb τ) → va_S A s.heap H locs → lv_has ls 6 [(0, .ref (q 0)), (1, .int (I u1)), (2, .int (I u2)), (3, .int (I u3)), (4, .int (I u4)), (5, .int (I u5))] → W p l e ({ frames := 6, cells := 0, slots := 0, locals := 159 }) s m [.ref (q 0), .int (I n1)].toArray below meth c H locs 0 0 (MQ below (QI g A (p_I (MX g q lb) [45, 46, 47, 48, 49, 50, 51, 52] [71, 72, 73, 74, 75, 76, 77, 78, 79, 80, 81, 82, 83, 84, 85, 86, 87, 88, 89, 90, 91, 92, 93, 94] [3, 4, 5, 6, 7] σ Q)) [.ref (q 0), .int (I n1)].toArray s 0 0 A) (F0 m 66 ls []))) := ⟨_, fun _ _ _ _ _ _ => Iff.rfl⟩
  obtain ⟨P132, hP132⟩ : ∃ P : Int → Int → Int → S0 → Prop, ∀ (u1 : Int) (u2 : Int) (u3 : Int) (τ : S0), (P u1 u2 u3 τ ↔ (rg u1 → rg u2 → rg u3 → n_m τ → f_r [45, 46, 47, 48, 49, 50, 51, 52] [71, 72, 73, 74, 75, 76, 77, 78, 79, 80, 81, 82, 83, 84, 85, 86, 87, 88, 89, 90, 91, 92, 93, 94] [3, 4, 5, 6, 7] σ τ → ∀ (H : Heap) (locs : List Loc) (ls : Array Slot), KP g (MX g q lb τ) H → va_D A (MX g q lb τ) → va_S A s.heap H locs → lv_has ls 6 [(0, .ref (q 0)), (1, .int (I u1)), (2, .int (I u2)), (3, .int (I u3))] → W p l e ({ frames := 6, cells := 0, slots := 0, locals := 159 }) s m [.ref (q 0), .int (I n1)].toArray below meth c H locs 0 0 (MQ below (QI g A (p_I (MX g q lb) [45, 46, 47, 48, 49, 50, 51, 52] [71, 72, 73, 74, 75, 76, 77, 78, 79, 80, 81, 82, 83, 84, 85, 86, 87, 88, 89, 90, 91, 92, 93, 94] [3, 4, 5, 6, 7] σ Q)) [.ref (q 0), .int (I n1)].toArray s 0 0 A) (F0 m 132 ls []))) := ⟨_, fun _ _ _ _ => Iff.rfl⟩
  refine (fun hw => ?_) (hw P37 P66 P132 ?_ ?_ ?_)
  ·
    refine lv_aload_n hx hb dX13_countTrees_0 rfl (lv_at hl 0 rfl) ?_
    refine gfX13_treeCount hx hb hts hK hP hown (hts _ tw_2159) dX13_countTrees_1 ?_
    refine lv_iload_n hx hb dX13_countTrees_4 rfl (lv_at hl 1 rfl) ?_
    obtain ⟨c1, hw⟩ := hw
    refine ldMX13_treeCount hx hb hK hP hN c1 dX13_countTrees_5 (fun x2 r_x2 e_x2 => ?_)
    replace hw := hw x2 r_x2 e_x2
    refine lv_iconst (v := I (-1)) hx hb dX13_countTrees_6 rfl ?_
    refine bi_icmp_eq (tgt := 17) hx hb r_x2 (by decide) dX13_countTrees_7 (by decide) (fun c3 => ?_) (fun c3 => ?_)
    ·
      replace hw := hw.1 c3
      refine lv_aload_n hx hb dX13_countTrees_17 rfl (lv_at hl 0 rfl) ?_
      refine gfX13_nodes hx hb hts hK hP hown (hts _ tw_2155) (x := σ.1 51) rfl dX13_countTrees_18 ?_
      refine lv_istore_n (lv' := [(2, .int (I (σ.1 51))), (0, .ref (q 0)), (1, .int (I n1))]) hx hb dX13_countTrees_21 rfl hl (by decide) rfl (fun ls hl => ?_)
      refine lv_aload_n hx hb dX13_countTrees_22 rfl (lv_at hl 1 rfl) ?_
      refine gfX13_kidCount hx hb hts hK hP hown (hts _ tw_2156) (x := σ.1 52) rfl dX13_countTrees_23 ?_
      refine lv_istore_n (lv' := [(3, .int (I (σ.1 52))), (2, .int (I (σ.1 51))), (0, .ref (q 0)), (1, .int (I n1))]) hx hb dX13_countTrees_26 rfl hl (by decide) rfl (fun ls hl => ?_)
      refine lv_aload_n hx hb dX13_countTrees_27 rfl (lv_at hl 2 rfl) ?_
      refine lv_iload_n hx hb dX13_countTrees_28 rfl (lv_at hl 3 rfl) ?_
      obtain ⟨Q4, hc, hw⟩ := hw
      refine wc_I (X := MX g q lb) (va_runV (As := [.int (I n1)]) (rest := []) ⟨hx, hb, hml, hown, hts⟩ (L_X13_treeOf l g q lb hlb r_n1 hN hc H.size) (cwV 1 hts (TB_V tw_2908 tw_2910 ts_172 tw_15 co_X13_treeOf) rfl rfl rfl (by decide +kernel) ⟨Nat.le_of_ble_eq_true rfl, Nat.le_of_ble_eq_true rfl⟩) (preV (q0 := 0) (ci := 13) rfl xT_bl hP hK hNb hD rfl rfl xT_at) rfl rfl hl.1 rfl (lv_room (Nat.le_of_ble_eq_true rfl)) dX13_countTrees_29 ⟨Nat.le_of_ble_eq_true rfl, Nat.le_of_ble_eq_true rfl⟩) hP hD hS hA (fun x5 τ6 H locs r_x5 hN hf hq hP hD hS => ?_)
      replace hw := hw x5 τ6 r_x5 hN hf hq
      have hF : f_r [45, 46, 47, 48, 49, 50, 51, 52] [71, 72, 73, 74, 75, 76, 77, 78, 79, 80, 81, 82, 83, 84, 85, 86, 87, 88, 89, 90, 91, 92, 93, 94] [3, 4, 5, 6, 7] σ τ6 := f_t hF hf (by decide) (by decide) (by decide)
      have hB := hN
      refine lv_istore (lv' := [(4, .int (I x5)), (3, .int (I (σ.1 52))), (2, .int (I (σ.1 51))), (0, .ref (q 0)), (1, .int (I n1))]) hx hb dX13_countTrees_32 hl (by decide) rfl (fun ls hl => ?_)
      refine lv_iconst (v := I 0) hx hb dX13_countTrees_34 rfl ?_
      refine lv_istore (lv' := [(5, .int (I 0)), (4, .int (I x5)), (3, .int (I (σ.1 52))), (2, .int (I (σ.1 51))), (0, .ref (q 0)), (1, .int (I n1))]) hx hb dX13_countTrees_35 hl (by decide) rfl (fun ls hl => ?_)
      obtain ⟨c7, hw⟩ := hw
      obtain ⟨c8, hw⟩ := hw
      exact (hP37 _ _ _ _ _ _).mp hw r_n1 c7 c8 r_x5 (by decide) hN hF H locs ls hP hD hS (lv_sub hl [4, 5, 3, 2, 1, 0] rfl)
    ·
      replace hw := hw.2 c3
      refine lv_aload_n hx hb dX13_countTrees_10 rfl (lv_at hl 0 rfl) ?_
      refine gfX13_treeCount hx hb hts hK hP hown (hts _ tw_2159) dX13_countTrees_11 ?_
      refine lv_iload_n hx hb dX13_countTrees_14 rfl (lv_at hl 1 rfl) ?_
      refine ldMX13_treeCount hx hb hK hP hN c1 dX13_countTrees_15 (fun x9 r_x9 e_x9 => ?_)
      replace hw := hw x9 r_x9 e_x9
      exact xri hx hb hr hlk hP hK hD hS ⟨_, _, r_x9, rfl, hN, hF, rfl, hw⟩ (Nat.le_of_ble_eq_true rfl) (Nat.le_of_ble_eq_true rfl) dX13_countTrees_16
  ·
    intro u1 u2 u3 u4 u5 τ hw
    refine (hP37 _ _ _ _ _ _).mpr ?_
    intro r_u1 r_u2 r_u3 r_u4 r_u5 hN hF H locs ls hP hD hS hl
    have hB := hN
    refine lv_iload hx hb dX13_countTrees_37 (lv_at hl 5 rfl) ?_
    refine lv_bipush (v := I 24) hx hb dX13_countTrees_39 (by decide) ?_
    refine bi_icmp_ge (tgt := 63) hx hb r_u5 (by decide) dX13_countTrees_41 (by decide) (fun c10 => ?_) (fun c10 => ?_)
    ·
      replace hw := hw.1 c10
      refine lv_iload_n hx hb dX13_countTrees_63 rfl (lv_at hl 2 rfl) ?_
      refine lv_istore (lv' := [(5, .int (I u2)), (0, .ref (q 0)), (1, .int (I u1)), (2, .int (I u2)), (3, .int (I u3)), (4, .int (I u4))]) hx hb dX13_countTrees_64 hl (by decide) rfl (fun ls hl => ?_)
      exact (hP66 _ _ _ _ _ _).mp hw r_u1 r_u2 r_u3 r_u4 r_u2 hN hF H locs ls hP hD hS (lv_sub hl [1, 2, 3, 4, 5, 0] rfl)
    ·
      replace hw := hw.2 c10
      refine lv_aload_n hx hb dX13_countTrees_44 rfl (lv_at hl 0 rfl) ?_
      refine gfX13_rulesIn hx hb hts hK hP hown (hts _ tw_2160) dX13_countTrees_45 ?_
      refine lv_bipush (v := I 24) hx hb dX13_countTrees_48 (by decide) ?_
      refine lv_iload_n hx hb dX13_countTrees_50 rfl (lv_at hl 1 rfl) ?_
      refine bi_imul hx hb dX13_countTrees_51 ?_
      refine lv_iload hx hb dX13_countTrees_52 (lv_at hl 5 rfl) ?_
      refine bi_iadd hx hb dX13_countTrees_54 ?_
      refine lv_lconst (v := 0) hx hb dX13_countTrees_55 (by decide) ?_
      obtain ⟨c11, hw⟩ := hw
      refine sdMX13_rulesIn hx hb hK hP hD hS c11 dX13_countTrees_56 (fun H locs hP hD hS => ?_)
      have hN : n_m (s_b τ 7 ((24 * u1) + u5) 0) := n_b (k := 7) (j := ((24 * u1) + u5)) (x := 0) hN
      have hF : f_r [45, 46, 47, 48, 49, 50, 51, 52] [71, 72, 73, 74, 75, 76, 77, 78, 79, 80, 81, 82, 83, 84, 85, 86, 87, 88, 89, 90, 91, 92, 93, 94] [3, 4, 5, 6, 7] σ (s_b τ 7 ((24 * u1) + u5) 0) := f_b hF (by decide)
      refine lv_iinc (v := I (u5 + 1)) (lv' := [(5, .int (I (u5 + 1))), (0, .ref (q 0)), (1, .int (I u1)), (2, .int (I u2)), (3, .int (I u3)), (4, .int (I u4))]) hx hb dX13_countTrees_57 hl (k := 5) rfl (I_add _ _) (by decide) rfl (fun ls hl => ?_)
      refine lv_goto (tgt := 37) hx hb dX13_countTrees_60 (by decide) ?_
      obtain ⟨c12, hw⟩ := hw
      exact (hP37 _ _ _ _ _ _).mp hw r_u1 r_u2 r_u3 r_u4 c12 hN hF H locs ls hP hD hS (lv_sub hl [1, 2, 3, 4, 5, 0] rfl)
  ·
    intro u1 u2 u3 u4 u5 τ hw
    refine (hP66 _ _ _ _ _ _).mpr ?_
    intro r_u1 r_u2 r_u3 r_u4 r_u5 hN hF H locs ls hP hD hS hl
    have hB := hN
    refine lv_iload hx hb dX13_countTrees_66 (lv_at hl 5 rfl) ?_
    refine lv_aload_n hx hb dX13_countTrees_68 rfl (lv_at hl 0 rfl) ?_
    refine gfX13_nodes hx hb hts hK hP hown (hts _ tw_2155) (x := τ.1 51) rfl dX13_countTrees_69 ?_
    refine bi_icmp_ge (tgt := 132) hx hb r_u5 (hB.1 51) dX13_countTrees_72 (by decide) (fun c13 => ?_) (fun c13 => ?_)
    ·
      replace hw := hw.1 c13
      exact (hP132 _ _ _ _).mp hw r_u1 r_u2 r_u3 hN hF H locs ls hP hD hS (lv_sub hl [0, 1, 2, 3] rfl)
    ·
      replace hw := hw.2 c13
      refine lv_iload hx hb dX13_countTrees_75 (lv_at hl 4 rfl) ?_
      refine lv_iconst (v := I (-1)) hx hb dX13_countTrees_77 rfl ?_
      refine bi_icmp_eq (tgt := 132) hx hb r_u4 (by decide) dX13_countTrees_78 (by decide) (fun c14 => ?_) (fun c14 => ?_)
      ·
        replace hw := hw.1 c14
        exact (hP132 _ _ _ _).mp hw r_u1 r_u2 r_u3 hN hF H locs ls hP hD hS (lv_sub hl [0, 1, 2, 3] rfl)
      ·
        replace hw := hw.2 c14
        refine lv_aload_n hx hb dX13_countTrees_81 rfl (lv_at hl 0 rfl) ?_
        refine gfX13_nodeIs hx hb hts hK hP hown (hts _ tw_2149) dX13_countTrees_82 ?_
        refine lv_iload hx hb dX13_countTrees_85 (lv_at hl 5 rfl) ?_
        obtain ⟨c15, hw⟩ := hw
        refine ldMX13_nodeIs hx hb hK hP hN c15 dX13_countTrees_87 (fun x16 r_x16 e_x16 => ?_)
        replace hw := hw x16 r_x16 e_x16
        refine bi_if_lt (tgt := 126) hx hb r_x16 dX13_countTrees_88 (by decide) (fun c17 => ?_) (fun c17 => ?_)
        ·
          replace hw := hw.1 c17
          refine lv_iinc (v := I (u5 + 1)) (lv' := [(5, .int (I (u5 + 1))), (0, .ref (q 0)), (1, .int (I u1)), (2, .int (I u2)), (3, .int (I u3)), (4, .int (I u4))]) hx hb dX13_countTrees_126 hl (k := 5) rfl (I_add _ _) (by decide) rfl (fun ls hl => ?_)
          refine lv_goto (tgt := 66) hx hb dX13_countTrees_129 (by decide) ?_
          obtain ⟨c18, hw⟩ := hw
          exact (hP66 _ _ _ _ _ _).mp hw r_u1 r_u2 r_u3 r_u4 c18 hN hF H locs ls hP hD hS (lv_sub hl [1, 2, 3, 4, 5, 0] rfl)
        ·
          replace hw := hw.2 c17
          refine lv_aload_n hx hb dX13_countTrees_91 rfl (lv_at hl 0 rfl) ?_
          refine gfX13_rulesIn hx hb hts hK hP hown (hts _ tw_2160) dX13_countTrees_92 ?_
          refine lv_bipush (v := I 24) hx hb dX13_countTrees_95 (by decide) ?_
          refine lv_iload_n hx hb dX13_countTrees_97 rfl (lv_at hl 1 rfl) ?_
          refine bi_imul hx hb dX13_countTrees_98 ?_
          refine lv_aload_n hx hb dX13_countTrees_99 rfl (lv_at hl 0 rfl) ?_
          refine gfX13_nodeIs hx hb hts hK hP hown (hts _ tw_2149) dX13_countTrees_100 ?_
          refine lv_iload hx hb dX13_countTrees_103 (lv_at hl 5 rfl) ?_
          refine ldMX13_nodeIs hx hb hK hP hN c15 dX13_countTrees_105 (fun x19 r_x19 e_x19 => ?_)
          replace hw := hw x19 r_x19 e_x19
          refine lv_bipush (v := I 64) hx hb dX13_countTrees_106 (by decide) ?_
          refine bi_idiv hx hb r_x19 (by decide) (by decide) dX13_countTrees_108 (fun x20 r_x20 p_x20 m_x20 => ?_)
          replace hw := hw x20 r_x20 p_x20 m_x20
          refine bi_iadd hx hb dX13_countTrees_109 ?_
          refine lv_dup2_11 hx hb dX13_countTrees_110 rfl rfl ?_
          obtain ⟨c21, hw⟩ := hw
          refine ldMX13_rulesIn hx hb hK hP hN c21 dX13_countTrees_111 (fun x22 e_x22 => ?_)
          replace hw := hw x22 e_x22
          refine lv_lconst (v := 1) hx hb dX13_countTrees_112 (by decide) ?_
          refine lv_aload_n hx hb dX13_countTrees_113 rfl (lv_at hl 0 rfl) ?_
          refine gfX13_nodeIs hx hb hts hK hP hown (hts _ tw_2149) dX13_countTrees_114 ?_
          refine lv_iload hx hb dX13_countTrees_117 (lv_at hl 5 rfl) ?_
          refine ldMX13_nodeIs hx hb hK hP hN c15 dX13_countTrees_119 (fun x23 r_x23 e_x23 => ?_)
          replace hw := hw x23 r_x23 e_x23
          refine lv_bipush (v := I 64) hx hb dX13_countTrees_120 (by decide) ?_
          refine bi_irem hx hb r_x23 (by decide) (by decide) dX13_countTrees_122 (fun x24 r_x24 p_x24 m_x24 => ?_)
          replace hw := hw x24 r_x24 p_x24 m_x24
          refine bi_lshl hx hb dX13_countTrees_123 ?_
          refine lv_lor hx hb dX13_countTrees_124 ?_
          refine sdMX13_rulesIn hx hb hK hP hD hS c21 dX13_countTrees_125 (fun H locs hP hD hS => ?_)
          have hN : n_m (s_b τ 7 ((24 * u1) + x20) (x22 ||| (j_shl 1 x24))) := n_b (k := 7) (j := ((24 * u1) + x20)) (x := (x22 ||| (j_shl 1 x24))) hN
          have hF : f_r [45, 46, 47, 48, 49, 50, 51, 52] [71, 72, 73, 74, 75, 76, 77, 78, 79, 80, 81, 82, 83, 84, 85, 86, 87, 88, 89, 90, 91, 92, 93, 94] [3, 4, 5, 6, 7] σ (s_b τ 7 ((24 * u1) + x20) (x22 ||| (j_shl 1 x24))) := f_b hF (by decide)
          refine lv_iinc (v := I (u5 + 1)) (lv' := [(5, .int (I (u5 + 1))), (0, .ref (q 0)), (1, .int (I u1)), (2, .int (I u2)), (3, .int (I u3)), (4, .int (I u4))]) hx hb dX13_countTrees_126 hl (k := 5) rfl (I_add _ _) (by decide) rfl (fun ls hl => ?_)
          refine lv_goto (tgt := 66) hx hb dX13_countTrees_129 (by decide) ?_
          obtain ⟨c25, hw⟩ := hw
          exact (hP66 _ _ _ _ _ _).mp hw r_u1 r_u2 r_u3 r_u4 c25 hN hF H locs ls hP hD hS (lv_sub hl [1, 2, 3, 4, 5, 0] rfl)
  ·
    intro u1 u2 u3 τ hw
    refine (hP132 _ _ _ _).mpr ?_
    intro r_u1 r_u2 r_u3 hN hF H locs ls hP hD hS hl
    have hB := hN
    refine lv_aload_n hx hb dX13_countTrees_132 rfl (lv_at hl 0 rfl) ?_
    refine lv_iload_n hx hb dX13_countTrees_133 rfl (lv_at hl 2 rfl) ?_
    refine pfX13_nodes hx hb hts hK hP hD hS hown (hts _ tw_2155) dX13_countTrees_134 (fun H locs hP hD hS => ?_)
    have hN : n_m (s_v τ 51 u2) := n_v (i := 51) hN (r_u2 : rg u2)
    have hF : f_r [45, 46, 47, 48, 49, 50, 51, 52] [71, 72, 73, 74, 75, 76, 77, 78, 79, 80, 81, 82, 83, 84, 85, 86, 87, 88, 89, 90, 91, 92, 93, 94] [3, 4, 5, 6, 7] σ (s_v τ 51 u2) := f_v hF (by decide)
    refine lv_aload_n hx hb dX13_countTrees_137 rfl (lv_at hl 0 rfl) ?_
    refine lv_iload_n hx hb dX13_countTrees_138 rfl (lv_at hl 3 rfl) ?_
    refine pfX13_kidCount hx hb hts hK hP hD hS hown (hts _ tw_2156) dX13_countTrees_139 (fun H locs hP hD hS => ?_)
    have hN : n_m (s_v (s_v τ 51 u2) 52 u3) := n_v (i := 52) hN (r_u3 : rg u3)
    have hF : f_r [45, 46, 47, 48, 49, 50, 51, 52] [71, 72, 73, 74, 75, 76, 77, 78, 79, 80, 81, 82, 83, 84, 85, 86, 87, 88, 89, 90, 91, 92, 93, 94] [3, 4, 5, 6, 7] σ (s_v (s_v τ 51 u2) 52 u3) := f_v hF (by decide)
    refine lv_aload_n hx hb dX13_countTrees_142 rfl (lv_at hl 0 rfl) ?_
    refine gfX13_treeCount hx hb hts hK hP hown (hts _ tw_2159) dX13_countTrees_143 ?_
    refine lv_iload_n hx hb dX13_countTrees_146 rfl (lv_at hl 1 rfl) ?_
    obtain ⟨c26, hw⟩ := hw
    refine ldMX13_treeCount hx hb hK hP hN c26 dX13_countTrees_147 (fun x27 r_x27 e_x27 => ?_)
    replace hw := hw x27 r_x27 e_x27
    exact xri hx hb hr hlk hP hK hD hS ⟨_, _, r_x27, rfl, hN, hF, rfl, hw⟩ (Nat.le_of_ble_eq_true rfl) (Nat.le_of_ble_eq_true rfl) dX13_countTrees_148
def W_X13_trees (n1 : Int) (σ : S0) (Q : Int → S0 → Prop) : Prop :=
  ∃ (Q1 : Int → Prop), W_X13_isStatement n1 σ Q1 ∧ ∀ (x2 : Int), rg x2 → Q1 x2 → ((¬ x2 = 0 → (0 ≤ n1 ∧ n1 < 1501) ∧ (∀ (x6 : Int), rg x6 → x6 = σ.2.1 15 n1 → ((x6 ≤ 60 → ∃ (Q8 : Int → S0 → Prop), W_X13_countTrees n1 σ Q8 ∧ ∀ (x9 : Int) (τ10 : S0), rg x9 → n_m τ10 → f_r [45, 46, 47, 48, 49, 50, 51, 52] [71, 72, 73, 74, 75, 76, 77, 78, 79, 80, 81, 82, 83, 84, 85, 86, 87, 88, 89, 90, 91, 92, 93, 94] [3, 4, 5, 6, 7] σ τ10 → Q8 x9 τ10 → (Q x9 τ10)) ∧ (60 < x6 → Q (-2) σ)))) ∧ (x2 = 0 → Q (-1) σ))
set_option maxRecDepth 100000 in
set_option maxHeartbeats 4000000 in
theorem L_X13_trees (l : Launch) (g : gG) (q : Nat → Nat) (lb : Nat) (hlb : lb < 2 ^ 31) {n1 : Int} {σ : S0} {Q : Int → S0 → Prop} (r_n1 : rg n1) (hN : n_m σ) (hw : W_X13_trees n1 σ Q) (sz : Nat) : MetI l yX13_trees cX13_trees 2 (some .int) { frames := 7, cells := 0, slots := 0, locals := 184 } g [.ref (q 0), .int (I n1)] (MX g q lb σ) sz xT (p_I (MX g q lb) [45, 46, 47, 48, 49, 50, 51, 52] [71, 72, 73, 74, 75, 76, 77, 78, 79, 80, 81, 82, 83, 84, 85, 86, 87, 88, 89, 90, 91, 92, 93, 94] [3, 4, 5, 6, 7] σ Q) 0 0 := by
  refine mkMet (Qc := fun A => QI g A (p_I (MX g q lb) [45, 46, 47, 48, 49, 50, 51, 52] [71, 72, 73, 74, 75, 76, 77, 78, 79, 80, 81, 82, 83, 84, 85, 86, 87, 88, 89, 90, 91, 92, 93, 94] [3, 4, 5, 6, 7] σ Q)) (by decide) (Nat.le_of_ble_eq_true rfl) ?_
  intro p e s m below meth c A H ls hx hb hr hml hown hts hlk hnm hsz hP hK hNb hD hA hAe hS hX hl
  have hl : lv_has ls 2 [(0, .ref (q 0)), (1, .int (I n1))] := hl
  have hB := hN
  have hF : f_r [45, 46, 47, 48, 49, 50, 51, 52] [71, 72, 73, 74, 75, 76, 77, 78, 79, 80, 81, 82, 83, 84, 85, 86, 87, 88, 89, 90, 91, 92, 93, 94] [3, 4, 5, 6, 7] σ σ := f_0
  obtain ⟨locs, hlocs⟩ : ∃ z : List Loc, z = [] := ⟨_, rfl⟩
  rw [← hlocs] at hS ⊢
  refine lv_aload_n hx hb dX13_trees_0 rfl (lv_at hl 0 rfl) ?_
  refine lv_iload_n hx hb dX13_trees_1 rfl (lv_at hl 1 rfl) ?_
  obtain ⟨Q1, hc, hw⟩ := hw
  refine wc_i (X := MX g q lb) (va_runV (As := [.int (I n1)]) (rest := []) ⟨hx, hb, hml, hown, hts⟩ (L_X13_isStatement l g q lb hlb r_n1 hN hc H.size) (cwV 1 hts (TB_V tw_2803 tw_2805 ts_161 tw_15 co_X13_isStatement) rfl rfl rfl (by decide +kernel) ⟨Nat.le_of_ble_eq_true rfl, Nat.le_of_ble_eq_true rfl⟩) (preV (q0 := 0) (ci := 13) rfl xT_bl hP hK hNb hD rfl rfl xT_at) rfl rfl hl.1 rfl (lv_room (Nat.le_of_ble_eq_true rfl)) dX13_trees_2 ⟨Nat.le_of_ble_eq_true rfl, Nat.le_of_ble_eq_true rfl⟩) hP hD hS hA (fun x2 H locs r_x2 hq hP hD hS => ?_)
  replace hw := hw x2 r_x2 hq
  refine bi_if_ne (tgt := 12) hx hb r_x2 dX13_trees_5 (by decide) (fun c4 => ?_) (fun c4 => ?_)
  ·
    replace hw := hw.1 c4
    refine lv_aload_n hx hb dX13_trees_12 rfl (lv_at hl 0 rfl) ?_
    refine gfX13_textSize hx hb hts hK hP hown (hts _ tw_2027) dX13_trees_13 ?_
    refine lv_iload_n hx hb dX13_trees_16 rfl (lv_at hl 1 rfl) ?_
    obtain ⟨c5, hw⟩ := hw
    refine ldMX13_textSize hx hb hK hP hN c5 dX13_trees_17 (fun x6 r_x6 e_x6 => ?_)
    replace hw := hw x6 r_x6 e_x6
    refine lv_bipush (v := I 60) hx hb dX13_trees_18 (by decide) ?_
    refine bi_icmp_le (tgt := 28) hx hb r_x6 (by decide) dX13_trees_20 (by decide) (fun c7 => ?_) (fun c7 => ?_)
    ·
      replace hw := hw.1 c7
      refine lv_aload_n hx hb dX13_trees_28 rfl (lv_at hl 0 rfl) ?_
      refine lv_iload_n hx hb dX13_trees_29 rfl (lv_at hl 1 rfl) ?_
      obtain ⟨Q8, hc, hw⟩ := hw
      refine wc_I (X := MX g q lb) (va_runV (As := [.int (I n1)]) (rest := []) ⟨hx, hb, hml, hown, hts⟩ (L_X13_countTrees l g q lb hlb r_n1 hN hc H.size) (cwV 1 hts (TB_V tw_2904 tw_2906 ts_171 tw_15 co_X13_countTrees) rfl rfl rfl (by decide +kernel) ⟨Nat.le_of_ble_eq_true rfl, Nat.le_of_ble_eq_true rfl⟩) (preV (q0 := 0) (ci := 13) rfl xT_bl hP hK hNb hD rfl rfl xT_at) rfl rfl hl.1 rfl (lv_room (Nat.le_of_ble_eq_true rfl)) dX13_trees_30 ⟨Nat.le_of_ble_eq_true rfl, Nat.le_of_ble_eq_true rfl⟩) hP hD hS hA (fun x9 τ10 H locs r_x9 hN hf hq hP hD hS => ?_)
      replace hw := hw x9 τ10 r_x9 hN hf hq
      have hF : f_r [45, 46, 47, 48, 49, 50, 51, 52] [71, 72, 73, 74, 75, 76, 77, 78, 79, 80, 81, 82, 83, 84, 85, 86, 87, 88, 89, 90, 91, 92, 93, 94] [3, 4, 5, 6, 7] σ τ10 := f_t hF hf (by decide) (by decide) (by decide)
      have hB := hN
      exact xri hx hb hr hlk hP hK hD hS ⟨_, _, r_x9, rfl, hN, hF, rfl, hw⟩ (Nat.le_of_ble_eq_true rfl) (Nat.le_of_ble_eq_true rfl) dX13_trees_33
    ·
      replace hw := hw.2 c7
      refine lv_bipush (v := I (-2)) hx hb dX13_trees_23 (by decide) ?_
      refine lv_goto (tgt := 33) hx hb dX13_trees_25 (by decide) ?_
      exact xri hx hb hr hlk hP hK hD hS ⟨_, _, (by decide), rfl, hN, hF, rfl, hw⟩ (Nat.le_of_ble_eq_true rfl) (Nat.le_of_ble_eq_true rfl) dX13_trees_33
  ·
    replace hw := hw.2 c4
    refine lv_iconst (v := I (-1)) hx hb dX13_trees_8 rfl ?_
    refine lv_goto (tgt := 33) hx hb dX13_trees_9 (by decide) ?_
    exact xri hx hb hr hlk hP hK hD hS ⟨_, _, (by decide), rfl, hN, hF, rfl, hw⟩ (Nat.le_of_ble_eq_true rfl) (Nat.le_of_ble_eq_true rfl) dX13_trees_33
def W_X13_beginTrees (σ : S0) (Q : S0 → Prop) : Prop :=
  Q (s_v (s_v σ 51 0) 52 0)
set_option maxRecDepth 100000 in
set_option maxHeartbeats 4000000 in
theorem L_X13_beginTrees (l : Launch) (g : gG) (q : Nat → Nat) (lb : Nat) (hlb : lb < 2 ^ 31) {σ : S0} {Q : S0 → Prop} (hN : n_m σ) (hw : W_X13_beginTrees σ Q) (sz : Nat) : MetV l yX13_beginTrees cX13_beginTrees 1 { frames := 0, cells := 0, slots := 0, locals := 0 } g [.ref (q 0)] (MX g q lb σ) sz xT (p_V (MX g q lb) [51, 52] [] [] σ Q) 0 0 := by
  refine mkMet (Qc := fun A => QV g A (p_V (MX g q lb) [51, 52] [] [] σ Q)) (by decide) (Nat.le_of_ble_eq_true rfl) ?_
  intro p e s m below meth c A H ls hx hb hr hml hown hts hlk hnm hsz hP hK hNb hD hA hAe hS hX hl
  have hl : lv_has ls 1 [(0, .ref (q 0))] := hl
  have hB := hN
  have hF : f_r [51, 52] [] [] σ σ := f_0
  obtain ⟨locs, hlocs⟩ : ∃ z : List Loc, z = [] := ⟨_, rfl⟩
  rw [← hlocs] at hS ⊢
  refine lv_aload_n hx hb dX13_beginTrees_0 rfl (lv_at hl 0 rfl) ?_
  refine lv_iconst (v := I 0) hx hb dX13_beginTrees_1 rfl ?_
  refine pfX13_nodes hx hb hts hK hP hD hS hown (hts _ tw_2155) dX13_beginTrees_2 (fun H locs hP hD hS => ?_)
  have hN : n_m (s_v σ 51 0) := n_v (i := 51) hN ((by decide) : rg 0)
  have hF : f_r [51, 52] [] [] σ (s_v σ 51 0) := f_v hF (by decide)
  refine lv_aload_n hx hb dX13_beginTrees_5 rfl (lv_at hl 0 rfl) ?_
  refine lv_iconst (v := I 0) hx hb dX13_beginTrees_6 rfl ?_
  refine pfX13_kidCount hx hb hts hK hP hD hS hown (hts _ tw_2156) dX13_beginTrees_7 (fun H locs hP hD hS => ?_)
  have hN : n_m (s_v (s_v σ 51 0) 52 0) := n_v (i := 52) hN ((by decide) : rg 0)
  have hF : f_r [51, 52] [] [] σ (s_v (s_v σ 51 0) 52 0) := f_v hF (by decide)
  exact xrv hx hb hr hlk hP hK hD hS ⟨_, hN, hF, rfl, hw⟩ (Nat.le_of_ble_eq_true rfl) (Nat.le_of_ble_eq_true rfl) dX13_beginTrees_10
def W_X13_putTree (n1 : Int) (σ : S0) (Q : S0 → Prop) : Prop :=
  ∀ (P10 : S0 → Prop) (P65 : Int → S0 → Prop) (P90 : Int → S0 → Prop),
  (∀ (τ : S0), ((τ.1 42 ≤ 0 → Q τ) ∧ (0 < τ.1 42 → (0 ≤ (τ.1 42 - 1) ∧ (τ.1 42 - 1) < 40002) ∧ (∀ (x6 : Int), rg x6 → x6 = τ.2.1 65 (τ.1 42 - 1) → (∀ (x7 : Int), rg x7 → x7 = τ.2.1 66 (τ.1 42 - 1) → ((0 ≤ x6 ∧ x6 < 60000) ∧ (∀ (x9 : Int), rg x9 → x9 = τ.2.1 86 x6 → ((x9 < 0 → P65 x9 τ) ∧ (0 ≤ x9 → (0 ≤ x9 ∧ x9 < 1501) ∧ (∀ (x12 : Int), rg x12 → x12 = τ.2.1 19 x9 → ((¬ x7 = x12 → ∀ (x14 : Int), rg x14 → x14 = τ.2.1 66 (τ.1 42 - 1) → (rg (x14 + 1) ∧ ∀ (x16 : Int), rg x16 → x16 = τ.2.1 87 x6 → ((0 ≤ (x16 + x7) ∧ (x16 + x7) < 120000) ∧ (∀ (x18 : Int), rg x18 → x18 = τ.2.1 91 (x16 + x7) → (∃ (Q19 : S0 → Prop), W_X13_enter x18 (s_a τ 66 (τ.1 42 - 1) (x14 + 1)) Q19 ∧ ∀ (τ21 : S0), n_m τ21 → f_r [42] [65, 66] [] (s_a τ 66 (τ.1 42 - 1) (x14 + 1)) τ21 → Q19 τ21 → (P10 τ21)))))) ∧ (x7 = x12 → P65 x9 τ))))))))))) → P10 τ) →
  (∀ (u4 : Int) (τ : S0), (rg (τ.1 42 - 1) ∧ (0 ≤ u4 → P90 u4 (s_v τ 42 (τ.1 42 - 1))) ∧ (u4 < 0 → rg ((-1) - u4) ∧ P90 ((-1) - u4) (s_v τ 42 (τ.1 42 - 1)))) → P65 u4 τ) →
  (∀ (k1 : Int) (τ : S0), (∃ (Q25 : S0 → Prop), W_X13_putLabel k1 τ Q25 ∧ ∀ (τ27 : S0), n_m τ27 → f_r [39] [59] [] τ τ27 → Q25 τ27 → (P10 τ27)) → P90 k1 τ) →
  ∃ (Q1 : S0 → Prop), W_X13_enter n1 (s_v σ 42 0) Q1 ∧ ∀ (τ3 : S0), n_m τ3 → f_r [42] [65, 66] [] (s_v σ 42 0) τ3 → Q1 τ3 → (P10 τ3)
set_option maxRecDepth 100000 in
set_option maxHeartbeats 4000000 in
theorem L_X13_putTree (l : Launch) (g : gG) (q : Nat → Nat) (lb : Nat) (hlb : lb < 2 ^ 31) {n1 : Int} {σ : S0} {Q : S0 → Prop} (r_n1 : rg n1) (hN : n_m σ) (hw : W_X13_putTree n1 σ Q) (sz : Nat) : MetV l yX13_putTree cX13_putTree 5 { frames := 3, cells := 0, slots := 0, locals := 65 } g [.ref (q 0), .int (I n1)] (MX g q lb σ) sz xT (p_V (MX g q lb) [39, 42] [59, 65, 66] [] σ Q) 0 0 := by
  refine mkMet (Qc := fun A => QV g A (p_V (MX g q lb) [39, 42] [59, 65, 66] [] σ Q)) (by decide) (Nat.le_of_ble_eq_true rfl) ?_
  intro p e s m below meth c A H ls hx hb hr hml hown hts hlk hnm hsz hP hK hNb hD hA hAe hS hX hl
  have hl : lv_has ls 5 [(0, .ref (q 0)), (1, .int (I n1))] := hl
  have hB := hN
  have hF : f_r [39, 42] [59, 65, 66] [] σ σ := f_0
  obtain ⟨locs, hlocs⟩ : ∃ z : List Loc, z = [] := ⟨_, rfl⟩
  rw [← hlocs] at hS ⊢
  obtain ⟨P10, hP10⟩ : ∃ P : S0 → Prop, ∀ (τ : S0), (P τ ↔ (n_m τ → f_r [39, 42] [59, 65, 66] [] σ τ → ∀ (H : Heap) (locs : List Loc) (ls : Array Slot), KP g (MX g q lb τ) H → va_D A (MX g q lb τ) → va_S A s.heap H locs → lv_has ls 5 [(0, .ref (q 0))] → W p l e ({ frames := 3, cells := 0, slots := 0, locals := 65 }) s m [.ref (q 0), .int (I n1)].toArray below meth c H locs 0 0 (MQ below (QV g A (p_V (MX g q lb) [39, 42] [59, 65, 66] [] σ Q)) [.ref (q 0), .int (I n1)].toArray s 0 0 A) (F0 m 10 ls []))) := ⟨_, fun _ => Iff.rfl⟩
  obtain ⟨P65, hP65⟩ : ∃ P : Int → S0 → Prop, ∀ (u4 : Int) (τ : S0), (P u4 τ ↔ (rg u4 → n_m τ → f_r [39, 42] [59, 65, 66] [] σ τ → ∀ (H : Heap) (locs : List Loc) (ls : Array Slot), KP g (MX g q lb τ) H → va_D A (MX g q lb τ) → va_S A s.heap H locs → lv_has ls 5 [(0, .ref (q 0)), (4, .int (I u4))] → W p l e ({ frames := 3, cells := 0, slots := 0, locals := 65 }) s m [.ref (q 0), .int (I n1)].toArray below meth c H locs 0 0 (MQ below (QV g A (p_V (MX g q lb) [39, 42] [59, 65, 66] [] σ Q)) [.ref (q 0), .int (I n1)].toArray s 0 0 A) (F0 m 65 ls []))) := ⟨_, fun _ _ => Iff.rfl⟩
  obtain ⟨P90, hP90⟩ : ∃ P : Int → S0 → Prop, ∀ (k1 : Int) (τ : S0), (P k1 τ ↔ (rg k1 → n_m τ → f_r [39, 42] [59, 65, 66] [] σ τ → ∀ (H : Heap) (locs : List Loc) (ls : Array Slot), KP g (MX g q lb τ) H → va_D A (MX g q lb τ) → va_S A s.heap H locs → lv_has ls 5 [(0, .ref (q 0))] → W p l e ({ frames := 3, cells := 0, slots := 0, locals := 65 }) s m [.ref (q 0), .int (I n1)].toArray below meth c H locs 0 0 (MQ below (QV g A (p_V (MX g q lb) [39, 42] [59, 65, 66] [] σ Q)) [.ref (q 0), .int (I n1)].toArray s 0 0 A) (F0 m 90 ls [.int (I k1), .ref (q 0)]))) := ⟨_, fun _ _ => Iff.rfl⟩
  refine (fun hw => ?_) (hw P10 P65 P90 ?_ ?_ ?_)
  ·
    refine lv_aload_n hx hb dX13_putTree_0 rfl (lv_at hl 0 rfl) ?_
    refine lv_iconst (v := I 0) hx hb dX13_putTree_1 rfl ?_
    refine pfX13_walked hx hb hts hK hP hD hS hown (hts _ tw_2117) dX13_putTree_2 (fun H locs hP hD hS => ?_)
    have hN : n_m (s_v σ 42 0) := n_v (i := 42) hN ((by decide) : rg 0)
    have hF : f_r [39, 42] [59, 65, 66] [] σ (s_v σ 42 0) := f_v hF (by decide)
    refine lv_aload_n hx hb dX13_putTree_5 rfl (lv_at hl 0 rfl) ?_
    refine lv_iload_n hx hb dX13_putTree_6 rfl (lv_at hl 1 rfl) ?_
    obtain ⟨Q1, hc, hw⟩ := hw
    refine wc_V (X := MX g q lb) (va_runV (As := [.int (I n1)]) (rest := []) ⟨hx, hb, hml, hown, hts⟩ (L_X13_enter l g q lb hlb r_n1 hN hc H.size) (cwV 1 hts (TB_V tw_3039 tw_3041 ts_202 tw_15 co_X13_enter) rfl rfl rfl (by decide +kernel) ⟨Nat.le_of_ble_eq_true rfl, Nat.le_of_ble_eq_true rfl⟩) (preV (q0 := 0) (ci := 13) rfl xT_bl hP hK hNb hD rfl rfl xT_at) rfl rfl hl.1 rfl (lv_room (Nat.le_of_ble_eq_true rfl)) dX13_putTree_7 ⟨Nat.le_of_ble_eq_true rfl, Nat.le_of_ble_eq_true rfl⟩) hP hD hS hA (fun τ3 H locs hN hf hq hP hD hS => ?_)
    replace hw := hw τ3 hN hf hq
    have hF : f_r [39, 42] [59, 65, 66] [] σ τ3 := f_t hF hf (by decide) (by decide) (by decide)
    have hB := hN
    exact (hP10 _).mp hw hN hF H locs ls hP hD hS (lv_sub hl [0] rfl)
  ·
    intro τ hw
    refine (hP10 _).mpr ?_
    intro hN hF H locs ls hP hD hS hl
    have hB := hN
    refine lv_aload_n hx hb dX13_putTree_10 rfl (lv_at hl 0 rfl) ?_
    refine gfX13_walked hx hb hts hK hP hown (hts _ tw_2117) (x := τ.1 42) rfl dX13_putTree_11 ?_
    refine bi_if_le (tgt := 131) hx hb (hB.1 42) dX13_putTree_14 (by decide) (fun c4 => ?_) (fun c4 => ?_)
    ·
      replace hw := hw.1 c4
      exact xrv hx hb hr hlk hP hK hD hS ⟨_, hN, hF, rfl, hw⟩ (Nat.le_of_ble_eq_true rfl) (Nat.le_of_ble_eq_true rfl) dX13_putTree_131
    ·
      replace hw := hw.2 c4
      refine lv_aload_n hx hb dX13_putTree_17 rfl (lv_at hl 0 rfl) ?_
      refine gfX13_walk hx hb hts hK hP hown (hts _ tw_2115) dX13_putTree_18 ?_
      refine lv_aload_n hx hb dX13_putTree_21 rfl (lv_at hl 0 rfl) ?_
      refine gfX13_walked hx hb hts hK hP hown (hts _ tw_2117) (x := τ.1 42) rfl dX13_putTree_22 ?_
      refine lv_iconst (v := I 1) hx hb dX13_putTree_25 rfl ?_
      refine bi_isub hx hb dX13_putTree_26 ?_
      obtain ⟨c5, hw⟩ := hw
      refine ldMX13_walk hx hb hK hP hN c5 dX13_putTree_27 (fun x6 r_x6 e_x6 => ?_)
      replace hw := hw x6 r_x6 e_x6
      refine lv_istore_n (lv' := [(2, .int (I x6)), (0, .ref (q 0))]) hx hb dX13_putTree_28 rfl hl (by decide) rfl (fun ls hl => ?_)
      refine lv_aload_n hx hb dX13_putTree_29 rfl (lv_at hl 1 rfl) ?_
      refine gfX13_walkKid hx hb hts hK hP hown (hts _ tw_2116) dX13_putTree_30 ?_
      refine lv_aload_n hx hb dX13_putTree_33 rfl (lv_at hl 1 rfl) ?_
      refine gfX13_walked hx hb hts hK hP hown (hts _ tw_2117) (x := τ.1 42) rfl dX13_putTree_34 ?_
      refine lv_iconst (v := I 1) hx hb dX13_putTree_37 rfl ?_
      refine bi_isub hx hb dX13_putTree_38 ?_
      refine ldMX13_walkKid hx hb hK hP hN c5 dX13_putTree_39 (fun x7 r_x7 e_x7 => ?_)
      replace hw := hw x7 r_x7 e_x7
      refine lv_istore_n (lv' := [(3, .int (I x7)), (2, .int (I x6)), (0, .ref (q 0))]) hx hb dX13_putTree_40 rfl hl (by decide) rfl (fun ls hl => ?_)
      refine lv_aload_n hx hb dX13_putTree_41 rfl (lv_at hl 2 rfl) ?_
      refine gfX13_nodeIs hx hb hts hK hP hown (hts _ tw_2149) dX13_putTree_42 ?_
      refine lv_iload_n hx hb dX13_putTree_45 rfl (lv_at hl 1 rfl) ?_
      obtain ⟨c8, hw⟩ := hw
      refine ldMX13_nodeIs hx hb hK hP hN c8 dX13_putTree_46 (fun x9 r_x9 e_x9 => ?_)
      replace hw := hw x9 r_x9 e_x9
      refine lv_istore (lv' := [(4, .int (I x9)), (3, .int (I x7)), (2, .int (I x6)), (0, .ref (q 0))]) hx hb dX13_putTree_47 hl (by decide) rfl (fun ls hl => ?_)
      refine lv_iload hx hb dX13_putTree_49 (lv_at hl 0 rfl) ?_
      refine bi_if_lt (tgt := 65) hx hb r_x9 dX13_putTree_51 (by decide) (fun c10 => ?_) (fun c10 => ?_)
      ·
        replace hw := hw.1 c10
        exact (hP65 _ _).mp hw r_x9 hN hF H locs ls hP hD hS (lv_sub hl [3, 0] rfl)
      ·
        replace hw := hw.2 c10
        refine lv_iload_n hx hb dX13_putTree_54 rfl (lv_at hl 1 rfl) ?_
        refine lv_aload_n hx hb dX13_putTree_55 rfl (lv_at hl 3 rfl) ?_
        refine gfX13_hypSize hx hb hts hK hP hown (hts _ tw_2032) dX13_putTree_56 ?_
        refine lv_iload hx hb dX13_putTree_59 (lv_at hl 0 rfl) ?_
        obtain ⟨c11, hw⟩ := hw
        refine ldMX13_hypSize hx hb hK hP hN c11 dX13_putTree_61 (fun x12 r_x12 e_x12 => ?_)
        replace hw := hw x12 r_x12 e_x12
        refine bi_icmp_ne (tgt := 96) hx hb r_x7 r_x12 dX13_putTree_62 (by decide) (fun c13 => ?_) (fun c13 => ?_)
        ·
          replace hw := hw.1 c13
          refine lv_aload_n hx hb dX13_putTree_96 rfl (lv_at hl 3 rfl) ?_
          refine gfX13_walkKid hx hb hts hK hP hown (hts _ tw_2116) dX13_putTree_97 ?_
          refine lv_aload_n hx hb dX13_putTree_100 rfl (lv_at hl 3 rfl) ?_
          refine gfX13_walked hx hb hts hK hP hown (hts _ tw_2117) (x := τ.1 42) rfl dX13_putTree_101 ?_
          refine lv_iconst (v := I 1) hx hb dX13_putTree_104 rfl ?_
          refine bi_isub hx hb dX13_putTree_105 ?_
          refine lv_dup2_11 hx hb dX13_putTree_106 rfl rfl ?_
          refine ldMX13_walkKid hx hb hK hP hN c5 dX13_putTree_107 (fun x14 r_x14 e_x14 => ?_)
          replace hw := hw x14 r_x14 e_x14
          refine lv_iconst (v := I 1) hx hb dX13_putTree_108 rfl ?_
          refine bi_iadd hx hb dX13_putTree_109 ?_
          obtain ⟨c15, hw⟩ := hw
          refine sdMX13_walkKid hx hb hK hP hD hS c5 dX13_putTree_110 (fun H locs hP hD hS => ?_)
          have hN : n_m (s_a τ 66 (τ.1 42 - 1) (x14 + 1)) := n_a (k := 66) (j := (τ.1 42 - 1)) hN (c15 : rg (x14 + 1))
          have hF : f_r [39, 42] [59, 65, 66] [] σ (s_a τ 66 (τ.1 42 - 1) (x14 + 1)) := f_a hF (by decide)
          refine lv_aload_n hx hb dX13_putTree_111 rfl (lv_at hl 3 rfl) ?_
          refine lv_aload_n hx hb dX13_putTree_112 rfl (lv_at hl 3 rfl) ?_
          refine gfX13_kids hx hb hts hK hP hown (hts _ tw_2154) dX13_putTree_113 ?_
          refine lv_aload_n hx hb dX13_putTree_116 rfl (lv_at hl 3 rfl) ?_
          refine gfX13_nodeKids hx hb hts hK hP hown (hts _ tw_2150) dX13_putTree_117 ?_
          refine lv_iload_n hx hb dX13_putTree_120 rfl (lv_at hl 2 rfl) ?_
          refine ldMX13_nodeKids hx hb hK hP hN c8 dX13_putTree_121 (fun x16 r_x16 e_x16 => ?_)
          replace hw := hw x16 r_x16 e_x16
          refine lv_iload_n hx hb dX13_putTree_122 rfl (lv_at hl 1 rfl) ?_
          refine bi_iadd hx hb dX13_putTree_123 ?_
          obtain ⟨c17, hw⟩ := hw
          refine ldMX13_kids hx hb hK hP hN c17 dX13_putTree_124 (fun x18 r_x18 e_x18 => ?_)
          replace hw := hw x18 r_x18 e_x18
          obtain ⟨Q19, hc, hw⟩ := hw
          refine wc_V (X := MX g q lb) (va_runV (As := [.int (I x18)]) (rest := []) ⟨hx, hb, hml, hown, hts⟩ (L_X13_enter l g q lb hlb r_x18 hN hc H.size) (cwV 1 hts (TB_V tw_3039 tw_3041 ts_202 tw_15 co_X13_enter) rfl rfl rfl (by decide +kernel) ⟨Nat.le_of_ble_eq_true rfl, Nat.le_of_ble_eq_true rfl⟩) (preV (q0 := 0) (ci := 13) rfl xT_bl hP hK hNb hD rfl rfl xT_at) rfl rfl hl.1 rfl (lv_room (Nat.le_of_ble_eq_true rfl)) dX13_putTree_125 ⟨Nat.le_of_ble_eq_true rfl, Nat.le_of_ble_eq_true rfl⟩) hP hD hS hA (fun τ21 H locs hN hf hq hP hD hS => ?_)
          replace hw := hw τ21 hN hf hq
          have hF : f_r [39, 42] [59, 65, 66] [] σ τ21 := f_t hF hf (by decide) (by decide) (by decide)
          have hB := hN
          refine lv_goto (tgt := 10) hx hb dX13_putTree_128 (by decide) ?_
          exact (hP10 _).mp hw hN hF H locs ls hP hD hS (lv_sub hl [3] rfl)
        ·
          replace hw := hw.2 c13
          exact (hP65 _ _).mp hw r_x9 hN hF H locs ls hP hD hS (lv_sub hl [3, 0] rfl)
  ·
    intro u4 τ hw
    refine (hP65 _ _).mpr ?_
    intro r_u4 hN hF H locs ls hP hD hS hl
    have hB := hN
    refine lv_aload_n hx hb dX13_putTree_65 rfl (lv_at hl 0 rfl) ?_
    refine lv_dup hx hb dX13_putTree_66 rfl ?_
    refine gfX13_walked hx hb hts hK hP hown (hts _ tw_2117) (x := τ.1 42) rfl dX13_putTree_67 ?_
    refine lv_iconst (v := I 1) hx hb dX13_putTree_70 rfl ?_
    refine bi_isub hx hb dX13_putTree_71 ?_
    obtain ⟨c22, hw⟩ := hw
    refine pfX13_walked hx hb hts hK hP hD hS hown (hts _ tw_2117) dX13_putTree_72 (fun H locs hP hD hS => ?_)
    have hN : n_m (s_v τ 42 (τ.1 42 - 1)) := n_v (i := 42) hN (c22 : rg (τ.1 42 - 1))
    have hF : f_r [39, 42] [59, 65, 66] [] σ (s_v τ 42 (τ.1 42 - 1)) := f_v hF (by decide)
    refine lv_aload_n hx hb dX13_putTree_75 rfl (lv_at hl 0 rfl) ?_
    refine lv_iload hx hb dX13_putTree_76 (lv_at hl 1 rfl) ?_
    refine bi_if_ge (tgt := 88) hx hb r_u4 dX13_putTree_78 (by decide) (fun c23 => ?_) (fun c23 => ?_)
    ·
      replace hw := hw.1 c23
      refine lv_iload hx hb dX13_putTree_88 (lv_at hl 1 rfl) ?_
      exact (hP90 _ _).mp hw r_u4 hN hF H locs ls hP hD hS (lv_sub hl [0] rfl)
    ·
      replace hw := hw.2 c23
      refine lv_iconst (v := I (-1)) hx hb dX13_putTree_81 rfl ?_
      refine lv_iload hx hb dX13_putTree_82 (lv_at hl 1 rfl) ?_
      refine bi_isub hx hb dX13_putTree_84 ?_
      refine lv_goto (tgt := 90) hx hb dX13_putTree_85 (by decide) ?_
      obtain ⟨c24, hw⟩ := hw
      exact (hP90 _ _).mp hw c24 hN hF H locs ls hP hD hS (lv_sub hl [0] rfl)
  ·
    intro k1 τ hw
    refine (hP90 _ _).mpr ?_
    intro r_k1 hN hF H locs ls hP hD hS hl
    have hB := hN
    obtain ⟨Q25, hc, hw⟩ := hw
    refine wc_V (X := MX g q lb) (va_runV (As := [.int (I k1)]) (rest := []) ⟨hx, hb, hml, hown, hts⟩ (L_X13_putLabel l g q lb hlb r_k1 hN hc H.size) (cwV 1 hts (TB_V tw_3059 tw_3061 ts_206 tw_15 co_X13_putLabel) rfl rfl rfl (by decide +kernel) ⟨Nat.le_of_ble_eq_true rfl, Nat.le_of_ble_eq_true rfl⟩) (preV (q0 := 0) (ci := 13) rfl xT_bl hP hK hNb hD rfl rfl xT_at) rfl rfl hl.1 rfl (lv_room (Nat.le_of_ble_eq_true rfl)) dX13_putTree_90 ⟨Nat.le_of_ble_eq_true rfl, Nat.le_of_ble_eq_true rfl⟩) hP hD hS hA (fun τ27 H locs hN hf hq hP hD hS => ?_)
    replace hw := hw τ27 hN hf hq
    have hF : f_r [39, 42] [59, 65, 66] [] σ τ27 := f_t hF hf (by decide) (by decide) (by decide)
    have hB := hN
    refine lv_goto (tgt := 128) hx hb dX13_putTree_93 (by decide) ?_
    refine lv_goto (tgt := 10) hx hb dX13_putTree_128 (by decide) ?_
    exact (hP10 _).mp hw hN hF H locs ls hP hD hS (lv_sub hl [0] rfl)
