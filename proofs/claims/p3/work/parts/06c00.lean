-- methods told as propositions, and tied to the machine
def W_X0_keep (σ : S0) (Q : S0 → Prop) : Prop :=
  Q (s_a (s_a (s_a (s_a σ 38 0 (σ.1 13)) 38 1 (σ.1 14)) 38 2 (σ.1 15)) 38 3 (σ.1 16))
set_option maxRecDepth 100000 in
set_option maxHeartbeats 4000000 in
theorem L_X0_keep (l : Launch) (g : gG) (q : Nat → Nat) (lb : Nat) (hlb : lb < 2 ^ 31) {σ : S0} {Q : S0 → Prop} (hN : n_m σ) (hw : W_X0_keep σ Q) (sz : Nat) : MetV l yX0_keep cX0_keep 1 { frames := 0, cells := 0, slots := 0, locals := 0 } g [.ref (q 3)] (CX g q lb σ) sz xT (p_V (CX g q lb) [] [38] [] σ Q) 0 0 := by
  refine mkMet (Qc := fun A => QV g A (p_V (CX g q lb) [] [38] [] σ Q)) (by decide) (Nat.le_of_ble_eq_true rfl) ?_
  intro p e s m below meth c A H ls hx hb hr hml hown hts hlk hnm hsz hP hK hNb hD hA hAe hS hX hl
  have hl : lv_has ls 1 [(0, .ref (q 3))] := hl
  have hB := hN
  have hF : f_r [] [38] [] σ σ := f_0
  obtain ⟨locs, hlocs⟩ : ∃ z : List Loc, z = [] := ⟨_, rfl⟩
  rw [← hlocs] at hS ⊢
  refine lv_aload_n hx hb dX0_keep_0 rfl (lv_at hl 0 rfl) ?_
  refine gfX0_kept hx hb hts hK hP hown (hts _ tw_295) dX0_keep_1 ?_
  refine lv_iconst (v := I 0) hx hb dX0_keep_4 rfl ?_
  refine lv_aload_n hx hb dX0_keep_5 rfl (lv_at hl 0 rfl) ?_
  refine gfX0_hypothesesUsed hx hb hts hK hP hown (hts _ tw_256) (x := σ.1 13) rfl dX0_keep_6 ?_
  refine sdCX0_kept hx hb hK hP hD hS (by decide) dX0_keep_9 (fun H locs hP hD hS => ?_)
  have hN : n_m (s_a σ 38 0 (σ.1 13)) := n_a (k := 38) (j := 0) hN ((hB.1 13) : rg (σ.1 13))
  have hF : f_r [] [38] [] σ (s_a σ 38 0 (σ.1 13)) := f_a hF (by decide)
  refine lv_aload_n hx hb dX0_keep_10 rfl (lv_at hl 0 rfl) ?_
  refine gfX0_kept hx hb hts hK hP hown (hts _ tw_295) dX0_keep_11 ?_
  refine lv_iconst (v := I 1) hx hb dX0_keep_14 rfl ?_
  refine lv_aload_n hx hb dX0_keep_15 rfl (lv_at hl 0 rfl) ?_
  refine gfX0_pairs hx hb hts hK hP hown (hts _ tw_263) (x := σ.1 14) rfl dX0_keep_16 ?_
  refine sdCX0_kept hx hb hK hP hD hS (by decide) dX0_keep_19 (fun H locs hP hD hS => ?_)
  have hN : n_m (s_a (s_a σ 38 0 (σ.1 13)) 38 1 (σ.1 14)) := n_a (k := 38) (j := 1) hN ((hB.1 14) : rg (σ.1 14))
  have hF : f_r [] [38] [] σ (s_a (s_a σ 38 0 (σ.1 13)) 38 1 (σ.1 14)) := f_a hF (by decide)
  refine lv_aload_n hx hb dX0_keep_20 rfl (lv_at hl 0 rfl) ?_
  refine gfX0_kept hx hb hts hK hP hown (hts _ tw_295) dX0_keep_21 ?_
  refine lv_iconst (v := I 2) hx hb dX0_keep_24 rfl ?_
  refine lv_aload_n hx hb dX0_keep_25 rfl (lv_at hl 0 rfl) ?_
  refine gfX0_rowsUsed hx hb hts hK hP hown (hts _ tw_288) (x := σ.1 15) rfl dX0_keep_26 ?_
  refine sdCX0_kept hx hb hK hP hD hS (by decide) dX0_keep_29 (fun H locs hP hD hS => ?_)
  have hN : n_m (s_a (s_a (s_a σ 38 0 (σ.1 13)) 38 1 (σ.1 14)) 38 2 (σ.1 15)) := n_a (k := 38) (j := 2) hN ((hB.1 15) : rg (σ.1 15))
  have hF : f_r [] [38] [] σ (s_a (s_a (s_a σ 38 0 (σ.1 13)) 38 1 (σ.1 14)) 38 2 (σ.1 15)) := f_a hF (by decide)
  refine lv_aload_n hx hb dX0_keep_30 rfl (lv_at hl 0 rfl) ?_
  refine gfX0_kept hx hb hts hK hP hown (hts _ tw_295) dX0_keep_31 ?_
  refine lv_iconst (v := I 3) hx hb dX0_keep_34 rfl ?_
  refine lv_aload_n hx hb dX0_keep_35 rfl (lv_at hl 0 rfl) ?_
  refine gfX0_steps hx hb hts hK hP hown (hts _ tw_290) (x := σ.1 16) rfl dX0_keep_36 ?_
  refine sdCX0_kept hx hb hK hP hD hS (by decide) dX0_keep_39 (fun H locs hP hD hS => ?_)
  have hN : n_m (s_a (s_a (s_a (s_a σ 38 0 (σ.1 13)) 38 1 (σ.1 14)) 38 2 (σ.1 15)) 38 3 (σ.1 16)) := n_a (k := 38) (j := 3) hN ((hB.1 16) : rg (σ.1 16))
  have hF : f_r [] [38] [] σ (s_a (s_a (s_a (s_a σ 38 0 (σ.1 13)) 38 1 (σ.1 14)) 38 2 (σ.1 15)) 38 3 (σ.1 16)) := f_a hF (by decide)
  exact xrv hx hb hr hlk hP hK hD hS ⟨_, hN, hF, rfl, hw⟩ (Nat.le_of_ble_eq_true rfl) (Nat.le_of_ble_eq_true rfl) dX0_keep_40
def W_X0_goBack (σ : S0) (Q : S0 → Prop) : Prop :=
  ∀ (x1 : Int), rg x1 → x1 = σ.2.1 38 0 → (∀ (x2 : Int), rg x2 → x2 = σ.2.1 38 1 → (∀ (x3 : Int), rg x3 → x3 = σ.2.1 38 2 → (∀ (x4 : Int), rg x4 → x4 = σ.2.1 38 3 → (Q (s_v (s_v (s_v (s_v σ 13 x1) 14 x2) 15 x3) 16 x4)))))
set_option maxRecDepth 100000 in
set_option maxHeartbeats 4000000 in
theorem L_X0_goBack (l : Launch) (g : gG) (q : Nat → Nat) (lb : Nat) (hlb : lb < 2 ^ 31) {σ : S0} {Q : S0 → Prop} (hN : n_m σ) (hw : W_X0_goBack σ Q) (sz : Nat) : MetV l yX0_goBack cX0_goBack 1 { frames := 0, cells := 0, slots := 0, locals := 0 } g [.ref (q 3)] (CX g q lb σ) sz xT (p_V (CX g q lb) [13, 14, 15, 16] [] [] σ Q) 0 0 := by
  refine mkMet (Qc := fun A => QV g A (p_V (CX g q lb) [13, 14, 15, 16] [] [] σ Q)) (by decide) (Nat.le_of_ble_eq_true rfl) ?_
  intro p e s m below meth c A H ls hx hb hr hml hown hts hlk hnm hsz hP hK hNb hD hA hAe hS hX hl
  have hl : lv_has ls 1 [(0, .ref (q 3))] := hl
  have hB := hN
  have hF : f_r [13, 14, 15, 16] [] [] σ σ := f_0
  obtain ⟨locs, hlocs⟩ : ∃ z : List Loc, z = [] := ⟨_, rfl⟩
  rw [← hlocs] at hS ⊢
  refine lv_aload_n hx hb dX0_goBack_0 rfl (lv_at hl 0 rfl) ?_
  refine lv_aload_n hx hb dX0_goBack_1 rfl (lv_at hl 0 rfl) ?_
  refine gfX0_kept hx hb hts hK hP hown (hts _ tw_295) dX0_goBack_2 ?_
  refine lv_iconst (v := I 0) hx hb dX0_goBack_5 rfl ?_
  refine ldCX0_kept hx hb hK hP hN (by decide) dX0_goBack_6 (fun x1 r_x1 e_x1 => ?_)
  replace hw := hw x1 r_x1 e_x1
  refine pfX0_hypothesesUsed hx hb hts hK hP hD hS hown (hts _ tw_256) dX0_goBack_7 (fun H locs hP hD hS => ?_)
  have hN : n_m (s_v σ 13 x1) := n_v (i := 13) hN (r_x1 : rg x1)
  have hF : f_r [13, 14, 15, 16] [] [] σ (s_v σ 13 x1) := f_v hF (by decide)
  refine lv_aload_n hx hb dX0_goBack_10 rfl (lv_at hl 0 rfl) ?_
  refine lv_aload_n hx hb dX0_goBack_11 rfl (lv_at hl 0 rfl) ?_
  refine gfX0_kept hx hb hts hK hP hown (hts _ tw_295) dX0_goBack_12 ?_
  refine lv_iconst (v := I 1) hx hb dX0_goBack_15 rfl ?_
  refine ldCX0_kept hx hb hK hP hN (by decide) dX0_goBack_16 (fun x2 r_x2 e_x2 => ?_)
  replace hw := hw x2 r_x2 e_x2
  refine pfX0_pairs hx hb hts hK hP hD hS hown (hts _ tw_263) dX0_goBack_17 (fun H locs hP hD hS => ?_)
  have hN : n_m (s_v (s_v σ 13 x1) 14 x2) := n_v (i := 14) hN (r_x2 : rg x2)
  have hF : f_r [13, 14, 15, 16] [] [] σ (s_v (s_v σ 13 x1) 14 x2) := f_v hF (by decide)
  refine lv_aload_n hx hb dX0_goBack_20 rfl (lv_at hl 0 rfl) ?_
  refine lv_aload_n hx hb dX0_goBack_21 rfl (lv_at hl 0 rfl) ?_
  refine gfX0_kept hx hb hts hK hP hown (hts _ tw_295) dX0_goBack_22 ?_
  refine lv_iconst (v := I 2) hx hb dX0_goBack_25 rfl ?_
  refine ldCX0_kept hx hb hK hP hN (by decide) dX0_goBack_26 (fun x3 r_x3 e_x3 => ?_)
  replace hw := hw x3 r_x3 e_x3
  refine pfX0_rowsUsed hx hb hts hK hP hD hS hown (hts _ tw_288) dX0_goBack_27 (fun H locs hP hD hS => ?_)
  have hN : n_m (s_v (s_v (s_v σ 13 x1) 14 x2) 15 x3) := n_v (i := 15) hN (r_x3 : rg x3)
  have hF : f_r [13, 14, 15, 16] [] [] σ (s_v (s_v (s_v σ 13 x1) 14 x2) 15 x3) := f_v hF (by decide)
  refine lv_aload_n hx hb dX0_goBack_30 rfl (lv_at hl 0 rfl) ?_
  refine lv_aload_n hx hb dX0_goBack_31 rfl (lv_at hl 0 rfl) ?_
  refine gfX0_kept hx hb hts hK hP hown (hts _ tw_295) dX0_goBack_32 ?_
  refine lv_iconst (v := I 3) hx hb dX0_goBack_35 rfl ?_
  refine ldCX0_kept hx hb hK hP hN (by decide) dX0_goBack_36 (fun x4 r_x4 e_x4 => ?_)
  replace hw := hw x4 r_x4 e_x4
  refine pfX0_steps hx hb hts hK hP hD hS hown (hts _ tw_290) dX0_goBack_37 (fun H locs hP hD hS => ?_)
  have hN : n_m (s_v (s_v (s_v (s_v σ 13 x1) 14 x2) 15 x3) 16 x4) := n_v (i := 16) hN (r_x4 : rg x4)
  have hF : f_r [13, 14, 15, 16] [] [] σ (s_v (s_v (s_v (s_v σ 13 x1) 14 x2) 15 x3) 16 x4) := f_v hF (by decide)
  exact xrv hx hb hr hlk hP hK hD hS ⟨_, hN, hF, rfl, hw⟩ (Nat.le_of_ble_eq_true rfl) (Nat.le_of_ble_eq_true rfl) dX0_goBack_40
def W_X9_markVariables (n1 : Int) (σ : S0) (Q : S0 → Prop) : Prop :=
  ∀ (P10 : Int → Int → S0 → Prop),
  (∀ (u1 : Int) (u2 : Int) (τ : S0), ((0 ≤ (u1 + 1) ∧ (u1 + 1) < 1501) ∧ (∀ (x4 : Int), rg x4 → x4 = τ.2.1 14 (u1 + 1) → ((x4 ≤ u2 → Q τ) ∧ (u2 < x4 → (0 ≤ u2 ∧ u2 < 30000) ∧ (∀ (x7 : Int), rg x7 → x7 = τ.2.1 16 u2 → ((x7 = (-1) → rg (u2 + 1) ∧ P10 u1 (u2 + 1) τ) ∧ (¬ x7 = (-1) → ∀ (x10 : Int), rg x10 → x10 = τ.2.1 15 u2 → ((0 ≤ x10 ∧ x10 < 1000) ∧ (rg (u2 + 1) ∧ P10 u1 (u2 + 1) (s_a τ 26 x10 (τ.1 12))))))))))) → P10 u1 u2 τ) →
  (0 ≤ n1 ∧ n1 < 1501) ∧ (∀ (x2 : Int), rg x2 → x2 = σ.2.1 14 n1 → (P10 n1 x2 σ))
set_option maxRecDepth 100000 in
set_option maxHeartbeats 4000000 in
theorem L_X9_markVariables (l : Launch) (g : gG) (q : Nat → Nat) (lb : Nat) (hlb : lb < 2 ^ 31) {n1 : Int} {σ : S0} {Q : S0 → Prop} (r_n1 : rg n1) (hN : n_m σ) (hw : W_X9_markVariables n1 σ Q) (sz : Nat) : MetV l yX9_markVariables cX9_markVariables 3 { frames := 0, cells := 0, slots := 0, locals := 0 } g [.ref (q 2), .int (I n1)] (CX g q lb σ) sz xT (p_V (CX g q lb) [] [26] [] σ Q) 0 0 := by
  refine mkMet (Qc := fun A => QV g A (p_V (CX g q lb) [] [26] [] σ Q)) (by decide) (Nat.le_of_ble_eq_true rfl) ?_
  intro p e s m below meth c A H ls hx hb hr hml hown hts hlk hnm hsz hP hK hNb hD hA hAe hS hX hl
  have hl : lv_has ls 3 [(0, .ref (q 2)), (1, .int (I n1))] := hl
  have hB := hN
  have hF : f_r [] [26] [] σ σ := f_0
  obtain ⟨locs, hlocs⟩ : ∃ z : List Loc, z = [] := ⟨_, rfl⟩
  rw [← hlocs] at hS ⊢
  obtain ⟨P10, hP10⟩ : ∃ P : Int → Int → S0 → Prop, ∀ (u1 : Int) (u2 : Int) (τ : S0), (P u1 u2 τ ↔ (rg u1 → rg u2 → n_m τ → f_r [] [26] [] σ τ → ∀ (H : Heap) (locs : List Loc) (ls : Array Slot), KP g (CX g q lb τ) H → va_D A (CX g q lb τ) → va_S A s.heap H locs → lv_has ls 3 [(0, .ref (q 2)), (1, .int (I u1)), (2, .int (I u2))] → W p l e ({ frames := 0, cells := 0, slots := 0, locals := 0 }) s m [.ref (q 2), .int (I n1)].toArray below meth c H locs 0 0 (MQ below (QV g A (p_V (CX g q lb) [] [26] [] σ Q)) [.ref (q 2), .int (I n1)].toArray s 0 0 A) (F0 m 10 ls []))) := ⟨_, fun _ _ _ => Iff.rfl⟩
  refine (fun hw => ?_) (hw P10 ?_)
  ·
    refine lv_aload_n hx hb dX9_markVariables_0 rfl (lv_at hl 0 rfl) ?_
    refine gfX9_library hx hb hts hK hP hown (hts _ tw_165) dX9_markVariables_1 ?_
    refine gfNX3_at hx hb hts hK hP hown (nb_use hNb tn_84) dX9_markVariables_4 ?_
    refine lv_iload_n hx hb dX9_markVariables_7 rfl (lv_at hl 1 rfl) ?_
    obtain ⟨c1, hw⟩ := hw
    refine ldCX3_at hx hb hK hP hN c1 dX9_markVariables_8 (fun x2 r_x2 e_x2 => ?_)
    replace hw := hw x2 r_x2 e_x2
    refine lv_istore_n (lv' := [(2, .int (I x2)), (0, .ref (q 2)), (1, .int (I n1))]) hx hb dX9_markVariables_9 rfl hl (by decide) rfl (fun ls hl => ?_)
    exact (hP10 _ _ _).mp hw r_n1 r_x2 hN hF H locs ls hP hD hS (lv_sub hl [1, 2, 0] rfl)
  ·
    intro u1 u2 τ hw
    refine (hP10 _ _ _).mpr ?_
    intro r_u1 r_u2 hN hF H locs ls hP hD hS hl
    have hB := hN
    refine lv_iload_n hx hb dX9_markVariables_10 rfl (lv_at hl 2 rfl) ?_
    refine lv_aload_n hx hb dX9_markVariables_11 rfl (lv_at hl 0 rfl) ?_
    refine gfX9_library hx hb hts hK hP hown (hts _ tw_165) dX9_markVariables_12 ?_
    refine gfNX3_at hx hb hts hK hP hown (nb_use hNb tn_84) dX9_markVariables_15 ?_
    refine lv_iload_n hx hb dX9_markVariables_18 rfl (lv_at hl 1 rfl) ?_
    refine lv_iconst (v := I 1) hx hb dX9_markVariables_19 rfl ?_
    refine bi_iadd hx hb dX9_markVariables_20 ?_
    obtain ⟨c3, hw⟩ := hw
    refine ldCX3_at hx hb hK hP hN c3 dX9_markVariables_21 (fun x4 r_x4 e_x4 => ?_)
    replace hw := hw x4 r_x4 e_x4
    refine bi_icmp_ge (tgt := 62) hx hb r_u2 r_x4 dX9_markVariables_22 (by decide) (fun c5 => ?_) (fun c5 => ?_)
    ·
      replace hw := hw.1 c5
      exact xrv hx hb hr hlk hP hK hD hS ⟨_, hN, hF, rfl, hw⟩ (Nat.le_of_ble_eq_true rfl) (Nat.le_of_ble_eq_true rfl) dX9_markVariables_62
    ·
      replace hw := hw.2 c5
      refine lv_aload_n hx hb dX9_markVariables_25 rfl (lv_at hl 0 rfl) ?_
      refine gfX9_library hx hb hts hK hP hown (hts _ tw_165) dX9_markVariables_26 ?_
      refine gfNX3_floats hx hb hts hK hP hown (nb_use hNb tn_99) dX9_markVariables_29 ?_
      refine lv_iload_n hx hb dX9_markVariables_32 rfl (lv_at hl 2 rfl) ?_
      obtain ⟨c6, hw⟩ := hw
      refine ldCX3_floats hx hb hK hP hN c6 dX9_markVariables_33 (fun x7 r_x7 e_x7 => ?_)
      replace hw := hw x7 r_x7 e_x7
      refine lv_iconst (v := I (-1)) hx hb dX9_markVariables_34 rfl ?_
      refine bi_icmp_eq (tgt := 56) hx hb r_x7 (by decide) dX9_markVariables_35 (by decide) (fun c8 => ?_) (fun c8 => ?_)
      ·
        replace hw := hw.1 c8
        refine lv_iinc (v := I (u2 + 1)) (lv' := [(2, .int (I (u2 + 1))), (0, .ref (q 2)), (1, .int (I u1))]) hx hb dX9_markVariables_56 hl (k := 2) rfl (I_add _ _) (by decide) rfl (fun ls hl => ?_)
        refine lv_goto (tgt := 10) hx hb dX9_markVariables_59 (by decide) ?_
        obtain ⟨c9, hw⟩ := hw
        exact (hP10 _ _ _).mp hw r_u1 c9 hN hF H locs ls hP hD hS (lv_sub hl [1, 2, 0] rfl)
      ·
        replace hw := hw.2 c8
        refine lv_aload_n hx hb dX9_markVariables_38 rfl (lv_at hl 0 rfl) ?_
        refine gfX9_met hx hb hts hK hP hown (hts _ tw_188) dX9_markVariables_39 ?_
        refine lv_aload_n hx hb dX9_markVariables_42 rfl (lv_at hl 0 rfl) ?_
        refine gfX9_library hx hb hts hK hP hown (hts _ tw_165) dX9_markVariables_43 ?_
        refine gfNX3_text hx hb hts hK hP hown (nb_use hNb tn_91) dX9_markVariables_46 ?_
        refine lv_iload_n hx hb dX9_markVariables_49 rfl (lv_at hl 2 rfl) ?_
        refine ldCX3_text hx hb hK hP hN c6 dX9_markVariables_50 (fun x10 r_x10 e_x10 => ?_)
        replace hw := hw x10 r_x10 e_x10
        refine lv_aload_n hx hb dX9_markVariables_51 rfl (lv_at hl 0 rfl) ?_
        refine gfX9_turn hx hb hts hK hP hown (hts _ tw_189) (x := τ.1 12) rfl dX9_markVariables_52 ?_
        obtain ⟨c11, hw⟩ := hw
        refine sdCX9_met hx hb hK hP hD hS c11 dX9_markVariables_55 (fun H locs hP hD hS => ?_)
        have hN : n_m (s_a τ 26 x10 (τ.1 12)) := n_a (k := 26) (j := x10) hN ((hB.1 12) : rg (τ.1 12))
        have hF : f_r [] [26] [] σ (s_a τ 26 x10 (τ.1 12)) := f_a hF (by decide)
        refine lv_iinc (v := I (u2 + 1)) (lv' := [(2, .int (I (u2 + 1))), (0, .ref (q 2)), (1, .int (I u1))]) hx hb dX9_markVariables_56 hl (k := 2) rfl (I_add _ _) (by decide) rfl (fun ls hl => ?_)
        refine lv_goto (tgt := 10) hx hb dX9_markVariables_59 (by decide) ?_
        obtain ⟨c12, hw⟩ := hw
        exact (hP10 _ _ _).mp hw r_u1 c12 hN hF H locs ls hP hD hS (lv_sub hl [1, 2, 0] rfl)
def W_X9_markFrame (n1 : Int) (σ : S0) (Q : S0 → Prop) : Prop :=
  ∀ (P17 : Int → S0 → Prop),
  (∀ (u2 : Int) (τ : S0), ((τ.1 9 ≤ u2 → Q τ) ∧ (u2 < τ.1 9 → (0 ≤ u2 ∧ u2 < 1500) ∧ (∀ (x7 : Int), rg x7 → x7 = τ.2.1 22 u2 → ((0 ≤ x7 ∧ x7 < 1500) ∧ (∀ (x9 : Int), rg x9 → x9 = τ.2.1 13 x7 → ((¬ x9 = 1 → rg (u2 + 1) ∧ P17 (u2 + 1) τ) ∧ (x9 = 1 → ∀ (x12 : Int), rg x12 → x12 = τ.2.1 22 u2 → (∃ (Q13 : S0 → Prop), W_X9_markVariables x12 τ Q13 ∧ ∀ (τ15 : S0), n_m τ15 → f_r [] [26] [] τ τ15 → Q13 τ15 → (rg (u2 + 1) ∧ P17 (u2 + 1) τ15))))))))) → P17 u2 τ) →
  rg (σ.1 12 + 1) ∧ ∃ (Q2 : S0 → Prop), W_X9_markVariables n1 (s_v σ 12 (σ.1 12 + 1)) Q2 ∧ ∀ (τ4 : S0), n_m τ4 → f_r [] [26] [] (s_v σ 12 (σ.1 12 + 1)) τ4 → Q2 τ4 → (P17 0 τ4)
set_option maxRecDepth 100000 in
set_option maxHeartbeats 4000000 in
theorem L_X9_markFrame (l : Launch) (g : gG) (q : Nat → Nat) (lb : Nat) (hlb : lb < 2 ^ 31) {n1 : Int} {σ : S0} {Q : S0 → Prop} (r_n1 : rg n1) (hN : n_m σ) (hw : W_X9_markFrame n1 σ Q) (sz : Nat) : MetV l yX9_markFrame cX9_markFrame 3 { frames := 1, cells := 0, slots := 0, locals := 22 } g [.ref (q 2), .int (I n1)] (CX g q lb σ) sz xT (p_V (CX g q lb) [12] [26] [] σ Q) 0 0 := by
  refine mkMet (Qc := fun A => QV g A (p_V (CX g q lb) [12] [26] [] σ Q)) (by decide) (Nat.le_of_ble_eq_true rfl) ?_
  intro p e s m below meth c A H ls hx hb hr hml hown hts hlk hnm hsz hP hK hNb hD hA hAe hS hX hl
  have hl : lv_has ls 3 [(0, .ref (q 2)), (1, .int (I n1))] := hl
  have hB := hN
  have hF : f_r [12] [26] [] σ σ := f_0
  obtain ⟨locs, hlocs⟩ : ∃ z : List Loc, z = [] := ⟨_, rfl⟩
  rw [← hlocs] at hS ⊢
  obtain ⟨P17, hP17⟩ : ∃ P : Int → S0 → Prop, ∀ (u2 : Int) (τ : S0), (P u2 τ ↔ (rg u2 → n_m τ → f_r [12] [26] [] σ τ → ∀ (H : Heap) (locs : List Loc) (ls : Array Slot), KP g (CX g q lb τ) H → va_D A (CX g q lb τ) → va_S A s.heap H locs → lv_has ls 3 [(0, .ref (q 2)), (2, .int (I u2))] → W p l e ({ frames := 1, cells := 0, slots := 0, locals := 22 }) s m [.ref (q 2), .int (I n1)].toArray below meth c H locs 0 0 (MQ below (QV g A (p_V (CX g q lb) [12] [26] [] σ Q)) [.ref (q 2), .int (I n1)].toArray s 0 0 A) (F0 m 17 ls []))) := ⟨_, fun _ _ => Iff.rfl⟩
  refine (fun hw => ?_) (hw P17 ?_)
  ·
    refine lv_aload_n hx hb dX9_markFrame_0 rfl (lv_at hl 0 rfl) ?_
    refine lv_dup hx hb dX9_markFrame_1 rfl ?_
    refine gfX9_turn hx hb hts hK hP hown (hts _ tw_189) (x := σ.1 12) rfl dX9_markFrame_2 ?_
    refine lv_iconst (v := I 1) hx hb dX9_markFrame_5 rfl ?_
    refine bi_iadd hx hb dX9_markFrame_6 ?_
    obtain ⟨c1, hw⟩ := hw
    refine pfX9_turn hx hb hts hK hP hD hS hown (hts _ tw_189) dX9_markFrame_7 (fun H locs hP hD hS => ?_)
    have hN : n_m (s_v σ 12 (σ.1 12 + 1)) := n_v (i := 12) hN (c1 : rg (σ.1 12 + 1))
    have hF : f_r [12] [26] [] σ (s_v σ 12 (σ.1 12 + 1)) := f_v hF (by decide)
    refine lv_aload_n hx hb dX9_markFrame_10 rfl (lv_at hl 0 rfl) ?_
    refine lv_iload_n hx hb dX9_markFrame_11 rfl (lv_at hl 1 rfl) ?_
    obtain ⟨Q2, hc, hw⟩ := hw
    refine wc_V (X := CX g q lb) (va_runV (As := [.int (I n1)]) (rest := []) ⟨hx, hb, hml, hown, hts⟩ (L_X9_markVariables l g q lb hlb r_n1 hN hc H.size) (cwV 1 hts (TB_V tw_1013 tw_1015 ts_8 tw_3 co_X9_markVariables) rfl rfl rfl (by decide +kernel) ⟨Nat.le_of_ble_eq_true rfl, Nat.le_of_ble_eq_true rfl⟩) (preV (q0 := 2) (ci := 9) rfl xT_bl hP hK hNb hD rfl rfl xT_at) rfl rfl hl.1 rfl (lv_room (Nat.le_of_ble_eq_true rfl)) dX9_markFrame_12 ⟨Nat.le_of_ble_eq_true rfl, Nat.le_of_ble_eq_true rfl⟩) hP hD hS hA (fun τ4 H locs hN hf hq hP hD hS => ?_)
    replace hw := hw τ4 hN hf hq
    have hF : f_r [12] [26] [] σ τ4 := f_t hF hf (by decide) (by decide) (by decide)
    have hB := hN
    refine lv_iconst (v := I 0) hx hb dX9_markFrame_15 rfl ?_
    refine lv_istore_n (lv' := [(2, .int (I 0)), (0, .ref (q 2)), (1, .int (I n1))]) hx hb dX9_markFrame_16 rfl hl (by decide) rfl (fun ls hl => ?_)
    exact (hP17 _ _).mp hw (by decide) hN hF H locs ls hP hD hS (lv_sub hl [1, 0] rfl)
  ·
    intro u2 τ hw
    refine (hP17 _ _).mpr ?_
    intro r_u2 hN hF H locs ls hP hD hS hl
    have hB := hN
    refine lv_iload_n hx hb dX9_markFrame_17 rfl (lv_at hl 1 rfl) ?_
    refine lv_aload_n hx hb dX9_markFrame_18 rfl (lv_at hl 0 rfl) ?_
    refine gfX9_hypothesisCount hx hb hts hK hP hown (hts _ tw_176) (x := τ.1 9) rfl dX9_markFrame_19 ?_
    refine bi_icmp_ge (tgt := 59) hx hb r_u2 (hB.1 9) dX9_markFrame_22 (by decide) (fun c5 => ?_) (fun c5 => ?_)
    ·
      replace hw := hw.1 c5
      exact xrv hx hb hr hlk hP hK hD hS ⟨_, hN, hF, rfl, hw⟩ (Nat.le_of_ble_eq_true rfl) (Nat.le_of_ble_eq_true rfl) dX9_markFrame_59
    ·
      replace hw := hw.2 c5
      refine lv_aload_n hx hb dX9_markFrame_25 rfl (lv_at hl 0 rfl) ?_
      refine gfX9_library hx hb hts hK hP hown (hts _ tw_165) dX9_markFrame_26 ?_
      refine gfNX3_kind hx hb hts hK hP hown (nb_use hNb tn_74) dX9_markFrame_29 ?_
      refine lv_aload_n hx hb dX9_markFrame_32 rfl (lv_at hl 0 rfl) ?_
      refine gfX9_hypotheses hx hb hts hK hP hown (hts _ tw_173) dX9_markFrame_33 ?_
      refine lv_iload_n hx hb dX9_markFrame_36 rfl (lv_at hl 1 rfl) ?_
      obtain ⟨c6, hw⟩ := hw
      refine ldCX9_hypotheses hx hb hK hP hN c6 dX9_markFrame_37 (fun x7 r_x7 e_x7 => ?_)
      replace hw := hw x7 r_x7 e_x7
      obtain ⟨c8, hw⟩ := hw
      refine ldCX3_kind hx hb hK hP hN c8 dX9_markFrame_38 (fun x9 r_x9 e_x9 => ?_)
      replace hw := hw x9 r_x9 e_x9
      refine lv_iconst (v := I 1) hx hb dX9_markFrame_39 rfl ?_
      refine bi_icmp_ne (tgt := 53) hx hb r_x9 (by decide) dX9_markFrame_40 (by decide) (fun c10 => ?_) (fun c10 => ?_)
      ·
        replace hw := hw.1 c10
        refine lv_iinc (v := I (u2 + 1)) (lv' := [(2, .int (I (u2 + 1))), (0, .ref (q 2))]) hx hb dX9_markFrame_53 hl (k := 1) rfl (I_add _ _) (by decide) rfl (fun ls hl => ?_)
        refine lv_goto (tgt := 17) hx hb dX9_markFrame_56 (by decide) ?_
        obtain ⟨c11, hw⟩ := hw
        exact (hP17 _ _).mp hw c11 hN hF H locs ls hP hD hS (lv_sub hl [1, 0] rfl)
      ·
        replace hw := hw.2 c10
        refine lv_aload_n hx hb dX9_markFrame_43 rfl (lv_at hl 0 rfl) ?_
        refine lv_aload_n hx hb dX9_markFrame_44 rfl (lv_at hl 0 rfl) ?_
        refine gfX9_hypotheses hx hb hts hK hP hown (hts _ tw_173) dX9_markFrame_45 ?_
        refine lv_iload_n hx hb dX9_markFrame_48 rfl (lv_at hl 1 rfl) ?_
        refine ldCX9_hypotheses hx hb hK hP hN c6 dX9_markFrame_49 (fun x12 r_x12 e_x12 => ?_)
        replace hw := hw x12 r_x12 e_x12
        obtain ⟨Q13, hc, hw⟩ := hw
        refine wc_V (X := CX g q lb) (va_runV (As := [.int (I x12)]) (rest := []) ⟨hx, hb, hml, hown, hts⟩ (L_X9_markVariables l g q lb hlb r_x12 hN hc H.size) (cwV 1 hts (TB_V tw_1013 tw_1015 ts_8 tw_3 co_X9_markVariables) rfl rfl rfl (by decide +kernel) ⟨Nat.le_of_ble_eq_true rfl, Nat.le_of_ble_eq_true rfl⟩) (preV (q0 := 2) (ci := 9) rfl xT_bl hP hK hNb hD rfl rfl xT_at) rfl rfl hl.1 rfl (lv_room (Nat.le_of_ble_eq_true rfl)) dX9_markFrame_50 ⟨Nat.le_of_ble_eq_true rfl, Nat.le_of_ble_eq_true rfl⟩) hP hD hS hA (fun τ15 H locs hN hf hq hP hD hS => ?_)
        replace hw := hw τ15 hN hf hq
        have hF : f_r [12] [26] [] σ τ15 := f_t hF hf (by decide) (by decide) (by decide)
        have hB := hN
        refine lv_iinc (v := I (u2 + 1)) (lv' := [(2, .int (I (u2 + 1))), (0, .ref (q 2))]) hx hb dX9_markFrame_53 hl (k := 1) rfl (I_add _ _) (by decide) rfl (fun ls hl => ?_)
        refine lv_goto (tgt := 17) hx hb dX9_markFrame_56 (by decide) ?_
        obtain ⟨c16, hw⟩ := hw
        exact (hP17 _ _).mp hw c16 hN hF H locs ls hP hD hS (lv_sub hl [1, 0] rfl)
def W_X3_variableOf (n1 : Int) (σ : S0) (Q : Int → Prop) : Prop :=
  (0 ≤ n1 ∧ n1 < 1501) ∧ (∀ (x2 : Int), rg x2 → x2 = σ.2.1 14 n1 → ((0 ≤ (x2 + 1) ∧ (x2 + 1) < 30000) ∧ (∀ (x4 : Int), rg x4 → x4 = σ.2.1 15 (x2 + 1) → (Q x4))))
set_option maxRecDepth 100000 in
set_option maxHeartbeats 4000000 in
theorem L_X3_variableOf (l : Launch) (g : gG) (q : Nat → Nat) (lb : Nat) (hlb : lb < 2 ^ 31) {n1 : Int} {σ : S0} {Q : Int → Prop} (r_n1 : rg n1) (hN : n_m σ) (hw : W_X3_variableOf n1 σ Q) (sz : Nat) : MetI l yX3_variableOf cX3_variableOf 2 (some .int) { frames := 0, cells := 0, slots := 0, locals := 0 } g [.ref (q 1), .int (I n1)] (CX g q lb σ) sz xT (p_i (CX g q lb) σ Q) 0 0 := by
  refine mkMet (Qc := fun A => QI g A (p_i (CX g q lb) σ Q)) (by decide) (Nat.le_of_ble_eq_true rfl) ?_
  intro p e s m below meth c A H ls hx hb hr hml hown hts hlk hnm hsz hP hK hNb hD hA hAe hS hX hl
  have hl : lv_has ls 2 [(0, .ref (q 1)), (1, .int (I n1))] := hl
  have hB := hN
  obtain ⟨locs, hlocs⟩ : ∃ z : List Loc, z = [] := ⟨_, rfl⟩
  rw [← hlocs] at hS ⊢
  refine lv_aload_n hx hb dX3_variableOf_0 rfl (lv_at hl 0 rfl) ?_
  refine gfX3_text hx hb hts hK hP hown (hts _ tw_85) dX3_variableOf_1 ?_
  refine lv_aload_n hx hb dX3_variableOf_4 rfl (lv_at hl 0 rfl) ?_
  refine gfX3_at hx hb hts hK hP hown (hts _ tw_77) dX3_variableOf_5 ?_
  refine lv_iload_n hx hb dX3_variableOf_8 rfl (lv_at hl 1 rfl) ?_
  obtain ⟨c1, hw⟩ := hw
  refine ldCX3_at hx hb hK hP hN c1 dX3_variableOf_9 (fun x2 r_x2 e_x2 => ?_)
  replace hw := hw x2 r_x2 e_x2
  refine lv_iconst (v := I 1) hx hb dX3_variableOf_10 rfl ?_
  refine bi_iadd hx hb dX3_variableOf_11 ?_
  obtain ⟨c3, hw⟩ := hw
  refine ldCX3_text hx hb hK hP hN c3 dX3_variableOf_12 (fun x4 r_x4 e_x4 => ?_)
  replace hw := hw x4 r_x4 e_x4
  exact xri hx hb hr hlk hP hK hD hS ⟨_, r_x4, rfl, rfl, hw⟩ (Nat.le_of_ble_eq_true rfl) (Nat.le_of_ble_eq_true rfl) dX3_variableOf_13
def W_X9_isInFrame (n1 : Int) (σ : S0) (Q : Int → Prop) : Prop :=
  (0 ≤ n1 ∧ n1 < 1000) ∧ (∀ (x2 : Int), rg x2 → x2 = σ.2.1 26 n1 → ((¬ x2 = σ.1 12 → Q 0) ∧ (x2 = σ.1 12 → Q 1)))
set_option maxRecDepth 100000 in
set_option maxHeartbeats 4000000 in
theorem L_X9_isInFrame (l : Launch) (g : gG) (q : Nat → Nat) (lb : Nat) (hlb : lb < 2 ^ 31) {n1 : Int} {σ : S0} {Q : Int → Prop} (r_n1 : rg n1) (hN : n_m σ) (hw : W_X9_isInFrame n1 σ Q) (sz : Nat) : MetI l yX9_isInFrame cX9_isInFrame 2 (some .boolean) { frames := 0, cells := 0, slots := 0, locals := 0 } g [.ref (q 2), .int (I n1)] (CX g q lb σ) sz xT (p_i (CX g q lb) σ Q) 0 0 := by
  refine mkMet (Qc := fun A => QI g A (p_i (CX g q lb) σ Q)) (by decide) (Nat.le_of_ble_eq_true rfl) ?_
  intro p e s m below meth c A H ls hx hb hr hml hown hts hlk hnm hsz hP hK hNb hD hA hAe hS hX hl
  have hl : lv_has ls 2 [(0, .ref (q 2)), (1, .int (I n1))] := hl
  have hB := hN
  obtain ⟨locs, hlocs⟩ : ∃ z : List Loc, z = [] := ⟨_, rfl⟩
  rw [← hlocs] at hS ⊢
  refine lv_aload_n hx hb dX9_isInFrame_0 rfl (lv_at hl 0 rfl) ?_
  refine gfX9_met hx hb hts hK hP hown (hts _ tw_188) dX9_isInFrame_1 ?_
  refine lv_iload_n hx hb dX9_isInFrame_4 rfl (lv_at hl 1 rfl) ?_
  obtain ⟨c1, hw⟩ := hw
  refine ldCX9_met hx hb hK hP hN c1 dX9_isInFrame_5 (fun x2 r_x2 e_x2 => ?_)
  replace hw := hw x2 r_x2 e_x2
  refine lv_aload_n hx hb dX9_isInFrame_6 rfl (lv_at hl 0 rfl) ?_
  refine gfX9_turn hx hb hts hK hP hown (hts _ tw_189) (x := σ.1 12) rfl dX9_isInFrame_7 ?_
  refine bi_icmp_ne (tgt := 17) hx hb r_x2 (hB.1 12) dX9_isInFrame_10 (by decide) (fun c3 => ?_) (fun c3 => ?_)
  ·
    replace hw := hw.1 c3
    refine lv_iconst (v := I 0) hx hb dX9_isInFrame_17 rfl ?_
    exact xrz hx hb hr (by decide) hlk hP hK hD hS ⟨_, (by decide), rfl, rfl, hw⟩ (Nat.le_of_ble_eq_true rfl) (Nat.le_of_ble_eq_true rfl) dX9_isInFrame_18
  ·
    replace hw := hw.2 c3
    refine lv_iconst (v := I 1) hx hb dX9_isInFrame_13 rfl ?_
    refine lv_goto (tgt := 18) hx hb dX9_isInFrame_14 (by decide) ?_
    exact xrz hx hb hr (by decide) hlk hP hK hD hS ⟨_, (by decide), rfl, rfl, hw⟩ (Nat.le_of_ble_eq_true rfl) (Nat.le_of_ble_eq_true rfl) dX9_isInFrame_18
def W_X0_takeHypotheses (n1 : Int) (σ : S0) (Q : Int → S0 → Prop) : Prop :=
  ∀ (P19 : Int → Int → S0 → Prop) (P73 : Int → Int → Int → S0 → Prop),
  (∀ (u1 : Int) (u2 : Int) (τ : S0), ((τ.1 9 ≤ u2 → Q 1 τ) ∧ (u2 < τ.1 9 → (0 ≤ u2 ∧ u2 < 1500) ∧ (∀ (x4 : Int), rg x4 → x4 = τ.2.1 22 u2 → ((0 ≤ x4 ∧ x4 < 1500) ∧ (∀ (x6 : Int), rg x6 → x6 = τ.2.1 13 x4 → ((¬ x6 = 0 → P73 u1 u2 x4 τ) ∧ (x6 = 0 → ∃ (Q8 : Int → Prop), W_X3_variableOf x4 τ Q8 ∧ ∀ (x9 : Int), rg x9 → Q8 x9 → (∃ (Q11 : Int → Prop), W_X9_isInFrame x9 τ Q11 ∧ ∀ (x12 : Int), rg x12 → Q11 x12 → ((¬ x12 = 0 → P73 u1 u2 x4 τ) ∧ (x12 = 0 → rg (u2 + 1) ∧ P19 u1 (u2 + 1) τ)))))))))) → P19 u1 u2 τ) →
  (∀ (u1 : Int) (u2 : Int) (u3 : Int) (τ : S0), ((0 ≤ u1 ∧ u1 < 1500) ∧ (∀ (x17 : Int), rg x17 → x17 = τ.2.1 28 u1 → ((¬ x17 = 60 → (0 ≤ τ.1 13 ∧ τ.1 13 < 90000) ∧ (rg (τ.1 13 + 1) ∧ ∀ (x21 : Int), rg x21 → x21 = τ.2.1 28 u1 → (rg (x21 + 1) ∧ rg (u2 + 1) ∧ P19 u1 (u2 + 1) (s_a (s_v (s_a τ 29 (τ.1 13) u3) 13 (τ.1 13 + 1)) 28 u1 (x21 + 1))))) ∧ (x17 = 60 → Q 0 τ)))) → P73 u1 u2 u3 τ) →
  (0 ≤ n1 ∧ n1 < 1500) ∧ (P19 n1 0 (s_a (s_a σ 27 n1 (σ.1 13)) 28 n1 0))
set_option maxRecDepth 100000 in
set_option maxHeartbeats 4000000 in
theorem L_X0_takeHypotheses (l : Launch) (g : gG) (q : Nat → Nat) (lb : Nat) (hlb : lb < 2 ^ 31) {n1 : Int} {σ : S0} {Q : Int → S0 → Prop} (r_n1 : rg n1) (hN : n_m σ) (hw : W_X0_takeHypotheses n1 σ Q) (sz : Nat) : MetI l yX0_takeHypotheses cX0_takeHypotheses 4 (some .boolean) { frames := 1, cells := 0, slots := 0, locals := 21 } g [.ref (q 3), .int (I n1)] (CX g q lb σ) sz xT (p_I (CX g q lb) [13] [27, 28, 29] [] σ Q) 0 0 := by
  refine mkMet (Qc := fun A => QI g A (p_I (CX g q lb) [13] [27, 28, 29] [] σ Q)) (by decide) (Nat.le_of_ble_eq_true rfl) ?_
  intro p e s m below meth c A H ls hx hb hr hml hown hts hlk hnm hsz hP hK hNb hD hA hAe hS hX hl
  have hl : lv_has ls 4 [(0, .ref (q 3)), (1, .int (I n1))] := hl
  have hB := hN
  have hF : f_r [13] [27, 28, 29] [] σ σ := f_0
  obtain ⟨locs, hlocs⟩ : ∃ z : List Loc, z = [] := ⟨_, rfl⟩
  rw [← hlocs] at hS ⊢
  obtain ⟨P19, hP19⟩ : ∃ P : Int → Int → S0 → Prop, ∀ (u1 : Int) (u2 : Int) (τ : S0), (P u1 u2 τ ↔ (rg u1 → rg u2 → n_m τ → f_r [13] [27, 28, 29] [] σ τ → ∀ (H : Heap) (locs : List Loc) (ls : Array Slot), KP g (CX g q lb τ) H → va_D A (CX g q lb τ) → va_S A s.heap H locs → lv_has ls 4 [(0, .ref (q 3)), (1, .int (I u1)), (2, .int (I u2))] → W p l e ({ frames := 1, cells := 0, slots := 0, locals := 21 }) s m [.ref (q 3), .int (I n1)].toArray below meth c H locs 0 0 (MQ below (QI g A (p_I (CX g q lb) [13] [27, 28, 29] [] σ Q)) [.ref (q 3), .int (I n1)].toArray s 0 0 A) (F0 m 19 ls []))) := ⟨_, fun _ _ _ => Iff.rfl⟩
  obtain ⟨P73, hP73⟩ : ∃ P : Int → Int → Int → S0 → Prop, ∀ (u1 : Int) (u2 : Int) (u3 : Int) (τ : S0), (P u1 u2 u3 τ ↔ (rg u1 → rg u2 → rg u3 → n_m τ → f_r [13] [27, 28, 29] [] σ τ → ∀ (H : Heap) (locs : List Loc) (ls : Array Slot), KP g (CX g q lb τ) H → va_D A (CX g q lb τ) → va_S A s.heap H locs → lv_has ls 4 [(0, .ref (q 3)), (1, .int (I u1)), (2, .int (I u2)), (3, .int (I u3))] → W p l e ({ frames := 1, cells := 0, slots := 0, locals := 21 }) s m [.ref (q 3), .int (I n1)].toArray below meth c H locs 0 0 (MQ below (QI g A (p_I (CX g q lb) [13] [27, 28, 29] [] σ Q)) [.ref (q 3), .int (I n1)].toArray s 0 0 A) (F0 m 73 ls []))) := ⟨_, fun _ _ _ _ => Iff.rfl⟩
  refine (fun hw => ?_) (hw P19 P73 ?_ ?_)
  ·
    refine lv_aload_n hx hb dX0_takeHypotheses_0 rfl (lv_at hl 0 rfl) ?_
    refine gfX0_frameAt hx hb hts hK hP hown (hts _ tw_234) dX0_takeHypotheses_1 ?_
    refine lv_iload_n hx hb dX0_takeHypotheses_4 rfl (lv_at hl 1 rfl) ?_
    refine lv_aload_n hx hb dX0_takeHypotheses_5 rfl (lv_at hl 0 rfl) ?_
    refine gfX0_hypothesesUsed hx hb hts hK hP hown (hts _ tw_256) (x := σ.1 13) rfl dX0_takeHypotheses_6 ?_
    obtain ⟨c1, hw⟩ := hw
    refine sdCX0_frameAt hx hb hK hP hD hS c1 dX0_takeHypotheses_9 (fun H locs hP hD hS => ?_)
    have hN : n_m (s_a σ 27 n1 (σ.1 13)) := n_a (k := 27) (j := n1) hN ((hB.1 13) : rg (σ.1 13))
    have hF : f_r [13] [27, 28, 29] [] σ (s_a σ 27 n1 (σ.1 13)) := f_a hF (by decide)
    refine lv_aload_n hx hb dX0_takeHypotheses_10 rfl (lv_at hl 0 rfl) ?_
    refine gfX0_frameSize hx hb hts hK hP hown (hts _ tw_241) dX0_takeHypotheses_11 ?_
    refine lv_iload_n hx hb dX0_takeHypotheses_14 rfl (lv_at hl 1 rfl) ?_
    refine lv_iconst (v := I 0) hx hb dX0_takeHypotheses_15 rfl ?_
    refine sdCX0_frameSize hx hb hK hP hD hS c1 dX0_takeHypotheses_16 (fun H locs hP hD hS => ?_)
    have hN : n_m (s_a (s_a σ 27 n1 (σ.1 13)) 28 n1 0) := n_a (k := 28) (j := n1) hN ((by decide) : rg 0)
    have hF : f_r [13] [27, 28, 29] [] σ (s_a (s_a σ 27 n1 (σ.1 13)) 28 n1 0) := f_a hF (by decide)
    refine lv_iconst (v := I 0) hx hb dX0_takeHypotheses_17 rfl ?_
    refine lv_istore_n (lv' := [(2, .int (I 0)), (0, .ref (q 3)), (1, .int (I n1))]) hx hb dX0_takeHypotheses_18 rfl hl (by decide) rfl (fun ls hl => ?_)
    exact (hP19 _ _ _).mp hw r_n1 (by decide) hN hF H locs ls hP hD hS (lv_sub hl [1, 2, 0] rfl)
  ·
    intro u1 u2 τ hw
    refine (hP19 _ _ _).mpr ?_
    intro r_u1 r_u2 hN hF H locs ls hP hD hS hl
    have hB := hN
    refine lv_iload_n hx hb dX0_takeHypotheses_19 rfl (lv_at hl 2 rfl) ?_
    refine lv_aload_n hx hb dX0_takeHypotheses_20 rfl (lv_at hl 0 rfl) ?_
    refine gfX0_scopes hx hb hts hK hP hown (hts _ tw_233) dX0_takeHypotheses_21 ?_
    refine gfNX9_hypothesisCount hx hb hts hK hP hown (nb_use hNb tn_175) (x := τ.1 9) rfl dX0_takeHypotheses_24 ?_
    refine bi_icmp_ge (tgt := 122) hx hb r_u2 (hB.1 9) dX0_takeHypotheses_27 (by decide) (fun c2 => ?_) (fun c2 => ?_)
    ·
      replace hw := hw.1 c2
      refine lv_iconst (v := I 1) hx hb dX0_takeHypotheses_122 rfl ?_
      exact xrz hx hb hr (by decide) hlk hP hK hD hS ⟨_, _, (by decide), rfl, hN, hF, rfl, hw⟩ (Nat.le_of_ble_eq_true rfl) (Nat.le_of_ble_eq_true rfl) dX0_takeHypotheses_123
    ·
      replace hw := hw.2 c2
      refine lv_aload_n hx hb dX0_takeHypotheses_30 rfl (lv_at hl 0 rfl) ?_
      refine gfX0_scopes hx hb hts hK hP hown (hts _ tw_233) dX0_takeHypotheses_31 ?_
      refine gfNX9_hypotheses hx hb hts hK hP hown (nb_use hNb tn_174) dX0_takeHypotheses_34 ?_
      refine lv_iload_n hx hb dX0_takeHypotheses_37 rfl (lv_at hl 2 rfl) ?_
      obtain ⟨c3, hw⟩ := hw
      refine ldCX9_hypotheses hx hb hK hP hN c3 dX0_takeHypotheses_38 (fun x4 r_x4 e_x4 => ?_)
      replace hw := hw x4 r_x4 e_x4
      refine lv_istore_n (lv' := [(3, .int (I x4)), (0, .ref (q 3)), (1, .int (I u1)), (2, .int (I u2))]) hx hb dX0_takeHypotheses_39 rfl hl (by decide) rfl (fun ls hl => ?_)
      refine lv_aload_n hx hb dX0_takeHypotheses_40 rfl (lv_at hl 1 rfl) ?_
      refine gfX0_library hx hb hts hK hP hown (hts _ tw_232) dX0_takeHypotheses_41 ?_
      refine gfNX3_kind hx hb hts hK hP hown (nb_use hNb tn_73) dX0_takeHypotheses_44 ?_
      refine lv_iload_n hx hb dX0_takeHypotheses_47 rfl (lv_at hl 0 rfl) ?_
      obtain ⟨c5, hw⟩ := hw
      refine ldCX3_kind hx hb hK hP hN c5 dX0_takeHypotheses_48 (fun x6 r_x6 e_x6 => ?_)
      replace hw := hw x6 r_x6 e_x6
      refine bi_if_ne (tgt := 73) hx hb r_x6 dX0_takeHypotheses_49 (by decide) (fun c7 => ?_) (fun c7 => ?_)
      ·
        replace hw := hw.1 c7
        exact (hP73 _ _ _ _).mp hw r_u1 r_u2 r_x4 hN hF H locs ls hP hD hS (lv_sub hl [1, 2, 3, 0] rfl)
      ·
        replace hw := hw.2 c7
        refine lv_aload_n hx hb dX0_takeHypotheses_52 rfl (lv_at hl 1 rfl) ?_
        refine gfX0_scopes hx hb hts hK hP hown (hts _ tw_233) dX0_takeHypotheses_53 ?_
        refine lv_aload_n hx hb dX0_takeHypotheses_56 rfl (lv_at hl 1 rfl) ?_
        refine gfX0_library hx hb hts hK hP hown (hts _ tw_232) dX0_takeHypotheses_57 ?_
        refine lv_iload_n hx hb dX0_takeHypotheses_60 rfl (lv_at hl 0 rfl) ?_
        obtain ⟨Q8, hc, hw⟩ := hw
        refine wc_i (X := CX g q lb) (va_runV (As := [.int (I x4)]) (rest := [.ref (q 2)]) ⟨hx, hb, hml, hown, hts⟩ (L_X3_variableOf l g q lb hlb r_x4 hN hc H.size) (cwV 1 hts (TB_V tw_1021 tw_1022 tw_1023 tw_2 co_X3_variableOf) rfl rfl rfl (by decide +kernel) ⟨Nat.le_of_ble_eq_true rfl, Nat.le_of_ble_eq_true rfl⟩) (preV (q0 := 1) (ci := 3) rfl xT_bl hP hK hNb hD rfl rfl xT_at) rfl rfl hl.1 rfl (lv_room (Nat.le_of_ble_eq_true rfl)) dX0_takeHypotheses_61 ⟨Nat.le_of_ble_eq_true rfl, Nat.le_of_ble_eq_true rfl⟩) hP hD hS hA (fun x9 H locs r_x9 hq hP hD hS => ?_)
        replace hw := hw x9 r_x9 hq
        obtain ⟨Q11, hc, hw⟩ := hw
        refine wc_i (X := CX g q lb) (va_runV (As := [.int (I x9)]) (rest := []) ⟨hx, hb, hml, hown, hts⟩ (L_X9_isInFrame l g q lb hlb r_x9 hN hc H.size) (cwV 1 hts (TB_V tw_1025 tw_1026 tw_1027 tw_3 co_X9_isInFrame) rfl rfl rfl (by decide +kernel) ⟨Nat.le_of_ble_eq_true rfl, Nat.le_of_ble_eq_true rfl⟩) (preV (q0 := 2) (ci := 9) rfl xT_bl hP hK hNb hD rfl rfl xT_at) rfl rfl hl.1 rfl (lv_room (Nat.le_of_ble_eq_true rfl)) dX0_takeHypotheses_64 ⟨Nat.le_of_ble_eq_true rfl, Nat.le_of_ble_eq_true rfl⟩) hP hD hS hA (fun x12 H locs r_x12 hq hP hD hS => ?_)
        replace hw := hw x12 r_x12 hq
        refine bi_if_ne (tgt := 73) hx hb r_x12 dX0_takeHypotheses_67 (by decide) (fun c14 => ?_) (fun c14 => ?_)
        ·
          replace hw := hw.1 c14
          exact (hP73 _ _ _ _).mp hw r_u1 r_u2 r_x4 hN hF H locs ls hP hD hS (lv_sub hl [1, 2, 3, 0] rfl)
        ·
          replace hw := hw.2 c14
          refine lv_goto (tgt := 116) hx hb dX0_takeHypotheses_70 (by decide) ?_
          refine lv_iinc (v := I (u2 + 1)) (lv' := [(2, .int (I (u2 + 1))), (3, .int (I x4)), (0, .ref (q 3)), (1, .int (I u1))]) hx hb dX0_takeHypotheses_116 hl (k := 3) rfl (I_add _ _) (by decide) rfl (fun ls hl => ?_)
          refine lv_goto (tgt := 19) hx hb dX0_takeHypotheses_119 (by decide) ?_
          obtain ⟨c15, hw⟩ := hw
          exact (hP19 _ _ _).mp hw r_u1 c15 hN hF H locs ls hP hD hS (lv_sub hl [2, 3, 0] rfl)
  ·
    intro u1 u2 u3 τ hw
    refine (hP73 _ _ _ _).mpr ?_
    intro r_u1 r_u2 r_u3 hN hF H locs ls hP hD hS hl
    have hB := hN
    refine lv_aload_n hx hb dX0_takeHypotheses_73 rfl (lv_at hl 0 rfl) ?_
    refine gfX0_frameSize hx hb hts hK hP hown (hts _ tw_241) dX0_takeHypotheses_74 ?_
    refine lv_iload_n hx hb dX0_takeHypotheses_77 rfl (lv_at hl 1 rfl) ?_
    obtain ⟨c16, hw⟩ := hw
    refine ldCX0_frameSize hx hb hK hP hN c16 dX0_takeHypotheses_78 (fun x17 r_x17 e_x17 => ?_)
    replace hw := hw x17 r_x17 e_x17
    refine lv_bipush (v := I 60) hx hb dX0_takeHypotheses_79 (by decide) ?_
    refine bi_icmp_ne (tgt := 86) hx hb r_x17 (by decide) dX0_takeHypotheses_81 (by decide) (fun c18 => ?_) (fun c18 => ?_)
    ·
      replace hw := hw.1 c18
      refine lv_aload_n hx hb dX0_takeHypotheses_86 rfl (lv_at hl 0 rfl) ?_
      refine gfX0_hypotheses hx hb hts hK hP hown (hts _ tw_249) dX0_takeHypotheses_87 ?_
      refine lv_aload_n hx hb dX0_takeHypotheses_90 rfl (lv_at hl 0 rfl) ?_
      refine gfX0_hypothesesUsed hx hb hts hK hP hown (hts _ tw_256) (x := τ.1 13) rfl dX0_takeHypotheses_91 ?_
      refine lv_iload_n hx hb dX0_takeHypotheses_94 rfl (lv_at hl 3 rfl) ?_
      obtain ⟨c19, hw⟩ := hw
      refine sdCX0_hypotheses hx hb hK hP hD hS c19 dX0_takeHypotheses_95 (fun H locs hP hD hS => ?_)
      have hN : n_m (s_a τ 29 (τ.1 13) u3) := n_a (k := 29) (j := τ.1 13) hN (r_u3 : rg u3)
      have hF : f_r [13] [27, 28, 29] [] σ (s_a τ 29 (τ.1 13) u3) := f_a hF (by decide)
      refine lv_aload_n hx hb dX0_takeHypotheses_96 rfl (lv_at hl 0 rfl) ?_
      refine lv_dup hx hb dX0_takeHypotheses_97 rfl ?_
      refine gfX0_hypothesesUsed hx hb hts hK hP hown (hts _ tw_256) (x := τ.1 13) rfl dX0_takeHypotheses_98 ?_
      refine lv_iconst (v := I 1) hx hb dX0_takeHypotheses_101 rfl ?_
      refine bi_iadd hx hb dX0_takeHypotheses_102 ?_
      obtain ⟨c20, hw⟩ := hw
      refine pfX0_hypothesesUsed hx hb hts hK hP hD hS hown (hts _ tw_256) dX0_takeHypotheses_103 (fun H locs hP hD hS => ?_)
      have hN : n_m (s_v (s_a τ 29 (τ.1 13) u3) 13 (τ.1 13 + 1)) := n_v (i := 13) hN (c20 : rg (τ.1 13 + 1))
      have hF : f_r [13] [27, 28, 29] [] σ (s_v (s_a τ 29 (τ.1 13) u3) 13 (τ.1 13 + 1)) := f_v hF (by decide)
      refine lv_aload_n hx hb dX0_takeHypotheses_106 rfl (lv_at hl 0 rfl) ?_
      refine gfX0_frameSize hx hb hts hK hP hown (hts _ tw_241) dX0_takeHypotheses_107 ?_
      refine lv_iload_n hx hb dX0_takeHypotheses_110 rfl (lv_at hl 1 rfl) ?_
      refine lv_dup2_11 hx hb dX0_takeHypotheses_111 rfl rfl ?_
      refine ldCX0_frameSize hx hb hK hP hN c16 dX0_takeHypotheses_112 (fun x21 r_x21 e_x21 => ?_)
      replace hw := hw x21 r_x21 e_x21
      refine lv_iconst (v := I 1) hx hb dX0_takeHypotheses_113 rfl ?_
      refine bi_iadd hx hb dX0_takeHypotheses_114 ?_
      obtain ⟨c22, hw⟩ := hw
      refine sdCX0_frameSize hx hb hK hP hD hS c16 dX0_takeHypotheses_115 (fun H locs hP hD hS => ?_)
      have hN : n_m (s_a (s_v (s_a τ 29 (τ.1 13) u3) 13 (τ.1 13 + 1)) 28 u1 (x21 + 1)) := n_a (k := 28) (j := u1) hN (c22 : rg (x21 + 1))
      have hF : f_r [13] [27, 28, 29] [] σ (s_a (s_v (s_a τ 29 (τ.1 13) u3) 13 (τ.1 13 + 1)) 28 u1 (x21 + 1)) := f_a hF (by decide)
      refine lv_iinc (v := I (u2 + 1)) (lv' := [(2, .int (I (u2 + 1))), (0, .ref (q 3)), (1, .int (I u1)), (3, .int (I u3))]) hx hb dX0_takeHypotheses_116 hl (k := 2) rfl (I_add _ _) (by decide) rfl (fun ls hl => ?_)
      refine lv_goto (tgt := 19) hx hb dX0_takeHypotheses_119 (by decide) ?_
      obtain ⟨c23, hw⟩ := hw
      exact (hP19 _ _ _).mp hw r_u1 c23 hN hF H locs ls hP hD hS (lv_sub hl [1, 2, 0] rfl)
    ·
      replace hw := hw.2 c18
      refine lv_iconst (v := I 0) hx hb dX0_takeHypotheses_84 rfl ?_
      exact xrz hx hb hr (by decide) hlk hP hK hD hS ⟨_, _, (by decide), rfl, hN, hF, rfl, hw⟩ (Nat.le_of_ble_eq_true rfl) (Nat.le_of_ble_eq_true rfl) dX0_takeHypotheses_85
def W_X0_takePairs (n1 : Int) (σ : S0) (Q : Int → S0 → Prop) : Prop :=
  ∀ (P19 : Int → Int → S0 → Prop),
  (∀ (u1 : Int) (u2 : Int) (τ : S0), ((τ.1 10 ≤ u2 → Q 1 τ) ∧ (u2 < τ.1 10 → (0 ≤ u2 ∧ u2 < 1000) ∧ (∀ (x4 : Int), rg x4 → x4 = τ.2.1 23 u2 → (∀ (x5 : Int), rg x5 → x5 = τ.2.1 24 u2 → (∃ (Q6 : Int → Prop), W_X9_isInFrame x4 τ Q6 ∧ ∀ (x7 : Int), rg x7 → Q6 x7 → ((x7 = 0 → rg (u2 + 1) ∧ P19 u1 (u2 + 1) τ) ∧ (¬ x7 = 0 → ∃ (Q11 : Int → Prop), W_X9_isInFrame x5 τ Q11 ∧ ∀ (x12 : Int), rg x12 → Q11 x12 → ((¬ x12 = 0 → (¬ τ.1 14 = 20000 → (0 ≤ τ.1 14 ∧ τ.1 14 < 20000) ∧ (rg ((x4 * 1000) + x5) ∧ rg (τ.1 14 + 1) ∧ (0 ≤ u1 ∧ u1 < 1500) ∧ (∀ (x20 : Int), rg x20 → x20 = τ.2.1 31 u1 → (rg (x20 + 1) ∧ rg (u2 + 1) ∧ P19 u1 (u2 + 1) (s_a (s_v (s_a τ 32 (τ.1 14) ((x4 * 1000) + x5)) 14 (τ.1 14 + 1)) 31 u1 (x20 + 1)))))) ∧ (τ.1 14 = 20000 → Q 0 τ)) ∧ (x12 = 0 → rg (u2 + 1) ∧ P19 u1 (u2 + 1) τ))))))))) → P19 u1 u2 τ) →
  (0 ≤ n1 ∧ n1 < 1500) ∧ (P19 n1 0 (s_a (s_a σ 30 n1 (σ.1 14)) 31 n1 0))
set_option maxRecDepth 100000 in
set_option maxHeartbeats 4000000 in
theorem L_X0_takePairs (l : Launch) (g : gG) (q : Nat → Nat) (lb : Nat) (hlb : lb < 2 ^ 31) {n1 : Int} {σ : S0} {Q : Int → S0 → Prop} (r_n1 : rg n1) (hN : n_m σ) (hw : W_X0_takePairs n1 σ Q) (sz : Nat) : MetI l yX0_takePairs cX0_takePairs 5 (some .boolean) { frames := 1, cells := 0, slots := 0, locals := 21 } g [.ref (q 3), .int (I n1)] (CX g q lb σ) sz xT (p_I (CX g q lb) [14] [30, 31, 32] [] σ Q) 0 0 := by
  refine mkMet (Qc := fun A => QI g A (p_I (CX g q lb) [14] [30, 31, 32] [] σ Q)) (by decide) (Nat.le_of_ble_eq_true rfl) ?_
  intro p e s m below meth c A H ls hx hb hr hml hown hts hlk hnm hsz hP hK hNb hD hA hAe hS hX hl
  have hl : lv_has ls 5 [(0, .ref (q 3)), (1, .int (I n1))] := hl
  have hB := hN
  have hF : f_r [14] [30, 31, 32] [] σ σ := f_0
  obtain ⟨locs, hlocs⟩ : ∃ z : List Loc, z = [] := ⟨_, rfl⟩
  rw [← hlocs] at hS ⊢
  obtain ⟨P19, hP19⟩ : ∃ P : Int → Int → S0 → Prop, ∀ (u1 : Int) (u2 : Int) (τ : S0), (P u1 u2 τ ↔ (rg u1 → rg u2 → n_m τ → f_r [14] [30, 31, 32] [] σ τ → ∀ (H : Heap) (locs : List Loc) (ls : Array Slot), KP g (CX g q lb τ) H → va_D A (CX g q lb τ) → va_S A s.heap H locs → lv_has ls 5 [(0, .ref (q 3)), (1, .int (I u1)), (2, .int (I u2))] → W p l e ({ frames := 1, cells := 0, slots := 0, locals := 21 }) s m [.ref (q 3), .int (I n1)].toArray below meth c H locs 0 0 (MQ below (QI g A (p_I (CX g q lb) [14] [30, 31, 32] [] σ Q)) [.ref (q 3), .int (I n1)].toArray s 0 0 A) (F0 m 19 ls []))) := ⟨_, fun _ _ _ => Iff.rfl⟩
  refine (fun hw => ?_) (hw P19 ?_)
  ·
    refine lv_aload_n hx hb dX0_takePairs_0 rfl (lv_at hl 0 rfl) ?_
    refine gfX0_pairAt hx hb hts hK hP hown (hts _ tw_257) dX0_takePairs_1 ?_
    refine lv_iload_n hx hb dX0_takePairs_4 rfl (lv_at hl 1 rfl) ?_
    refine lv_aload_n hx hb dX0_takePairs_5 rfl (lv_at hl 0 rfl) ?_
    refine gfX0_pairs hx hb hts hK hP hown (hts _ tw_263) (x := σ.1 14) rfl dX0_takePairs_6 ?_
    obtain ⟨c1, hw⟩ := hw
    refine sdCX0_pairAt hx hb hK hP hD hS c1 dX0_takePairs_9 (fun H locs hP hD hS => ?_)
    have hN : n_m (s_a σ 30 n1 (σ.1 14)) := n_a (k := 30) (j := n1) hN ((hB.1 14) : rg (σ.1 14))
    have hF : f_r [14] [30, 31, 32] [] σ (s_a σ 30 n1 (σ.1 14)) := f_a hF (by decide)
    refine lv_aload_n hx hb dX0_takePairs_10 rfl (lv_at hl 0 rfl) ?_
    refine gfX0_pairSize hx hb hts hK hP hown (hts _ tw_259) dX0_takePairs_11 ?_
    refine lv_iload_n hx hb dX0_takePairs_14 rfl (lv_at hl 1 rfl) ?_
    refine lv_iconst (v := I 0) hx hb dX0_takePairs_15 rfl ?_
    refine sdCX0_pairSize hx hb hK hP hD hS c1 dX0_takePairs_16 (fun H locs hP hD hS => ?_)
    have hN : n_m (s_a (s_a σ 30 n1 (σ.1 14)) 31 n1 0) := n_a (k := 31) (j := n1) hN ((by decide) : rg 0)
    have hF : f_r [14] [30, 31, 32] [] σ (s_a (s_a σ 30 n1 (σ.1 14)) 31 n1 0) := f_a hF (by decide)
    refine lv_iconst (v := I 0) hx hb dX0_takePairs_17 rfl ?_
    refine lv_istore_n (lv' := [(2, .int (I 0)), (0, .ref (q 3)), (1, .int (I n1))]) hx hb dX0_takePairs_18 rfl hl (by decide) rfl (fun ls hl => ?_)
    exact (hP19 _ _ _).mp hw r_n1 (by decide) hN hF H locs ls hP hD hS (lv_sub hl [1, 2, 0] rfl)
  ·
    intro u1 u2 τ hw
    refine (hP19 _ _ _).mpr ?_
    intro r_u1 r_u2 hN hF H locs ls hP hD hS hl
    have hB := hN
    refine lv_iload_n hx hb dX0_takePairs_19 rfl (lv_at hl 2 rfl) ?_
    refine lv_aload_n hx hb dX0_takePairs_20 rfl (lv_at hl 0 rfl) ?_
    refine gfX0_scopes hx hb hts hK hP hown (hts _ tw_233) dX0_takePairs_21 ?_
    refine gfNX9_pairCount hx hb hts hK hP hown (nb_use hNb tn_181) (x := τ.1 10) rfl dX0_takePairs_24 ?_
    refine bi_icmp_ge (tgt := 132) hx hb r_u2 (hB.1 10) dX0_takePairs_27 (by decide) (fun c2 => ?_) (fun c2 => ?_)
    ·
      replace hw := hw.1 c2
      refine lv_iconst (v := I 1) hx hb dX0_takePairs_132 rfl ?_
      exact xrz hx hb hr (by decide) hlk hP hK hD hS ⟨_, _, (by decide), rfl, hN, hF, rfl, hw⟩ (Nat.le_of_ble_eq_true rfl) (Nat.le_of_ble_eq_true rfl) dX0_takePairs_133
    ·
      replace hw := hw.2 c2
      refine lv_aload_n hx hb dX0_takePairs_30 rfl (lv_at hl 0 rfl) ?_
      refine gfX0_scopes hx hb hts hK hP hown (hts _ tw_233) dX0_takePairs_31 ?_
      refine gfNX9_pairX hx hb hts hK hP hown (nb_use hNb tn_178) dX0_takePairs_34 ?_
      refine lv_iload_n hx hb dX0_takePairs_37 rfl (lv_at hl 2 rfl) ?_
      obtain ⟨c3, hw⟩ := hw
      refine ldCX9_pairX hx hb hK hP hN c3 dX0_takePairs_38 (fun x4 r_x4 e_x4 => ?_)
      replace hw := hw x4 r_x4 e_x4
      refine lv_istore_n (lv' := [(3, .int (I x4)), (0, .ref (q 3)), (1, .int (I u1)), (2, .int (I u2))]) hx hb dX0_takePairs_39 rfl hl (by decide) rfl (fun ls hl => ?_)
      refine lv_aload_n hx hb dX0_takePairs_40 rfl (lv_at hl 1 rfl) ?_
      refine gfX0_scopes hx hb hts hK hP hown (hts _ tw_233) dX0_takePairs_41 ?_
      refine gfNX9_pairY hx hb hts hK hP hown (nb_use hNb tn_180) dX0_takePairs_44 ?_
      refine lv_iload_n hx hb dX0_takePairs_47 rfl (lv_at hl 3 rfl) ?_
      refine ldCX9_pairY hx hb hK hP hN c3 dX0_takePairs_48 (fun x5 r_x5 e_x5 => ?_)
      replace hw := hw x5 r_x5 e_x5
      refine lv_istore (lv' := [(4, .int (I x5)), (3, .int (I x4)), (0, .ref (q 3)), (1, .int (I u1)), (2, .int (I u2))]) hx hb dX0_takePairs_49 hl (by decide) rfl (fun ls hl => ?_)
      refine lv_aload_n hx hb dX0_takePairs_51 rfl (lv_at hl 2 rfl) ?_
      refine gfX0_scopes hx hb hts hK hP hown (hts _ tw_233) dX0_takePairs_52 ?_
      refine lv_iload_n hx hb dX0_takePairs_55 rfl (lv_at hl 1 rfl) ?_
      obtain ⟨Q6, hc, hw⟩ := hw
      refine wc_i (X := CX g q lb) (va_runV (As := [.int (I x4)]) (rest := []) ⟨hx, hb, hml, hown, hts⟩ (L_X9_isInFrame l g q lb hlb r_x4 hN hc H.size) (cwV 1 hts (TB_V tw_1025 tw_1026 tw_1027 tw_3 co_X9_isInFrame) rfl rfl rfl (by decide +kernel) ⟨Nat.le_of_ble_eq_true rfl, Nat.le_of_ble_eq_true rfl⟩) (preV (q0 := 2) (ci := 9) rfl xT_bl hP hK hNb hD rfl rfl xT_at) rfl rfl hl.1 rfl (lv_room (Nat.le_of_ble_eq_true rfl)) dX0_takePairs_56 ⟨Nat.le_of_ble_eq_true rfl, Nat.le_of_ble_eq_true rfl⟩) hP hD hS hA (fun x7 H locs r_x7 hq hP hD hS => ?_)
      replace hw := hw x7 r_x7 hq
      refine bi_if_eq (tgt := 126) hx hb r_x7 dX0_takePairs_59 (by decide) (fun c9 => ?_) (fun c9 => ?_)
      ·
        replace hw := hw.1 c9
        refine lv_iinc (v := I (u2 + 1)) (lv' := [(2, .int (I (u2 + 1))), (4, .int (I x5)), (3, .int (I x4)), (0, .ref (q 3)), (1, .int (I u1))]) hx hb dX0_takePairs_126 hl (k := 4) rfl (I_add _ _) (by decide) rfl (fun ls hl => ?_)
        refine lv_goto (tgt := 19) hx hb dX0_takePairs_129 (by decide) ?_
        obtain ⟨c10, hw⟩ := hw
        exact (hP19 _ _ _).mp hw r_u1 c10 hN hF H locs ls hP hD hS (lv_sub hl [3, 4, 0] rfl)
      ·
        replace hw := hw.2 c9
        refine lv_aload_n hx hb dX0_takePairs_62 rfl (lv_at hl 2 rfl) ?_
        refine gfX0_scopes hx hb hts hK hP hown (hts _ tw_233) dX0_takePairs_63 ?_
        refine lv_iload hx hb dX0_takePairs_66 (lv_at hl 0 rfl) ?_
        obtain ⟨Q11, hc, hw⟩ := hw
        refine wc_i (X := CX g q lb) (va_runV (As := [.int (I x5)]) (rest := []) ⟨hx, hb, hml, hown, hts⟩ (L_X9_isInFrame l g q lb hlb r_x5 hN hc H.size) (cwV 1 hts (TB_V tw_1025 tw_1026 tw_1027 tw_3 co_X9_isInFrame) rfl rfl rfl (by decide +kernel) ⟨Nat.le_of_ble_eq_true rfl, Nat.le_of_ble_eq_true rfl⟩) (preV (q0 := 2) (ci := 9) rfl xT_bl hP hK hNb hD rfl rfl xT_at) rfl rfl hl.1 rfl (lv_room (Nat.le_of_ble_eq_true rfl)) dX0_takePairs_68 ⟨Nat.le_of_ble_eq_true rfl, Nat.le_of_ble_eq_true rfl⟩) hP hD hS hA (fun x12 H locs r_x12 hq hP hD hS => ?_)
        replace hw := hw x12 r_x12 hq
        refine bi_if_ne (tgt := 77) hx hb r_x12 dX0_takePairs_71 (by decide) (fun c14 => ?_) (fun c14 => ?_)
        ·
          replace hw := hw.1 c14
          refine lv_aload_n hx hb dX0_takePairs_77 rfl (lv_at hl 2 rfl) ?_
          refine gfX0_pairs hx hb hts hK hP hown (hts _ tw_263) (x := τ.1 14) rfl dX0_takePairs_78 ?_
          refine lv_sipush (v := I 20000) hx hb dX0_takePairs_81 (by decide) ?_
          refine bi_icmp_ne (tgt := 89) hx hb (hB.1 14) (by decide) dX0_takePairs_84 (by decide) (fun c15 => ?_) (fun c15 => ?_)
          ·
            replace hw := hw.1 c15
            refine lv_aload_n hx hb dX0_takePairs_89 rfl (lv_at hl 2 rfl) ?_
            refine gfX0_pair hx hb hts hK hP hown (hts _ tw_262) dX0_takePairs_90 ?_
            refine lv_aload_n hx hb dX0_takePairs_93 rfl (lv_at hl 2 rfl) ?_
            refine gfX0_pairs hx hb hts hK hP hown (hts _ tw_263) (x := τ.1 14) rfl dX0_takePairs_94 ?_
            refine lv_iload_n hx hb dX0_takePairs_97 rfl (lv_at hl 1 rfl) ?_
            refine lv_sipush (v := I 1000) hx hb dX0_takePairs_98 (by decide) ?_
            refine bi_imul hx hb dX0_takePairs_101 ?_
            refine lv_iload hx hb dX0_takePairs_102 (lv_at hl 0 rfl) ?_
            refine bi_iadd hx hb dX0_takePairs_104 ?_
            obtain ⟨c16, hw⟩ := hw
            obtain ⟨c17, hw⟩ := hw
            refine sdCX0_pair hx hb hK hP hD hS c16 dX0_takePairs_105 (fun H locs hP hD hS => ?_)
            have hN : n_m (s_a τ 32 (τ.1 14) ((x4 * 1000) + x5)) := n_a (k := 32) (j := τ.1 14) hN (c17 : rg ((x4 * 1000) + x5))
            have hF : f_r [14] [30, 31, 32] [] σ (s_a τ 32 (τ.1 14) ((x4 * 1000) + x5)) := f_a hF (by decide)
            refine lv_aload_n hx hb dX0_takePairs_106 rfl (lv_at hl 2 rfl) ?_
            refine lv_dup hx hb dX0_takePairs_107 rfl ?_
            refine gfX0_pairs hx hb hts hK hP hown (hts _ tw_263) (x := τ.1 14) rfl dX0_takePairs_108 ?_
            refine lv_iconst (v := I 1) hx hb dX0_takePairs_111 rfl ?_
            refine bi_iadd hx hb dX0_takePairs_112 ?_
            obtain ⟨c18, hw⟩ := hw
            refine pfX0_pairs hx hb hts hK hP hD hS hown (hts _ tw_263) dX0_takePairs_113 (fun H locs hP hD hS => ?_)
            have hN : n_m (s_v (s_a τ 32 (τ.1 14) ((x4 * 1000) + x5)) 14 (τ.1 14 + 1)) := n_v (i := 14) hN (c18 : rg (τ.1 14 + 1))
            have hF : f_r [14] [30, 31, 32] [] σ (s_v (s_a τ 32 (τ.1 14) ((x4 * 1000) + x5)) 14 (τ.1 14 + 1)) := f_v hF (by decide)
            refine lv_aload_n hx hb dX0_takePairs_116 rfl (lv_at hl 2 rfl) ?_
            refine gfX0_pairSize hx hb hts hK hP hown (hts _ tw_259) dX0_takePairs_117 ?_
            refine lv_iload_n hx hb dX0_takePairs_120 rfl (lv_at hl 3 rfl) ?_
            refine lv_dup2_11 hx hb dX0_takePairs_121 rfl rfl ?_
            obtain ⟨c19, hw⟩ := hw
            refine ldCX0_pairSize hx hb hK hP hN c19 dX0_takePairs_122 (fun x20 r_x20 e_x20 => ?_)
            replace hw := hw x20 r_x20 e_x20
            refine lv_iconst (v := I 1) hx hb dX0_takePairs_123 rfl ?_
            refine bi_iadd hx hb dX0_takePairs_124 ?_
            obtain ⟨c21, hw⟩ := hw
            refine sdCX0_pairSize hx hb hK hP hD hS c19 dX0_takePairs_125 (fun H locs hP hD hS => ?_)
            have hN : n_m (s_a (s_v (s_a τ 32 (τ.1 14) ((x4 * 1000) + x5)) 14 (τ.1 14 + 1)) 31 u1 (x20 + 1)) := n_a (k := 31) (j := u1) hN (c21 : rg (x20 + 1))
            have hF : f_r [14] [30, 31, 32] [] σ (s_a (s_v (s_a τ 32 (τ.1 14) ((x4 * 1000) + x5)) 14 (τ.1 14 + 1)) 31 u1 (x20 + 1)) := f_a hF (by decide)
            refine lv_iinc (v := I (u2 + 1)) (lv' := [(2, .int (I (u2 + 1))), (4, .int (I x5)), (3, .int (I x4)), (0, .ref (q 3)), (1, .int (I u1))]) hx hb dX0_takePairs_126 hl (k := 4) rfl (I_add _ _) (by decide) rfl (fun ls hl => ?_)
            refine lv_goto (tgt := 19) hx hb dX0_takePairs_129 (by decide) ?_
            obtain ⟨c22, hw⟩ := hw
            exact (hP19 _ _ _).mp hw r_u1 c22 hN hF H locs ls hP hD hS (lv_sub hl [3, 4, 0] rfl)
          ·
            replace hw := hw.2 c15
            refine lv_iconst (v := I 0) hx hb dX0_takePairs_87 rfl ?_
            exact xrz hx hb hr (by decide) hlk hP hK hD hS ⟨_, _, (by decide), rfl, hN, hF, rfl, hw⟩ (Nat.le_of_ble_eq_true rfl) (Nat.le_of_ble_eq_true rfl) dX0_takePairs_88
        ·
          replace hw := hw.2 c14
          refine lv_goto (tgt := 126) hx hb dX0_takePairs_74 (by decide) ?_
          refine lv_iinc (v := I (u2 + 1)) (lv' := [(2, .int (I (u2 + 1))), (4, .int (I x5)), (3, .int (I x4)), (0, .ref (q 3)), (1, .int (I u1))]) hx hb dX0_takePairs_126 hl (k := 4) rfl (I_add _ _) (by decide) rfl (fun ls hl => ?_)
          refine lv_goto (tgt := 19) hx hb dX0_takePairs_129 (by decide) ?_
          obtain ⟨c23, hw⟩ := hw
          exact (hP19 _ _ _).mp hw r_u1 c23 hN hF H locs ls hP hD hS (lv_sub hl [3, 4, 0] rfl)
def W_X0_makeFrame (n1 : Int) (σ : S0) (Q : Int → S0 → Prop) : Prop :=
  ∀ (P10 : Int → Int → S0 → Prop),
  (∀ (u1 : Int) (u2 : Int) (τ : S0), ((24 ≤ u2 → ∃ (Q5 : Int → S0 → Prop), W_X0_takeHypotheses u1 τ Q5 ∧ ∀ (x6 : Int) (τ7 : S0), rg x6 → n_m τ7 → f_r [13] [27, 28, 29] [] τ τ7 → Q5 x6 τ7 → ((x6 = 0 → Q 0 τ7) ∧ (¬ x6 = 0 → ∃ (Q9 : Int → S0 → Prop), W_X0_takePairs u1 τ7 Q9 ∧ ∀ (x10 : Int) (τ11 : S0), rg x10 → n_m τ11 → f_r [14] [30, 31, 32] [] τ7 τ11 → Q9 x10 τ11 → ((x10 = 0 → Q 0 τ11) ∧ (¬ x10 = 0 → Q 1 τ11))))) ∧ (u2 < 24 → (0 ≤ ((u1 * 24) + u2) ∧ ((u1 * 24) + u2) < 36000) ∧ (rg (u2 + 1) ∧ P10 u1 (u2 + 1) (s_b τ 2 ((u1 * 24) + u2) 0)))) → P10 u1 u2 τ) →
  ∃ (Q1 : S0 → Prop), W_X9_markFrame n1 σ Q1 ∧ ∀ (τ3 : S0), n_m τ3 → f_r [12] [26] [] σ τ3 → Q1 τ3 → (P10 n1 0 τ3)
set_option maxRecDepth 100000 in
set_option maxHeartbeats 4000000 in
theorem L_X0_makeFrame (l : Launch) (g : gG) (q : Nat → Nat) (lb : Nat) (hlb : lb < 2 ^ 31) {n1 : Int} {σ : S0} {Q : Int → S0 → Prop} (r_n1 : rg n1) (hN : n_m σ) (hw : W_X0_makeFrame n1 σ Q) (sz : Nat) : MetI l yX0_makeFrame cX0_makeFrame 3 (some .boolean) { frames := 2, cells := 0, slots := 0, locals := 45 } g [.ref (q 3), .int (I n1)] (CX g q lb σ) sz xT (p_I (CX g q lb) [12, 13, 14] [26, 27, 28, 29, 30, 31, 32] [2] σ Q) 0 0 := by
  refine mkMet (Qc := fun A => QI g A (p_I (CX g q lb) [12, 13, 14] [26, 27, 28, 29, 30, 31, 32] [2] σ Q)) (by decide) (Nat.le_of_ble_eq_true rfl) ?_
  intro p e s m below meth c A H ls hx hb hr hml hown hts hlk hnm hsz hP hK hNb hD hA hAe hS hX hl
  have hl : lv_has ls 3 [(0, .ref (q 3)), (1, .int (I n1))] := hl
  have hB := hN
  have hF : f_r [12, 13, 14] [26, 27, 28, 29, 30, 31, 32] [2] σ σ := f_0
  obtain ⟨locs, hlocs⟩ : ∃ z : List Loc, z = [] := ⟨_, rfl⟩
  rw [← hlocs] at hS ⊢
  obtain ⟨P10, hP10⟩ : ∃ P : Int → Int → S0 → Prop, ∀ (u1 : Int) (u2 : Int) (τ : S0), (P u1 u2 τ ↔ (rg u1 → rg u2 → n_m τ → f_r [12, 13, 14] [26, 27, 28, 29, 30, 31, 32] [2] σ τ → ∀ (H : Heap) (locs : List Loc) (ls : Array Slot), KP g (CX g q lb τ) H → va_D A (CX g q lb τ) → va_S A s.heap H locs → lv_has ls 3 [(0, .ref (q 3)), (1, .int (I u1)), (2, .int (I u2))] → W p l e ({ frames := 2, cells := 0, slots := 0, locals := 45 }) s m [.ref (q 3), .int (I n1)].toArray below meth c H locs 0 0 (MQ below (QI g A (p_I (CX g q lb) [12, 13, 14] [26, 27, 28, 29, 30, 31, 32] [2] σ Q)) [.ref (q 3), .int (I n1)].toArray s 0 0 A) (F0 m 10 ls []))) := ⟨_, fun _ _ _ => Iff.rfl⟩
  refine (fun hw => ?_) (hw P10 ?_)
  ·
    refine lv_aload_n hx hb dX0_makeFrame_0 rfl (lv_at hl 0 rfl) ?_
    refine gfX0_scopes hx hb hts hK hP hown (hts _ tw_233) dX0_makeFrame_1 ?_
    refine lv_iload_n hx hb dX0_makeFrame_4 rfl (lv_at hl 1 rfl) ?_
    obtain ⟨Q1, hc, hw⟩ := hw
    refine wc_V (X := CX g q lb) (va_runV (As := [.int (I n1)]) (rest := []) ⟨hx, hb, hml, hown, hts⟩ (L_X9_markFrame l g q lb hlb r_n1 hN hc H.size) (cwV 1 hts (TB_V tw_1009 tw_1010 tw_1011 tw_3 co_X9_markFrame) rfl rfl rfl (by decide +kernel) ⟨Nat.le_of_ble_eq_true rfl, Nat.le_of_ble_eq_true rfl⟩) (preV (q0 := 2) (ci := 9) rfl xT_bl hP hK hNb hD rfl rfl xT_at) rfl rfl hl.1 rfl (lv_room (Nat.le_of_ble_eq_true rfl)) dX0_makeFrame_5 ⟨Nat.le_of_ble_eq_true rfl, Nat.le_of_ble_eq_true rfl⟩) hP hD hS hA (fun τ3 H locs hN hf hq hP hD hS => ?_)
    replace hw := hw τ3 hN hf hq
    have hF : f_r [12, 13, 14] [26, 27, 28, 29, 30, 31, 32] [2] σ τ3 := f_t hF hf (by decide) (by decide) (by decide)
    have hB := hN
    refine lv_iconst (v := I 0) hx hb dX0_makeFrame_8 rfl ?_
    refine lv_istore_n (lv' := [(2, .int (I 0)), (0, .ref (q 3)), (1, .int (I n1))]) hx hb dX0_makeFrame_9 rfl hl (by decide) rfl (fun ls hl => ?_)
    exact (hP10 _ _ _).mp hw r_n1 (by decide) hN hF H locs ls hP hD hS (lv_sub hl [1, 2, 0] rfl)
  ·
    intro u1 u2 τ hw
    refine (hP10 _ _ _).mpr ?_
    intro r_u1 r_u2 hN hF H locs ls hP hD hS hl
    have hB := hN
    refine lv_iload_n hx hb dX0_makeFrame_10 rfl (lv_at hl 2 rfl) ?_
    refine lv_bipush (v := I 24) hx hb dX0_makeFrame_11 (by decide) ?_
    refine bi_icmp_ge (tgt := 34) hx hb r_u2 (by decide) dX0_makeFrame_13 (by decide) (fun c4 => ?_) (fun c4 => ?_)
    ·
      replace hw := hw.1 c4
      refine lv_aload_n hx hb dX0_makeFrame_34 rfl (lv_at hl 0 rfl) ?_
      refine lv_iload_n hx hb dX0_makeFrame_35 rfl (lv_at hl 1 rfl) ?_
      obtain ⟨Q5, hc, hw⟩ := hw
      refine wc_I (X := CX g q lb) (va_runV (As := [.int (I u1)]) (rest := []) ⟨hx, hb, hml, hown, hts⟩ (L_X0_takeHypotheses l g q lb hlb r_u1 hN hc H.size) (cwV 1 hts (TB_V tw_1017 tw_1019 ts_9 tw_5 co_X0_takeHypotheses) rfl rfl rfl (by decide +kernel) ⟨Nat.le_of_ble_eq_true rfl, Nat.le_of_ble_eq_true rfl⟩) (preV (q0 := 3) (ci := 0) rfl xT_bl hP hK hNb hD rfl rfl xT_at) rfl rfl hl.1 rfl (lv_room (Nat.le_of_ble_eq_true rfl)) dX0_makeFrame_36 ⟨Nat.le_of_ble_eq_true rfl, Nat.le_of_ble_eq_true rfl⟩) hP hD hS hA (fun x6 τ7 H locs r_x6 hN hf hq hP hD hS => ?_)
      replace hw := hw x6 τ7 r_x6 hN hf hq
      have hF : f_r [12, 13, 14] [26, 27, 28, 29, 30, 31, 32] [2] σ τ7 := f_t hF hf (by decide) (by decide) (by decide)
      have hB := hN
      refine bi_if_eq (tgt := 54) hx hb r_x6 dX0_makeFrame_39 (by decide) (fun c8 => ?_) (fun c8 => ?_)
      ·
        replace hw := hw.1 c8
        refine lv_iconst (v := I 0) hx hb dX0_makeFrame_54 rfl ?_
        exact xrz hx hb hr (by decide) hlk hP hK hD hS ⟨_, _, (by decide), rfl, hN, hF, rfl, hw⟩ (Nat.le_of_ble_eq_true rfl) (Nat.le_of_ble_eq_true rfl) dX0_makeFrame_55
      ·
        replace hw := hw.2 c8
        refine lv_aload_n hx hb dX0_makeFrame_42 rfl (lv_at hl 0 rfl) ?_
        refine lv_iload_n hx hb dX0_makeFrame_43 rfl (lv_at hl 1 rfl) ?_
        obtain ⟨Q9, hc, hw⟩ := hw
        refine wc_I (X := CX g q lb) (va_runV (As := [.int (I u1)]) (rest := []) ⟨hx, hb, hml, hown, hts⟩ (L_X0_takePairs l g q lb hlb r_u1 hN hc H.size) (cwV 1 hts (TB_V tw_1029 tw_1031 ts_10 tw_5 co_X0_takePairs) rfl rfl rfl (by decide +kernel) ⟨Nat.le_of_ble_eq_true rfl, Nat.le_of_ble_eq_true rfl⟩) (preV (q0 := 3) (ci := 0) rfl xT_bl hP hK hNb hD rfl rfl xT_at) rfl rfl hl.1 rfl (lv_room (Nat.le_of_ble_eq_true rfl)) dX0_makeFrame_44 ⟨Nat.le_of_ble_eq_true rfl, Nat.le_of_ble_eq_true rfl⟩) hP hD hS hA (fun x10 τ11 H locs r_x10 hN hf hq hP hD hS => ?_)
        replace hw := hw x10 τ11 r_x10 hN hf hq
        have hF : f_r [12, 13, 14] [26, 27, 28, 29, 30, 31, 32] [2] σ τ11 := f_t hF hf (by decide) (by decide) (by decide)
        have hB := hN
        refine bi_if_eq (tgt := 54) hx hb r_x10 dX0_makeFrame_47 (by decide) (fun c12 => ?_) (fun c12 => ?_)
        ·
          replace hw := hw.1 c12
          refine lv_iconst (v := I 0) hx hb dX0_makeFrame_54 rfl ?_
          exact xrz hx hb hr (by decide) hlk hP hK hD hS ⟨_, _, (by decide), rfl, hN, hF, rfl, hw⟩ (Nat.le_of_ble_eq_true rfl) (Nat.le_of_ble_eq_true rfl) dX0_makeFrame_55
        ·
          replace hw := hw.2 c12
          refine lv_iconst (v := I 1) hx hb dX0_makeFrame_50 rfl ?_
          refine lv_goto (tgt := 55) hx hb dX0_makeFrame_51 (by decide) ?_
          exact xrz hx hb hr (by decide) hlk hP hK hD hS ⟨_, _, (by decide), rfl, hN, hF, rfl, hw⟩ (Nat.le_of_ble_eq_true rfl) (Nat.le_of_ble_eq_true rfl) dX0_makeFrame_55
    ·
      replace hw := hw.2 c4
      refine lv_aload_n hx hb dX0_makeFrame_16 rfl (lv_at hl 0 rfl) ?_
      refine gfX0_rests hx hb hts hK hP hown (hts _ tw_294) dX0_makeFrame_17 ?_
      refine lv_iload_n hx hb dX0_makeFrame_20 rfl (lv_at hl 1 rfl) ?_
      refine lv_bipush (v := I 24) hx hb dX0_makeFrame_21 (by decide) ?_
      refine bi_imul hx hb dX0_makeFrame_23 ?_
      refine lv_iload_n hx hb dX0_makeFrame_24 rfl (lv_at hl 2 rfl) ?_
      refine bi_iadd hx hb dX0_makeFrame_25 ?_
      refine lv_lconst (v := 0) hx hb dX0_makeFrame_26 (by decide) ?_
      obtain ⟨c13, hw⟩ := hw
      refine sdCX0_rests hx hb hK hP hD hS c13 dX0_makeFrame_27 (fun H locs hP hD hS => ?_)
      have hN : n_m (s_b τ 2 ((u1 * 24) + u2) 0) := n_b (k := 2) (j := ((u1 * 24) + u2)) (x := 0) hN
      have hF : f_r [12, 13, 14] [26, 27, 28, 29, 30, 31, 32] [2] σ (s_b τ 2 ((u1 * 24) + u2) 0) := f_b hF (by decide)
      refine lv_iinc (v := I (u2 + 1)) (lv' := [(2, .int (I (u2 + 1))), (0, .ref (q 3)), (1, .int (I u1))]) hx hb dX0_makeFrame_28 hl (k := 2) rfl (I_add _ _) (by decide) rfl (fun ls hl => ?_)
      refine lv_goto (tgt := 10) hx hb dX0_makeFrame_31 (by decide) ?_
      obtain ⟨c14, hw⟩ := hw
      exact (hP10 _ _ _).mp hw r_u1 c14 hN hF H locs ls hP hD hS (lv_sub hl [1, 2, 0] rfl)
def W_X0_placeInFrame (n1 : Int) (n2 : Int) (σ : S0) (Q : Int → Prop) : Prop :=
  ∀ (P2 : Int → Int → Int → Prop),
  (∀ (u1 : Int) (u2 : Int) (u3 : Int), ((0 ≤ u1 ∧ u1 < 1500) ∧ (∀ (x2 : Int), rg x2 → x2 = σ.2.1 28 u1 → ((x2 ≤ u3 → Q (-1)) ∧ (u3 < x2 → ∀ (x4 : Int), rg x4 → x4 = σ.2.1 27 u1 → ((0 ≤ (x4 + u3) ∧ (x4 + u3) < 90000) ∧ (∀ (x6 : Int), rg x6 → x6 = σ.2.1 29 (x4 + u3) → ((¬ x6 = u2 → rg (u3 + 1) ∧ P2 u1 u2 (u3 + 1)) ∧ (x6 = u2 → Q u3)))))))) → P2 u1 u2 u3) →
  P2 n1 n2 0
set_option maxRecDepth 100000 in
set_option maxHeartbeats 4000000 in
theorem L_X0_placeInFrame (l : Launch) (g : gG) (q : Nat → Nat) (lb : Nat) (hlb : lb < 2 ^ 31) {n1 : Int} {n2 : Int} {σ : S0} {Q : Int → Prop} (r_n1 : rg n1) (r_n2 : rg n2) (hN : n_m σ) (hw : W_X0_placeInFrame n1 n2 σ Q) (sz : Nat) : MetI l yX0_placeInFrame cX0_placeInFrame 4 (some .int) { frames := 0, cells := 0, slots := 0, locals := 0 } g [.ref (q 3), .int (I n1), .int (I n2)] (CX g q lb σ) sz xT (p_i (CX g q lb) σ Q) 0 0 := by
  refine mkMet (Qc := fun A => QI g A (p_i (CX g q lb) σ Q)) (by decide) (Nat.le_of_ble_eq_true rfl) ?_
  intro p e s m below meth c A H ls hx hb hr hml hown hts hlk hnm hsz hP hK hNb hD hA hAe hS hX hl
  have hl : lv_has ls 4 [(0, .ref (q 3)), (1, .int (I n1)), (2, .int (I n2))] := hl
  have hB := hN
  obtain ⟨locs, hlocs⟩ : ∃ z : List Loc, z = [] := ⟨_, rfl⟩
  rw [← hlocs] at hS ⊢
  obtain ⟨P2, hP2⟩ : ∃ P : Int → Int → Int → Prop, ∀ (u1 : Int) (u2 : Int) (u3 : Int), (P u1 u2 u3 ↔ (rg u1 → rg u2 → rg u3 → ∀ (H : Heap) (locs : List Loc) (ls : Array Slot), KP g (CX g q lb σ) H → va_D A (CX g q lb σ) → va_S A s.heap H locs → lv_has ls 4 [(0, .ref (q 3)), (1, .int (I u1)), (2, .int (I u2)), (3, .int (I u3))] → W p l e ({ frames := 0, cells := 0, slots := 0, locals := 0 }) s m [.ref (q 3), .int (I n1), .int (I n2)].toArray below meth c H locs 0 0 (MQ below (QI g A (p_i (CX g q lb) σ Q)) [.ref (q 3), .int (I n1), .int (I n2)].toArray s 0 0 A) (F0 m 2 ls []))) := ⟨_, fun _ _ _ => Iff.rfl⟩
  refine (fun hw => ?_) (hw P2 ?_)
  ·
    refine lv_iconst (v := I 0) hx hb dX0_placeInFrame_0 rfl ?_
    refine lv_istore_n (lv' := [(3, .int (I 0)), (0, .ref (q 3)), (1, .int (I n1)), (2, .int (I n2))]) hx hb dX0_placeInFrame_1 rfl hl (by decide) rfl (fun ls hl => ?_)
    exact (hP2 _ _ _).mp hw r_n1 r_n2 (by decide)  H locs ls hP hD hS (lv_sub hl [1, 2, 3, 0] rfl)
  ·
    intro u1 u2 u3 hw
    refine (hP2 _ _ _).mpr ?_
    intro r_u1 r_u2 r_u3 H locs ls hP hD hS hl
    refine lv_iload_n hx hb dX0_placeInFrame_2 rfl (lv_at hl 3 rfl) ?_
    refine lv_aload_n hx hb dX0_placeInFrame_3 rfl (lv_at hl 0 rfl) ?_
    refine gfX0_frameSize hx hb hts hK hP hown (hts _ tw_241) dX0_placeInFrame_4 ?_
    refine lv_iload_n hx hb dX0_placeInFrame_7 rfl (lv_at hl 1 rfl) ?_
    obtain ⟨c1, hw⟩ := hw
    refine ldCX0_frameSize hx hb hK hP hN c1 dX0_placeInFrame_8 (fun x2 r_x2 e_x2 => ?_)
    replace hw := hw x2 r_x2 e_x2
    refine bi_icmp_ge (tgt := 37) hx hb r_u3 r_x2 dX0_placeInFrame_9 (by decide) (fun c3 => ?_) (fun c3 => ?_)
    ·
      replace hw := hw.1 c3
      refine lv_iconst (v := I (-1)) hx hb dX0_placeInFrame_37 rfl ?_
      exact xri hx hb hr hlk hP hK hD hS ⟨_, (by decide), rfl, rfl, hw⟩ (Nat.le_of_ble_eq_true rfl) (Nat.le_of_ble_eq_true rfl) dX0_placeInFrame_38
    ·
      replace hw := hw.2 c3
      refine lv_aload_n hx hb dX0_placeInFrame_12 rfl (lv_at hl 0 rfl) ?_
      refine gfX0_hypotheses hx hb hts hK hP hown (hts _ tw_249) dX0_placeInFrame_13 ?_
      refine lv_aload_n hx hb dX0_placeInFrame_16 rfl (lv_at hl 0 rfl) ?_
      refine gfX0_frameAt hx hb hts hK hP hown (hts _ tw_234) dX0_placeInFrame_17 ?_
      refine lv_iload_n hx hb dX0_placeInFrame_20 rfl (lv_at hl 1 rfl) ?_
      refine ldCX0_frameAt hx hb hK hP hN c1 dX0_placeInFrame_21 (fun x4 r_x4 e_x4 => ?_)
      replace hw := hw x4 r_x4 e_x4
      refine lv_iload_n hx hb dX0_placeInFrame_22 rfl (lv_at hl 3 rfl) ?_
      refine bi_iadd hx hb dX0_placeInFrame_23 ?_
      obtain ⟨c5, hw⟩ := hw
      refine ldCX0_hypotheses hx hb hK hP hN c5 dX0_placeInFrame_24 (fun x6 r_x6 e_x6 => ?_)
      replace hw := hw x6 r_x6 e_x6
      refine lv_iload_n hx hb dX0_placeInFrame_25 rfl (lv_at hl 2 rfl) ?_
      refine bi_icmp_ne (tgt := 31) hx hb r_x6 r_u2 dX0_placeInFrame_26 (by decide) (fun c7 => ?_) (fun c7 => ?_)
      ·
        replace hw := hw.1 c7
        refine lv_iinc (v := I (u3 + 1)) (lv' := [(3, .int (I (u3 + 1))), (0, .ref (q 3)), (1, .int (I u1)), (2, .int (I u2))]) hx hb dX0_placeInFrame_31 hl (k := 3) rfl (I_add _ _) (by decide) rfl (fun ls hl => ?_)
        refine lv_goto (tgt := 2) hx hb dX0_placeInFrame_34 (by decide) ?_
        obtain ⟨c8, hw⟩ := hw
        exact (hP2 _ _ _).mp hw r_u1 r_u2 c8  H locs ls hP hD hS (lv_sub hl [1, 2, 3, 0] rfl)
      ·
        replace hw := hw.2 c7
        refine lv_iload_n hx hb dX0_placeInFrame_29 rfl (lv_at hl 3 rfl) ?_
        exact xri hx hb hr hlk hP hK hD hS ⟨_, r_u3, rfl, rfl, hw⟩ (Nat.le_of_ble_eq_true rfl) (Nat.le_of_ble_eq_true rfl) dX0_placeInFrame_30
def W_X0_hasEssential (n1 : Int) (σ : S0) (Q : Int → Prop) : Prop :=
  ∀ (P2 : Int → Int → Prop),
  (∀ (u1 : Int) (u2 : Int), ((0 ≤ u1 ∧ u1 < 1500) ∧ (∀ (x2 : Int), rg x2 → x2 = σ.2.1 28 u1 → ((x2 ≤ u2 → Q 0) ∧ (u2 < x2 → ∀ (x4 : Int), rg x4 → x4 = σ.2.1 27 u1 → ((0 ≤ (x4 + u2) ∧ (x4 + u2) < 90000) ∧ (∀ (x6 : Int), rg x6 → x6 = σ.2.1 29 (x4 + u2) → ((0 ≤ x6 ∧ x6 < 1500) ∧ (∀ (x8 : Int), rg x8 → x8 = σ.2.1 13 x6 → ((¬ x8 = 1 → rg (u2 + 1) ∧ P2 u1 (u2 + 1)) ∧ (x8 = 1 → Q 1)))))))))) → P2 u1 u2) →
  P2 n1 0
set_option maxRecDepth 100000 in
set_option maxHeartbeats 4000000 in
theorem L_X0_hasEssential (l : Launch) (g : gG) (q : Nat → Nat) (lb : Nat) (hlb : lb < 2 ^ 31) {n1 : Int} {σ : S0} {Q : Int → Prop} (r_n1 : rg n1) (hN : n_m σ) (hw : W_X0_hasEssential n1 σ Q) (sz : Nat) : MetI l yX0_hasEssential cX0_hasEssential 3 (some .boolean) { frames := 0, cells := 0, slots := 0, locals := 0 } g [.ref (q 3), .int (I n1)] (CX g q lb σ) sz xT (p_i (CX g q lb) σ Q) 0 0 := by
  refine mkMet (Qc := fun A => QI g A (p_i (CX g q lb) σ Q)) (by decide) (Nat.le_of_ble_eq_true rfl) ?_
  intro p e s m below meth c A H ls hx hb hr hml hown hts hlk hnm hsz hP hK hNb hD hA hAe hS hX hl
  have hl : lv_has ls 3 [(0, .ref (q 3)), (1, .int (I n1))] := hl
  have hB := hN
  obtain ⟨locs, hlocs⟩ : ∃ z : List Loc, z = [] := ⟨_, rfl⟩
  rw [← hlocs] at hS ⊢
  obtain ⟨P2, hP2⟩ : ∃ P : Int → Int → Prop, ∀ (u1 : Int) (u2 : Int), (P u1 u2 ↔ (rg u1 → rg u2 → ∀ (H : Heap) (locs : List Loc) (ls : Array Slot), KP g (CX g q lb σ) H → va_D A (CX g q lb σ) → va_S A s.heap H locs → lv_has ls 3 [(0, .ref (q 3)), (1, .int (I u1)), (2, .int (I u2))] → W p l e ({ frames := 0, cells := 0, slots := 0, locals := 0 }) s m [.ref (q 3), .int (I n1)].toArray below meth c H locs 0 0 (MQ below (QI g A (p_i (CX g q lb) σ Q)) [.ref (q 3), .int (I n1)].toArray s 0 0 A) (F0 m 2 ls []))) := ⟨_, fun _ _ => Iff.rfl⟩
  refine (fun hw => ?_) (hw P2 ?_)
  ·
    refine lv_iconst (v := I 0) hx hb dX0_hasEssential_0 rfl ?_
    refine lv_istore_n (lv' := [(2, .int (I 0)), (0, .ref (q 3)), (1, .int (I n1))]) hx hb dX0_hasEssential_1 rfl hl (by decide) rfl (fun ls hl => ?_)
    exact (hP2 _ _).mp hw r_n1 (by decide)  H locs ls hP hD hS (lv_sub hl [1, 2, 0] rfl)
  ·
    intro u1 u2 hw
    refine (hP2 _ _).mpr ?_
    intro r_u1 r_u2 H locs ls hP hD hS hl
    refine lv_iload_n hx hb dX0_hasEssential_2 rfl (lv_at hl 2 rfl) ?_
    refine lv_aload_n hx hb dX0_hasEssential_3 rfl (lv_at hl 0 rfl) ?_
    refine gfX0_frameSize hx hb hts hK hP hown (hts _ tw_241) dX0_hasEssential_4 ?_
    refine lv_iload_n hx hb dX0_hasEssential_7 rfl (lv_at hl 1 rfl) ?_
    obtain ⟨c1, hw⟩ := hw
    refine ldCX0_frameSize hx hb hK hP hN c1 dX0_hasEssential_8 (fun x2 r_x2 e_x2 => ?_)
    replace hw := hw x2 r_x2 e_x2
    refine bi_icmp_ge (tgt := 45) hx hb r_u2 r_x2 dX0_hasEssential_9 (by decide) (fun c3 => ?_) (fun c3 => ?_)
    ·
      replace hw := hw.1 c3
      refine lv_iconst (v := I 0) hx hb dX0_hasEssential_45 rfl ?_
      exact xrz hx hb hr (by decide) hlk hP hK hD hS ⟨_, (by decide), rfl, rfl, hw⟩ (Nat.le_of_ble_eq_true rfl) (Nat.le_of_ble_eq_true rfl) dX0_hasEssential_46
    ·
      replace hw := hw.2 c3
      refine lv_aload_n hx hb dX0_hasEssential_12 rfl (lv_at hl 0 rfl) ?_
      refine gfX0_library hx hb hts hK hP hown (hts _ tw_232) dX0_hasEssential_13 ?_
      refine gfNX3_kind hx hb hts hK hP hown (nb_use hNb tn_73) dX0_hasEssential_16 ?_
      refine lv_aload_n hx hb dX0_hasEssential_19 rfl (lv_at hl 0 rfl) ?_
      refine gfX0_hypotheses hx hb hts hK hP hown (hts _ tw_249) dX0_hasEssential_20 ?_
      refine lv_aload_n hx hb dX0_hasEssential_23 rfl (lv_at hl 0 rfl) ?_
      refine gfX0_frameAt hx hb hts hK hP hown (hts _ tw_234) dX0_hasEssential_24 ?_
      refine lv_iload_n hx hb dX0_hasEssential_27 rfl (lv_at hl 1 rfl) ?_
      refine ldCX0_frameAt hx hb hK hP hN c1 dX0_hasEssential_28 (fun x4 r_x4 e_x4 => ?_)
      replace hw := hw x4 r_x4 e_x4
      refine lv_iload_n hx hb dX0_hasEssential_29 rfl (lv_at hl 2 rfl) ?_
      refine bi_iadd hx hb dX0_hasEssential_30 ?_
      obtain ⟨c5, hw⟩ := hw
      refine ldCX0_hypotheses hx hb hK hP hN c5 dX0_hasEssential_31 (fun x6 r_x6 e_x6 => ?_)
      replace hw := hw x6 r_x6 e_x6
      obtain ⟨c7, hw⟩ := hw
      refine ldCX3_kind hx hb hK hP hN c7 dX0_hasEssential_32 (fun x8 r_x8 e_x8 => ?_)
      replace hw := hw x8 r_x8 e_x8
      refine lv_iconst (v := I 1) hx hb dX0_hasEssential_33 rfl ?_
      refine bi_icmp_ne (tgt := 39) hx hb r_x8 (by decide) dX0_hasEssential_34 (by decide) (fun c9 => ?_) (fun c9 => ?_)
      ·
        replace hw := hw.1 c9
        refine lv_iinc (v := I (u2 + 1)) (lv' := [(2, .int (I (u2 + 1))), (0, .ref (q 3)), (1, .int (I u1))]) hx hb dX0_hasEssential_39 hl (k := 2) rfl (I_add _ _) (by decide) rfl (fun ls hl => ?_)
        refine lv_goto (tgt := 2) hx hb dX0_hasEssential_42 (by decide) ?_
        obtain ⟨c10, hw⟩ := hw
        exact (hP2 _ _).mp hw r_u1 c10  H locs ls hP hD hS (lv_sub hl [1, 2, 0] rfl)
      ·
        replace hw := hw.2 c9
        refine lv_iconst (v := I 1) hx hb dX0_hasEssential_37 rfl ?_
        exact xrz hx hb hr (by decide) hlk hP hK hD hS ⟨_, (by decide), rfl, rfl, hw⟩ (Nat.le_of_ble_eq_true rfl) (Nat.le_of_ble_eq_true rfl) dX0_hasEssential_38
def W_X0_firstOf (n1 : Int) (σ : S0) (Q : Int → Prop) : Prop :=
  (0 ≤ n1 ∧ n1 < 20000) ∧ (∀ (x2 : Int), rg x2 → x2 = σ.2.1 32 n1 → (∀ (x3 : Int), rg x3 → (0 ≤ x2 → x3 = x2 / 1000) → (x2 < 0 → x3 = -((-x2) / 1000)) → (Q x3)))
set_option maxRecDepth 100000 in
set_option maxHeartbeats 4000000 in
theorem L_X0_firstOf (l : Launch) (g : gG) (q : Nat → Nat) (lb : Nat) (hlb : lb < 2 ^ 31) {n1 : Int} {σ : S0} {Q : Int → Prop} (r_n1 : rg n1) (hN : n_m σ) (hw : W_X0_firstOf n1 σ Q) (sz : Nat) : MetI l yX0_firstOf cX0_firstOf 2 (some .int) { frames := 0, cells := 0, slots := 0, locals := 0 } g [.ref (q 3), .int (I n1)] (CX g q lb σ) sz xT (p_i (CX g q lb) σ Q) 0 0 := by
  refine mkMet (Qc := fun A => QI g A (p_i (CX g q lb) σ Q)) (by decide) (Nat.le_of_ble_eq_true rfl) ?_
  intro p e s m below meth c A H ls hx hb hr hml hown hts hlk hnm hsz hP hK hNb hD hA hAe hS hX hl
  have hl : lv_has ls 2 [(0, .ref (q 3)), (1, .int (I n1))] := hl
  have hB := hN
  obtain ⟨locs, hlocs⟩ : ∃ z : List Loc, z = [] := ⟨_, rfl⟩
  rw [← hlocs] at hS ⊢
  refine lv_aload_n hx hb dX0_firstOf_0 rfl (lv_at hl 0 rfl) ?_
  refine gfX0_pair hx hb hts hK hP hown (hts _ tw_262) dX0_firstOf_1 ?_
  refine lv_iload_n hx hb dX0_firstOf_4 rfl (lv_at hl 1 rfl) ?_
  obtain ⟨c1, hw⟩ := hw
  refine ldCX0_pair hx hb hK hP hN c1 dX0_firstOf_5 (fun x2 r_x2 e_x2 => ?_)
  replace hw := hw x2 r_x2 e_x2
  refine lv_sipush (v := I 1000) hx hb dX0_firstOf_6 (by decide) ?_
  refine bi_idiv hx hb r_x2 (by decide) (by decide) dX0_firstOf_9 (fun x3 r_x3 p_x3 m_x3 => ?_)
  replace hw := hw x3 r_x3 p_x3 m_x3
  exact xri hx hb hr hlk hP hK hD hS ⟨_, r_x3, rfl, rfl, hw⟩ (Nat.le_of_ble_eq_true rfl) (Nat.le_of_ble_eq_true rfl) dX0_firstOf_10
def W_X0_secondOf (n1 : Int) (σ : S0) (Q : Int → Prop) : Prop :=
  (0 ≤ n1 ∧ n1 < 20000) ∧ (∀ (x2 : Int), rg x2 → x2 = σ.2.1 32 n1 → (∀ (x3 : Int), rg x3 → (0 ≤ x2 → x3 = x2 % 1000) → (x2 < 0 → x3 = -((-x2) % 1000)) → (Q x3)))
set_option maxRecDepth 100000 in
set_option maxHeartbeats 4000000 in
theorem L_X0_secondOf (l : Launch) (g : gG) (q : Nat → Nat) (lb : Nat) (hlb : lb < 2 ^ 31) {n1 : Int} {σ : S0} {Q : Int → Prop} (r_n1 : rg n1) (hN : n_m σ) (hw : W_X0_secondOf n1 σ Q) (sz : Nat) : MetI l yX0_secondOf cX0_secondOf 2 (some .int) { frames := 0, cells := 0, slots := 0, locals := 0 } g [.ref (q 3), .int (I n1)] (CX g q lb σ) sz xT (p_i (CX g q lb) σ Q) 0 0 := by
  refine mkMet (Qc := fun A => QI g A (p_i (CX g q lb) σ Q)) (by decide) (Nat.le_of_ble_eq_true rfl) ?_
  intro p e s m below meth c A H ls hx hb hr hml hown hts hlk hnm hsz hP hK hNb hD hA hAe hS hX hl
  have hl : lv_has ls 2 [(0, .ref (q 3)), (1, .int (I n1))] := hl
  have hB := hN
  obtain ⟨locs, hlocs⟩ : ∃ z : List Loc, z = [] := ⟨_, rfl⟩
  rw [← hlocs] at hS ⊢
  refine lv_aload_n hx hb dX0_secondOf_0 rfl (lv_at hl 0 rfl) ?_
  refine gfX0_pair hx hb hts hK hP hown (hts _ tw_262) dX0_secondOf_1 ?_
  refine lv_iload_n hx hb dX0_secondOf_4 rfl (lv_at hl 1 rfl) ?_
  obtain ⟨c1, hw⟩ := hw
  refine ldCX0_pair hx hb hK hP hN c1 dX0_secondOf_5 (fun x2 r_x2 e_x2 => ?_)
  replace hw := hw x2 r_x2 e_x2
  refine lv_sipush (v := I 1000) hx hb dX0_secondOf_6 (by decide) ?_
  refine bi_irem hx hb r_x2 (by decide) (by decide) dX0_secondOf_9 (fun x3 r_x3 p_x3 m_x3 => ?_)
  replace hw := hw x3 r_x3 p_x3 m_x3
  exact xri hx hb hr hlk hP hK hD hS ⟨_, r_x3, rfl, rfl, hw⟩ (Nat.le_of_ble_eq_true rfl) (Nat.le_of_ble_eq_true rfl) dX0_secondOf_10
def W_X0_isPair (n1 : Int) (n2 : Int) (n3 : Int) (σ : S0) (Q : Int → Prop) : Prop :=
  ∀ (P8 : Int → Int → Int → Int → Prop) (P54 : Int → Int → Int → Int → Int → Int → Prop),
  (∀ (u1 : Int) (u2 : Int) (u3 : Int) (u4 : Int), ((0 ≤ u1 ∧ u1 < 1500) ∧ (∀ (x4 : Int), rg x4 → x4 = σ.2.1 30 u1 → (∀ (x5 : Int), rg x5 → x5 = σ.2.1 31 u1 → (rg (x4 + x5) ∧ ((x4 + x5) ≤ u4 → Q 0) ∧ (u4 < (x4 + x5) → ∃ (Q8 : Int → Prop), W_X0_firstOf u4 σ Q8 ∧ ∀ (x9 : Int), rg x9 → Q8 x9 → (∃ (Q11 : Int → Prop), W_X0_secondOf u4 σ Q11 ∧ ∀ (x12 : Int), rg x12 → Q11 x12 → ((¬ x9 = u2 → P54 u1 u2 u3 u4 x9 x12) ∧ (x9 = u2 → (x12 = u3 → Q 1) ∧ (¬ x12 = u3 → P54 u1 u2 u3 u4 x9 x12))))))))) → P8 u1 u2 u3 u4) →
  (∀ (u1 : Int) (u2 : Int) (u3 : Int) (u4 : Int) (u5 : Int) (u6 : Int), ((¬ u5 = u3 → rg (u4 + 1) ∧ P8 u1 u2 u3 (u4 + 1)) ∧ (u5 = u3 → (¬ u6 = u2 → rg (u4 + 1) ∧ P8 u1 u2 u3 (u4 + 1)) ∧ (u6 = u2 → Q 1))) → P54 u1 u2 u3 u4 u5 u6) →
  (0 ≤ n1 ∧ n1 < 1500) ∧ (∀ (x2 : Int), rg x2 → x2 = σ.2.1 30 n1 → (P8 n1 n2 n3 x2))
set_option maxRecDepth 100000 in
set_option maxHeartbeats 4000000 in
theorem L_X0_isPair (l : Launch) (g : gG) (q : Nat → Nat) (lb : Nat) (hlb : lb < 2 ^ 31) {n1 : Int} {n2 : Int} {n3 : Int} {σ : S0} {Q : Int → Prop} (r_n1 : rg n1) (r_n2 : rg n2) (r_n3 : rg n3) (hN : n_m σ) (hw : W_X0_isPair n1 n2 n3 σ Q) (sz : Nat) : MetI l yX0_isPair cX0_isPair 7 (some .boolean) { frames := 1, cells := 0, slots := 0, locals := 21 } g [.ref (q 3), .int (I n1), .int (I n2), .int (I n3)] (CX g q lb σ) sz xT (p_i (CX g q lb) σ Q) 0 0 := by
  refine mkMet (Qc := fun A => QI g A (p_i (CX g q lb) σ Q)) (by decide) (Nat.le_of_ble_eq_true rfl) ?_
  intro p e s m below meth c A H ls hx hb hr hml hown hts hlk hnm hsz hP hK hNb hD hA hAe hS hX hl
  have hl : lv_has ls 7 [(0, .ref (q 3)), (1, .int (I n1)), (2, .int (I n2)), (3, .int (I n3))] := hl
  have hB := hN
  obtain ⟨locs, hlocs⟩ : ∃ z : List Loc, z = [] := ⟨_, rfl⟩
  rw [← hlocs] at hS ⊢
  obtain ⟨P8, hP8⟩ : ∃ P : Int → Int → Int → Int → Prop, ∀ (u1 : Int) (u2 : Int) (u3 : Int) (u4 : Int), (P u1 u2 u3 u4 ↔ (rg u1 → rg u2 → rg u3 → rg u4 → ∀ (H : Heap) (locs : List Loc) (ls : Array Slot), KP g (CX g q lb σ) H → va_D A (CX g q lb σ) → va_S A s.heap H locs → lv_has ls 7 [(0, .ref (q 3)), (1, .int (I u1)), (2, .int (I u2)), (3, .int (I u3)), (4, .int (I u4))] → W p l e ({ frames := 1, cells := 0, slots := 0, locals := 21 }) s m [.ref (q 3), .int (I n1), .int (I n2), .int (I n3)].toArray below meth c H locs 0 0 (MQ below (QI g A (p_i (CX g q lb) σ Q)) [.ref (q 3), .int (I n1), .int (I n2), .int (I n3)].toArray s 0 0 A) (F0 m 8 ls []))) := ⟨_, fun _ _ _ _ => Iff.rfl⟩
  obtain ⟨P54, hP54⟩ : ∃ P : Int → Int → Int → Int → Int → Int → Prop, ∀ (u1 : Int) (u2 : Int) (u3 : Int) (u4 : Int) (u5 : Int) (u6 : Int), (P u1 u2 u3 u4 u5 u6 ↔ (rg u1 → rg u2 → rg u3 → rg u4 → rg u5 → rg u6 → ∀ (H : Heap) (locs : List Loc) (ls : Array Slot), KP g (CX g q lb σ) H → va_D A (CX g q lb σ) → va_S A s.heap H locs → lv_has ls 7 [(0, .ref (q 3)), (1, .int (I u1)), (2, .int (I u2)), (3, .int (I u3)), (4, .int (I u4)), (5, .int (I u5)), (6, .int (I u6))] → W p l e ({ frames := 1, cells := 0, slots := 0, locals := 21 }) s m [.ref (q 3), .int (I n1), .int (I n2), .int (I n3)].toArray below meth c H locs 0 0 (MQ below (QI g A (p_i (CX g q lb) σ Q)) [.ref (q 3), .int (I n1), .int (I n2), .int (I n3)].toArray s 0 0 A) (F0 m 54 ls []))) := ⟨_, fun _ _ _ _ _ _ => Iff.rfl⟩
  refine (fun hw => ?_) (hw P8 P54 ?_ ?_)
  ·
    refine lv_aload_n hx hb dX0_isPair_0 rfl (lv_at hl 0 rfl) ?_
    refine gfX0_pairAt hx hb hts hK hP hown (hts _ tw_257) dX0_isPair_1 ?_
    refine lv_iload_n hx hb dX0_isPair_4 rfl (lv_at hl 1 rfl) ?_
    obtain ⟨c1, hw⟩ := hw
    refine ldCX0_pairAt hx hb hK hP hN c1 dX0_isPair_5 (fun x2 r_x2 e_x2 => ?_)
    replace hw := hw x2 r_x2 e_x2
    refine lv_istore (lv' := [(4, .int (I x2)), (0, .ref (q 3)), (1, .int (I n1)), (2, .int (I n2)), (3, .int (I n3))]) hx hb dX0_isPair_6 hl (by decide) rfl (fun ls hl => ?_)
    exact (hP8 _ _ _ _).mp hw r_n1 r_n2 r_n3 r_x2  H locs ls hP hD hS (lv_sub hl [1, 2, 3, 4, 0] rfl)
  ·
    intro u1 u2 u3 u4 hw
    refine (hP8 _ _ _ _).mpr ?_
    intro r_u1 r_u2 r_u3 r_u4 H locs ls hP hD hS hl
    refine lv_iload hx hb dX0_isPair_8 (lv_at hl 4 rfl) ?_
    refine lv_aload_n hx hb dX0_isPair_10 rfl (lv_at hl 0 rfl) ?_
    refine gfX0_pairAt hx hb hts hK hP hown (hts _ tw_257) dX0_isPair_11 ?_
    refine lv_iload_n hx hb dX0_isPair_14 rfl (lv_at hl 1 rfl) ?_
    obtain ⟨c3, hw⟩ := hw
    refine ldCX0_pairAt hx hb hK hP hN c3 dX0_isPair_15 (fun x4 r_x4 e_x4 => ?_)
    replace hw := hw x4 r_x4 e_x4
    refine lv_aload_n hx hb dX0_isPair_16 rfl (lv_at hl 0 rfl) ?_
    refine gfX0_pairSize hx hb hts hK hP hown (hts _ tw_259) dX0_isPair_17 ?_
    refine lv_iload_n hx hb dX0_isPair_20 rfl (lv_at hl 1 rfl) ?_
    refine ldCX0_pairSize hx hb hK hP hN c3 dX0_isPair_21 (fun x5 r_x5 e_x5 => ?_)
    replace hw := hw x5 r_x5 e_x5
    refine bi_iadd hx hb dX0_isPair_22 ?_
    obtain ⟨c6, hw⟩ := hw
    refine bi_icmp_ge (tgt := 74) hx hb r_u4 c6 dX0_isPair_23 (by decide) (fun c7 => ?_) (fun c7 => ?_)
    ·
      replace hw := hw.1 c7
      refine lv_iconst (v := I 0) hx hb dX0_isPair_74 rfl ?_
      exact xrz hx hb hr (by decide) hlk hP hK hD hS ⟨_, (by decide), rfl, rfl, hw⟩ (Nat.le_of_ble_eq_true rfl) (Nat.le_of_ble_eq_true rfl) dX0_isPair_75
    ·
      replace hw := hw.2 c7
      refine lv_aload_n hx hb dX0_isPair_26 rfl (lv_at hl 0 rfl) ?_
      refine lv_iload hx hb dX0_isPair_27 (lv_at hl 4 rfl) ?_
      obtain ⟨Q8, hc, hw⟩ := hw
      refine wc_i (X := CX g q lb) (va_runV (As := [.int (I u4)]) (rest := []) ⟨hx, hb, hml, hown, hts⟩ (L_X0_firstOf l g q lb hlb r_u4 hN hc H.size) (cwV 1 hts (TB_V tw_1482 tw_1317 tw_1318 tw_5 co_X0_firstOf) rfl rfl rfl (by decide +kernel) ⟨Nat.le_of_ble_eq_true rfl, Nat.le_of_ble_eq_true rfl⟩) (preV (q0 := 3) (ci := 0) rfl xT_bl hP hK hNb hD rfl rfl xT_at) rfl rfl hl.1 rfl (lv_room (Nat.le_of_ble_eq_true rfl)) dX0_isPair_29 ⟨Nat.le_of_ble_eq_true rfl, Nat.le_of_ble_eq_true rfl⟩) hP hD hS hA (fun x9 H locs r_x9 hq hP hD hS => ?_)
      replace hw := hw x9 r_x9 hq
      refine lv_istore (lv' := [(5, .int (I x9)), (0, .ref (q 3)), (1, .int (I u1)), (2, .int (I u2)), (3, .int (I u3)), (4, .int (I u4))]) hx hb dX0_isPair_32 hl (by decide) rfl (fun ls hl => ?_)
      refine lv_aload_n hx hb dX0_isPair_34 rfl (lv_at hl 1 rfl) ?_
      refine lv_iload hx hb dX0_isPair_35 (lv_at hl 5 rfl) ?_
      obtain ⟨Q11, hc, hw⟩ := hw
      refine wc_i (X := CX g q lb) (va_runV (As := [.int (I u4)]) (rest := []) ⟨hx, hb, hml, hown, hts⟩ (L_X0_secondOf l g q lb hlb r_u4 hN hc H.size) (cwV 1 hts (TB_V tw_1483 tw_1325 tw_1326 tw_5 co_X0_secondOf) rfl rfl rfl (by decide +kernel) ⟨Nat.le_of_ble_eq_true rfl, Nat.le_of_ble_eq_true rfl⟩) (preV (q0 := 3) (ci := 0) rfl xT_bl hP hK hNb hD rfl rfl xT_at) rfl rfl hl.1 rfl (lv_room (Nat.le_of_ble_eq_true rfl)) dX0_isPair_37 ⟨Nat.le_of_ble_eq_true rfl, Nat.le_of_ble_eq_true rfl⟩) hP hD hS hA (fun x12 H locs r_x12 hq hP hD hS => ?_)
      replace hw := hw x12 r_x12 hq
      refine lv_istore (lv' := [(6, .int (I x12)), (5, .int (I x9)), (0, .ref (q 3)), (1, .int (I u1)), (2, .int (I u2)), (3, .int (I u3)), (4, .int (I u4))]) hx hb dX0_isPair_40 hl (by decide) rfl (fun ls hl => ?_)
      refine lv_iload hx hb dX0_isPair_42 (lv_at hl 1 rfl) ?_
      refine lv_iload_n hx hb dX0_isPair_44 rfl (lv_at hl 4 rfl) ?_
      refine bi_icmp_ne (tgt := 54) hx hb r_x9 r_u2 dX0_isPair_45 (by decide) (fun c14 => ?_) (fun c14 => ?_)
      ·
        replace hw := hw.1 c14
        exact (hP54 _ _ _ _ _ _).mp hw r_u1 r_u2 r_u3 r_u4 r_x9 r_x12  H locs ls hP hD hS (lv_sub hl [2, 3, 4, 5, 6, 1, 0] rfl)
      ·
        replace hw := hw.2 c14
        refine lv_iload hx hb dX0_isPair_48 (lv_at hl 0 rfl) ?_
        refine lv_iload_n hx hb dX0_isPair_50 rfl (lv_at hl 5 rfl) ?_
        refine bi_icmp_eq (tgt := 66) hx hb r_x12 r_u3 dX0_isPair_51 (by decide) (fun c15 => ?_) (fun c15 => ?_)
        ·
          replace hw := hw.1 c15
          refine lv_iconst (v := I 1) hx hb dX0_isPair_66 rfl ?_
          exact xrz hx hb hr (by decide) hlk hP hK hD hS ⟨_, (by decide), rfl, rfl, hw⟩ (Nat.le_of_ble_eq_true rfl) (Nat.le_of_ble_eq_true rfl) dX0_isPair_67
        ·
          replace hw := hw.2 c15
          exact (hP54 _ _ _ _ _ _).mp hw r_u1 r_u2 r_u3 r_u4 r_x9 r_x12  H locs ls hP hD hS (lv_sub hl [2, 3, 4, 5, 6, 1, 0] rfl)
  ·
    intro u1 u2 u3 u4 u5 u6 hw
    refine (hP54 _ _ _ _ _ _).mpr ?_
    intro r_u1 r_u2 r_u3 r_u4 r_u5 r_u6 H locs ls hP hD hS hl
    refine lv_iload hx hb dX0_isPair_54 (lv_at hl 5 rfl) ?_
    refine lv_iload_n hx hb dX0_isPair_56 rfl (lv_at hl 3 rfl) ?_
    refine bi_icmp_ne (tgt := 68) hx hb r_u5 r_u3 dX0_isPair_57 (by decide) (fun c16 => ?_) (fun c16 => ?_)
    ·
      replace hw := hw.1 c16
      refine lv_iinc (v := I (u4 + 1)) (lv' := [(4, .int (I (u4 + 1))), (0, .ref (q 3)), (1, .int (I u1)), (2, .int (I u2)), (3, .int (I u3)), (5, .int (I u5)), (6, .int (I u6))]) hx hb dX0_isPair_68 hl (k := 4) rfl (I_add _ _) (by decide) rfl (fun ls hl => ?_)
      refine lv_goto (tgt := 8) hx hb dX0_isPair_71 (by decide) ?_
      obtain ⟨c17, hw⟩ := hw
      exact (hP8 _ _ _ _).mp hw r_u1 r_u2 r_u3 c17  H locs ls hP hD hS (lv_sub hl [1, 2, 3, 4, 0] rfl)
    ·
      replace hw := hw.2 c16
      refine lv_iload hx hb dX0_isPair_60 (lv_at hl 6 rfl) ?_
      refine lv_iload_n hx hb dX0_isPair_62 rfl (lv_at hl 2 rfl) ?_
      refine bi_icmp_ne (tgt := 68) hx hb r_u6 r_u2 dX0_isPair_63 (by decide) (fun c18 => ?_) (fun c18 => ?_)
      ·
        replace hw := hw.1 c18
        refine lv_iinc (v := I (u4 + 1)) (lv' := [(4, .int (I (u4 + 1))), (0, .ref (q 3)), (1, .int (I u1)), (2, .int (I u2)), (3, .int (I u3)), (5, .int (I u5)), (6, .int (I u6))]) hx hb dX0_isPair_68 hl (k := 4) rfl (I_add _ _) (by decide) rfl (fun ls hl => ?_)
        refine lv_goto (tgt := 8) hx hb dX0_isPair_71 (by decide) ?_
        obtain ⟨c19, hw⟩ := hw
        exact (hP8 _ _ _ _).mp hw r_u1 r_u2 r_u3 c19  H locs ls hP hD hS (lv_sub hl [1, 2, 3, 4, 0] rfl)
      ·
        replace hw := hw.2 c18
        refine lv_iconst (v := I 1) hx hb dX0_isPair_66 rfl ?_
        exact xrz hx hb hr (by decide) hlk hP hK hD hS ⟨_, (by decide), rfl, rfl, hw⟩ (Nat.le_of_ble_eq_true rfl) (Nat.le_of_ble_eq_true rfl) dX0_isPair_67
def W_X0_childCount (n1 : Int) (σ : S0) (Q : Int → Prop) : Prop :=
  (0 ≤ (n1 + 1) ∧ (n1 + 1) < 20001) ∧ (∀ (x2 : Int), rg x2 → x2 = σ.2.1 36 (n1 + 1) → ((0 ≤ n1 ∧ n1 < 20001) ∧ (∀ (x4 : Int), rg x4 → x4 = σ.2.1 36 n1 → (rg (x2 - x4) ∧ Q (x2 - x4)))))
set_option maxRecDepth 100000 in
set_option maxHeartbeats 4000000 in
theorem L_X0_childCount (l : Launch) (g : gG) (q : Nat → Nat) (lb : Nat) (hlb : lb < 2 ^ 31) {n1 : Int} {σ : S0} {Q : Int → Prop} (r_n1 : rg n1) (hN : n_m σ) (hw : W_X0_childCount n1 σ Q) (sz : Nat) : MetI l yX0_childCount cX0_childCount 2 (some .int) { frames := 0, cells := 0, slots := 0, locals := 0 } g [.ref (q 3), .int (I n1)] (CX g q lb σ) sz xT (p_i (CX g q lb) σ Q) 0 0 := by
  refine mkMet (Qc := fun A => QI g A (p_i (CX g q lb) σ Q)) (by decide) (Nat.le_of_ble_eq_true rfl) ?_
  intro p e s m below meth c A H ls hx hb hr hml hown hts hlk hnm hsz hP hK hNb hD hA hAe hS hX hl
  have hl : lv_has ls 2 [(0, .ref (q 3)), (1, .int (I n1))] := hl
  have hB := hN
  obtain ⟨locs, hlocs⟩ : ∃ z : List Loc, z = [] := ⟨_, rfl⟩
  rw [← hlocs] at hS ⊢
  refine lv_aload_n hx hb dX0_childCount_0 rfl (lv_at hl 0 rfl) ?_
  refine gfX0_childAt hx hb hts hK hP hown (hts _ tw_278) dX0_childCount_1 ?_
  refine lv_iload_n hx hb dX0_childCount_4 rfl (lv_at hl 1 rfl) ?_
  refine lv_iconst (v := I 1) hx hb dX0_childCount_5 rfl ?_
  refine bi_iadd hx hb dX0_childCount_6 ?_
  obtain ⟨c1, hw⟩ := hw
  refine ldCX0_childAt hx hb hK hP hN c1 dX0_childCount_7 (fun x2 r_x2 e_x2 => ?_)
  replace hw := hw x2 r_x2 e_x2
  refine lv_aload_n hx hb dX0_childCount_8 rfl (lv_at hl 0 rfl) ?_
  refine gfX0_childAt hx hb hts hK hP hown (hts _ tw_278) dX0_childCount_9 ?_
  refine lv_iload_n hx hb dX0_childCount_12 rfl (lv_at hl 1 rfl) ?_
  obtain ⟨c3, hw⟩ := hw
  refine ldCX0_childAt hx hb hK hP hN c3 dX0_childCount_13 (fun x4 r_x4 e_x4 => ?_)
  replace hw := hw x4 r_x4 e_x4
  refine bi_isub hx hb dX0_childCount_14 ?_
  obtain ⟨c5, hw⟩ := hw
  exact xri hx hb hr hlk hP hK hD hS ⟨_, c5, rfl, rfl, hw⟩ (Nat.le_of_ble_eq_true rfl) (Nat.le_of_ble_eq_true rfl) dX0_childCount_15
def W_X0_keepRows (n1 : Int) (n2 : Int) (σ : S0) (Q : S0 → Prop) : Prop :=
  ∀ (P22 : Int → Int → S0 → Prop) (P43 : Int → Int → Int64 → Int → S0 → Prop),
  (∀ (u2 : Int) (u3 : Int) (τ : S0), (rg (τ.1 15 + u2) ∧ ((τ.1 15 + u2) ≤ u3 → Q (s_v τ 15 (τ.1 15 + u2))) ∧ (u3 < (τ.1 15 + u2) → (0 ≤ u3 ∧ u3 < 20001) ∧ (∀ (x5 : Int), rg x5 → x5 = τ.2.1 36 u3 → (P43 u2 u3 1 x5 τ)))) → P22 u2 u3 τ) →
  (∀ (u2 : Int) (u3 : Int) (u4 : Int64) (u6 : Int) (τ : S0), ((0 ≤ (u3 + 1) ∧ (u3 + 1) < 20001) ∧ (∀ (x7 : Int), rg x7 → x7 = τ.2.1 36 (u3 + 1) → ((x7 ≤ u6 → (0 ≤ u3 ∧ u3 < 20000) ∧ (P22 u2 (u3 + 1) (s_b τ 1 u3 u4))) ∧ (u6 < x7 → (0 ≤ u6 ∧ u6 < 20000) ∧ (∀ (x11 : Int), rg x11 → x11 = τ.2.1 37 u6 → ((0 ≤ (τ.1 15 + x11) ∧ (τ.1 15 + x11) < 20000) ∧ (∀ (x13 : Int64), x13 = τ.2.2 1 (τ.1 15 + x11) → (rg (u6 + 1) ∧ P43 u2 u3 (if (u4 + x13) < 1000000000000000001 then (u4 + x13) else 1000000000000000001) (u6 + 1) τ)))))))) → P43 u2 u3 u4 u6 τ) →
  (0 ≤ n1 ∧ n1 < 1500) ∧ (P22 n2 (σ.1 15) (s_a (s_a σ 33 n1 (σ.1 15)) 34 n1 n2))
set_option maxRecDepth 100000 in
set_option maxHeartbeats 4000000 in
theorem L_X0_keepRows (l : Launch) (g : gG) (q : Nat → Nat) (lb : Nat) (hlb : lb < 2 ^ 31) {n1 : Int} {n2 : Int} {σ : S0} {Q : S0 → Prop} (r_n1 : rg n1) (r_n2 : rg n2) (hN : n_m σ) (hw : W_X0_keepRows n1 n2 σ Q) (sz : Nat) : MetV l yX0_keepRows cX0_keepRows 7 { frames := 1, cells := 0, slots := 0, locals := 15 } g [.ref (q 3), .int (I n1), .int (I n2)] (CX g q lb σ) sz xT (p_V (CX g q lb) [15] [33, 34] [1] σ Q) 0 0 := by
  refine mkMet (Qc := fun A => QV g A (p_V (CX g q lb) [15] [33, 34] [1] σ Q)) (by decide) (Nat.le_of_ble_eq_true rfl) ?_
  intro p e s m below meth c A H ls hx hb hr hml hown hts hlk hnm hsz hP hK hNb hD hA hAe hS hX hl
  have hl : lv_has ls 7 [(0, .ref (q 3)), (1, .int (I n1)), (2, .int (I n2))] := hl
  have hB := hN
  have hF : f_r [15] [33, 34] [1] σ σ := f_0
  obtain ⟨locs, hlocs⟩ : ∃ z : List Loc, z = [] := ⟨_, rfl⟩
  rw [← hlocs] at hS ⊢
  obtain ⟨P22, hP22⟩ : ∃ P : Int → Int → S0 → Prop, ∀ (u2 : Int) (u3 : Int) (τ : S0), (P u2 u3 τ ↔ (rg u2 → rg u3 → n_m τ → f_r [15] [33, 34] [1] σ τ → ∀ (H : Heap) (locs : List Loc) (ls : Array Slot), KP g (CX g q lb τ) H → va_D A (CX g q lb τ) → va_S A s.heap H locs → lv_has ls 7 [(0, .ref (q 3)), (2, .int (I u2)), (3, .int (I u3))] → W p l e ({ frames := 1, cells := 0, slots := 0, locals := 15 }) s m [.ref (q 3), .int (I n1), .int (I n2)].toArray below meth c H locs 0 0 (MQ below (QV g A (p_V (CX g q lb) [15] [33, 34] [1] σ Q)) [.ref (q 3), .int (I n1), .int (I n2)].toArray s 0 0 A) (F0 m 22 ls []))) := ⟨_, fun _ _ _ => Iff.rfl⟩
  obtain ⟨P43, hP43⟩ : ∃ P : Int → Int → Int64 → Int → S0 → Prop, ∀ (u2 : Int) (u3 : Int) (u4 : Int64) (u6 : Int) (τ : S0), (P u2 u3 u4 u6 τ ↔ (rg u2 → rg u3 → rg u6 → n_m τ → f_r [15] [33, 34] [1] σ τ → ∀ (H : Heap) (locs : List Loc) (ls : Array Slot), KP g (CX g q lb τ) H → va_D A (CX g q lb τ) → va_S A s.heap H locs → lv_has ls 7 [(0, .ref (q 3)), (2, .int (I u2)), (3, .int (I u3)), (4, .long u4), (6, .int (I u6))] → W p l e ({ frames := 1, cells := 0, slots := 0, locals := 15 }) s m [.ref (q 3), .int (I n1), .int (I n2)].toArray below meth c H locs 0 0 (MQ below (QV g A (p_V (CX g q lb) [15] [33, 34] [1] σ Q)) [.ref (q 3), .int (I n1), .int (I n2)].toArray s 0 0 A) (F0 m 43 ls []))) := ⟨_, fun _ _ _ _ _ => Iff.rfl⟩
  refine (fun hw => ?_) (hw P22 P43 ?_ ?_)
  ·
    refine lv_aload_n hx hb dX0_keepRows_0 rfl (lv_at hl 0 rfl) ?_
    refine gfX0_rowAt hx hb hts hK hP hown (hts _ tw_265) dX0_keepRows_1 ?_
    refine lv_iload_n hx hb dX0_keepRows_4 rfl (lv_at hl 1 rfl) ?_
    refine lv_aload_n hx hb dX0_keepRows_5 rfl (lv_at hl 0 rfl) ?_
    refine gfX0_rowsUsed hx hb hts hK hP hown (hts _ tw_288) (x := σ.1 15) rfl dX0_keepRows_6 ?_
    obtain ⟨c1, hw⟩ := hw
    refine sdCX0_rowAt hx hb hK hP hD hS c1 dX0_keepRows_9 (fun H locs hP hD hS => ?_)
    have hN : n_m (s_a σ 33 n1 (σ.1 15)) := n_a (k := 33) (j := n1) hN ((hB.1 15) : rg (σ.1 15))
    have hF : f_r [15] [33, 34] [1] σ (s_a σ 33 n1 (σ.1 15)) := f_a hF (by decide)
    refine lv_aload_n hx hb dX0_keepRows_10 rfl (lv_at hl 0 rfl) ?_
    refine gfX0_rowCount hx hb hts hK hP hown (hts _ tw_269) dX0_keepRows_11 ?_
    refine lv_iload_n hx hb dX0_keepRows_14 rfl (lv_at hl 1 rfl) ?_
    refine lv_iload_n hx hb dX0_keepRows_15 rfl (lv_at hl 2 rfl) ?_
    refine sdCX0_rowCount hx hb hK hP hD hS c1 dX0_keepRows_16 (fun H locs hP hD hS => ?_)
    have hN : n_m (s_a (s_a σ 33 n1 (σ.1 15)) 34 n1 n2) := n_a (k := 34) (j := n1) hN (r_n2 : rg n2)
    have hF : f_r [15] [33, 34] [1] σ (s_a (s_a σ 33 n1 (σ.1 15)) 34 n1 n2) := f_a hF (by decide)
    refine lv_aload_n hx hb dX0_keepRows_17 rfl (lv_at hl 0 rfl) ?_
    refine gfX0_rowsUsed hx hb hts hK hP hown (hts _ tw_288) (x := σ.1 15) rfl dX0_keepRows_18 ?_
    refine lv_istore_n (lv' := [(3, .int (I (σ.1 15))), (0, .ref (q 3)), (1, .int (I n1)), (2, .int (I n2))]) hx hb dX0_keepRows_21 rfl hl (by decide) rfl (fun ls hl => ?_)
    exact (hP22 _ _ _).mp hw r_n2 (hB.1 15) hN hF H locs ls hP hD hS (lv_sub hl [1, 3, 0] rfl)
  ·
    intro u2 u3 τ hw
    refine (hP22 _ _ _).mpr ?_
    intro r_u2 r_u3 hN hF H locs ls hP hD hS hl
    have hB := hN
    refine lv_iload_n hx hb dX0_keepRows_22 rfl (lv_at hl 2 rfl) ?_
    refine lv_aload_n hx hb dX0_keepRows_23 rfl (lv_at hl 0 rfl) ?_
    refine gfX0_rowsUsed hx hb hts hK hP hown (hts _ tw_288) (x := τ.1 15) rfl dX0_keepRows_24 ?_
    refine lv_iload_n hx hb dX0_keepRows_27 rfl (lv_at hl 1 rfl) ?_
    refine bi_iadd hx hb dX0_keepRows_28 ?_
    obtain ⟨c2, hw⟩ := hw
    refine bi_icmp_ge (tgt := 104) hx hb r_u3 c2 dX0_keepRows_29 (by decide) (fun c3 => ?_) (fun c3 => ?_)
    ·
      replace hw := hw.1 c3
      refine lv_aload_n hx hb dX0_keepRows_104 rfl (lv_at hl 0 rfl) ?_
      refine lv_dup hx hb dX0_keepRows_105 rfl ?_
      refine gfX0_rowsUsed hx hb hts hK hP hown (hts _ tw_288) (x := τ.1 15) rfl dX0_keepRows_106 ?_
      refine lv_iload_n hx hb dX0_keepRows_109 rfl (lv_at hl 1 rfl) ?_
      refine bi_iadd hx hb dX0_keepRows_110 ?_
      refine pfX0_rowsUsed hx hb hts hK hP hD hS hown (hts _ tw_288) dX0_keepRows_111 (fun H locs hP hD hS => ?_)
      have hN : n_m (s_v τ 15 (τ.1 15 + u2)) := n_v (i := 15) hN (c2 : rg (τ.1 15 + u2))
      have hF : f_r [15] [33, 34] [1] σ (s_v τ 15 (τ.1 15 + u2)) := f_v hF (by decide)
      exact xrv hx hb hr hlk hP hK hD hS ⟨_, hN, hF, rfl, hw⟩ (Nat.le_of_ble_eq_true rfl) (Nat.le_of_ble_eq_true rfl) dX0_keepRows_114
    ·
      replace hw := hw.2 c3
      refine lv_lconst (v := 1) hx hb dX0_keepRows_32 (by decide) ?_
      refine lv_lstore (lv' := [(4, .long 1), (0, .ref (q 3)), (2, .int (I u2)), (3, .int (I u3))]) hx hb dX0_keepRows_33 hl (by decide) rfl (fun ls hl => ?_)
      refine lv_aload_n hx hb dX0_keepRows_35 rfl (lv_at hl 1 rfl) ?_
      refine gfX0_childAt hx hb hts hK hP hown (hts _ tw_278) dX0_keepRows_36 ?_
      refine lv_iload_n hx hb dX0_keepRows_39 rfl (lv_at hl 3 rfl) ?_
      obtain ⟨c4, hw⟩ := hw
      refine ldCX0_childAt hx hb hK hP hN c4 dX0_keepRows_40 (fun x5 r_x5 e_x5 => ?_)
      replace hw := hw x5 r_x5 e_x5
      refine lv_istore (lv' := [(6, .int (I x5)), (4, .long 1), (0, .ref (q 3)), (2, .int (I u2)), (3, .int (I u3))]) hx hb dX0_keepRows_41 hl (by decide) rfl (fun ls hl => ?_)
      exact (hP43 _ _ _ _ _).mp hw r_u2 r_u3 r_x5 hN hF H locs ls hP hD hS (lv_sub hl [2, 3, 4, 1, 0] rfl)
  ·
    intro u2 u3 u4 u6 τ hw
    refine (hP43 _ _ _ _ _).mpr ?_
    intro r_u2 r_u3 r_u6 hN hF H locs ls hP hD hS hl
    have hB := hN
    refine lv_iload hx hb dX0_keepRows_43 (lv_at hl 4 rfl) ?_
    refine lv_aload_n hx hb dX0_keepRows_45 rfl (lv_at hl 0 rfl) ?_
    refine gfX0_childAt hx hb hts hK hP hown (hts _ tw_278) dX0_keepRows_46 ?_
    refine lv_iload_n hx hb dX0_keepRows_49 rfl (lv_at hl 2 rfl) ?_
    refine lv_iconst (v := I 1) hx hb dX0_keepRows_50 rfl ?_
    refine bi_iadd hx hb dX0_keepRows_51 ?_
    obtain ⟨c6, hw⟩ := hw
    refine ldCX0_childAt hx hb hK hP hN c6 dX0_keepRows_52 (fun x7 r_x7 e_x7 => ?_)
    replace hw := hw x7 r_x7 e_x7
    refine bi_icmp_ge (tgt := 90) hx hb r_u6 r_x7 dX0_keepRows_53 (by decide) (fun c8 => ?_) (fun c8 => ?_)
    ·
      replace hw := hw.1 c8
      refine lv_aload_n hx hb dX0_keepRows_90 rfl (lv_at hl 0 rfl) ?_
      refine gfX0_rowLabels hx hb hts hK hP hown (hts _ tw_293) dX0_keepRows_91 ?_
      refine lv_iload_n hx hb dX0_keepRows_94 rfl (lv_at hl 2 rfl) ?_
      refine lv_lload hx hb dX0_keepRows_95 (lv_at hl 3 rfl) ?_
      obtain ⟨c9, hw⟩ := hw
      refine sdCX0_rowLabels hx hb hK hP hD hS c9 dX0_keepRows_97 (fun H locs hP hD hS => ?_)
      have hN : n_m (s_b τ 1 u3 u4) := n_b (k := 1) (j := u3) (x := u4) hN
      have hF : f_r [15] [33, 34] [1] σ (s_b τ 1 u3 u4) := f_b hF (by decide)
      refine lv_iinc (v := I (u3 + 1)) (lv' := [(3, .int (I (u3 + 1))), (0, .ref (q 3)), (2, .int (I u2)), (4, .long u4), (6, .int (I u6))]) hx hb dX0_keepRows_98 hl (k := 2) rfl (I_add _ _) (by decide) rfl (fun ls hl => ?_)
      refine lv_goto (tgt := 22) hx hb dX0_keepRows_101 (by decide) ?_
      exact (hP22 _ _ _).mp hw r_u2 (rg_ix c6.1 c6.2 (by decide)) hN hF H locs ls hP hD hS (lv_sub hl [1, 2, 0] rfl)
    ·
      replace hw := hw.2 c8
      refine lv_ldc2 (own := RX0) (v := 1000000000000000001) hx hb hown (hts _ tw_1357) dX0_keepRows_56 ?_
      refine lv_lload hx hb dX0_keepRows_59 (lv_at hl 3 rfl) ?_
      refine lv_aload_n hx hb dX0_keepRows_61 rfl (lv_at hl 0 rfl) ?_
      refine gfX0_rowLabels hx hb hts hK hP hown (hts _ tw_293) dX0_keepRows_62 ?_
      refine lv_aload_n hx hb dX0_keepRows_65 rfl (lv_at hl 0 rfl) ?_
      refine gfX0_rowsUsed hx hb hts hK hP hown (hts _ tw_288) (x := τ.1 15) rfl dX0_keepRows_66 ?_
      refine lv_aload_n hx hb dX0_keepRows_69 rfl (lv_at hl 0 rfl) ?_
      refine gfX0_children hx hb hts hK hP hown (hts _ tw_283) dX0_keepRows_70 ?_
      refine lv_iload hx hb dX0_keepRows_73 (lv_at hl 4 rfl) ?_
      obtain ⟨c10, hw⟩ := hw
      refine ldCX0_children hx hb hK hP hN c10 dX0_keepRows_75 (fun x11 r_x11 e_x11 => ?_)
      replace hw := hw x11 r_x11 e_x11
      refine bi_iadd hx hb dX0_keepRows_76 ?_
      obtain ⟨c12, hw⟩ := hw
      refine ldCX0_rowLabels hx hb hK hP hN c12 dX0_keepRows_77 (fun x13 e_x13 => ?_)
      replace hw := hw x13 e_x13
      refine lv_ladd hx hb dX0_keepRows_78 ?_
      refine va_mmin_long hx hb (by rw [hml]; exact hl.1.symm) hown (hts _ tw_1358) (hts _ tw_1359) (hts _ tw_16) (hts _ tw_1360) (Nat.le_of_ble_eq_true rfl) (Nat.le_of_ble_eq_true rfl) (Nat.le_of_ble_eq_true rfl) (Nat.le_of_ble_eq_true rfl) dX0_keepRows_79 ?_
      refine lv_lstore (lv' := [(4, .long (if (u4 + x13) < 1000000000000000001 then (u4 + x13) else 1000000000000000001)), (0, .ref (q 3)), (2, .int (I u2)), (3, .int (I u3)), (6, .int (I u6))]) hx hb dX0_keepRows_82 hl (by decide) rfl (fun ls hl => ?_)
      refine lv_iinc (v := I (u6 + 1)) (lv' := [(6, .int (I (u6 + 1))), (4, .long (if (u4 + x13) < 1000000000000000001 then (u4 + x13) else 1000000000000000001)), (0, .ref (q 3)), (2, .int (I u2)), (3, .int (I u3))]) hx hb dX0_keepRows_84 hl (k := 4) rfl (I_add _ _) (by decide) rfl (fun ls hl => ?_)
      refine lv_goto (tgt := 43) hx hb dX0_keepRows_87 (by decide) ?_
      obtain ⟨c14, hw⟩ := hw
      exact (hP43 _ _ _ _ _).mp hw r_u2 r_u3 c14 hN hF H locs ls hP hD hS (lv_sub hl [2, 3, 4, 1, 0] rfl)
def W_X0_labelsOf (n1 : Int) (σ : S0) (Q : Int64 → Prop) : Prop :=
  (0 ≤ n1 ∧ n1 < 1500) ∧ (∀ (x2 : Int), rg x2 → x2 = σ.2.1 33 n1 → (∀ (x3 : Int), rg x3 → x3 = σ.2.1 34 n1 → ((0 ≤ ((x2 + x3) - 1) ∧ ((x2 + x3) - 1) < 20000) ∧ (∀ (x5 : Int64), x5 = σ.2.2 1 ((x2 + x3) - 1) → (Q x5)))))
set_option maxRecDepth 100000 in
set_option maxHeartbeats 4000000 in
theorem L_X0_labelsOf (l : Launch) (g : gG) (q : Nat → Nat) (lb : Nat) (hlb : lb < 2 ^ 31) {n1 : Int} {σ : S0} {Q : Int64 → Prop} (r_n1 : rg n1) (hN : n_m σ) (hw : W_X0_labelsOf n1 σ Q) (sz : Nat) : MetL l yX0_labelsOf cX0_labelsOf 2 (some .long) { frames := 0, cells := 0, slots := 0, locals := 0 } g [.ref (q 3), .int (I n1)] (CX g q lb σ) sz xT (p_l (CX g q lb) σ Q) 0 0 := by
  refine mkMet (Qc := fun A => QL g A (p_l (CX g q lb) σ Q)) (by decide) (Nat.le_of_ble_eq_true rfl) ?_
  intro p e s m below meth c A H ls hx hb hr hml hown hts hlk hnm hsz hP hK hNb hD hA hAe hS hX hl
  have hl : lv_has ls 2 [(0, .ref (q 3)), (1, .int (I n1))] := hl
  have hB := hN
  obtain ⟨locs, hlocs⟩ : ∃ z : List Loc, z = [] := ⟨_, rfl⟩
  rw [← hlocs] at hS ⊢
  refine lv_aload_n hx hb dX0_labelsOf_0 rfl (lv_at hl 0 rfl) ?_
  refine gfX0_rowLabels hx hb hts hK hP hown (hts _ tw_293) dX0_labelsOf_1 ?_
  refine lv_aload_n hx hb dX0_labelsOf_4 rfl (lv_at hl 0 rfl) ?_
  refine gfX0_rowAt hx hb hts hK hP hown (hts _ tw_265) dX0_labelsOf_5 ?_
  refine lv_iload_n hx hb dX0_labelsOf_8 rfl (lv_at hl 1 rfl) ?_
  obtain ⟨c1, hw⟩ := hw
  refine ldCX0_rowAt hx hb hK hP hN c1 dX0_labelsOf_9 (fun x2 r_x2 e_x2 => ?_)
  replace hw := hw x2 r_x2 e_x2
  refine lv_aload_n hx hb dX0_labelsOf_10 rfl (lv_at hl 0 rfl) ?_
  refine gfX0_rowCount hx hb hts hK hP hown (hts _ tw_269) dX0_labelsOf_11 ?_
  refine lv_iload_n hx hb dX0_labelsOf_14 rfl (lv_at hl 1 rfl) ?_
  refine ldCX0_rowCount hx hb hK hP hN c1 dX0_labelsOf_15 (fun x3 r_x3 e_x3 => ?_)
  replace hw := hw x3 r_x3 e_x3
  refine bi_iadd hx hb dX0_labelsOf_16 ?_
  refine lv_iconst (v := I 1) hx hb dX0_labelsOf_17 rfl ?_
  refine bi_isub hx hb dX0_labelsOf_18 ?_
  obtain ⟨c4, hw⟩ := hw
  refine ldCX0_rowLabels hx hb hK hP hN c4 dX0_labelsOf_19 (fun x5 e_x5 => ?_)
  replace hw := hw x5 e_x5
  exact xrl hx hb hr hlk hP hK hD hS ⟨rfl, hw⟩ (Nat.le_of_ble_eq_true rfl) (Nat.le_of_ble_eq_true rfl) dX0_labelsOf_20
def W_X0_addRest (n1 : Int) (n2 : Int) (σ : S0) (Q : S0 → Prop) : Prop :=
  ∀ (P2 : Int → Int → Int → S0 → Prop),
  (∀ (u1 : Int) (u2 : Int) (u3 : Int) (τ : S0), ((24 ≤ u3 → (0 ≤ u2 ∧ u2 ≤ 2147483647) ∧ ((0 ≤ ((u1 * 24) + (u2 / 64)) ∧ ((u1 * 24) + (u2 / 64)) < 36000) ∧ (∀ (x4 : Int64), x4 = τ.2.2 2 ((u1 * 24) + (u2 / 64)) → (Q (s_b τ 2 ((u1 * 24) + (u2 / 64)) (x4 ||| (j_shl 1 (u2 % 64)))))))) ∧ (u3 < 24 → (0 ≤ ((u1 * 24) + u3) ∧ ((u1 * 24) + u3) < 36000) ∧ (∀ (x6 : Int64), x6 = τ.2.2 2 ((u1 * 24) + u3) → ((0 ≤ ((u2 * 24) + u3) ∧ ((u2 * 24) + u3) < 36000) ∧ (∀ (x8 : Int64), x8 = τ.2.2 2 ((u2 * 24) + u3) → (rg (u3 + 1) ∧ P2 u1 u2 (u3 + 1) (s_b τ 2 ((u1 * 24) + u3) (x6 ||| x8)))))))) → P2 u1 u2 u3 τ) →
  P2 n1 n2 0 σ
set_option maxRecDepth 100000 in
set_option maxHeartbeats 4000000 in
theorem L_X0_addRest (l : Launch) (g : gG) (q : Nat → Nat) (lb : Nat) (hlb : lb < 2 ^ 31) {n1 : Int} {n2 : Int} {σ : S0} {Q : S0 → Prop} (r_n1 : rg n1) (r_n2 : rg n2) (hN : n_m σ) (hw : W_X0_addRest n1 n2 σ Q) (sz : Nat) : MetV l yX0_addRest cX0_addRest 4 { frames := 0, cells := 0, slots := 0, locals := 0 } g [.ref (q 3), .int (I n1), .int (I n2)] (CX g q lb σ) sz xT (p_V (CX g q lb) [] [] [2] σ Q) 0 0 := by
  refine mkMet (Qc := fun A => QV g A (p_V (CX g q lb) [] [] [2] σ Q)) (by decide) (Nat.le_of_ble_eq_true rfl) ?_
  intro p e s m below meth c A H ls hx hb hr hml hown hts hlk hnm hsz hP hK hNb hD hA hAe hS hX hl
  have hl : lv_has ls 4 [(0, .ref (q 3)), (1, .int (I n1)), (2, .int (I n2))] := hl
  have hB := hN
  have hF : f_r [] [] [2] σ σ := f_0
  obtain ⟨locs, hlocs⟩ : ∃ z : List Loc, z = [] := ⟨_, rfl⟩
  rw [← hlocs] at hS ⊢
  obtain ⟨P2, hP2⟩ : ∃ P : Int → Int → Int → S0 → Prop, ∀ (u1 : Int) (u2 : Int) (u3 : Int) (τ : S0), (P u1 u2 u3 τ ↔ (rg u1 → rg u2 → rg u3 → n_m τ → f_r [] [] [2] σ τ → ∀ (H : Heap) (locs : List Loc) (ls : Array Slot), KP g (CX g q lb τ) H → va_D A (CX g q lb τ) → va_S A s.heap H locs → lv_has ls 4 [(0, .ref (q 3)), (1, .int (I u1)), (2, .int (I u2)), (3, .int (I u3))] → W p l e ({ frames := 0, cells := 0, slots := 0, locals := 0 }) s m [.ref (q 3), .int (I n1), .int (I n2)].toArray below meth c H locs 0 0 (MQ below (QV g A (p_V (CX g q lb) [] [] [2] σ Q)) [.ref (q 3), .int (I n1), .int (I n2)].toArray s 0 0 A) (F0 m 2 ls []))) := ⟨_, fun _ _ _ _ => Iff.rfl⟩
  refine (fun hw => ?_) (hw P2 ?_)
  ·
    refine lv_iconst (v := I 0) hx hb dX0_addRest_0 rfl ?_
    refine lv_istore_n (lv' := [(3, .int (I 0)), (0, .ref (q 3)), (1, .int (I n1)), (2, .int (I n2))]) hx hb dX0_addRest_1 rfl hl (by decide) rfl (fun ls hl => ?_)
    exact (hP2 _ _ _ _).mp hw r_n1 r_n2 (by decide) hN hF H locs ls hP hD hS (lv_sub hl [1, 2, 3, 0] rfl)
  ·
    intro u1 u2 u3 τ hw
    refine (hP2 _ _ _ _).mpr ?_
    intro r_u1 r_u2 r_u3 hN hF H locs ls hP hD hS hl
    have hB := hN
    refine lv_iload_n hx hb dX0_addRest_2 rfl (lv_at hl 3 rfl) ?_
    refine lv_bipush (v := I 24) hx hb dX0_addRest_3 (by decide) ?_
    refine bi_icmp_ge (tgt := 39) hx hb r_u3 (by decide) dX0_addRest_5 (by decide) (fun c1 => ?_) (fun c1 => ?_)
    ·
      replace hw := hw.1 c1
      refine lv_aload_n hx hb dX0_addRest_39 rfl (lv_at hl 0 rfl) ?_
      refine gfX0_rests hx hb hts hK hP hown (hts _ tw_294) dX0_addRest_40 ?_
      refine lv_iload_n hx hb dX0_addRest_43 rfl (lv_at hl 1 rfl) ?_
      refine lv_bipush (v := I 24) hx hb dX0_addRest_44 (by decide) ?_
      refine bi_imul hx hb dX0_addRest_46 ?_
      refine lv_iload_n hx hb dX0_addRest_47 rfl (lv_at hl 2 rfl) ?_
      refine lv_bipush (v := I 6) hx hb dX0_addRest_48 (by decide) ?_
      obtain ⟨c2, hw⟩ := hw
      refine bi_ishr hx hb c2.1 c2.2 6 64 (by decide) (by decide) dX0_addRest_50 ?_
      refine bi_iadd hx hb dX0_addRest_51 ?_
      refine lv_dup2_11 hx hb dX0_addRest_52 rfl rfl ?_
      obtain ⟨c3, hw⟩ := hw
      refine ldCX0_rests hx hb hK hP hN c3 dX0_addRest_53 (fun x4 e_x4 => ?_)
      replace hw := hw x4 e_x4
      refine lv_lconst (v := 1) hx hb dX0_addRest_54 (by decide) ?_
      refine lv_iload_n hx hb dX0_addRest_55 rfl (lv_at hl 2 rfl) ?_
      refine lv_bipush (v := I 63) hx hb dX0_addRest_56 (by decide) ?_
      refine bi_iandm hx hb 63 6 64 (by decide) (by decide) (by omega) dX0_addRest_58 ?_
      refine bi_lshl hx hb dX0_addRest_59 ?_
      refine lv_lor hx hb dX0_addRest_60 ?_
      refine sdCX0_rests hx hb hK hP hD hS c3 dX0_addRest_61 (fun H locs hP hD hS => ?_)
      have hN : n_m (s_b τ 2 ((u1 * 24) + (u2 / 64)) (x4 ||| (j_shl 1 (u2 % 64)))) := n_b (k := 2) (j := ((u1 * 24) + (u2 / 64))) (x := (x4 ||| (j_shl 1 (u2 % 64)))) hN
      have hF : f_r [] [] [2] σ (s_b τ 2 ((u1 * 24) + (u2 / 64)) (x4 ||| (j_shl 1 (u2 % 64)))) := f_b hF (by decide)
      exact xrv hx hb hr hlk hP hK hD hS ⟨_, hN, hF, rfl, hw⟩ (Nat.le_of_ble_eq_true rfl) (Nat.le_of_ble_eq_true rfl) dX0_addRest_62
    ·
      replace hw := hw.2 c1
      refine lv_aload_n hx hb dX0_addRest_8 rfl (lv_at hl 0 rfl) ?_
      refine gfX0_rests hx hb hts hK hP hown (hts _ tw_294) dX0_addRest_9 ?_
      refine lv_iload_n hx hb dX0_addRest_12 rfl (lv_at hl 1 rfl) ?_
      refine lv_bipush (v := I 24) hx hb dX0_addRest_13 (by decide) ?_
      refine bi_imul hx hb dX0_addRest_15 ?_
      refine lv_iload_n hx hb dX0_addRest_16 rfl (lv_at hl 3 rfl) ?_
      refine bi_iadd hx hb dX0_addRest_17 ?_
      refine lv_dup2_11 hx hb dX0_addRest_18 rfl rfl ?_
      obtain ⟨c5, hw⟩ := hw
      refine ldCX0_rests hx hb hK hP hN c5 dX0_addRest_19 (fun x6 e_x6 => ?_)
      replace hw := hw x6 e_x6
      refine lv_aload_n hx hb dX0_addRest_20 rfl (lv_at hl 0 rfl) ?_
      refine gfX0_rests hx hb hts hK hP hown (hts _ tw_294) dX0_addRest_21 ?_
      refine lv_iload_n hx hb dX0_addRest_24 rfl (lv_at hl 2 rfl) ?_
      refine lv_bipush (v := I 24) hx hb dX0_addRest_25 (by decide) ?_
      refine bi_imul hx hb dX0_addRest_27 ?_
      refine lv_iload_n hx hb dX0_addRest_28 rfl (lv_at hl 3 rfl) ?_
      refine bi_iadd hx hb dX0_addRest_29 ?_
      obtain ⟨c7, hw⟩ := hw
      refine ldCX0_rests hx hb hK hP hN c7 dX0_addRest_30 (fun x8 e_x8 => ?_)
      replace hw := hw x8 e_x8
      refine lv_lor hx hb dX0_addRest_31 ?_
      refine sdCX0_rests hx hb hK hP hD hS c5 dX0_addRest_32 (fun H locs hP hD hS => ?_)
      have hN : n_m (s_b τ 2 ((u1 * 24) + u3) (x6 ||| x8)) := n_b (k := 2) (j := ((u1 * 24) + u3)) (x := (x6 ||| x8)) hN
      have hF : f_r [] [] [2] σ (s_b τ 2 ((u1 * 24) + u3) (x6 ||| x8)) := f_b hF (by decide)
      refine lv_iinc (v := I (u3 + 1)) (lv' := [(3, .int (I (u3 + 1))), (0, .ref (q 3)), (1, .int (I u1)), (2, .int (I u2))]) hx hb dX0_addRest_33 hl (k := 3) rfl (I_add _ _) (by decide) rfl (fun ls hl => ?_)
      refine lv_goto (tgt := 2) hx hb dX0_addRest_36 (by decide) ?_
      obtain ⟨c9, hw⟩ := hw
      exact (hP2 _ _ _ _).mp hw r_u1 r_u2 c9 hN hF H locs ls hP hD hS (lv_sub hl [1, 2, 3, 0] rfl)
def W_X0_restsOn (n1 : Int) (n2 : Int) (σ : S0) (Q : Int → Prop) : Prop :=
  (0 ≤ n2 ∧ n2 ≤ 2147483647) ∧ ((0 ≤ ((n1 * 24) + (n2 / 64)) ∧ ((n1 * 24) + (n2 / 64)) < 36000) ∧ (∀ (x3 : Int64), x3 = σ.2.2 2 ((n1 * 24) + (n2 / 64)) → ((((j_ushr x3 (n2 % 64)) &&& 1) = 0 → Q 0) ∧ (¬ ((j_ushr x3 (n2 % 64)) &&& 1) = 0 → Q 1))))
set_option maxRecDepth 100000 in
set_option maxHeartbeats 4000000 in
theorem L_X0_restsOn (l : Launch) (g : gG) (q : Nat → Nat) (lb : Nat) (hlb : lb < 2 ^ 31) {n1 : Int} {n2 : Int} {σ : S0} {Q : Int → Prop} (r_n1 : rg n1) (r_n2 : rg n2) (hN : n_m σ) (hw : W_X0_restsOn n1 n2 σ Q) (sz : Nat) : MetI l yX0_restsOn cX0_restsOn 3 (some .boolean) { frames := 0, cells := 0, slots := 0, locals := 0 } g [.ref (q 3), .int (I n1), .int (I n2)] (CX g q lb σ) sz xT (p_i (CX g q lb) σ Q) 0 0 := by
  refine mkMet (Qc := fun A => QI g A (p_i (CX g q lb) σ Q)) (by decide) (Nat.le_of_ble_eq_true rfl) ?_
  intro p e s m below meth c A H ls hx hb hr hml hown hts hlk hnm hsz hP hK hNb hD hA hAe hS hX hl
  have hl : lv_has ls 3 [(0, .ref (q 3)), (1, .int (I n1)), (2, .int (I n2))] := hl
  have hB := hN
  obtain ⟨locs, hlocs⟩ : ∃ z : List Loc, z = [] := ⟨_, rfl⟩
  rw [← hlocs] at hS ⊢
  refine lv_aload_n hx hb dX0_restsOn_0 rfl (lv_at hl 0 rfl) ?_
  refine gfX0_rests hx hb hts hK hP hown (hts _ tw_294) dX0_restsOn_1 ?_
  refine lv_iload_n hx hb dX0_restsOn_4 rfl (lv_at hl 1 rfl) ?_
  refine lv_bipush (v := I 24) hx hb dX0_restsOn_5 (by decide) ?_
  refine bi_imul hx hb dX0_restsOn_7 ?_
  refine lv_iload_n hx hb dX0_restsOn_8 rfl (lv_at hl 2 rfl) ?_
  refine lv_bipush (v := I 6) hx hb dX0_restsOn_9 (by decide) ?_
  obtain ⟨c1, hw⟩ := hw
  refine bi_ishr hx hb c1.1 c1.2 6 64 (by decide) (by decide) dX0_restsOn_11 ?_
  refine bi_iadd hx hb dX0_restsOn_12 ?_
  obtain ⟨c2, hw⟩ := hw
  refine ldCX0_rests hx hb hK hP hN c2 dX0_restsOn_13 (fun x3 e_x3 => ?_)
  replace hw := hw x3 e_x3
  refine lv_iload_n hx hb dX0_restsOn_14 rfl (lv_at hl 2 rfl) ?_
  refine lv_bipush (v := I 63) hx hb dX0_restsOn_15 (by decide) ?_
  refine bi_iandm hx hb 63 6 64 (by decide) (by decide) (by omega) dX0_restsOn_17 ?_
  refine bi_lushr hx hb dX0_restsOn_18 ?_
  refine lv_lconst (v := 1) hx hb dX0_restsOn_19 (by decide) ?_
  refine lv_land hx hb dX0_restsOn_20 ?_
  refine lv_lconst (v := 0) hx hb dX0_restsOn_21 (by decide) ?_
  refine bi_lcmp_eq (tgt := 30) hx hb dX0_restsOn_22 dX0_restsOn_23 (by decide) (fun c4 => ?_) (fun c4 => ?_)
  ·
    replace hw := hw.1 c4
    refine lv_iconst (v := I 0) hx hb dX0_restsOn_30 rfl ?_
    exact xrz hx hb hr (by decide) hlk hP hK hD hS ⟨_, (by decide), rfl, rfl, hw⟩ (Nat.le_of_ble_eq_true rfl) (Nat.le_of_ble_eq_true rfl) dX0_restsOn_31
  ·
    replace hw := hw.2 c4
    refine lv_iconst (v := I 1) hx hb dX0_restsOn_26 rfl ?_
    refine lv_goto (tgt := 31) hx hb dX0_restsOn_27 (by decide) ?_
    exact xrz hx hb hr (by decide) hlk hP hK hD hS ⟨_, (by decide), rfl, rfl, hw⟩ (Nat.le_of_ble_eq_true rfl) (Nat.le_of_ble_eq_true rfl) dX0_restsOn_31
def W_J13_bitCount_95d88 (n0 : Int64) (σ : S0) (Q : Int → Prop) : Prop :=
  ∀ (x1 : Int), rg x1 → (rg (((((((((n0 - ((j_ushr n0 1) &&& 6148914691236517205)) &&& 3689348814741910323) + ((j_ushr (n0 - ((j_ushr n0 1) &&& 6148914691236517205)) 2) &&& 3689348814741910323)) + (j_ushr (((n0 - ((j_ushr n0 1) &&& 6148914691236517205)) &&& 3689348814741910323) + ((j_ushr (n0 - ((j_ushr n0 1) &&& 6148914691236517205)) 2) &&& 3689348814741910323)) 4)) &&& 1085102592571150095) + (j_ushr (((((n0 - ((j_ushr n0 1) &&& 6148914691236517205)) &&& 3689348814741910323) + ((j_ushr (n0 - ((j_ushr n0 1) &&& 6148914691236517205)) 2) &&& 3689348814741910323)) + (j_ushr (((n0 - ((j_ushr n0 1) &&& 6148914691236517205)) &&& 3689348814741910323) + ((j_ushr (n0 - ((j_ushr n0 1) &&& 6148914691236517205)) 2) &&& 3689348814741910323)) 4)) &&& 1085102592571150095) 8)) + (j_ushr ((((((n0 - ((j_ushr n0 1) &&& 6148914691236517205)) &&& 3689348814741910323) + ((j_ushr (n0 - ((j_ushr n0 1) &&& 6148914691236517205)) 2) &&& 3689348814741910323)) + (j_ushr (((n0 - ((j_ushr n0 1) &&& 6148914691236517205)) &&& 3689348814741910323) + ((j_ushr (n0 - ((j_ushr n0 1) &&& 6148914691236517205)) 2) &&& 3689348814741910323)) 4)) &&& 1085102592571150095) + (j_ushr (((((n0 - ((j_ushr n0 1) &&& 6148914691236517205)) &&& 3689348814741910323) + ((j_ushr (n0 - ((j_ushr n0 1) &&& 6148914691236517205)) 2) &&& 3689348814741910323)) + (j_ushr (((n0 - ((j_ushr n0 1) &&& 6148914691236517205)) &&& 3689348814741910323) + ((j_ushr (n0 - ((j_ushr n0 1) &&& 6148914691236517205)) 2) &&& 3689348814741910323)) 4)) &&& 1085102592571150095) 8)) 16)) + (j_ushr (((((((n0 - ((j_ushr n0 1) &&& 6148914691236517205)) &&& 3689348814741910323) + ((j_ushr (n0 - ((j_ushr n0 1) &&& 6148914691236517205)) 2) &&& 3689348814741910323)) + (j_ushr (((n0 - ((j_ushr n0 1) &&& 6148914691236517205)) &&& 3689348814741910323) + ((j_ushr (n0 - ((j_ushr n0 1) &&& 6148914691236517205)) 2) &&& 3689348814741910323)) 4)) &&& 1085102592571150095) + (j_ushr (((((n0 - ((j_ushr n0 1) &&& 6148914691236517205)) &&& 3689348814741910323) + ((j_ushr (n0 - ((j_ushr n0 1) &&& 6148914691236517205)) 2) &&& 3689348814741910323)) + (j_ushr (((n0 - ((j_ushr n0 1) &&& 6148914691236517205)) &&& 3689348814741910323) + ((j_ushr (n0 - ((j_ushr n0 1) &&& 6148914691236517205)) 2) &&& 3689348814741910323)) 4)) &&& 1085102592571150095) 8)) + (j_ushr ((((((n0 - ((j_ushr n0 1) &&& 6148914691236517205)) &&& 3689348814741910323) + ((j_ushr (n0 - ((j_ushr n0 1) &&& 6148914691236517205)) 2) &&& 3689348814741910323)) + (j_ushr (((n0 - ((j_ushr n0 1) &&& 6148914691236517205)) &&& 3689348814741910323) + ((j_ushr (n0 - ((j_ushr n0 1) &&& 6148914691236517205)) 2) &&& 3689348814741910323)) 4)) &&& 1085102592571150095) + (j_ushr (((((n0 - ((j_ushr n0 1) &&& 6148914691236517205)) &&& 3689348814741910323) + ((j_ushr (n0 - ((j_ushr n0 1) &&& 6148914691236517205)) 2) &&& 3689348814741910323)) + (j_ushr (((n0 - ((j_ushr n0 1) &&& 6148914691236517205)) &&& 3689348814741910323) + ((j_ushr (n0 - ((j_ushr n0 1) &&& 6148914691236517205)) 2) &&& 3689348814741910323)) 4)) &&& 1085102592571150095) 8)) 16)) 32)) : Int64).toInt → x1 = (((((((((n0 - ((j_ushr n0 1) &&& 6148914691236517205)) &&& 3689348814741910323) + ((j_ushr (n0 - ((j_ushr n0 1) &&& 6148914691236517205)) 2) &&& 3689348814741910323)) + (j_ushr (((n0 - ((j_ushr n0 1) &&& 6148914691236517205)) &&& 3689348814741910323) + ((j_ushr (n0 - ((j_ushr n0 1) &&& 6148914691236517205)) 2) &&& 3689348814741910323)) 4)) &&& 1085102592571150095) + (j_ushr (((((n0 - ((j_ushr n0 1) &&& 6148914691236517205)) &&& 3689348814741910323) + ((j_ushr (n0 - ((j_ushr n0 1) &&& 6148914691236517205)) 2) &&& 3689348814741910323)) + (j_ushr (((n0 - ((j_ushr n0 1) &&& 6148914691236517205)) &&& 3689348814741910323) + ((j_ushr (n0 - ((j_ushr n0 1) &&& 6148914691236517205)) 2) &&& 3689348814741910323)) 4)) &&& 1085102592571150095) 8)) + (j_ushr ((((((n0 - ((j_ushr n0 1) &&& 6148914691236517205)) &&& 3689348814741910323) + ((j_ushr (n0 - ((j_ushr n0 1) &&& 6148914691236517205)) 2) &&& 3689348814741910323)) + (j_ushr (((n0 - ((j_ushr n0 1) &&& 6148914691236517205)) &&& 3689348814741910323) + ((j_ushr (n0 - ((j_ushr n0 1) &&& 6148914691236517205)) 2) &&& 3689348814741910323)) 4)) &&& 1085102592571150095) + (j_ushr (((((n0 - ((j_ushr n0 1) &&& 6148914691236517205)) &&& 3689348814741910323) + ((j_ushr (n0 - ((j_ushr n0 1) &&& 6148914691236517205)) 2) &&& 3689348814741910323)) + (j_ushr (((n0 - ((j_ushr n0 1) &&& 6148914691236517205)) &&& 3689348814741910323) + ((j_ushr (n0 - ((j_ushr n0 1) &&& 6148914691236517205)) 2) &&& 3689348814741910323)) 4)) &&& 1085102592571150095) 8)) 16)) + (j_ushr (((((((n0 - ((j_ushr n0 1) &&& 6148914691236517205)) &&& 3689348814741910323) + ((j_ushr (n0 - ((j_ushr n0 1) &&& 6148914691236517205)) 2) &&& 3689348814741910323)) + (j_ushr (((n0 - ((j_ushr n0 1) &&& 6148914691236517205)) &&& 3689348814741910323) + ((j_ushr (n0 - ((j_ushr n0 1) &&& 6148914691236517205)) 2) &&& 3689348814741910323)) 4)) &&& 1085102592571150095) + (j_ushr (((((n0 - ((j_ushr n0 1) &&& 6148914691236517205)) &&& 3689348814741910323) + ((j_ushr (n0 - ((j_ushr n0 1) &&& 6148914691236517205)) 2) &&& 3689348814741910323)) + (j_ushr (((n0 - ((j_ushr n0 1) &&& 6148914691236517205)) &&& 3689348814741910323) + ((j_ushr (n0 - ((j_ushr n0 1) &&& 6148914691236517205)) 2) &&& 3689348814741910323)) 4)) &&& 1085102592571150095) 8)) + (j_ushr ((((((n0 - ((j_ushr n0 1) &&& 6148914691236517205)) &&& 3689348814741910323) + ((j_ushr (n0 - ((j_ushr n0 1) &&& 6148914691236517205)) 2) &&& 3689348814741910323)) + (j_ushr (((n0 - ((j_ushr n0 1) &&& 6148914691236517205)) &&& 3689348814741910323) + ((j_ushr (n0 - ((j_ushr n0 1) &&& 6148914691236517205)) 2) &&& 3689348814741910323)) 4)) &&& 1085102592571150095) + (j_ushr (((((n0 - ((j_ushr n0 1) &&& 6148914691236517205)) &&& 3689348814741910323) + ((j_ushr (n0 - ((j_ushr n0 1) &&& 6148914691236517205)) 2) &&& 3689348814741910323)) + (j_ushr (((n0 - ((j_ushr n0 1) &&& 6148914691236517205)) &&& 3689348814741910323) + ((j_ushr (n0 - ((j_ushr n0 1) &&& 6148914691236517205)) 2) &&& 3689348814741910323)) 4)) &&& 1085102592571150095) 8)) 16)) 32)) : Int64).toInt) → (Q (x1 % 128))
set_option maxRecDepth 100000 in
set_option maxHeartbeats 4000000 in
theorem L_J13_bitCount_95d88 (l : Launch) (g : gG) (q : Nat → Nat) (lb : Nat) (hlb : lb < 2 ^ 31) {n0 : Int64} {σ : S0} {Q : Int → Prop} (hN : n_m σ) (hw : W_J13_bitCount_95d88 n0 σ Q) (sz : Nat) : MetI l yJ13_bitCount_95d88 cJ13_bitCount_95d88 2 (some .int) { frames := 0, cells := 0, slots := 0, locals := 0 } g [.long n0] (CX g q lb σ) sz xT (p_i (CX g q lb) σ Q) 0 0 := by
  refine mkMet (Qc := fun A => QI g A (p_i (CX g q lb) σ Q)) (by decide) (Nat.le_of_ble_eq_true rfl) ?_
  intro p e s m below meth c A H ls hx hb hr hml hown hts hlk hnm hsz hP hK hNb hD hA hAe hS hX hl
  have hl : lv_has ls 2 [(0, .long n0)] := hl
  have hB := hN
  obtain ⟨locs, hlocs⟩ : ∃ z : List Loc, z = [] := ⟨_, rfl⟩
  rw [← hlocs] at hS ⊢
  refine lv_lload_n hx hb dJ13_bitCount_95d88_0 rfl (lv_at hl 0 rfl) ?_
  refine lv_lload_n hx hb dJ13_bitCount_95d88_1 rfl (lv_at hl 0 rfl) ?_
  refine lv_iconst (v := I 1) hx hb dJ13_bitCount_95d88_2 rfl ?_
  refine bi_lushr hx hb dJ13_bitCount_95d88_3 ?_
  refine lv_ldc2 (own := RJ13) (v := 6148914691236517205) hx hb hown (hts _ tw_1467) dJ13_bitCount_95d88_4 ?_
  refine lv_land hx hb dJ13_bitCount_95d88_7 ?_
  refine lv_lsub hx hb dJ13_bitCount_95d88_8 ?_
  refine lv_lstore_n (lv' := [(0, .long (n0 - ((j_ushr n0 1) &&& 6148914691236517205)))]) hx hb dJ13_bitCount_95d88_9 rfl hl (by decide) rfl (fun ls hl => ?_)
  refine lv_lload_n hx hb dJ13_bitCount_95d88_10 rfl (lv_at hl 0 rfl) ?_
  refine lv_ldc2 (own := RJ13) (v := 3689348814741910323) hx hb hown (hts _ tw_1468) dJ13_bitCount_95d88_11 ?_
  refine lv_land hx hb dJ13_bitCount_95d88_14 ?_
  refine lv_lload_n hx hb dJ13_bitCount_95d88_15 rfl (lv_at hl 0 rfl) ?_
  refine lv_iconst (v := I 2) hx hb dJ13_bitCount_95d88_16 rfl ?_
  refine bi_lushr hx hb dJ13_bitCount_95d88_17 ?_
  refine lv_ldc2 (own := RJ13) (v := 3689348814741910323) hx hb hown (hts _ tw_1468) dJ13_bitCount_95d88_18 ?_
  refine lv_land hx hb dJ13_bitCount_95d88_21 ?_
  refine lv_ladd hx hb dJ13_bitCount_95d88_22 ?_
  refine lv_lstore_n (lv' := [(0, .long (((n0 - ((j_ushr n0 1) &&& 6148914691236517205)) &&& 3689348814741910323) + ((j_ushr (n0 - ((j_ushr n0 1) &&& 6148914691236517205)) 2) &&& 3689348814741910323)))]) hx hb dJ13_bitCount_95d88_23 rfl hl (by decide) rfl (fun ls hl => ?_)
  refine lv_lload_n hx hb dJ13_bitCount_95d88_24 rfl (lv_at hl 0 rfl) ?_
  refine lv_lload_n hx hb dJ13_bitCount_95d88_25 rfl (lv_at hl 0 rfl) ?_
  refine lv_iconst (v := I 4) hx hb dJ13_bitCount_95d88_26 rfl ?_
  refine bi_lushr hx hb dJ13_bitCount_95d88_27 ?_
  refine lv_ladd hx hb dJ13_bitCount_95d88_28 ?_
  refine lv_ldc2 (own := RJ13) (v := 1085102592571150095) hx hb hown (hts _ tw_1469) dJ13_bitCount_95d88_29 ?_
  refine lv_land hx hb dJ13_bitCount_95d88_32 ?_
  refine lv_lstore_n (lv' := [(0, .long (((((n0 - ((j_ushr n0 1) &&& 6148914691236517205)) &&& 3689348814741910323) + ((j_ushr (n0 - ((j_ushr n0 1) &&& 6148914691236517205)) 2) &&& 3689348814741910323)) + (j_ushr (((n0 - ((j_ushr n0 1) &&& 6148914691236517205)) &&& 3689348814741910323) + ((j_ushr (n0 - ((j_ushr n0 1) &&& 6148914691236517205)) 2) &&& 3689348814741910323)) 4)) &&& 1085102592571150095))]) hx hb dJ13_bitCount_95d88_33 rfl hl (by decide) rfl (fun ls hl => ?_)
  refine lv_lload_n hx hb dJ13_bitCount_95d88_34 rfl (lv_at hl 0 rfl) ?_
  refine lv_lload_n hx hb dJ13_bitCount_95d88_35 rfl (lv_at hl 0 rfl) ?_
  refine lv_bipush (v := I 8) hx hb dJ13_bitCount_95d88_36 (by decide) ?_
  refine bi_lushr hx hb dJ13_bitCount_95d88_38 ?_
  refine lv_ladd hx hb dJ13_bitCount_95d88_39 ?_
  refine lv_lstore_n (lv' := [(0, .long ((((((n0 - ((j_ushr n0 1) &&& 6148914691236517205)) &&& 3689348814741910323) + ((j_ushr (n0 - ((j_ushr n0 1) &&& 6148914691236517205)) 2) &&& 3689348814741910323)) + (j_ushr (((n0 - ((j_ushr n0 1) &&& 6148914691236517205)) &&& 3689348814741910323) + ((j_ushr (n0 - ((j_ushr n0 1) &&& 6148914691236517205)) 2) &&& 3689348814741910323)) 4)) &&& 1085102592571150095) + (j_ushr (((((n0 - ((j_ushr n0 1) &&& 6148914691236517205)) &&& 3689348814741910323) + ((j_ushr (n0 - ((j_ushr n0 1) &&& 6148914691236517205)) 2) &&& 3689348814741910323)) + (j_ushr (((n0 - ((j_ushr n0 1) &&& 6148914691236517205)) &&& 3689348814741910323) + ((j_ushr (n0 - ((j_ushr n0 1) &&& 6148914691236517205)) 2) &&& 3689348814741910323)) 4)) &&& 1085102592571150095) 8)))]) hx hb dJ13_bitCount_95d88_40 rfl hl (by decide) rfl (fun ls hl => ?_)
  refine lv_lload_n hx hb dJ13_bitCount_95d88_41 rfl (lv_at hl 0 rfl) ?_
  refine lv_lload_n hx hb dJ13_bitCount_95d88_42 rfl (lv_at hl 0 rfl) ?_
  refine lv_bipush (v := I 16) hx hb dJ13_bitCount_95d88_43 (by decide) ?_
  refine bi_lushr hx hb dJ13_bitCount_95d88_45 ?_
  refine lv_ladd hx hb dJ13_bitCount_95d88_46 ?_
  refine lv_lstore_n (lv' := [(0, .long (((((((n0 - ((j_ushr n0 1) &&& 6148914691236517205)) &&& 3689348814741910323) + ((j_ushr (n0 - ((j_ushr n0 1) &&& 6148914691236517205)) 2) &&& 3689348814741910323)) + (j_ushr (((n0 - ((j_ushr n0 1) &&& 6148914691236517205)) &&& 3689348814741910323) + ((j_ushr (n0 - ((j_ushr n0 1) &&& 6148914691236517205)) 2) &&& 3689348814741910323)) 4)) &&& 1085102592571150095) + (j_ushr (((((n0 - ((j_ushr n0 1) &&& 6148914691236517205)) &&& 3689348814741910323) + ((j_ushr (n0 - ((j_ushr n0 1) &&& 6148914691236517205)) 2) &&& 3689348814741910323)) + (j_ushr (((n0 - ((j_ushr n0 1) &&& 6148914691236517205)) &&& 3689348814741910323) + ((j_ushr (n0 - ((j_ushr n0 1) &&& 6148914691236517205)) 2) &&& 3689348814741910323)) 4)) &&& 1085102592571150095) 8)) + (j_ushr ((((((n0 - ((j_ushr n0 1) &&& 6148914691236517205)) &&& 3689348814741910323) + ((j_ushr (n0 - ((j_ushr n0 1) &&& 6148914691236517205)) 2) &&& 3689348814741910323)) + (j_ushr (((n0 - ((j_ushr n0 1) &&& 6148914691236517205)) &&& 3689348814741910323) + ((j_ushr (n0 - ((j_ushr n0 1) &&& 6148914691236517205)) 2) &&& 3689348814741910323)) 4)) &&& 1085102592571150095) + (j_ushr (((((n0 - ((j_ushr n0 1) &&& 6148914691236517205)) &&& 3689348814741910323) + ((j_ushr (n0 - ((j_ushr n0 1) &&& 6148914691236517205)) 2) &&& 3689348814741910323)) + (j_ushr (((n0 - ((j_ushr n0 1) &&& 6148914691236517205)) &&& 3689348814741910323) + ((j_ushr (n0 - ((j_ushr n0 1) &&& 6148914691236517205)) 2) &&& 3689348814741910323)) 4)) &&& 1085102592571150095) 8)) 16)))]) hx hb dJ13_bitCount_95d88_47 rfl hl (by decide) rfl (fun ls hl => ?_)
  refine lv_lload_n hx hb dJ13_bitCount_95d88_48 rfl (lv_at hl 0 rfl) ?_
  refine lv_lload_n hx hb dJ13_bitCount_95d88_49 rfl (lv_at hl 0 rfl) ?_
  refine lv_bipush (v := I 32) hx hb dJ13_bitCount_95d88_50 (by decide) ?_
  refine bi_lushr hx hb dJ13_bitCount_95d88_52 ?_
  refine lv_ladd hx hb dJ13_bitCount_95d88_53 ?_
  refine lv_lstore_n (lv' := [(0, .long ((((((((n0 - ((j_ushr n0 1) &&& 6148914691236517205)) &&& 3689348814741910323) + ((j_ushr (n0 - ((j_ushr n0 1) &&& 6148914691236517205)) 2) &&& 3689348814741910323)) + (j_ushr (((n0 - ((j_ushr n0 1) &&& 6148914691236517205)) &&& 3689348814741910323) + ((j_ushr (n0 - ((j_ushr n0 1) &&& 6148914691236517205)) 2) &&& 3689348814741910323)) 4)) &&& 1085102592571150095) + (j_ushr (((((n0 - ((j_ushr n0 1) &&& 6148914691236517205)) &&& 3689348814741910323) + ((j_ushr (n0 - ((j_ushr n0 1) &&& 6148914691236517205)) 2) &&& 3689348814741910323)) + (j_ushr (((n0 - ((j_ushr n0 1) &&& 6148914691236517205)) &&& 3689348814741910323) + ((j_ushr (n0 - ((j_ushr n0 1) &&& 6148914691236517205)) 2) &&& 3689348814741910323)) 4)) &&& 1085102592571150095) 8)) + (j_ushr ((((((n0 - ((j_ushr n0 1) &&& 6148914691236517205)) &&& 3689348814741910323) + ((j_ushr (n0 - ((j_ushr n0 1) &&& 6148914691236517205)) 2) &&& 3689348814741910323)) + (j_ushr (((n0 - ((j_ushr n0 1) &&& 6148914691236517205)) &&& 3689348814741910323) + ((j_ushr (n0 - ((j_ushr n0 1) &&& 6148914691236517205)) 2) &&& 3689348814741910323)) 4)) &&& 1085102592571150095) + (j_ushr (((((n0 - ((j_ushr n0 1) &&& 6148914691236517205)) &&& 3689348814741910323) + ((j_ushr (n0 - ((j_ushr n0 1) &&& 6148914691236517205)) 2) &&& 3689348814741910323)) + (j_ushr (((n0 - ((j_ushr n0 1) &&& 6148914691236517205)) &&& 3689348814741910323) + ((j_ushr (n0 - ((j_ushr n0 1) &&& 6148914691236517205)) 2) &&& 3689348814741910323)) 4)) &&& 1085102592571150095) 8)) 16)) + (j_ushr (((((((n0 - ((j_ushr n0 1) &&& 6148914691236517205)) &&& 3689348814741910323) + ((j_ushr (n0 - ((j_ushr n0 1) &&& 6148914691236517205)) 2) &&& 3689348814741910323)) + (j_ushr (((n0 - ((j_ushr n0 1) &&& 6148914691236517205)) &&& 3689348814741910323) + ((j_ushr (n0 - ((j_ushr n0 1) &&& 6148914691236517205)) 2) &&& 3689348814741910323)) 4)) &&& 1085102592571150095) + (j_ushr (((((n0 - ((j_ushr n0 1) &&& 6148914691236517205)) &&& 3689348814741910323) + ((j_ushr (n0 - ((j_ushr n0 1) &&& 6148914691236517205)) 2) &&& 3689348814741910323)) + (j_ushr (((n0 - ((j_ushr n0 1) &&& 6148914691236517205)) &&& 3689348814741910323) + ((j_ushr (n0 - ((j_ushr n0 1) &&& 6148914691236517205)) 2) &&& 3689348814741910323)) 4)) &&& 1085102592571150095) 8)) + (j_ushr ((((((n0 - ((j_ushr n0 1) &&& 6148914691236517205)) &&& 3689348814741910323) + ((j_ushr (n0 - ((j_ushr n0 1) &&& 6148914691236517205)) 2) &&& 3689348814741910323)) + (j_ushr (((n0 - ((j_ushr n0 1) &&& 6148914691236517205)) &&& 3689348814741910323) + ((j_ushr (n0 - ((j_ushr n0 1) &&& 6148914691236517205)) 2) &&& 3689348814741910323)) 4)) &&& 1085102592571150095) + (j_ushr (((((n0 - ((j_ushr n0 1) &&& 6148914691236517205)) &&& 3689348814741910323) + ((j_ushr (n0 - ((j_ushr n0 1) &&& 6148914691236517205)) 2) &&& 3689348814741910323)) + (j_ushr (((n0 - ((j_ushr n0 1) &&& 6148914691236517205)) &&& 3689348814741910323) + ((j_ushr (n0 - ((j_ushr n0 1) &&& 6148914691236517205)) 2) &&& 3689348814741910323)) 4)) &&& 1085102592571150095) 8)) 16)) 32)))]) hx hb dJ13_bitCount_95d88_54 rfl hl (by decide) rfl (fun ls hl => ?_)
  refine lv_lload_n hx hb dJ13_bitCount_95d88_55 rfl (lv_at hl 0 rfl) ?_
  refine bi_l2i hx hb dJ13_bitCount_95d88_56 (fun x1 r_x1 p_x1 => ?_)
  replace hw := hw x1 r_x1 p_x1
  refine lv_bipush (v := I 127) hx hb dJ13_bitCount_95d88_57 (by decide) ?_
  refine bi_iandm hx hb 127 7 128 (by decide) (by decide) (by omega) dJ13_bitCount_95d88_59 ?_
  exact xri hx hb hr hlk hP hK hD hS ⟨_, (⟨by omega, by omega⟩ : rg (x1 % 128)), rfl, rfl, hw⟩ (Nat.le_of_ble_eq_true rfl) (Nat.le_of_ble_eq_true rfl) dJ13_bitCount_95d88_60
def W_X0_restCount (n1 : Int) (σ : S0) (Q : Int → Prop) : Prop :=
  ∀ (P4 : Int → Int → Int → Prop),
  (∀ (u1 : Int) (u2 : Int) (u3 : Int), ((24 ≤ u3 → Q u2) ∧ (u3 < 24 → (0 ≤ ((u1 * 24) + u3) ∧ ((u1 * 24) + u3) < 36000) ∧ (∀ (x3 : Int64), x3 = σ.2.2 2 ((u1 * 24) + u3) → (∃ (Q4 : Int → Prop), W_J13_bitCount_95d88 x3 σ Q4 ∧ ∀ (x5 : Int), rg x5 → Q4 x5 → (∀ (x7 : Int), rg x7 → (rg (u3 + 1) ∧ P4 u1 x7 (u3 + 1))))))) → P4 u1 u2 u3) →
  P4 n1 0 0
set_option maxRecDepth 100000 in
set_option maxHeartbeats 4000000 in
theorem L_X0_restCount (l : Launch) (g : gG) (q : Nat → Nat) (lb : Nat) (hlb : lb < 2 ^ 31) {n1 : Int} {σ : S0} {Q : Int → Prop} (r_n1 : rg n1) (hN : n_m σ) (hw : W_X0_restCount n1 σ Q) (sz : Nat) : MetI l yX0_restCount cX0_restCount 4 (some .int) { frames := 1, cells := 0, slots := 0, locals := 21 } g [.ref (q 3), .int (I n1)] (CX g q lb σ) sz xT (p_i (CX g q lb) σ Q) 0 0 := by
  refine mkMet (Qc := fun A => QI g A (p_i (CX g q lb) σ Q)) (by decide) (Nat.le_of_ble_eq_true rfl) ?_
  intro p e s m below meth c A H ls hx hb hr hml hown hts hlk hnm hsz hP hK hNb hD hA hAe hS hX hl
  have hl : lv_has ls 4 [(0, .ref (q 3)), (1, .int (I n1))] := hl
  have hB := hN
  obtain ⟨locs, hlocs⟩ : ∃ z : List Loc, z = [] := ⟨_, rfl⟩
  rw [← hlocs] at hS ⊢
  obtain ⟨P4, hP4⟩ : ∃ P : Int → Int → Int → Prop, ∀ (u1 : Int) (u2 : Int) (u3 : Int), (P u1 u2 u3 ↔ (rg u1 → rg u2 → rg u3 → ∀ (H : Heap) (locs : List Loc) (ls : Array Slot), KP g (CX g q lb σ) H → va_D A (CX g q lb σ) → va_S A s.heap H locs → lv_has ls 4 [(0, .ref (q 3)), (1, .int (I u1)), (2, .int (I u2)), (3, .int (I u3))] → W p l e ({ frames := 1, cells := 0, slots := 0, locals := 21 }) s m [.ref (q 3), .int (I n1)].toArray below meth c H locs 0 0 (MQ below (QI g A (p_i (CX g q lb) σ Q)) [.ref (q 3), .int (I n1)].toArray s 0 0 A) (F0 m 4 ls []))) := ⟨_, fun _ _ _ => Iff.rfl⟩
  refine (fun hw => ?_) (hw P4 ?_)
  ·
    refine lv_iconst (v := I 0) hx hb dX0_restCount_0 rfl ?_
    refine lv_istore_n (lv' := [(2, .int (I 0)), (0, .ref (q 3)), (1, .int (I n1))]) hx hb dX0_restCount_1 rfl hl (by decide) rfl (fun ls hl => ?_)
    refine lv_iconst (v := I 0) hx hb dX0_restCount_2 rfl ?_
    refine lv_istore_n (lv' := [(3, .int (I 0)), (2, .int (I 0)), (0, .ref (q 3)), (1, .int (I n1))]) hx hb dX0_restCount_3 rfl hl (by decide) rfl (fun ls hl => ?_)
    exact (hP4 _ _ _).mp hw r_n1 (by decide) (by decide)  H locs ls hP hD hS (lv_sub hl [2, 3, 1, 0] rfl)
  ·
    intro u1 u2 u3 hw
    refine (hP4 _ _ _).mpr ?_
    intro r_u1 r_u2 r_u3 H locs ls hP hD hS hl
    refine lv_iload_n hx hb dX0_restCount_4 rfl (lv_at hl 3 rfl) ?_
    refine lv_bipush (v := I 24) hx hb dX0_restCount_5 (by decide) ?_
    refine bi_icmp_ge (tgt := 33) hx hb r_u3 (by decide) dX0_restCount_7 (by decide) (fun c1 => ?_) (fun c1 => ?_)
    ·
      replace hw := hw.1 c1
      refine lv_iload_n hx hb dX0_restCount_33 rfl (lv_at hl 2 rfl) ?_
      exact xri hx hb hr hlk hP hK hD hS ⟨_, r_u2, rfl, rfl, hw⟩ (Nat.le_of_ble_eq_true rfl) (Nat.le_of_ble_eq_true rfl) dX0_restCount_34
    ·
      replace hw := hw.2 c1
      refine lv_iload_n hx hb dX0_restCount_10 rfl (lv_at hl 2 rfl) ?_
      refine lv_aload_n hx hb dX0_restCount_11 rfl (lv_at hl 0 rfl) ?_
      refine gfX0_rests hx hb hts hK hP hown (hts _ tw_294) dX0_restCount_12 ?_
      refine lv_iload_n hx hb dX0_restCount_15 rfl (lv_at hl 1 rfl) ?_
      refine lv_bipush (v := I 24) hx hb dX0_restCount_16 (by decide) ?_
      refine bi_imul hx hb dX0_restCount_18 ?_
      refine lv_iload_n hx hb dX0_restCount_19 rfl (lv_at hl 3 rfl) ?_
      refine bi_iadd hx hb dX0_restCount_20 ?_
      obtain ⟨c2, hw⟩ := hw
      refine ldCX0_rests hx hb hK hP hN c2 dX0_restCount_21 (fun x3 e_x3 => ?_)
      replace hw := hw x3 e_x3
      obtain ⟨Q4, hc, hw⟩ := hw
      refine wc_i (X := CX g q lb) (va_runS (As := [.long x3]) (rest := [.int (I u2)]) ⟨hx, hb, hml, hown, hts⟩ (L_J13_bitCount_95d88 l g q lb hlb  hN hc H.size) (va_cwS 1 hts (TB_vS tw_1464 tw_1465 tw_19 co_J13_bitCount_95d88) rfl rfl rfl (by decide +kernel) ⟨Nat.le_of_ble_eq_true rfl, Nat.le_of_ble_eq_true rfl⟩) (preS xT_bl hP hK hNb hD xT_at) rfl rfl hl.1 rfl (lv_room (Nat.le_of_ble_eq_true rfl)) dX0_restCount_22 ⟨Nat.le_of_ble_eq_true rfl, Nat.le_of_ble_eq_true rfl⟩) hP hD hS hA (fun x5 H locs r_x5 hq hP hD hS => ?_)
      replace hw := hw x5 r_x5 hq
      refine bi_iadd hx hb dX0_restCount_25 ?_
      refine bi_hav (fun x7 r_x7 => ?_)
      replace hw := hw x7 r_x7
      refine lv_istore_n (lv' := [(2, .int (I x7)), (0, .ref (q 3)), (1, .int (I u1)), (3, .int (I u3))]) hx hb dX0_restCount_26 rfl hl (by decide) rfl (fun ls hl => ?_)
      refine lv_iinc (v := I (u3 + 1)) (lv' := [(3, .int (I (u3 + 1))), (2, .int (I x7)), (0, .ref (q 3)), (1, .int (I u1))]) hx hb dX0_restCount_27 hl (k := 3) rfl (I_add _ _) (by decide) rfl (fun ls hl => ?_)
      refine lv_goto (tgt := 4) hx hb dX0_restCount_30 (by decide) ?_
      obtain ⟨c8, hw⟩ := hw
      exact (hP4 _ _ _).mp hw r_u1 r_x7 c8  H locs ls hP hD hS (lv_sub hl [2, 3, 1, 0] rfl)
def W_X0_restsOnEarlier (n1 : Int) (σ : S0) (Q : Int → Prop) : Prop :=
  ∀ (P2 : Int → Int → Prop),
  (∀ (u1 : Int) (u2 : Int), ((σ.1 7 ≤ u2 → Q 1) ∧ (u2 < σ.1 7 → ∃ (Q2 : Int → Prop), W_X0_restsOn u1 u2 σ Q2 ∧ ∀ (x3 : Int), rg x3 → Q2 x3 → ((x3 = 0 → rg (u2 + 1) ∧ P2 u1 (u2 + 1)) ∧ (¬ x3 = 0 → Q 0)))) → P2 u1 u2) →
  P2 n1 n1
set_option maxRecDepth 100000 in
set_option maxHeartbeats 4000000 in
theorem L_X0_restsOnEarlier (l : Launch) (g : gG) (q : Nat → Nat) (lb : Nat) (hlb : lb < 2 ^ 31) {n1 : Int} {σ : S0} {Q : Int → Prop} (r_n1 : rg n1) (hN : n_m σ) (hw : W_X0_restsOnEarlier n1 σ Q) (sz : Nat) : MetI l yX0_restsOnEarlier cX0_restsOnEarlier 3 (some .boolean) { frames := 1, cells := 0, slots := 0, locals := 22 } g [.ref (q 3), .int (I n1)] (CX g q lb σ) sz xT (p_i (CX g q lb) σ Q) 0 0 := by
  refine mkMet (Qc := fun A => QI g A (p_i (CX g q lb) σ Q)) (by decide) (Nat.le_of_ble_eq_true rfl) ?_
  intro p e s m below meth c A H ls hx hb hr hml hown hts hlk hnm hsz hP hK hNb hD hA hAe hS hX hl
  have hl : lv_has ls 3 [(0, .ref (q 3)), (1, .int (I n1))] := hl
  have hB := hN
  obtain ⟨locs, hlocs⟩ : ∃ z : List Loc, z = [] := ⟨_, rfl⟩
  rw [← hlocs] at hS ⊢
  obtain ⟨P2, hP2⟩ : ∃ P : Int → Int → Prop, ∀ (u1 : Int) (u2 : Int), (P u1 u2 ↔ (rg u1 → rg u2 → ∀ (H : Heap) (locs : List Loc) (ls : Array Slot), KP g (CX g q lb σ) H → va_D A (CX g q lb σ) → va_S A s.heap H locs → lv_has ls 3 [(0, .ref (q 3)), (1, .int (I u1)), (2, .int (I u2))] → W p l e ({ frames := 1, cells := 0, slots := 0, locals := 22 }) s m [.ref (q 3), .int (I n1)].toArray below meth c H locs 0 0 (MQ below (QI g A (p_i (CX g q lb) σ Q)) [.ref (q 3), .int (I n1)].toArray s 0 0 A) (F0 m 2 ls []))) := ⟨_, fun _ _ => Iff.rfl⟩
  refine (fun hw => ?_) (hw P2 ?_)
  ·
    refine lv_iload_n hx hb dX0_restsOnEarlier_0 rfl (lv_at hl 1 rfl) ?_
    refine lv_istore_n (lv' := [(2, .int (I n1)), (0, .ref (q 3)), (1, .int (I n1))]) hx hb dX0_restsOnEarlier_1 rfl hl (by decide) rfl (fun ls hl => ?_)
    exact (hP2 _ _).mp hw r_n1 r_n1  H locs ls hP hD hS (lv_sub hl [1, 2, 0] rfl)
  ·
    intro u1 u2 hw
    refine (hP2 _ _).mpr ?_
    intro r_u1 r_u2 H locs ls hP hD hS hl
    refine lv_iload_n hx hb dX0_restsOnEarlier_2 rfl (lv_at hl 2 rfl) ?_
    refine lv_aload_n hx hb dX0_restsOnEarlier_3 rfl (lv_at hl 0 rfl) ?_
    refine gfX0_library hx hb hts hK hP hown (hts _ tw_232) dX0_restsOnEarlier_4 ?_
    refine gfNX3_statements hx hb hts hK hP hown (nb_use hNb tn_108) (x := σ.1 7) rfl dX0_restsOnEarlier_7 ?_
    refine bi_icmp_ge (tgt := 30) hx hb r_u2 (hB.1 7) dX0_restsOnEarlier_10 (by decide) (fun c1 => ?_) (fun c1 => ?_)
    ·
      replace hw := hw.1 c1
      refine lv_iconst (v := I 1) hx hb dX0_restsOnEarlier_30 rfl ?_
      exact xrz hx hb hr (by decide) hlk hP hK hD hS ⟨_, (by decide), rfl, rfl, hw⟩ (Nat.le_of_ble_eq_true rfl) (Nat.le_of_ble_eq_true rfl) dX0_restsOnEarlier_31
    ·
      replace hw := hw.2 c1
      refine lv_aload_n hx hb dX0_restsOnEarlier_13 rfl (lv_at hl 0 rfl) ?_
      refine lv_iload_n hx hb dX0_restsOnEarlier_14 rfl (lv_at hl 1 rfl) ?_
      refine lv_iload_n hx hb dX0_restsOnEarlier_15 rfl (lv_at hl 2 rfl) ?_
      obtain ⟨Q2, hc, hw⟩ := hw
      refine wc_i (X := CX g q lb) (va_runV (As := [.int (I u1), .int (I u2)]) (rest := []) ⟨hx, hb, hml, hown, hts⟩ (L_X0_restsOn l g q lb hlb r_u1 r_u2 hN hc H.size) (cwV 2 hts (TB_V tw_1981 tw_1366 tw_1367 tw_5 co_X0_restsOn) rfl rfl rfl (by decide +kernel) ⟨Nat.le_of_ble_eq_true rfl, Nat.le_of_ble_eq_true rfl⟩) (preV (q0 := 3) (ci := 0) rfl xT_bl hP hK hNb hD rfl rfl xT_at) rfl rfl hl.1 rfl (lv_room (Nat.le_of_ble_eq_true rfl)) dX0_restsOnEarlier_16 ⟨Nat.le_of_ble_eq_true rfl, Nat.le_of_ble_eq_true rfl⟩) hP hD hS hA (fun x3 H locs r_x3 hq hP hD hS => ?_)
      replace hw := hw x3 r_x3 hq
      refine bi_if_eq (tgt := 24) hx hb r_x3 dX0_restsOnEarlier_19 (by decide) (fun c5 => ?_) (fun c5 => ?_)
      ·
        replace hw := hw.1 c5
        refine lv_iinc (v := I (u2 + 1)) (lv' := [(2, .int (I (u2 + 1))), (0, .ref (q 3)), (1, .int (I u1))]) hx hb dX0_restsOnEarlier_24 hl (k := 2) rfl (I_add _ _) (by decide) rfl (fun ls hl => ?_)
        refine lv_goto (tgt := 2) hx hb dX0_restsOnEarlier_27 (by decide) ?_
        obtain ⟨c6, hw⟩ := hw
        exact (hP2 _ _).mp hw r_u1 c6  H locs ls hP hD hS (lv_sub hl [1, 2, 0] rfl)
      ·
        replace hw := hw.2 c5
        refine lv_iconst (v := I 0) hx hb dX0_restsOnEarlier_22 rfl ?_
        exact xrz hx hb hr (by decide) hlk hP hK hD hS ⟨_, (by decide), rfl, rfl, hw⟩ (Nat.le_of_ble_eq_true rfl) (Nat.le_of_ble_eq_true rfl) dX0_restsOnEarlier_23
def W_X1_forgetRow (σ : S0) (Q : S0 → Prop) : Prop :=
  ∀ (P2 : Int → S0 → Prop),
  (∀ (u1 : Int) (τ : S0), ((τ.1 50 ≤ u1 → Q τ) ∧ (u1 < τ.1 50 → (0 ≤ u1 ∧ u1 < 60) ∧ (∀ (x3 : Int), rg x3 → x3 = τ.2.1 77 u1 → ((0 ≤ x3 ∧ x3 < 1000) ∧ (rg (u1 + 1) ∧ P2 (u1 + 1) (s_b τ 3 x3 0)))))) → P2 u1 τ) →
  P2 0 σ
set_option maxRecDepth 100000 in
set_option maxHeartbeats 4000000 in
theorem L_X1_forgetRow (l : Launch) (g : gG) (q : Nat → Nat) (lb : Nat) (hlb : lb < 2 ^ 31) {σ : S0} {Q : S0 → Prop} (hN : n_m σ) (hw : W_X1_forgetRow σ Q) (sz : Nat) : MetV l yX1_forgetRow cX1_forgetRow 2 { frames := 0, cells := 0, slots := 0, locals := 0 } g [.ref (q 9)] (CX g q lb σ) sz xT (p_V (CX g q lb) [] [] [3] σ Q) 0 0 := by
  refine mkMet (Qc := fun A => QV g A (p_V (CX g q lb) [] [] [3] σ Q)) (by decide) (Nat.le_of_ble_eq_true rfl) ?_
  intro p e s m below meth c A H ls hx hb hr hml hown hts hlk hnm hsz hP hK hNb hD hA hAe hS hX hl
  have hl : lv_has ls 2 [(0, .ref (q 9))] := hl
  have hB := hN
  have hF : f_r [] [] [3] σ σ := f_0
  obtain ⟨locs, hlocs⟩ : ∃ z : List Loc, z = [] := ⟨_, rfl⟩
  rw [← hlocs] at hS ⊢
  obtain ⟨P2, hP2⟩ : ∃ P : Int → S0 → Prop, ∀ (u1 : Int) (τ : S0), (P u1 τ ↔ (rg u1 → n_m τ → f_r [] [] [3] σ τ → ∀ (H : Heap) (locs : List Loc) (ls : Array Slot), KP g (CX g q lb τ) H → va_D A (CX g q lb τ) → va_S A s.heap H locs → lv_has ls 2 [(0, .ref (q 9)), (1, .int (I u1))] → W p l e ({ frames := 0, cells := 0, slots := 0, locals := 0 }) s m [.ref (q 9)].toArray below meth c H locs 0 0 (MQ below (QV g A (p_V (CX g q lb) [] [] [3] σ Q)) [.ref (q 9)].toArray s 0 0 A) (F0 m 2 ls []))) := ⟨_, fun _ _ => Iff.rfl⟩
  refine (fun hw => ?_) (hw P2 ?_)
  ·
    refine lv_iconst (v := I 0) hx hb dX1_forgetRow_0 rfl ?_
    refine lv_istore_n (lv' := [(1, .int (I 0)), (0, .ref (q 9))]) hx hb dX1_forgetRow_1 rfl hl (by decide) rfl (fun ls hl => ?_)
    exact (hP2 _ _).mp hw (by decide) hN hF H locs ls hP hD hS (lv_sub hl [1, 0] rfl)
  ·
    intro u1 τ hw
    refine (hP2 _ _).mpr ?_
    intro r_u1 hN hF H locs ls hP hD hS hl
    have hB := hN
    refine lv_iload_n hx hb dX1_forgetRow_2 rfl (lv_at hl 1 rfl) ?_
    refine lv_aload_n hx hb dX1_forgetRow_3 rfl (lv_at hl 0 rfl) ?_
    refine gfX1_length hx hb hts hK hP hown (hts _ tw_676) (x := τ.1 50) rfl dX1_forgetRow_4 ?_
    refine bi_icmp_ge (tgt := 28) hx hb r_u1 (hB.1 50) dX1_forgetRow_7 (by decide) (fun c1 => ?_) (fun c1 => ?_)
    ·
      replace hw := hw.1 c1
      exact xrv hx hb hr hlk hP hK hD hS ⟨_, hN, hF, rfl, hw⟩ (Nat.le_of_ble_eq_true rfl) (Nat.le_of_ble_eq_true rfl) dX1_forgetRow_28
    ·
      replace hw := hw.2 c1
      refine lv_aload_n hx hb dX1_forgetRow_10 rfl (lv_at hl 0 rfl) ?_
      refine gfX1_where hx hb hts hK hP hown (hts _ tw_681) dX1_forgetRow_11 ?_
      refine lv_aload_n hx hb dX1_forgetRow_14 rfl (lv_at hl 0 rfl) ?_
      refine gfX1_row hx hb hts hK hP hown (hts _ tw_672) dX1_forgetRow_15 ?_
      refine lv_iload_n hx hb dX1_forgetRow_18 rfl (lv_at hl 1 rfl) ?_
      obtain ⟨c2, hw⟩ := hw
      refine ldCX1_row hx hb hK hP hN c2 dX1_forgetRow_19 (fun x3 r_x3 e_x3 => ?_)
      replace hw := hw x3 r_x3 e_x3
      refine lv_lconst (v := 0) hx hb dX1_forgetRow_20 (by decide) ?_
      obtain ⟨c4, hw⟩ := hw
      refine sdCX1_where hx hb hK hP hD hS c4 dX1_forgetRow_21 (fun H locs hP hD hS => ?_)
      have hN : n_m (s_b τ 3 x3 0) := n_b (k := 3) (j := x3) (x := 0) hN
      have hF : f_r [] [] [3] σ (s_b τ 3 x3 0) := f_b hF (by decide)
      refine lv_iinc (v := I (u1 + 1)) (lv' := [(1, .int (I (u1 + 1))), (0, .ref (q 9))]) hx hb dX1_forgetRow_22 hl (k := 1) rfl (I_add _ _) (by decide) rfl (fun ls hl => ?_)
      refine lv_goto (tgt := 2) hx hb dX1_forgetRow_25 (by decide) ?_
      obtain ⟨c5, hw⟩ := hw
      exact (hP2 _ _).mp hw c5 hN hF H locs ls hP hD hS (lv_sub hl [1, 0] rfl)
def W_X3_lengthOf (n1 : Int) (σ : S0) (Q : Int → Prop) : Prop :=
  (0 ≤ (n1 + 1) ∧ (n1 + 1) < 1501) ∧ (∀ (x2 : Int), rg x2 → x2 = σ.2.1 14 (n1 + 1) → ((0 ≤ n1 ∧ n1 < 1501) ∧ (∀ (x4 : Int), rg x4 → x4 = σ.2.1 14 n1 → (rg (x2 - x4) ∧ Q (x2 - x4)))))
set_option maxRecDepth 100000 in
set_option maxHeartbeats 4000000 in
theorem L_X3_lengthOf (l : Launch) (g : gG) (q : Nat → Nat) (lb : Nat) (hlb : lb < 2 ^ 31) {n1 : Int} {σ : S0} {Q : Int → Prop} (r_n1 : rg n1) (hN : n_m σ) (hw : W_X3_lengthOf n1 σ Q) (sz : Nat) : MetI l yX3_lengthOf cX3_lengthOf 2 (some .int) { frames := 0, cells := 0, slots := 0, locals := 0 } g [.ref (q 1), .int (I n1)] (CX g q lb σ) sz xT (p_i (CX g q lb) σ Q) 0 0 := by
  refine mkMet (Qc := fun A => QI g A (p_i (CX g q lb) σ Q)) (by decide) (Nat.le_of_ble_eq_true rfl) ?_
  intro p e s m below meth c A H ls hx hb hr hml hown hts hlk hnm hsz hP hK hNb hD hA hAe hS hX hl
  have hl : lv_has ls 2 [(0, .ref (q 1)), (1, .int (I n1))] := hl
  have hB := hN
  obtain ⟨locs, hlocs⟩ : ∃ z : List Loc, z = [] := ⟨_, rfl⟩
  rw [← hlocs] at hS ⊢
  refine lv_aload_n hx hb dX3_lengthOf_0 rfl (lv_at hl 0 rfl) ?_
  refine gfX3_at hx hb hts hK hP hown (hts _ tw_77) dX3_lengthOf_1 ?_
  refine lv_iload_n hx hb dX3_lengthOf_4 rfl (lv_at hl 1 rfl) ?_
  refine lv_iconst (v := I 1) hx hb dX3_lengthOf_5 rfl ?_
  refine bi_iadd hx hb dX3_lengthOf_6 ?_
  obtain ⟨c1, hw⟩ := hw
  refine ldCX3_at hx hb hK hP hN c1 dX3_lengthOf_7 (fun x2 r_x2 e_x2 => ?_)
  replace hw := hw x2 r_x2 e_x2
  refine lv_aload_n hx hb dX3_lengthOf_8 rfl (lv_at hl 0 rfl) ?_
  refine gfX3_at hx hb hts hK hP hown (hts _ tw_77) dX3_lengthOf_9 ?_
  refine lv_iload_n hx hb dX3_lengthOf_12 rfl (lv_at hl 1 rfl) ?_
  obtain ⟨c3, hw⟩ := hw
  refine ldCX3_at hx hb hK hP hN c3 dX3_lengthOf_13 (fun x4 r_x4 e_x4 => ?_)
  replace hw := hw x4 r_x4 e_x4
  refine bi_isub hx hb dX3_lengthOf_14 ?_
  obtain ⟨c5, hw⟩ := hw
  exact xri hx hb hr hlk hP hK hD hS ⟨_, c5, rfl, rfl, hw⟩ (Nat.le_of_ble_eq_true rfl) (Nat.le_of_ble_eq_true rfl) dX3_lengthOf_15
def W_X3_typeOf (n1 : Int) (σ : S0) (Q : Int → Prop) : Prop :=
  (0 ≤ n1 ∧ n1 < 1501) ∧ (∀ (x2 : Int), rg x2 → x2 = σ.2.1 14 n1 → ((0 ≤ x2 ∧ x2 < 30000) ∧ (∀ (x4 : Int), rg x4 → x4 = σ.2.1 15 x2 → (Q x4))))
set_option maxRecDepth 100000 in
set_option maxHeartbeats 4000000 in
theorem L_X3_typeOf (l : Launch) (g : gG) (q : Nat → Nat) (lb : Nat) (hlb : lb < 2 ^ 31) {n1 : Int} {σ : S0} {Q : Int → Prop} (r_n1 : rg n1) (hN : n_m σ) (hw : W_X3_typeOf n1 σ Q) (sz : Nat) : MetI l yX3_typeOf cX3_typeOf 2 (some .int) { frames := 0, cells := 0, slots := 0, locals := 0 } g [.ref (q 1), .int (I n1)] (CX g q lb σ) sz xT (p_i (CX g q lb) σ Q) 0 0 := by
  refine mkMet (Qc := fun A => QI g A (p_i (CX g q lb) σ Q)) (by decide) (Nat.le_of_ble_eq_true rfl) ?_
  intro p e s m below meth c A H ls hx hb hr hml hown hts hlk hnm hsz hP hK hNb hD hA hAe hS hX hl
  have hl : lv_has ls 2 [(0, .ref (q 1)), (1, .int (I n1))] := hl
  have hB := hN
  obtain ⟨locs, hlocs⟩ : ∃ z : List Loc, z = [] := ⟨_, rfl⟩
  rw [← hlocs] at hS ⊢
  refine lv_aload_n hx hb dX3_typeOf_0 rfl (lv_at hl 0 rfl) ?_
  refine gfX3_text hx hb hts hK hP hown (hts _ tw_85) dX3_typeOf_1 ?_
  refine lv_aload_n hx hb dX3_typeOf_4 rfl (lv_at hl 0 rfl) ?_
  refine gfX3_at hx hb hts hK hP hown (hts _ tw_77) dX3_typeOf_5 ?_
  refine lv_iload_n hx hb dX3_typeOf_8 rfl (lv_at hl 1 rfl) ?_
  obtain ⟨c1, hw⟩ := hw
  refine ldCX3_at hx hb hK hP hN c1 dX3_typeOf_9 (fun x2 r_x2 e_x2 => ?_)
  replace hw := hw x2 r_x2 e_x2
  obtain ⟨c3, hw⟩ := hw
  refine ldCX3_text hx hb hK hP hN c3 dX3_typeOf_10 (fun x4 r_x4 e_x4 => ?_)
  replace hw := hw x4 r_x4 e_x4
  exact xri hx hb hr hlk hP hK hD hS ⟨_, r_x4, rfl, rfl, hw⟩ (Nat.le_of_ble_eq_true rfl) (Nat.le_of_ble_eq_true rfl) dX3_typeOf_11
def W_X8_goalRank (n1 : Int) (σ : S0) (Q : Int → Prop) : Prop :=
  ∀ (P16 : Int → Prop),
  (∀ (k0 : Int), ((¬ k0 = (-1) → (0 ≤ k0 ∧ k0 < 1000) ∧ (∀ (x4 : Int), rg x4 → x4 = σ.2.1 10 k0 → (Q x4))) ∧ (k0 = (-1) → Q (-1))) → P16 k0) →
  (¬ n1 = σ.1 48 → P16 n1) ∧ (n1 = σ.1 48 → P16 (σ.1 49))
set_option maxRecDepth 100000 in
set_option maxHeartbeats 4000000 in
theorem L_X8_goalRank (l : Launch) (g : gG) (q : Nat → Nat) (lb : Nat) (hlb : lb < 2 ^ 31) {n1 : Int} {σ : S0} {Q : Int → Prop} (r_n1 : rg n1) (hN : n_m σ) (hw : W_X8_goalRank n1 σ Q) (sz : Nat) : MetI l yX8_goalRank cX8_goalRank 3 (some .int) { frames := 0, cells := 0, slots := 0, locals := 0 } g [.ref (q 8), .int (I n1)] (CX g q lb σ) sz xT (p_i (CX g q lb) σ Q) 0 0 := by
  refine mkMet (Qc := fun A => QI g A (p_i (CX g q lb) σ Q)) (by decide) (Nat.le_of_ble_eq_true rfl) ?_
  intro p e s m below meth c A H ls hx hb hr hml hown hts hlk hnm hsz hP hK hNb hD hA hAe hS hX hl
  have hl : lv_has ls 3 [(0, .ref (q 8)), (1, .int (I n1))] := hl
  have hB := hN
  obtain ⟨locs, hlocs⟩ : ∃ z : List Loc, z = [] := ⟨_, rfl⟩
  rw [← hlocs] at hS ⊢
  obtain ⟨P16, hP16⟩ : ∃ P : Int → Prop, ∀ (k0 : Int), (P k0 ↔ (rg k0 → ∀ (H : Heap) (locs : List Loc) (ls : Array Slot), KP g (CX g q lb σ) H → va_D A (CX g q lb σ) → va_S A s.heap H locs → lv_has ls 3 [(0, .ref (q 8))] → W p l e ({ frames := 0, cells := 0, slots := 0, locals := 0 }) s m [.ref (q 8), .int (I n1)].toArray below meth c H locs 0 0 (MQ below (QI g A (p_i (CX g q lb) σ Q)) [.ref (q 8), .int (I n1)].toArray s 0 0 A) (F0 m 16 ls [.int (I k0)]))) := ⟨_, fun _ => Iff.rfl⟩
  refine (fun hw => ?_) (hw P16 ?_)
  ·
    refine lv_iload_n hx hb dX8_goalRank_0 rfl (lv_at hl 1 rfl) ?_
    refine lv_aload_n hx hb dX8_goalRank_1 rfl (lv_at hl 0 rfl) ?_
    refine gfX8_provable hx hb hts hK hP hown (hts _ tw_625) (x := σ.1 48) rfl dX8_goalRank_2 ?_
    refine bi_icmp_ne (tgt := 15) hx hb r_n1 (hB.1 48) dX8_goalRank_5 (by decide) (fun c1 => ?_) (fun c1 => ?_)
    ·
      replace hw := hw.1 c1
      refine lv_iload_n hx hb dX8_goalRank_15 rfl (lv_at hl 1 rfl) ?_
      exact (hP16 _).mp hw r_n1  H locs ls hP hD hS (lv_sub hl [0] rfl)
    ·
      replace hw := hw.2 c1
      refine lv_aload_n hx hb dX8_goalRank_8 rfl (lv_at hl 0 rfl) ?_
      refine gfX8_wff hx hb hts hK hP hown (hts _ tw_627) (x := σ.1 49) rfl dX8_goalRank_9 ?_
      refine lv_goto (tgt := 16) hx hb dX8_goalRank_12 (by decide) ?_
      exact (hP16 _).mp hw (hB.1 49)  H locs ls hP hD hS (lv_sub hl [0] rfl)
  ·
    intro k0 hw
    refine (hP16 _).mpr ?_
    intro r_k0 H locs ls hP hD hS hl
    refine lv_istore_n (lv' := [(2, .int (I k0)), (0, .ref (q 8))]) hx hb dX8_goalRank_16 rfl hl (by decide) rfl (fun ls hl => ?_)
    refine lv_iload_n hx hb dX8_goalRank_17 rfl (lv_at hl 0 rfl) ?_
    refine lv_iconst (v := I (-1)) hx hb dX8_goalRank_18 rfl ?_
    refine bi_icmp_ne (tgt := 26) hx hb r_k0 (by decide) dX8_goalRank_19 (by decide) (fun c2 => ?_) (fun c2 => ?_)
    ·
      replace hw := hw.1 c2
      refine lv_aload_n hx hb dX8_goalRank_26 rfl (lv_at hl 1 rfl) ?_
      refine gfX8_library hx hb hts hK hP hown (hts _ tw_599) dX8_goalRank_27 ?_
      refine gfNX3_rank hx hb hts hK hP hown (nb_use hNb tn_57) dX8_goalRank_30 ?_
      refine lv_iload_n hx hb dX8_goalRank_33 rfl (lv_at hl 0 rfl) ?_
      obtain ⟨c3, hw⟩ := hw
      refine ldCX3_rank hx hb hK hP hN c3 dX8_goalRank_34 (fun x4 r_x4 e_x4 => ?_)
      replace hw := hw x4 r_x4 e_x4
      exact xri hx hb hr hlk hP hK hD hS ⟨_, r_x4, rfl, rfl, hw⟩ (Nat.le_of_ble_eq_true rfl) (Nat.le_of_ble_eq_true rfl) dX8_goalRank_35
    ·
      replace hw := hw.2 c2
      refine lv_iconst (v := I (-1)) hx hb dX8_goalRank_22 rfl ?_
      refine lv_goto (tgt := 35) hx hb dX8_goalRank_23 (by decide) ?_
      exact xri hx hb hr hlk hP hK hD hS ⟨_, (by decide), rfl, rfl, hw⟩ (Nat.le_of_ble_eq_true rfl) (Nat.le_of_ble_eq_true rfl) dX8_goalRank_35
def W_X1_takeStatement (n1 : Int) (σ : S0) (Q : S0 → Prop) : Prop :=
  ∀ (P25 : Int → Int → S0 → Prop),
  (∀ (u1 : Int) (u2 : Int) (τ : S0), ((τ.1 50 ≤ u2 → ∃ (Q10 : Int → Prop), W_X3_typeOf u1 (s_v τ 51 u1) Q10 ∧ ∀ (x11 : Int), rg x11 → Q10 x11 → (∃ (Q13 : Int → Prop), W_X8_goalRank x11 (s_v τ 51 u1) Q13 ∧ ∀ (x14 : Int), rg x14 → Q13 x14 → (Q (s_v (s_v τ 51 u1) 52 x14)))) ∧ (u2 < τ.1 50 → (0 ≤ u1 ∧ u1 < 1501) ∧ (∀ (x17 : Int), rg x17 → x17 = τ.2.1 14 u1 → ((0 ≤ ((x17 + 1) + u2) ∧ ((x17 + 1) + u2) < 30000) ∧ (∀ (x19 : Int), rg x19 → x19 = τ.2.1 15 ((x17 + 1) + u2) → ((0 ≤ u2 ∧ u2 < 60) ∧ (∀ (x21 : Int), rg x21 → x21 = τ.2.1 14 u1 → ((0 ≤ ((x21 + 1) + u2) ∧ ((x21 + 1) + u2) < 30000) ∧ (∀ (x23 : Int), rg x23 → x23 = τ.2.1 16 ((x21 + 1) + u2) → (rg (u2 + 1) ∧ P25 u1 (u2 + 1) (s_a (s_a τ 77 u2 x19) 78 u2 x23))))))))))) → P25 u1 u2 τ) →
  ∃ (Q1 : S0 → Prop), W_X1_forgetRow σ Q1 ∧ ∀ (τ3 : S0), n_m τ3 → f_r [] [] [3] σ τ3 → Q1 τ3 → (∃ (Q4 : Int → Prop), W_X3_lengthOf n1 τ3 Q4 ∧ ∀ (x5 : Int), rg x5 → Q4 x5 → (∀ (x7 : Int), rg x7 → x7 ≤ x5 → x7 ≤ 60 → (x7 = x5 ∨ x7 = 60) → (rg (x7 - 1) ∧ P25 n1 0 (s_v τ3 50 (x7 - 1)))))
set_option maxRecDepth 100000 in
set_option maxHeartbeats 4000000 in
theorem L_X1_takeStatement (l : Launch) (g : gG) (q : Nat → Nat) (lb : Nat) (hlb : lb < 2 ^ 31) {n1 : Int} {σ : S0} {Q : S0 → Prop} (r_n1 : rg n1) (hN : n_m σ) (hw : W_X1_takeStatement n1 σ Q) (sz : Nat) : MetV l yX1_takeStatement cX1_takeStatement 3 { frames := 1, cells := 0, slots := 0, locals := 22 } g [.ref (q 9), .int (I n1)] (CX g q lb σ) sz xT (p_V (CX g q lb) [50, 51, 52] [77, 78] [3] σ Q) 0 0 := by
  refine mkMet (Qc := fun A => QV g A (p_V (CX g q lb) [50, 51, 52] [77, 78] [3] σ Q)) (by decide) (Nat.le_of_ble_eq_true rfl) ?_
  intro p e s m below meth c A H ls hx hb hr hml hown hts hlk hnm hsz hP hK hNb hD hA hAe hS hX hl
  have hl : lv_has ls 3 [(0, .ref (q 9)), (1, .int (I n1))] := hl
  have hB := hN
  have hF : f_r [50, 51, 52] [77, 78] [3] σ σ := f_0
  obtain ⟨locs, hlocs⟩ : ∃ z : List Loc, z = [] := ⟨_, rfl⟩
  rw [← hlocs] at hS ⊢
  obtain ⟨P25, hP25⟩ : ∃ P : Int → Int → S0 → Prop, ∀ (u1 : Int) (u2 : Int) (τ : S0), (P u1 u2 τ ↔ (rg u1 → rg u2 → n_m τ → f_r [50, 51, 52] [77, 78] [3] σ τ → ∀ (H : Heap) (locs : List Loc) (ls : Array Slot), KP g (CX g q lb τ) H → va_D A (CX g q lb τ) → va_S A s.heap H locs → lv_has ls 3 [(0, .ref (q 9)), (1, .int (I u1)), (2, .int (I u2))] → W p l e ({ frames := 1, cells := 0, slots := 0, locals := 22 }) s m [.ref (q 9), .int (I n1)].toArray below meth c H locs 0 0 (MQ below (QV g A (p_V (CX g q lb) [50, 51, 52] [77, 78] [3] σ Q)) [.ref (q 9), .int (I n1)].toArray s 0 0 A) (F0 m 25 ls []))) := ⟨_, fun _ _ _ => Iff.rfl⟩
  refine (fun hw => ?_) (hw P25 ?_)
  ·
    refine lv_aload_n hx hb dX1_takeStatement_0 rfl (lv_at hl 0 rfl) ?_
    obtain ⟨Q1, hc, hw⟩ := hw
    refine wc_V (X := CX g q lb) (va_runV (As := []) (rest := []) ⟨hx, hb, hml, hown, hts⟩ (L_X1_forgetRow l g q lb hlb  hN hc H.size) (cwV 0 hts (TB_V tw_1706 tw_1708 ts_70 tw_11 co_X1_forgetRow) rfl rfl rfl (by decide +kernel) ⟨Nat.le_of_ble_eq_true rfl, Nat.le_of_ble_eq_true rfl⟩) (preV (q0 := 9) (ci := 1) rfl xT_bl hP hK hNb hD rfl rfl xT_at) rfl rfl hl.1 rfl (lv_room (Nat.le_of_ble_eq_true rfl)) dX1_takeStatement_1 ⟨Nat.le_of_ble_eq_true rfl, Nat.le_of_ble_eq_true rfl⟩) hP hD hS hA (fun τ3 H locs hN hf hq hP hD hS => ?_)
    replace hw := hw τ3 hN hf hq
    have hF : f_r [50, 51, 52] [77, 78] [3] σ τ3 := f_t hF hf (by decide) (by decide) (by decide)
    have hB := hN
    refine lv_aload_n hx hb dX1_takeStatement_4 rfl (lv_at hl 0 rfl) ?_
    refine lv_aload_n hx hb dX1_takeStatement_5 rfl (lv_at hl 0 rfl) ?_
    refine gfX1_library hx hb hts hK hP hown (hts _ tw_670) dX1_takeStatement_6 ?_
    refine lv_iload_n hx hb dX1_takeStatement_9 rfl (lv_at hl 1 rfl) ?_
    obtain ⟨Q4, hc, hw⟩ := hw
    refine wc_i (X := CX g q lb) (va_runV (As := [.int (I n1)]) (rest := [.ref (q 9)]) ⟨hx, hb, hml, hown, hts⟩ (L_X3_lengthOf l g q lb hlb r_n1 hN hc H.size) (cwV 1 hts (TB_V tw_1710 tw_1292 tw_1293 tw_2 co_X3_lengthOf) rfl rfl rfl (by decide +kernel) ⟨Nat.le_of_ble_eq_true rfl, Nat.le_of_ble_eq_true rfl⟩) (preV (q0 := 1) (ci := 3) rfl xT_bl hP hK hNb hD rfl rfl xT_at) rfl rfl hl.1 rfl (lv_room (Nat.le_of_ble_eq_true rfl)) dX1_takeStatement_10 ⟨Nat.le_of_ble_eq_true rfl, Nat.le_of_ble_eq_true rfl⟩) hP hD hS hA (fun x5 H locs r_x5 hq hP hD hS => ?_)
    replace hw := hw x5 r_x5 hq
    refine lv_bipush (v := I 60) hx hb dX1_takeStatement_13 (by decide) ?_
    refine bi_mmin hx hb (by rw [hml]; exact hl.1.symm) hown (hts _ tw_1711) (hts _ tw_1712) (hts _ tw_16) (hts _ tw_1713) (Nat.le_of_ble_eq_true rfl) (Nat.le_of_ble_eq_true rfl) (Nat.le_of_ble_eq_true rfl) (Nat.le_of_ble_eq_true rfl) r_x5 (by decide) dX1_takeStatement_15 (fun x7 r_x7 p_x7 m_x7 o_x7 => ?_)
    replace hw := hw x7 r_x7 p_x7 m_x7 o_x7
    refine lv_iconst (v := I 1) hx hb dX1_takeStatement_18 rfl ?_
    refine bi_isub hx hb dX1_takeStatement_19 ?_
    obtain ⟨c8, hw⟩ := hw
    refine pfX1_length hx hb hts hK hP hD hS hown (hts _ tw_676) dX1_takeStatement_20 (fun H locs hP hD hS => ?_)
    have hN : n_m (s_v τ3 50 (x7 - 1)) := n_v (i := 50) hN (c8 : rg (x7 - 1))
    have hF : f_r [50, 51, 52] [77, 78] [3] σ (s_v τ3 50 (x7 - 1)) := f_v hF (by decide)
    refine lv_iconst (v := I 0) hx hb dX1_takeStatement_23 rfl ?_
    refine lv_istore_n (lv' := [(2, .int (I 0)), (0, .ref (q 9)), (1, .int (I n1))]) hx hb dX1_takeStatement_24 rfl hl (by decide) rfl (fun ls hl => ?_)
    exact (hP25 _ _ _).mp hw r_n1 (by decide) hN hF H locs ls hP hD hS (lv_sub hl [1, 2, 0] rfl)
  ·
    intro u1 u2 τ hw
    refine (hP25 _ _ _).mpr ?_
    intro r_u1 r_u2 hN hF H locs ls hP hD hS hl
    have hB := hN
    refine lv_iload_n hx hb dX1_takeStatement_25 rfl (lv_at hl 2 rfl) ?_
    refine lv_aload_n hx hb dX1_takeStatement_26 rfl (lv_at hl 0 rfl) ?_
    refine gfX1_length hx hb hts hK hP hown (hts _ tw_676) (x := τ.1 50) rfl dX1_takeStatement_27 ?_
    refine bi_icmp_ge (tgt := 93) hx hb r_u2 (hB.1 50) dX1_takeStatement_30 (by decide) (fun c9 => ?_) (fun c9 => ?_)
    ·
      replace hw := hw.1 c9
      refine lv_aload_n hx hb dX1_takeStatement_93 rfl (lv_at hl 0 rfl) ?_
      refine lv_iload_n hx hb dX1_takeStatement_94 rfl (lv_at hl 1 rfl) ?_
      refine pfX1_limit hx hb hts hK hP hD hS hown (hts _ tw_678) dX1_takeStatement_95 (fun H locs hP hD hS => ?_)
      have hN : n_m (s_v τ 51 u1) := n_v (i := 51) hN (r_u1 : rg u1)
      have hF : f_r [50, 51, 52] [77, 78] [3] σ (s_v τ 51 u1) := f_v hF (by decide)
      refine lv_aload_n hx hb dX1_takeStatement_98 rfl (lv_at hl 0 rfl) ?_
      refine lv_aload_n hx hb dX1_takeStatement_99 rfl (lv_at hl 0 rfl) ?_
      refine gfX1_rules hx hb hts hK hP hown (hts _ tw_671) dX1_takeStatement_100 ?_
      refine lv_aload_n hx hb dX1_takeStatement_103 rfl (lv_at hl 0 rfl) ?_
      refine gfX1_library hx hb hts hK hP hown (hts _ tw_670) dX1_takeStatement_104 ?_
      refine lv_iload_n hx hb dX1_takeStatement_107 rfl (lv_at hl 1 rfl) ?_
      obtain ⟨Q10, hc, hw⟩ := hw
      refine wc_i (X := CX g q lb) (va_runV (As := [.int (I u1)]) (rest := [.ref (q 8), .ref (q 9)]) ⟨hx, hb, hml, hown, hts⟩ (L_X3_typeOf l g q lb hlb r_u1 hN hc H.size) (cwV 1 hts (TB_V tw_1714 tw_1208 tw_1209 tw_2 co_X3_typeOf) rfl rfl rfl (by decide +kernel) ⟨Nat.le_of_ble_eq_true rfl, Nat.le_of_ble_eq_true rfl⟩) (preV (q0 := 1) (ci := 3) rfl xT_bl hP hK hNb hD rfl rfl xT_at) rfl rfl hl.1 rfl (lv_room (Nat.le_of_ble_eq_true rfl)) dX1_takeStatement_108 ⟨Nat.le_of_ble_eq_true rfl, Nat.le_of_ble_eq_true rfl⟩) hP hD hS hA (fun x11 H locs r_x11 hq hP hD hS => ?_)
      replace hw := hw x11 r_x11 hq
      obtain ⟨Q13, hc, hw⟩ := hw
      refine wc_i (X := CX g q lb) (va_runV (As := [.int (I x11)]) (rest := [.ref (q 9)]) ⟨hx, hb, hml, hown, hts⟩ (L_X8_goalRank l g q lb hlb r_x11 hN hc H.size) (cwV 1 hts (TB_V tw_1715 tw_1716 tw_1717 tw_10 co_X8_goalRank) rfl rfl rfl (by decide +kernel) ⟨Nat.le_of_ble_eq_true rfl, Nat.le_of_ble_eq_true rfl⟩) (preV (q0 := 8) (ci := 8) rfl xT_bl hP hK hNb hD rfl rfl xT_at) rfl rfl hl.1 rfl (lv_room (Nat.le_of_ble_eq_true rfl)) dX1_takeStatement_111 ⟨Nat.le_of_ble_eq_true rfl, Nat.le_of_ble_eq_true rfl⟩) hP hD hS hA (fun x14 H locs r_x14 hq hP hD hS => ?_)
      replace hw := hw x14 r_x14 hq
      refine pfX1_goal hx hb hts hK hP hD hS hown (hts _ tw_680) dX1_takeStatement_114 (fun H locs hP hD hS => ?_)
      have hN : n_m (s_v (s_v τ 51 u1) 52 x14) := n_v (i := 52) hN (r_x14 : rg x14)
      have hF : f_r [50, 51, 52] [77, 78] [3] σ (s_v (s_v τ 51 u1) 52 x14) := f_v hF (by decide)
      exact xrv hx hb hr hlk hP hK hD hS ⟨_, hN, hF, rfl, hw⟩ (Nat.le_of_ble_eq_true rfl) (Nat.le_of_ble_eq_true rfl) dX1_takeStatement_117
    ·
      replace hw := hw.2 c9
      refine lv_aload_n hx hb dX1_takeStatement_33 rfl (lv_at hl 0 rfl) ?_
      refine gfX1_row hx hb hts hK hP hown (hts _ tw_672) dX1_takeStatement_34 ?_
      refine lv_iload_n hx hb dX1_takeStatement_37 rfl (lv_at hl 2 rfl) ?_
      refine lv_aload_n hx hb dX1_takeStatement_38 rfl (lv_at hl 0 rfl) ?_
      refine gfX1_library hx hb hts hK hP hown (hts _ tw_670) dX1_takeStatement_39 ?_
      refine gfNX3_text hx hb hts hK hP hown (nb_use hNb tn_86) dX1_takeStatement_42 ?_
      refine lv_aload_n hx hb dX1_takeStatement_45 rfl (lv_at hl 0 rfl) ?_
      refine gfX1_library hx hb hts hK hP hown (hts _ tw_670) dX1_takeStatement_46 ?_
      refine gfNX3_at hx hb hts hK hP hown (nb_use hNb tn_78) dX1_takeStatement_49 ?_
      refine lv_iload_n hx hb dX1_takeStatement_52 rfl (lv_at hl 1 rfl) ?_
      obtain ⟨c16, hw⟩ := hw
      refine ldCX3_at hx hb hK hP hN c16 dX1_takeStatement_53 (fun x17 r_x17 e_x17 => ?_)
      replace hw := hw x17 r_x17 e_x17
      refine lv_iconst (v := I 1) hx hb dX1_takeStatement_54 rfl ?_
      refine bi_iadd hx hb dX1_takeStatement_55 ?_
      refine lv_iload_n hx hb dX1_takeStatement_56 rfl (lv_at hl 2 rfl) ?_
      refine bi_iadd hx hb dX1_takeStatement_57 ?_
      obtain ⟨c18, hw⟩ := hw
      refine ldCX3_text hx hb hK hP hN c18 dX1_takeStatement_58 (fun x19 r_x19 e_x19 => ?_)
      replace hw := hw x19 r_x19 e_x19
      obtain ⟨c20, hw⟩ := hw
      refine sdCX1_row hx hb hK hP hD hS c20 dX1_takeStatement_59 (fun H locs hP hD hS => ?_)
      have hN : n_m (s_a τ 77 u2 x19) := n_a (k := 77) (j := u2) hN (r_x19 : rg x19)
      have hF : f_r [50, 51, 52] [77, 78] [3] σ (s_a τ 77 u2 x19) := f_a hF (by decide)
      refine lv_aload_n hx hb dX1_takeStatement_60 rfl (lv_at hl 0 rfl) ?_
      refine gfX1_leaf hx hb hts hK hP hown (hts _ tw_675) dX1_takeStatement_61 ?_
      refine lv_iload_n hx hb dX1_takeStatement_64 rfl (lv_at hl 2 rfl) ?_
      refine lv_aload_n hx hb dX1_takeStatement_65 rfl (lv_at hl 0 rfl) ?_
      refine gfX1_library hx hb hts hK hP hown (hts _ tw_670) dX1_takeStatement_66 ?_
      refine gfNX3_floats hx hb hts hK hP hown (nb_use hNb tn_94) dX1_takeStatement_69 ?_
      refine lv_aload_n hx hb dX1_takeStatement_72 rfl (lv_at hl 0 rfl) ?_
      refine gfX1_library hx hb hts hK hP hown (hts _ tw_670) dX1_takeStatement_73 ?_
      refine gfNX3_at hx hb hts hK hP hown (nb_use hNb tn_78) dX1_takeStatement_76 ?_
      refine lv_iload_n hx hb dX1_takeStatement_79 rfl (lv_at hl 1 rfl) ?_
      refine ldCX3_at hx hb hK hP hN c16 dX1_takeStatement_80 (fun x21 r_x21 e_x21 => ?_)
      replace hw := hw x21 r_x21 e_x21
      refine lv_iconst (v := I 1) hx hb dX1_takeStatement_81 rfl ?_
      refine bi_iadd hx hb dX1_takeStatement_82 ?_
      refine lv_iload_n hx hb dX1_takeStatement_83 rfl (lv_at hl 2 rfl) ?_
      refine bi_iadd hx hb dX1_takeStatement_84 ?_
      obtain ⟨c22, hw⟩ := hw
      refine ldCX3_floats hx hb hK hP hN c22 dX1_takeStatement_85 (fun x23 r_x23 e_x23 => ?_)
      replace hw := hw x23 r_x23 e_x23
      refine sdCX1_leaf hx hb hK hP hD hS c20 dX1_takeStatement_86 (fun H locs hP hD hS => ?_)
      have hN : n_m (s_a (s_a τ 77 u2 x19) 78 u2 x23) := n_a (k := 78) (j := u2) hN (r_x23 : rg x23)
      have hF : f_r [50, 51, 52] [77, 78] [3] σ (s_a (s_a τ 77 u2 x19) 78 u2 x23) := f_a hF (by decide)
      refine lv_iinc (v := I (u2 + 1)) (lv' := [(2, .int (I (u2 + 1))), (0, .ref (q 9)), (1, .int (I u1))]) hx hb dX1_takeStatement_87 hl (k := 2) rfl (I_add _ _) (by decide) rfl (fun ls hl => ?_)
      refine lv_goto (tgt := 25) hx hb dX1_takeStatement_90 (by decide) ?_
      obtain ⟨c24, hw⟩ := hw
      exact (hP25 _ _ _).mp hw r_u1 c24 hN hF H locs ls hP hD hS (lv_sub hl [1, 2, 0] rfl)
def W_X8_sortRank (n1 : Int) (σ : S0) (Q : Int → Prop) : Prop :=
  (¬ n1 = σ.1 48 → (0 ≤ n1 ∧ n1 < 1000) ∧ (∀ (x3 : Int), rg x3 → x3 = σ.2.1 10 n1 → (Q x3))) ∧ (n1 = σ.1 48 → Q (-1))
set_option maxRecDepth 100000 in
set_option maxHeartbeats 4000000 in
theorem L_X8_sortRank (l : Launch) (g : gG) (q : Nat → Nat) (lb : Nat) (hlb : lb < 2 ^ 31) {n1 : Int} {σ : S0} {Q : Int → Prop} (r_n1 : rg n1) (hN : n_m σ) (hw : W_X8_sortRank n1 σ Q) (sz : Nat) : MetI l yX8_sortRank cX8_sortRank 2 (some .int) { frames := 0, cells := 0, slots := 0, locals := 0 } g [.ref (q 8), .int (I n1)] (CX g q lb σ) sz xT (p_i (CX g q lb) σ Q) 0 0 := by
  refine mkMet (Qc := fun A => QI g A (p_i (CX g q lb) σ Q)) (by decide) (Nat.le_of_ble_eq_true rfl) ?_
  intro p e s m below meth c A H ls hx hb hr hml hown hts hlk hnm hsz hP hK hNb hD hA hAe hS hX hl
  have hl : lv_has ls 2 [(0, .ref (q 8)), (1, .int (I n1))] := hl
  have hB := hN
  obtain ⟨locs, hlocs⟩ : ∃ z : List Loc, z = [] := ⟨_, rfl⟩
  rw [← hlocs] at hS ⊢
  refine lv_iload_n hx hb dX8_sortRank_0 rfl (lv_at hl 1 rfl) ?_
  refine lv_aload_n hx hb dX8_sortRank_1 rfl (lv_at hl 0 rfl) ?_
  refine gfX8_provable hx hb hts hK hP hown (hts _ tw_625) (x := σ.1 48) rfl dX8_sortRank_2 ?_
  refine bi_icmp_ne (tgt := 12) hx hb r_n1 (hB.1 48) dX8_sortRank_5 (by decide) (fun c1 => ?_) (fun c1 => ?_)
  ·
    replace hw := hw.1 c1
    refine lv_aload_n hx hb dX8_sortRank_12 rfl (lv_at hl 0 rfl) ?_
    refine gfX8_library hx hb hts hK hP hown (hts _ tw_599) dX8_sortRank_13 ?_
    refine gfNX3_rank hx hb hts hK hP hown (nb_use hNb tn_57) dX8_sortRank_16 ?_
    refine lv_iload_n hx hb dX8_sortRank_19 rfl (lv_at hl 1 rfl) ?_
    obtain ⟨c2, hw⟩ := hw
    refine ldCX3_rank hx hb hK hP hN c2 dX8_sortRank_20 (fun x3 r_x3 e_x3 => ?_)
    replace hw := hw x3 r_x3 e_x3
    exact xri hx hb hr hlk hP hK hD hS ⟨_, r_x3, rfl, rfl, hw⟩ (Nat.le_of_ble_eq_true rfl) (Nat.le_of_ble_eq_true rfl) dX8_sortRank_21
  ·
    replace hw := hw.2 c1
    refine lv_iconst (v := I (-1)) hx hb dX8_sortRank_8 rfl ?_
    refine lv_goto (tgt := 21) hx hb dX8_sortRank_9 (by decide) ?_
    exact xri hx hb hr hlk hP hK hD hS ⟨_, (by decide), rfl, rfl, hw⟩ (Nat.le_of_ble_eq_true rfl) (Nat.le_of_ble_eq_true rfl) dX8_sortRank_21
def W_X1_add (n1 : Int) (n2 : Int64) (n4 : Int64) (n6 : Int) (σ : S0) (Q : S0 → Prop) : Prop :=
  ∀ (P67 : Int → Int → Int64 → Int → S0 → Prop),
  (∀ (u1 : Int) (u6 : Int) (u8 : Int64) (u10 : Int) (τ : S0), ((τ.1 50 < u10 → Q τ) ∧ (u10 ≤ τ.1 50 → (((j_ushr u8 u10) &&& 1) = 0 → rg (u10 + 1) ∧ P67 u1 u6 u8 (u10 + 1) τ) ∧ (¬ ((j_ushr u8 u10) &&& 1) = 0 → rg (u10 * (u10 - 1)) ∧ ∀ (x11 : Int), rg x11 → (0 ≤ (u10 * (u10 - 1)) → x11 = (u10 * (u10 - 1)) / 2) → ((u10 * (u10 - 1)) < 0 → x11 = -((-(u10 * (u10 - 1))) / 2)) → ((0 ≤ (((u1 * 1770) + x11) + τ.1 53) ∧ (((u1 * 1770) + x11) + τ.1 53) < 177000) ∧ (rg (u10 + 1) ∧ P67 u1 u6 u8 (u10 + 1) (s_a τ 79 (((u1 * 1770) + x11) + τ.1 53) u6)))))) → P67 u1 u6 u8 u10 τ) →
  (0 ≤ ((n1 * 60) + σ.1 53) ∧ ((n1 * 60) + σ.1 53) < 6000) ∧ (∀ (x2 : Int64), x2 = σ.2.2 4 ((n1 * 60) + σ.1 53) → (∀ (x3 : Int64), x3 = σ.2.2 5 ((n1 * 60) + σ.1 53) → (∀ (x4 : Int64), x4 = σ.2.2 4 ((n1 * 60) + σ.1 53) → (∀ (x5 : Int64), x5 = σ.2.2 4 ((n1 * 60) + σ.1 53) → (rg (σ.1 53 + 1) ∧ P67 n1 n6 (n2 &&& (x2 ^^^ (-1))) (σ.1 53 + 1) (s_b (s_b σ 5 ((n1 * 60) + σ.1 53) (x3 ||| (n4 ||| (n2 &&& x4)))) 4 ((n1 * 60) + σ.1 53) (x5 ||| n2)))))))
set_option maxRecDepth 100000 in
set_option maxHeartbeats 4000000 in
theorem L_X1_add (l : Launch) (g : gG) (q : Nat → Nat) (lb : Nat) (hlb : lb < 2 ^ 31) {n1 : Int} {n2 : Int64} {n4 : Int64} {n6 : Int} {σ : S0} {Q : S0 → Prop} (r_n1 : rg n1) (r_n6 : rg n6) (hN : n_m σ) (hw : W_X1_add n1 n2 n4 n6 σ Q) (sz : Nat) : MetV l yX1_add cX1_add 11 { frames := 0, cells := 0, slots := 0, locals := 0 } g [.ref (q 9), .int (I n1), .long n2, .long n4, .int (I n6)] (CX g q lb σ) sz xT (p_V (CX g q lb) [] [79] [4, 5] σ Q) 0 0 := by
  refine mkMet (Qc := fun A => QV g A (p_V (CX g q lb) [] [79] [4, 5] σ Q)) (by decide) (Nat.le_of_ble_eq_true rfl) ?_
  intro p e s m below meth c A H ls hx hb hr hml hown hts hlk hnm hsz hP hK hNb hD hA hAe hS hX hl
  have hl : lv_has ls 11 [(0, .ref (q 9)), (1, .int (I n1)), (2, .long n2), (4, .long n4), (6, .int (I n6))] := hl
  have hB := hN
  have hF : f_r [] [79] [4, 5] σ σ := f_0
  obtain ⟨locs, hlocs⟩ : ∃ z : List Loc, z = [] := ⟨_, rfl⟩
  rw [← hlocs] at hS ⊢
  obtain ⟨P67, hP67⟩ : ∃ P : Int → Int → Int64 → Int → S0 → Prop, ∀ (u1 : Int) (u6 : Int) (u8 : Int64) (u10 : Int) (τ : S0), (P u1 u6 u8 u10 τ ↔ (rg u1 → rg u6 → rg u10 → n_m τ → f_r [] [79] [4, 5] σ τ → ∀ (H : Heap) (locs : List Loc) (ls : Array Slot), KP g (CX g q lb τ) H → va_D A (CX g q lb τ) → va_S A s.heap H locs → lv_has ls 11 [(0, .ref (q 9)), (1, .int (I u1)), (6, .int (I u6)), (8, .long u8), (10, .int (I u10))] → W p l e ({ frames := 0, cells := 0, slots := 0, locals := 0 }) s m [.ref (q 9), .int (I n1), .long n2, .long n4, .int (I n6)].toArray below meth c H locs 0 0 (MQ below (QV g A (p_V (CX g q lb) [] [79] [4, 5] σ Q)) [.ref (q 9), .int (I n1), .long n2, .long n4, .int (I n6)].toArray s 0 0 A) (F0 m 67 ls []))) := ⟨_, fun _ _ _ _ _ => Iff.rfl⟩
  refine (fun hw => ?_) (hw P67 ?_)
  ·
    refine lv_iload_n hx hb dX1_add_0 rfl (lv_at hl 1 rfl) ?_
    refine lv_bipush (v := I 60) hx hb dX1_add_1 (by decide) ?_
    refine bi_imul hx hb dX1_add_3 ?_
    refine lv_aload_n hx hb dX1_add_4 rfl (lv_at hl 0 rfl) ?_
    refine gfX1_start hx hb hts hK hP hown (hts _ tw_687) (x := σ.1 53) rfl dX1_add_5 ?_
    refine bi_iadd hx hb dX1_add_8 ?_
    refine lv_istore (lv' := [(7, .int (I ((n1 * 60) + σ.1 53))), (0, .ref (q 9)), (1, .int (I n1)), (2, .long n2), (4, .long n4), (6, .int (I n6))]) hx hb dX1_add_9 hl (by decide) rfl (fun ls hl => ?_)
    refine lv_lload_n hx hb dX1_add_11 rfl (lv_at hl 3 rfl) ?_
    refine lv_aload_n hx hb dX1_add_12 rfl (lv_at hl 1 rfl) ?_
    refine gfX1_has hx hb hts hK hP hown (hts _ tw_683) dX1_add_13 ?_
    refine lv_iload hx hb dX1_add_16 (lv_at hl 0 rfl) ?_
    obtain ⟨c1, hw⟩ := hw
    refine ldCX1_has hx hb hK hP hN c1 dX1_add_18 (fun x2 e_x2 => ?_)
    replace hw := hw x2 e_x2
    refine lv_ldc2 (own := RX1) (v := (-1)) hx hb hown (hts _ tw_1735) dX1_add_19 ?_
    refine lv_lxor hx hb dX1_add_22 ?_
    refine lv_land hx hb dX1_add_23 ?_
    refine lv_lstore (lv' := [(8, .long (n2 &&& (x2 ^^^ (-1)))), (7, .int (I ((n1 * 60) + σ.1 53))), (0, .ref (q 9)), (1, .int (I n1)), (2, .long n2), (4, .long n4), (6, .int (I n6))]) hx hb dX1_add_24 hl (by decide) rfl (fun ls hl => ?_)
    refine lv_aload_n hx hb dX1_add_26 rfl (lv_at hl 2 rfl) ?_
    refine gfX1_several hx hb hts hK hP hown (hts _ tw_685) dX1_add_27 ?_
    refine lv_iload hx hb dX1_add_30 (lv_at hl 1 rfl) ?_
    refine lv_dup2_11 hx hb dX1_add_32 rfl rfl ?_
    refine ldCX1_several hx hb hK hP hN c1 dX1_add_33 (fun x3 e_x3 => ?_)
    replace hw := hw x3 e_x3
    refine lv_lload hx hb dX1_add_34 (lv_at hl 5 rfl) ?_
    refine lv_lload_n hx hb dX1_add_36 rfl (lv_at hl 4 rfl) ?_
    refine lv_aload_n hx hb dX1_add_37 rfl (lv_at hl 2 rfl) ?_
    refine gfX1_has hx hb hts hK hP hown (hts _ tw_683) dX1_add_38 ?_
    refine lv_iload hx hb dX1_add_41 (lv_at hl 1 rfl) ?_
    refine ldCX1_has hx hb hK hP hN c1 dX1_add_43 (fun x4 e_x4 => ?_)
    replace hw := hw x4 e_x4
    refine lv_land hx hb dX1_add_44 ?_
    refine lv_lor hx hb dX1_add_45 ?_
    refine lv_lor hx hb dX1_add_46 ?_
    refine sdCX1_several hx hb hK hP hD hS c1 dX1_add_47 (fun H locs hP hD hS => ?_)
    have hN : n_m (s_b σ 5 ((n1 * 60) + σ.1 53) (x3 ||| (n4 ||| (n2 &&& x4)))) := n_b (k := 5) (j := ((n1 * 60) + σ.1 53)) (x := (x3 ||| (n4 ||| (n2 &&& x4)))) hN
    have hF : f_r [] [79] [4, 5] σ (s_b σ 5 ((n1 * 60) + σ.1 53) (x3 ||| (n4 ||| (n2 &&& x4)))) := f_b hF (by decide)
    refine lv_aload_n hx hb dX1_add_48 rfl (lv_at hl 2 rfl) ?_
    refine gfX1_has hx hb hts hK hP hown (hts _ tw_683) dX1_add_49 ?_
    refine lv_iload hx hb dX1_add_52 (lv_at hl 1 rfl) ?_
    refine lv_dup2_11 hx hb dX1_add_54 rfl rfl ?_
    refine ldCX1_has hx hb hK hP hN c1 dX1_add_55 (fun x5 e_x5 => ?_)
    replace hw := hw x5 e_x5
    refine lv_lload_n hx hb dX1_add_56 rfl (lv_at hl 4 rfl) ?_
    refine lv_lor hx hb dX1_add_57 ?_
    refine sdCX1_has hx hb hK hP hD hS c1 dX1_add_58 (fun H locs hP hD hS => ?_)
    have hN : n_m (s_b (s_b σ 5 ((n1 * 60) + σ.1 53) (x3 ||| (n4 ||| (n2 &&& x4)))) 4 ((n1 * 60) + σ.1 53) (x5 ||| n2)) := n_b (k := 4) (j := ((n1 * 60) + σ.1 53)) (x := (x5 ||| n2)) hN
    have hF : f_r [] [79] [4, 5] σ (s_b (s_b σ 5 ((n1 * 60) + σ.1 53) (x3 ||| (n4 ||| (n2 &&& x4)))) 4 ((n1 * 60) + σ.1 53) (x5 ||| n2)) := f_b hF (by decide)
    refine lv_aload_n hx hb dX1_add_59 rfl (lv_at hl 2 rfl) ?_
    refine gfX1_start hx hb hts hK hP hown (hts _ tw_687) (x := σ.1 53) rfl dX1_add_60 ?_
    refine lv_iconst (v := I 1) hx hb dX1_add_63 rfl ?_
    refine bi_iadd hx hb dX1_add_64 ?_
    refine lv_istore (lv' := [(10, .int (I (σ.1 53 + 1))), (8, .long (n2 &&& (x2 ^^^ (-1)))), (7, .int (I ((n1 * 60) + σ.1 53))), (0, .ref (q 9)), (1, .int (I n1)), (2, .long n2), (4, .long n4), (6, .int (I n6))]) hx hb dX1_add_65 hl (by decide) rfl (fun ls hl => ?_)
    obtain ⟨c6, hw⟩ := hw
    exact (hP67 _ _ _ _ _).mp hw r_n1 r_n6 c6 hN hF H locs ls hP hD hS (lv_sub hl [3, 4, 7, 1, 0] rfl)
  ·
    intro u1 u6 u8 u10 τ hw
    refine (hP67 _ _ _ _ _).mpr ?_
    intro r_u1 r_u6 r_u10 hN hF H locs ls hP hD hS hl
    have hB := hN
    refine lv_iload hx hb dX1_add_67 (lv_at hl 4 rfl) ?_
    refine lv_aload_n hx hb dX1_add_69 rfl (lv_at hl 0 rfl) ?_
    refine gfX1_length hx hb hts hK hP hown (hts _ tw_676) (x := τ.1 50) rfl dX1_add_70 ?_
    refine bi_icmp_gt (tgt := 121) hx hb r_u10 (hB.1 50) dX1_add_73 (by decide) (fun c7 => ?_) (fun c7 => ?_)
    ·
      replace hw := hw.1 c7
      exact xrv hx hb hr hlk hP hK hD hS ⟨_, hN, hF, rfl, hw⟩ (Nat.le_of_ble_eq_true rfl) (Nat.le_of_ble_eq_true rfl) dX1_add_121
    ·
      replace hw := hw.2 c7
      refine lv_lload hx hb dX1_add_76 (lv_at hl 3 rfl) ?_
      refine lv_iload hx hb dX1_add_78 (lv_at hl 4 rfl) ?_
      refine bi_lushr hx hb dX1_add_80 ?_
      refine lv_lconst (v := 1) hx hb dX1_add_81 (by decide) ?_
      refine lv_land hx hb dX1_add_82 ?_
      refine lv_lconst (v := 0) hx hb dX1_add_83 (by decide) ?_
      refine bi_lcmp_eq (tgt := 115) hx hb dX1_add_84 dX1_add_85 (by decide) (fun c8 => ?_) (fun c8 => ?_)
      ·
        replace hw := hw.1 c8
        refine lv_iinc (v := I (u10 + 1)) (lv' := [(10, .int (I (u10 + 1))), (0, .ref (q 9)), (1, .int (I u1)), (6, .int (I u6)), (8, .long u8)]) hx hb dX1_add_115 hl (k := 4) rfl (I_add _ _) (by decide) rfl (fun ls hl => ?_)
        refine lv_goto (tgt := 67) hx hb dX1_add_118 (by decide) ?_
        obtain ⟨c9, hw⟩ := hw
        exact (hP67 _ _ _ _ _).mp hw r_u1 r_u6 c9 hN hF H locs ls hP hD hS (lv_sub hl [1, 2, 3, 4, 0] rfl)
      ·
        replace hw := hw.2 c8
        refine lv_aload_n hx hb dX1_add_88 rfl (lv_at hl 0 rfl) ?_
        refine gfX1_madeBy hx hb hts hK hP hown (hts _ tw_686) dX1_add_89 ?_
        refine lv_iload_n hx hb dX1_add_92 rfl (lv_at hl 1 rfl) ?_
        refine lv_sipush (v := I 1770) hx hb dX1_add_93 (by decide) ?_
        refine bi_imul hx hb dX1_add_96 ?_
        refine lv_iload hx hb dX1_add_97 (lv_at hl 4 rfl) ?_
        refine lv_iload hx hb dX1_add_99 (lv_at hl 4 rfl) ?_
        refine lv_iconst (v := I 1) hx hb dX1_add_101 rfl ?_
        refine bi_isub hx hb dX1_add_102 ?_
        refine bi_imul hx hb dX1_add_103 ?_
        refine lv_iconst (v := I 2) hx hb dX1_add_104 rfl ?_
        obtain ⟨c10, hw⟩ := hw
        refine bi_idiv hx hb c10 (by decide) (by decide) dX1_add_105 (fun x11 r_x11 p_x11 m_x11 => ?_)
        replace hw := hw x11 r_x11 p_x11 m_x11
        refine bi_iadd hx hb dX1_add_106 ?_
        refine lv_aload_n hx hb dX1_add_107 rfl (lv_at hl 0 rfl) ?_
        refine gfX1_start hx hb hts hK hP hown (hts _ tw_687) (x := τ.1 53) rfl dX1_add_108 ?_
        refine bi_iadd hx hb dX1_add_111 ?_
        refine lv_iload hx hb dX1_add_112 (lv_at hl 2 rfl) ?_
        obtain ⟨c12, hw⟩ := hw
        refine sdCX1_madeBy hx hb hK hP hD hS c12 dX1_add_114 (fun H locs hP hD hS => ?_)
        have hN : n_m (s_a τ 79 (((u1 * 1770) + x11) + τ.1 53) u6) := n_a (k := 79) (j := (((u1 * 1770) + x11) + τ.1 53)) hN (r_u6 : rg u6)
        have hF : f_r [] [79] [4, 5] σ (s_a τ 79 (((u1 * 1770) + x11) + τ.1 53) u6) := f_a hF (by decide)
        refine lv_iinc (v := I (u10 + 1)) (lv' := [(10, .int (I (u10 + 1))), (0, .ref (q 9)), (1, .int (I u1)), (6, .int (I u6)), (8, .long u8)]) hx hb dX1_add_115 hl (k := 4) rfl (I_add _ _) (by decide) rfl (fun ls hl => ?_)
        refine lv_goto (tgt := 67) hx hb dX1_add_118 (by decide) ?_
        obtain ⟨c13, hw⟩ := hw
        exact (hP67 _ _ _ _ _).mp hw r_u1 r_u6 c13 hN hF H locs ls hP hD hS (lv_sub hl [1, 2, 3, 4, 0] rfl)
def W_X1_addRules (n1 : Int) (n2 : Int64) (n4 : Int64) (σ : S0) (Q : S0 → Prop) : Prop :=
  ∀ (P14 : Int64 → Int64 → Int → Int → S0 → Prop),
  (∀ (u2 : Int64) (u4 : Int64) (u6 : Int) (u7 : Int) (τ : S0), ((1500 ≤ u7 → Q τ) ∧ (u7 < 1500 → (u6 ≤ 0 → Q τ) ∧ (0 < u6 → rg (u6 - 1) ∧ (τ.1 51 ≤ (u6 - 1) → (0 ≤ (u6 - 1) ∧ (u6 - 1) < 1500) ∧ (∀ (x8 : Int), rg x8 → x8 = τ.2.1 72 (u6 - 1) → (rg (u7 + 1) ∧ P14 u2 u4 x8 (u7 + 1) τ))) ∧ ((u6 - 1) < τ.1 51 → ∃ (Q10 : Int → Prop), W_X3_typeOf (u6 - 1) τ Q10 ∧ ∀ (x11 : Int), rg x11 → Q10 x11 → (∃ (Q13 : Int → Prop), W_X8_sortRank x11 τ Q13 ∧ ∀ (x14 : Int), rg x14 → Q13 x14 → (∃ (Q16 : S0 → Prop), W_X1_add x14 u2 u4 (u6 - 1) τ Q16 ∧ ∀ (τ18 : S0), n_m τ18 → f_r [] [79] [4, 5] τ τ18 → Q16 τ18 → ((0 ≤ (u6 - 1) ∧ (u6 - 1) < 1500) ∧ (∀ (x20 : Int), rg x20 → x20 = τ18.2.1 72 (u6 - 1) → (rg (u7 + 1) ∧ P14 u2 u4 x20 (u7 + 1) τ18))))))))) → P14 u2 u4 u6 u7 τ) →
  (0 ≤ n1 ∧ n1 < 30001) ∧ (∀ (x2 : Int), rg x2 → x2 = σ.2.1 71 n1 → (P14 n2 n4 x2 0 σ))
set_option maxRecDepth 100000 in
set_option maxHeartbeats 4000000 in
theorem L_X1_addRules (l : Launch) (g : gG) (q : Nat → Nat) (lb : Nat) (hlb : lb < 2 ^ 31) {n1 : Int} {n2 : Int64} {n4 : Int64} {σ : S0} {Q : S0 → Prop} (r_n1 : rg n1) (hN : n_m σ) (hw : W_X1_addRules n1 n2 n4 σ Q) (sz : Nat) : MetV l yX1_addRules cX1_addRules 8 { frames := 1, cells := 0, slots := 0, locals := 30 } g [.ref (q 9), .int (I n1), .long n2, .long n4] (CX g q lb σ) sz xT (p_V (CX g q lb) [] [79] [4, 5] σ Q) 0 0 := by
  refine mkMet (Qc := fun A => QV g A (p_V (CX g q lb) [] [79] [4, 5] σ Q)) (by decide) (Nat.le_of_ble_eq_true rfl) ?_
  intro p e s m below meth c A H ls hx hb hr hml hown hts hlk hnm hsz hP hK hNb hD hA hAe hS hX hl
  have hl : lv_has ls 8 [(0, .ref (q 9)), (1, .int (I n1)), (2, .long n2), (4, .long n4)] := hl
  have hB := hN
  have hF : f_r [] [79] [4, 5] σ σ := f_0
  obtain ⟨locs, hlocs⟩ : ∃ z : List Loc, z = [] := ⟨_, rfl⟩
  rw [← hlocs] at hS ⊢
  obtain ⟨P14, hP14⟩ : ∃ P : Int64 → Int64 → Int → Int → S0 → Prop, ∀ (u2 : Int64) (u4 : Int64) (u6 : Int) (u7 : Int) (τ : S0), (P u2 u4 u6 u7 τ ↔ (rg u6 → rg u7 → n_m τ → f_r [] [79] [4, 5] σ τ → ∀ (H : Heap) (locs : List Loc) (ls : Array Slot), KP g (CX g q lb τ) H → va_D A (CX g q lb τ) → va_S A s.heap H locs → lv_has ls 8 [(0, .ref (q 9)), (2, .long u2), (4, .long u4), (6, .int (I u6)), (7, .int (I u7))] → W p l e ({ frames := 1, cells := 0, slots := 0, locals := 30 }) s m [.ref (q 9), .int (I n1), .long n2, .long n4].toArray below meth c H locs 0 0 (MQ below (QV g A (p_V (CX g q lb) [] [79] [4, 5] σ Q)) [.ref (q 9), .int (I n1), .long n2, .long n4].toArray s 0 0 A) (F0 m 14 ls []))) := ⟨_, fun _ _ _ _ _ => Iff.rfl⟩
  refine (fun hw => ?_) (hw P14 ?_)
  ·
    refine lv_aload_n hx hb dX1_addRules_0 rfl (lv_at hl 0 rfl) ?_
    refine gfX1_rules hx hb hts hK hP hown (hts _ tw_671) dX1_addRules_1 ?_
    refine gfNX8_firstRule hx hb hts hK hP hown (nb_use hNb tn_610) dX1_addRules_4 ?_
    refine lv_iload_n hx hb dX1_addRules_7 rfl (lv_at hl 1 rfl) ?_
    obtain ⟨c1, hw⟩ := hw
    refine ldCX8_firstRule hx hb hK hP hN c1 dX1_addRules_8 (fun x2 r_x2 e_x2 => ?_)
    replace hw := hw x2 r_x2 e_x2
    refine lv_istore (lv' := [(6, .int (I x2)), (0, .ref (q 9)), (1, .int (I n1)), (2, .long n2), (4, .long n4)]) hx hb dX1_addRules_9 hl (by decide) rfl (fun ls hl => ?_)
    refine lv_iconst (v := I 0) hx hb dX1_addRules_11 rfl ?_
    refine lv_istore (lv' := [(7, .int (I 0)), (6, .int (I x2)), (0, .ref (q 9)), (1, .int (I n1)), (2, .long n2), (4, .long n4)]) hx hb dX1_addRules_12 hl (by decide) rfl (fun ls hl => ?_)
    exact (hP14 _ _ _ _ _).mp hw r_x2 (by decide) hN hF H locs ls hP hD hS (lv_sub hl [2, 4, 5, 1, 0] rfl)
  ·
    intro u2 u4 u6 u7 τ hw
    refine (hP14 _ _ _ _ _).mpr ?_
    intro r_u6 r_u7 hN hF H locs ls hP hD hS hl
    have hB := hN
    refine lv_iload hx hb dX1_addRules_14 (lv_at hl 4 rfl) ?_
    refine lv_sipush (v := I 1500) hx hb dX1_addRules_16 (by decide) ?_
    refine bi_icmp_ge (tgt := 87) hx hb r_u7 (by decide) dX1_addRules_19 (by decide) (fun c3 => ?_) (fun c3 => ?_)
    ·
      replace hw := hw.1 c3
      exact xrv hx hb hr hlk hP hK hD hS ⟨_, hN, hF, rfl, hw⟩ (Nat.le_of_ble_eq_true rfl) (Nat.le_of_ble_eq_true rfl) dX1_addRules_87
    ·
      replace hw := hw.2 c3
      refine lv_iload hx hb dX1_addRules_22 (lv_at hl 3 rfl) ?_
      refine bi_if_le (tgt := 87) hx hb r_u6 dX1_addRules_24 (by decide) (fun c4 => ?_) (fun c4 => ?_)
      ·
        replace hw := hw.1 c4
        exact xrv hx hb hr hlk hP hK hD hS ⟨_, hN, hF, rfl, hw⟩ (Nat.le_of_ble_eq_true rfl) (Nat.le_of_ble_eq_true rfl) dX1_addRules_87
      ·
        replace hw := hw.2 c4
        refine lv_iload hx hb dX1_addRules_27 (lv_at hl 3 rfl) ?_
        refine lv_iconst (v := I 1) hx hb dX1_addRules_29 rfl ?_
        refine bi_isub hx hb dX1_addRules_30 ?_
        refine lv_aload_n hx hb dX1_addRules_31 rfl (lv_at hl 0 rfl) ?_
        refine gfX1_limit hx hb hts hK hP hown (hts _ tw_678) (x := τ.1 51) rfl dX1_addRules_32 ?_
        obtain ⟨c5, hw⟩ := hw
        refine bi_icmp_ge (tgt := 67) hx hb c5 (hB.1 51) dX1_addRules_35 (by decide) (fun c6 => ?_) (fun c6 => ?_)
        ·
          replace hw := hw.1 c6
          refine lv_aload_n hx hb dX1_addRules_67 rfl (lv_at hl 0 rfl) ?_
          refine gfX1_rules hx hb hts hK hP hown (hts _ tw_671) dX1_addRules_68 ?_
          refine gfNX8_nextRule hx hb hts hK hP hown (nb_use hNb tn_612) dX1_addRules_71 ?_
          refine lv_iload hx hb dX1_addRules_74 (lv_at hl 3 rfl) ?_
          refine lv_iconst (v := I 1) hx hb dX1_addRules_76 rfl ?_
          refine bi_isub hx hb dX1_addRules_77 ?_
          obtain ⟨c7, hw⟩ := hw
          refine ldCX8_nextRule hx hb hK hP hN c7 dX1_addRules_78 (fun x8 r_x8 e_x8 => ?_)
          replace hw := hw x8 r_x8 e_x8
          refine lv_istore (lv' := [(6, .int (I x8)), (0, .ref (q 9)), (2, .long u2), (4, .long u4), (7, .int (I u7))]) hx hb dX1_addRules_79 hl (by decide) rfl (fun ls hl => ?_)
          refine lv_iinc (v := I (u7 + 1)) (lv' := [(7, .int (I (u7 + 1))), (6, .int (I x8)), (0, .ref (q 9)), (2, .long u2), (4, .long u4)]) hx hb dX1_addRules_81 hl (k := 4) rfl (I_add _ _) (by decide) rfl (fun ls hl => ?_)
          refine lv_goto (tgt := 14) hx hb dX1_addRules_84 (by decide) ?_
          obtain ⟨c9, hw⟩ := hw
          exact (hP14 _ _ _ _ _).mp hw r_x8 c9 hN hF H locs ls hP hD hS (lv_sub hl [2, 3, 4, 1, 0] rfl)
        ·
          replace hw := hw.2 c6
          refine lv_aload_n hx hb dX1_addRules_38 rfl (lv_at hl 0 rfl) ?_
          refine lv_aload_n hx hb dX1_addRules_39 rfl (lv_at hl 0 rfl) ?_
          refine gfX1_rules hx hb hts hK hP hown (hts _ tw_671) dX1_addRules_40 ?_
          refine lv_aload_n hx hb dX1_addRules_43 rfl (lv_at hl 0 rfl) ?_
          refine gfX1_library hx hb hts hK hP hown (hts _ tw_670) dX1_addRules_44 ?_
          refine lv_iload hx hb dX1_addRules_47 (lv_at hl 3 rfl) ?_
          refine lv_iconst (v := I 1) hx hb dX1_addRules_49 rfl ?_
          refine bi_isub hx hb dX1_addRules_50 ?_
          obtain ⟨Q10, hc, hw⟩ := hw
          refine wc_i (X := CX g q lb) (va_runV (As := [.int (I (u6 - 1))]) (rest := [.ref (q 8), .ref (q 9)]) ⟨hx, hb, hml, hown, hts⟩ (L_X3_typeOf l g q lb hlb c5 hN hc H.size) (cwV 1 hts (TB_V tw_1714 tw_1208 tw_1209 tw_2 co_X3_typeOf) rfl rfl rfl (by decide +kernel) ⟨Nat.le_of_ble_eq_true rfl, Nat.le_of_ble_eq_true rfl⟩) (preV (q0 := 1) (ci := 3) rfl xT_bl hP hK hNb hD rfl rfl xT_at) rfl rfl hl.1 rfl (lv_room (Nat.le_of_ble_eq_true rfl)) dX1_addRules_51 ⟨Nat.le_of_ble_eq_true rfl, Nat.le_of_ble_eq_true rfl⟩) hP hD hS hA (fun x11 H locs r_x11 hq hP hD hS => ?_)
          replace hw := hw x11 r_x11 hq
          obtain ⟨Q13, hc, hw⟩ := hw
          refine wc_i (X := CX g q lb) (va_runV (As := [.int (I x11)]) (rest := [.ref (q 9)]) ⟨hx, hb, hml, hown, hts⟩ (L_X8_sortRank l g q lb hlb r_x11 hN hc H.size) (cwV 1 hts (TB_V tw_1727 tw_1728 tw_1729 tw_10 co_X8_sortRank) rfl rfl rfl (by decide +kernel) ⟨Nat.le_of_ble_eq_true rfl, Nat.le_of_ble_eq_true rfl⟩) (preV (q0 := 8) (ci := 8) rfl xT_bl hP hK hNb hD rfl rfl xT_at) rfl rfl hl.1 rfl (lv_room (Nat.le_of_ble_eq_true rfl)) dX1_addRules_54 ⟨Nat.le_of_ble_eq_true rfl, Nat.le_of_ble_eq_true rfl⟩) hP hD hS hA (fun x14 H locs r_x14 hq hP hD hS => ?_)
          replace hw := hw x14 r_x14 hq
          refine lv_lload_n hx hb dX1_addRules_57 rfl (lv_at hl 1 rfl) ?_
          refine lv_lload hx hb dX1_addRules_58 (lv_at hl 2 rfl) ?_
          refine lv_iload hx hb dX1_addRules_60 (lv_at hl 3 rfl) ?_
          refine lv_iconst (v := I 1) hx hb dX1_addRules_62 rfl ?_
          refine bi_isub hx hb dX1_addRules_63 ?_
          obtain ⟨Q16, hc, hw⟩ := hw
          refine wc_V (X := CX g q lb) (va_runV (As := [.int (I x14), .long u2, .long u4, .int (I (u6 - 1))]) (rest := []) ⟨hx, hb, hml, hown, hts⟩ (L_X1_add l g q lb hlb r_x14 c5 hN hc H.size) (cwV 4 hts (TB_V tw_1731 tw_1733 ts_72 tw_11 co_X1_add) rfl rfl rfl (by decide +kernel) ⟨Nat.le_of_ble_eq_true rfl, Nat.le_of_ble_eq_true rfl⟩) (preV (q0 := 9) (ci := 1) rfl xT_bl hP hK hNb hD rfl rfl xT_at) rfl rfl hl.1 rfl (lv_room (Nat.le_of_ble_eq_true rfl)) dX1_addRules_64 ⟨Nat.le_of_ble_eq_true rfl, Nat.le_of_ble_eq_true rfl⟩) hP hD hS hA (fun τ18 H locs hN hf hq hP hD hS => ?_)
          replace hw := hw τ18 hN hf hq
          have hF : f_r [] [79] [4, 5] σ τ18 := f_t hF hf (by decide) (by decide) (by decide)
          have hB := hN
          refine lv_aload_n hx hb dX1_addRules_67 rfl (lv_at hl 0 rfl) ?_
          refine gfX1_rules hx hb hts hK hP hown (hts _ tw_671) dX1_addRules_68 ?_
          refine gfNX8_nextRule hx hb hts hK hP hown (nb_use hNb tn_612) dX1_addRules_71 ?_
          refine lv_iload hx hb dX1_addRules_74 (lv_at hl 3 rfl) ?_
          refine lv_iconst (v := I 1) hx hb dX1_addRules_76 rfl ?_
          refine bi_isub hx hb dX1_addRules_77 ?_
          obtain ⟨c19, hw⟩ := hw
          refine ldCX8_nextRule hx hb hK hP hN c19 dX1_addRules_78 (fun x20 r_x20 e_x20 => ?_)
          replace hw := hw x20 r_x20 e_x20
          refine lv_istore (lv' := [(6, .int (I x20)), (0, .ref (q 9)), (2, .long u2), (4, .long u4), (7, .int (I u7))]) hx hb dX1_addRules_79 hl (by decide) rfl (fun ls hl => ?_)
          refine lv_iinc (v := I (u7 + 1)) (lv' := [(7, .int (I (u7 + 1))), (6, .int (I x20)), (0, .ref (q 9)), (2, .long u2), (4, .long u4)]) hx hb dX1_addRules_81 hl (k := 4) rfl (I_add _ _) (by decide) rfl (fun ls hl => ?_)
          refine lv_goto (tgt := 14) hx hb dX1_addRules_84 (by decide) ?_
          obtain ⟨c21, hw⟩ := hw
          exact (hP14 _ _ _ _ _).mp hw r_x20 c21 hN hF H locs ls hP hD hS (lv_sub hl [2, 3, 4, 1, 0] rfl)
def W_X1_step (n1 : Int) (n2 : Int) (σ : S0) (Q : Int → S0 → Prop) : Prop :=
  ∀ (P75 : Int → Int64 → Int64 → Int64 → Int64 → Int → Int → S0 → Prop) (P129 : Int → Int64 → Int64 → Int64 → Int64 → Int → Int → Int64 → Int → S0 → Prop) (P180 : Int → Int64 → Int64 → S0 → Prop),
  (∀ (u2 : Int) (u3 : Int64) (u5 : Int64) (u7 : Int64) (u9 : Int64) (u11 : Int) (u12 : Int) (τ : S0), ((τ.1 50 ≤ u12 → P180 u2 u7 u9 τ) ∧ (u12 < τ.1 50 → (((j_ushr u3 u12) &&& 1) = 0 → rg (u12 + 1) ∧ P75 u2 u3 u5 u7 u9 u11 (u12 + 1) τ) ∧ (¬ ((j_ushr u3 u12) &&& 1) = 0 → (0 ≤ (((-1 - u11) * 60) + u12) ∧ (((-1 - u11) * 60) + u12) < 6000) ∧ (∀ (x15 : Int64), x15 = τ.2.2 4 (((-1 - u11) * 60) + u12) → ((((j_ushr u5 u12) &&& 1) = 0 → P129 u2 u3 u5 u7 u9 u11 u12 x15 0 τ) ∧ (¬ ((j_ushr u5 u12) &&& 1) = 0 → P129 u2 u3 u5 u7 u9 u11 u12 x15 1 τ)))))) → P75 u2 u3 u5 u7 u9 u11 u12 τ) →
  (∀ (u2 : Int) (u3 : Int64) (u5 : Int64) (u7 : Int64) (u9 : Int64) (u11 : Int) (u12 : Int) (u13 : Int64) (k0 : Int) (τ : S0), ((k0 = 0 → (0 ≤ (((-1 - u11) * 60) + u12) ∧ (((-1 - u11) * 60) + u12) < 6000) ∧ (∀ (x23 : Int64), x23 = τ.2.2 5 (((-1 - u11) * 60) + u12) → (rg (u12 + 1) ∧ P75 u2 u3 u5 (u7 ||| u13) (u9 ||| ((u7 &&& u13) ||| x23)) u11 (u12 + 1) τ))) ∧ (¬ k0 = 0 → rg (u12 + 1) ∧ P75 u2 u3 u5 (u7 ||| u13) (u9 ||| ((u7 &&& u13) ||| u13)) u11 (u12 + 1) τ)) → P129 u2 u3 u5 u7 u9 u11 u12 u13 k0 τ) →
  (∀ (u2 : Int) (u7 : Int64) (u9 : Int64) (τ : S0), ((u7 = 0 → Q 0 τ) ∧ (¬ u7 = 0 → rg (u2 + 1) ∧ ((u2 + 1) < 61 → (0 ≤ (u2 + 1) ∧ (u2 + 1) < 61) ∧ (Q 1 (s_b (s_b τ 6 (u2 + 1) u7) 7 (u2 + 1) u9))) ∧ (61 ≤ (u2 + 1) → Q 0 τ))) → P180 u2 u7 u9 τ) →
  (0 ≤ n2 ∧ n2 < 61) ∧ (∀ (x2 : Int64), x2 = σ.2.2 6 n2 → (∀ (x3 : Int64), x3 = σ.2.2 7 n2 → ((0 ≤ n1 ∧ n1 < 30001) ∧ (∀ (x5 : Int), rg x5 → x5 = σ.2.1 69 n1 → ((x5 < 0 → rg (σ.1 53 + 1) ∧ P75 n2 x2 x3 0 0 x5 (σ.1 53 + 1) σ) ∧ (0 ≤ x5 → (0 ≤ x5 ∧ x5 < 1000) ∧ (∀ (x9 : Int64), x9 = σ.2.2 3 x5 → (∀ (x10 : Int64), x10 = σ.2.2 3 x5 → (P180 n2 (j_shl (x2 &&& x9) 1) (j_shl (x3 &&& x10) 1) σ)))))))))
set_option maxRecDepth 100000 in
set_option maxHeartbeats 4000000 in
theorem L_X1_step (l : Launch) (g : gG) (q : Nat → Nat) (lb : Nat) (hlb : lb < 2 ^ 31) {n1 : Int} {n2 : Int} {σ : S0} {Q : Int → S0 → Prop} (r_n1 : rg n1) (r_n2 : rg n2) (hN : n_m σ) (hw : W_X1_step n1 n2 σ Q) (sz : Nat) : MetI l yX1_step cX1_step 16 (some .boolean) { frames := 0, cells := 0, slots := 0, locals := 0 } g [.ref (q 9), .int (I n1), .int (I n2)] (CX g q lb σ) sz xT (p_I (CX g q lb) [] [] [6, 7] σ Q) 0 0 := by
  refine mkMet (Qc := fun A => QI g A (p_I (CX g q lb) [] [] [6, 7] σ Q)) (by decide) (Nat.le_of_ble_eq_true rfl) ?_
  intro p e s m below meth c A H ls hx hb hr hml hown hts hlk hnm hsz hP hK hNb hD hA hAe hS hX hl
  have hl : lv_has ls 16 [(0, .ref (q 9)), (1, .int (I n1)), (2, .int (I n2))] := hl
  have hB := hN
  have hF : f_r [] [] [6, 7] σ σ := f_0
  obtain ⟨locs, hlocs⟩ : ∃ z : List Loc, z = [] := ⟨_, rfl⟩
  rw [← hlocs] at hS ⊢
  obtain ⟨P75, hP75⟩ : ∃ P : Int → Int64 → Int64 → Int64 → Int64 → Int → Int → S0 → Prop, ∀ (u2 : Int) (u3 : Int64) (u5 : Int64) (u7 : Int64) (u9 : Int64) (u11 : Int) (u12 : Int) (τ : S0), (P u2 u3 u5 u7 u9 u11 u12 τ ↔ (rg u2 → rg u11 → rg u12 → n_m τ → f_r [] [] [6, 7] σ τ → ∀ (H : Heap) (locs : List Loc) (ls : Array Slot), KP g (CX g q lb τ) H → va_D A (CX g q lb τ) → va_S A s.heap H locs → lv_has ls 16 [(0, .ref (q 9)), (2, .int (I u2)), (3, .long u3), (5, .long u5), (7, .long u7), (9, .long u9), (11, .int (I u11)), (12, .int (I u12))] → W p l e ({ frames := 0, cells := 0, slots := 0, locals := 0 }) s m [.ref (q 9), .int (I n1), .int (I n2)].toArray below meth c H locs 0 0 (MQ below (QI g A (p_I (CX g q lb) [] [] [6, 7] σ Q)) [.ref (q 9), .int (I n1), .int (I n2)].toArray s 0 0 A) (F0 m 75 ls []))) := ⟨_, fun _ _ _ _ _ _ _ _ => Iff.rfl⟩
  obtain ⟨P129, hP129⟩ : ∃ P : Int → Int64 → Int64 → Int64 → Int64 → Int → Int → Int64 → Int → S0 → Prop, ∀ (u2 : Int) (u3 : Int64) (u5 : Int64) (u7 : Int64) (u9 : Int64) (u11 : Int) (u12 : Int) (u13 : Int64) (k0 : Int) (τ : S0), (P u2 u3 u5 u7 u9 u11 u12 u13 k0 τ ↔ (rg u2 → rg u11 → rg u12 → rg k0 → n_m τ → f_r [] [] [6, 7] σ τ → ∀ (H : Heap) (locs : List Loc) (ls : Array Slot), KP g (CX g q lb τ) H → va_D A (CX g q lb τ) → va_S A s.heap H locs → lv_has ls 16 [(0, .ref (q 9)), (2, .int (I u2)), (3, .long u3), (5, .long u5), (7, .long u7), (9, .long u9), (11, .int (I u11)), (12, .int (I u12)), (13, .long u13)] → W p l e ({ frames := 0, cells := 0, slots := 0, locals := 0 }) s m [.ref (q 9), .int (I n1), .int (I n2)].toArray below meth c H locs 0 0 (MQ below (QI g A (p_I (CX g q lb) [] [] [6, 7] σ Q)) [.ref (q 9), .int (I n1), .int (I n2)].toArray s 0 0 A) (F0 m 129 ls [.int (I k0)]))) := ⟨_, fun _ _ _ _ _ _ _ _ _ _ => Iff.rfl⟩
  obtain ⟨P180, hP180⟩ : ∃ P : Int → Int64 → Int64 → S0 → Prop, ∀ (u2 : Int) (u7 : Int64) (u9 : Int64) (τ : S0), (P u2 u7 u9 τ ↔ (rg u2 → n_m τ → f_r [] [] [6, 7] σ τ → ∀ (H : Heap) (locs : List Loc) (ls : Array Slot), KP g (CX g q lb τ) H → va_D A (CX g q lb τ) → va_S A s.heap H locs → lv_has ls 16 [(0, .ref (q 9)), (2, .int (I u2)), (7, .long u7), (9, .long u9)] → W p l e ({ frames := 0, cells := 0, slots := 0, locals := 0 }) s m [.ref (q 9), .int (I n1), .int (I n2)].toArray below meth c H locs 0 0 (MQ below (QI g A (p_I (CX g q lb) [] [] [6, 7] σ Q)) [.ref (q 9), .int (I n1), .int (I n2)].toArray s 0 0 A) (F0 m 180 ls []))) := ⟨_, fun _ _ _ _ => Iff.rfl⟩
  refine (fun hw => ?_) (hw P75 P129 P180 ?_ ?_ ?_)
  ·
    refine lv_aload_n hx hb dX1_step_0 rfl (lv_at hl 0 rfl) ?_
    refine gfX1_stackHas hx hb hts hK hP hown (hts _ tw_689) dX1_step_1 ?_
    refine lv_iload_n hx hb dX1_step_4 rfl (lv_at hl 2 rfl) ?_
    obtain ⟨c1, hw⟩ := hw
    refine ldCX1_stackHas hx hb hK hP hN c1 dX1_step_5 (fun x2 e_x2 => ?_)
    replace hw := hw x2 e_x2
    refine lv_lstore_n (lv' := [(3, .long x2), (0, .ref (q 9)), (1, .int (I n1)), (2, .int (I n2))]) hx hb dX1_step_6 rfl hl (by decide) rfl (fun ls hl => ?_)
    refine lv_aload_n hx hb dX1_step_7 rfl (lv_at hl 1 rfl) ?_
    refine gfX1_stackSeveral hx hb hts hK hP hown (hts _ tw_690) dX1_step_8 ?_
    refine lv_iload_n hx hb dX1_step_11 rfl (lv_at hl 3 rfl) ?_
    refine ldCX1_stackSeveral hx hb hK hP hN c1 dX1_step_12 (fun x3 e_x3 => ?_)
    replace hw := hw x3 e_x3
    refine lv_lstore (lv' := [(5, .long x3), (3, .long x2), (0, .ref (q 9)), (1, .int (I n1)), (2, .int (I n2))]) hx hb dX1_step_13 hl (by decide) rfl (fun ls hl => ?_)
    refine lv_lconst (v := 0) hx hb dX1_step_15 (by decide) ?_
    refine lv_lstore (lv' := [(7, .long 0), (5, .long x3), (3, .long x2), (0, .ref (q 9)), (1, .int (I n1)), (2, .int (I n2))]) hx hb dX1_step_16 hl (by decide) rfl (fun ls hl => ?_)
    refine lv_lconst (v := 0) hx hb dX1_step_18 (by decide) ?_
    refine lv_lstore (lv' := [(9, .long 0), (7, .long 0), (5, .long x3), (3, .long x2), (0, .ref (q 9)), (1, .int (I n1)), (2, .int (I n2))]) hx hb dX1_step_19 hl (by decide) rfl (fun ls hl => ?_)
    refine lv_aload_n hx hb dX1_step_21 rfl (lv_at hl 4 rfl) ?_
    refine gfX1_rules hx hb hts hK hP hown (hts _ tw_671) dX1_step_22 ?_
    refine gfNX8_key hx hb hts hK hP hown (nb_use hNb tn_606) dX1_step_25 ?_
    refine lv_iload_n hx hb dX1_step_28 rfl (lv_at hl 5 rfl) ?_
    obtain ⟨c4, hw⟩ := hw
    refine ldCX8_key hx hb hK hP hN c4 dX1_step_29 (fun x5 r_x5 e_x5 => ?_)
    replace hw := hw x5 r_x5 e_x5
    refine lv_istore (lv' := [(11, .int (I x5)), (9, .long 0), (7, .long 0), (5, .long x3), (3, .long x2), (0, .ref (q 9)), (1, .int (I n1)), (2, .int (I n2))]) hx hb dX1_step_30 hl (by decide) rfl (fun ls hl => ?_)
    refine lv_iload hx hb dX1_step_32 (lv_at hl 0 rfl) ?_
    refine bi_if_lt (tgt := 67) hx hb r_x5 dX1_step_34 (by decide) (fun c6 => ?_) (fun c6 => ?_)
    ·
      replace hw := hw.1 c6
      refine lv_aload_n hx hb dX1_step_67 rfl (lv_at hl 5 rfl) ?_
      refine gfX1_start hx hb hts hK hP hown (hts _ tw_687) (x := σ.1 53) rfl dX1_step_68 ?_
      refine lv_iconst (v := I 1) hx hb dX1_step_71 rfl ?_
      refine bi_iadd hx hb dX1_step_72 ?_
      refine lv_istore (lv' := [(12, .int (I (σ.1 53 + 1))), (11, .int (I x5)), (9, .long 0), (7, .long 0), (5, .long x3), (3, .long x2), (0, .ref (q 9)), (1, .int (I n1)), (2, .int (I n2))]) hx hb dX1_step_73 hl (by decide) rfl (fun ls hl => ?_)
      obtain ⟨c7, hw⟩ := hw
      exact (hP75 _ _ _ _ _ _ _ _).mp hw r_n2 r_x5 c7 hN hF H locs ls hP hD hS (lv_sub hl [6, 8, 5, 4, 3, 2, 1, 0] rfl)
    ·
      replace hw := hw.2 c6
      refine lv_lload_n hx hb dX1_step_37 rfl (lv_at hl 4 rfl) ?_
      refine lv_aload_n hx hb dX1_step_38 rfl (lv_at hl 5 rfl) ?_
      refine gfX1_where hx hb hts hK hP hown (hts _ tw_681) dX1_step_39 ?_
      refine lv_iload hx hb dX1_step_42 (lv_at hl 0 rfl) ?_
      obtain ⟨c8, hw⟩ := hw
      refine ldCX1_where hx hb hK hP hN c8 dX1_step_44 (fun x9 e_x9 => ?_)
      replace hw := hw x9 e_x9
      refine lv_land hx hb dX1_step_45 ?_
      refine lv_iconst (v := I 1) hx hb dX1_step_46 rfl ?_
      refine bi_lshl hx hb dX1_step_47 ?_
      refine lv_lstore (lv' := [(7, .long (j_shl (x2 &&& x9) 1)), (11, .int (I x5)), (9, .long 0), (5, .long x3), (3, .long x2), (0, .ref (q 9)), (1, .int (I n1)), (2, .int (I n2))]) hx hb dX1_step_48 hl (by decide) rfl (fun ls hl => ?_)
      refine lv_lload hx hb dX1_step_50 (lv_at hl 3 rfl) ?_
      refine lv_aload_n hx hb dX1_step_52 rfl (lv_at hl 5 rfl) ?_
      refine gfX1_where hx hb hts hK hP hown (hts _ tw_681) dX1_step_53 ?_
      refine lv_iload hx hb dX1_step_56 (lv_at hl 1 rfl) ?_
      refine ldCX1_where hx hb hK hP hN c8 dX1_step_58 (fun x10 e_x10 => ?_)
      replace hw := hw x10 e_x10
      refine lv_land hx hb dX1_step_59 ?_
      refine lv_iconst (v := I 1) hx hb dX1_step_60 rfl ?_
      refine bi_lshl hx hb dX1_step_61 ?_
      refine lv_lstore (lv' := [(9, .long (j_shl (x3 &&& x10) 1)), (7, .long (j_shl (x2 &&& x9) 1)), (11, .int (I x5)), (5, .long x3), (3, .long x2), (0, .ref (q 9)), (1, .int (I n1)), (2, .int (I n2))]) hx hb dX1_step_62 hl (by decide) rfl (fun ls hl => ?_)
      refine lv_goto (tgt := 180) hx hb dX1_step_64 (by decide) ?_
      exact (hP180 _ _ _ _).mp hw r_n2 hN hF H locs ls hP hD hS (lv_sub hl [5, 7, 1, 0] rfl)
  ·
    intro u2 u3 u5 u7 u9 u11 u12 τ hw
    refine (hP75 _ _ _ _ _ _ _ _).mpr ?_
    intro r_u2 r_u11 r_u12 hN hF H locs ls hP hD hS hl
    have hB := hN
    refine lv_iload hx hb dX1_step_75 (lv_at hl 7 rfl) ?_
    refine lv_aload_n hx hb dX1_step_77 rfl (lv_at hl 0 rfl) ?_
    refine gfX1_length hx hb hts hK hP hown (hts _ tw_676) (x := τ.1 50) rfl dX1_step_78 ?_
    refine bi_icmp_ge (tgt := 180) hx hb r_u12 (hB.1 50) dX1_step_81 (by decide) (fun c11 => ?_) (fun c11 => ?_)
    ·
      replace hw := hw.1 c11
      exact (hP180 _ _ _ _).mp hw r_u2 hN hF H locs ls hP hD hS (lv_sub hl [0, 1, 4, 5] rfl)
    ·
      replace hw := hw.2 c11
      refine lv_lload_n hx hb dX1_step_84 rfl (lv_at hl 2 rfl) ?_
      refine lv_iload hx hb dX1_step_85 (lv_at hl 7 rfl) ?_
      refine bi_lushr hx hb dX1_step_87 ?_
      refine lv_lconst (v := 1) hx hb dX1_step_88 (by decide) ?_
      refine lv_land hx hb dX1_step_89 ?_
      refine lv_lconst (v := 0) hx hb dX1_step_90 (by decide) ?_
      refine bi_lcmp_eq (tgt := 174) hx hb dX1_step_91 dX1_step_92 (by decide) (fun c12 => ?_) (fun c12 => ?_)
      ·
        replace hw := hw.1 c12
        refine lv_iinc (v := I (u12 + 1)) (lv' := [(12, .int (I (u12 + 1))), (0, .ref (q 9)), (2, .int (I u2)), (3, .long u3), (5, .long u5), (7, .long u7), (9, .long u9), (11, .int (I u11))]) hx hb dX1_step_174 hl (k := 7) rfl (I_add _ _) (by decide) rfl (fun ls hl => ?_)
        refine lv_goto (tgt := 75) hx hb dX1_step_177 (by decide) ?_
        obtain ⟨c13, hw⟩ := hw
        exact (hP75 _ _ _ _ _ _ _ _).mp hw r_u2 r_u11 c13 hN hF H locs ls hP hD hS (lv_sub hl [1, 2, 3, 4, 5, 6, 7, 0] rfl)
      ·
        replace hw := hw.2 c12
        refine lv_aload_n hx hb dX1_step_95 rfl (lv_at hl 0 rfl) ?_
        refine gfX1_has hx hb hts hK hP hown (hts _ tw_683) dX1_step_96 ?_
        refine lv_iload hx hb dX1_step_99 (lv_at hl 6 rfl) ?_
        refine lv_iconst (v := I (-1)) hx hb dX1_step_101 rfl ?_
        refine bi_inot hx hb dX1_step_102 ?_
        refine lv_bipush (v := I 60) hx hb dX1_step_103 (by decide) ?_
        refine bi_imul hx hb dX1_step_105 ?_
        refine lv_iload hx hb dX1_step_106 (lv_at hl 7 rfl) ?_
        refine bi_iadd hx hb dX1_step_108 ?_
        obtain ⟨c14, hw⟩ := hw
        refine ldCX1_has hx hb hK hP hN c14 dX1_step_109 (fun x15 e_x15 => ?_)
        replace hw := hw x15 e_x15
        refine lv_lstore (lv' := [(13, .long x15), (0, .ref (q 9)), (2, .int (I u2)), (3, .long u3), (5, .long u5), (7, .long u7), (9, .long u9), (11, .int (I u11)), (12, .int (I u12))]) hx hb dX1_step_110 hl (by decide) rfl (fun ls hl => ?_)
        refine lv_lload hx hb dX1_step_112 (lv_at hl 4 rfl) ?_
        refine lv_iload hx hb dX1_step_114 (lv_at hl 8 rfl) ?_
        refine bi_lushr hx hb dX1_step_116 ?_
        refine lv_lconst (v := 1) hx hb dX1_step_117 (by decide) ?_
        refine lv_land hx hb dX1_step_118 ?_
        refine lv_lconst (v := 0) hx hb dX1_step_119 (by decide) ?_
        refine bi_lcmp_eq (tgt := 128) hx hb dX1_step_120 dX1_step_121 (by decide) (fun c16 => ?_) (fun c16 => ?_)
        ·
          replace hw := hw.1 c16
          refine lv_iconst (v := I 0) hx hb dX1_step_128 rfl ?_
          exact (hP129 _ _ _ _ _ _ _ _ _ _).mp hw r_u2 r_u11 r_u12 (by decide) hN hF H locs ls hP hD hS (lv_sub hl [1, 2, 3, 4, 5, 6, 7, 8, 0] rfl)
        ·
          replace hw := hw.2 c16
          refine lv_iconst (v := I 1) hx hb dX1_step_124 rfl ?_
          refine lv_goto (tgt := 129) hx hb dX1_step_125 (by decide) ?_
          exact (hP129 _ _ _ _ _ _ _ _ _ _).mp hw r_u2 r_u11 r_u12 (by decide) hN hF H locs ls hP hD hS (lv_sub hl [1, 2, 3, 4, 5, 6, 7, 8, 0] rfl)
  ·
    intro u2 u3 u5 u7 u9 u11 u12 u13 k0 τ hw
    refine (hP129 _ _ _ _ _ _ _ _ _ _).mpr ?_
    intro r_u2 r_u11 r_u12 r_k0 hN hF H locs ls hP hD hS hl
    have hB := hN
    refine lv_istore (lv' := [(15, .int (I k0)), (0, .ref (q 9)), (2, .int (I u2)), (3, .long u3), (5, .long u5), (7, .long u7), (9, .long u9), (11, .int (I u11)), (12, .int (I u12)), (13, .long u13)]) hx hb dX1_step_129 hl (by decide) rfl (fun ls hl => ?_)
    refine lv_lload hx hb dX1_step_131 (lv_at hl 6 rfl) ?_
    refine lv_lload hx hb dX1_step_133 (lv_at hl 5 rfl) ?_
    refine lv_lload hx hb dX1_step_135 (lv_at hl 9 rfl) ?_
    refine lv_land hx hb dX1_step_137 ?_
    refine lv_iload hx hb dX1_step_138 (lv_at hl 0 rfl) ?_
    refine bi_if_eq (tgt := 148) hx hb r_k0 dX1_step_140 (by decide) (fun c21 => ?_) (fun c21 => ?_)
    ·
      replace hw := hw.1 c21
      refine lv_aload_n hx hb dX1_step_148 rfl (lv_at hl 1 rfl) ?_
      refine gfX1_several hx hb hts hK hP hown (hts _ tw_685) dX1_step_149 ?_
      refine lv_iload hx hb dX1_step_152 (lv_at hl 7 rfl) ?_
      refine lv_iconst (v := I (-1)) hx hb dX1_step_154 rfl ?_
      refine bi_inot hx hb dX1_step_155 ?_
      refine lv_bipush (v := I 60) hx hb dX1_step_156 (by decide) ?_
      refine bi_imul hx hb dX1_step_158 ?_
      refine lv_iload hx hb dX1_step_159 (lv_at hl 8 rfl) ?_
      refine bi_iadd hx hb dX1_step_161 ?_
      obtain ⟨c22, hw⟩ := hw
      refine ldCX1_several hx hb hK hP hN c22 dX1_step_162 (fun x23 e_x23 => ?_)
      replace hw := hw x23 e_x23
      refine lv_lor hx hb dX1_step_163 ?_
      refine lv_lor hx hb dX1_step_164 ?_
      refine lv_lstore (lv' := [(9, .long (u9 ||| ((u7 &&& u13) ||| x23))), (15, .int (I k0)), (0, .ref (q 9)), (2, .int (I u2)), (3, .long u3), (5, .long u5), (7, .long u7), (11, .int (I u11)), (12, .int (I u12)), (13, .long u13)]) hx hb dX1_step_165 hl (by decide) rfl (fun ls hl => ?_)
      refine lv_lload hx hb dX1_step_167 (lv_at hl 6 rfl) ?_
      refine lv_lload hx hb dX1_step_169 (lv_at hl 9 rfl) ?_
      refine lv_lor hx hb dX1_step_171 ?_
      refine lv_lstore (lv' := [(7, .long (u7 ||| u13)), (9, .long (u9 ||| ((u7 &&& u13) ||| x23))), (15, .int (I k0)), (0, .ref (q 9)), (2, .int (I u2)), (3, .long u3), (5, .long u5), (11, .int (I u11)), (12, .int (I u12)), (13, .long u13)]) hx hb dX1_step_172 hl (by decide) rfl (fun ls hl => ?_)
      refine lv_iinc (v := I (u12 + 1)) (lv' := [(12, .int (I (u12 + 1))), (7, .long (u7 ||| u13)), (9, .long (u9 ||| ((u7 &&& u13) ||| x23))), (15, .int (I k0)), (0, .ref (q 9)), (2, .int (I u2)), (3, .long u3), (5, .long u5), (11, .int (I u11)), (13, .long u13)]) hx hb dX1_step_174 hl (k := 8) rfl (I_add _ _) (by decide) rfl (fun ls hl => ?_)
      refine lv_goto (tgt := 75) hx hb dX1_step_177 (by decide) ?_
      obtain ⟨c24, hw⟩ := hw
      exact (hP75 _ _ _ _ _ _ _ _).mp hw r_u2 r_u11 c24 hN hF H locs ls hP hD hS (lv_sub hl [4, 5, 6, 7, 1, 2, 8, 0] rfl)
    ·
      replace hw := hw.2 c21
      refine lv_lload hx hb dX1_step_143 (lv_at hl 9 rfl) ?_
      refine lv_goto (tgt := 163) hx hb dX1_step_145 (by decide) ?_
      refine lv_lor hx hb dX1_step_163 ?_
      refine lv_lor hx hb dX1_step_164 ?_
      refine lv_lstore (lv' := [(9, .long (u9 ||| ((u7 &&& u13) ||| u13))), (15, .int (I k0)), (0, .ref (q 9)), (2, .int (I u2)), (3, .long u3), (5, .long u5), (7, .long u7), (11, .int (I u11)), (12, .int (I u12)), (13, .long u13)]) hx hb dX1_step_165 hl (by decide) rfl (fun ls hl => ?_)
      refine lv_lload hx hb dX1_step_167 (lv_at hl 6 rfl) ?_
      refine lv_lload hx hb dX1_step_169 (lv_at hl 9 rfl) ?_
      refine lv_lor hx hb dX1_step_171 ?_
      refine lv_lstore (lv' := [(7, .long (u7 ||| u13)), (9, .long (u9 ||| ((u7 &&& u13) ||| u13))), (15, .int (I k0)), (0, .ref (q 9)), (2, .int (I u2)), (3, .long u3), (5, .long u5), (11, .int (I u11)), (12, .int (I u12)), (13, .long u13)]) hx hb dX1_step_172 hl (by decide) rfl (fun ls hl => ?_)
      refine lv_iinc (v := I (u12 + 1)) (lv' := [(12, .int (I (u12 + 1))), (7, .long (u7 ||| u13)), (9, .long (u9 ||| ((u7 &&& u13) ||| u13))), (15, .int (I k0)), (0, .ref (q 9)), (2, .int (I u2)), (3, .long u3), (5, .long u5), (11, .int (I u11)), (13, .long u13)]) hx hb dX1_step_174 hl (k := 8) rfl (I_add _ _) (by decide) rfl (fun ls hl => ?_)
      refine lv_goto (tgt := 75) hx hb dX1_step_177 (by decide) ?_
      obtain ⟨c25, hw⟩ := hw
      exact (hP75 _ _ _ _ _ _ _ _).mp hw r_u2 r_u11 c25 hN hF H locs ls hP hD hS (lv_sub hl [4, 5, 6, 7, 1, 2, 8, 0] rfl)
  ·
    intro u2 u7 u9 τ hw
    refine (hP180 _ _ _ _).mpr ?_
    intro r_u2 hN hF H locs ls hP hD hS hl
    have hB := hN
    refine lv_lload hx hb dX1_step_180 (lv_at hl 2 rfl) ?_
    refine lv_lconst (v := 0) hx hb dX1_step_182 (by decide) ?_
    refine bi_lcmp_eq (tgt := 198) hx hb dX1_step_183 dX1_step_184 (by decide) (fun c17 => ?_) (fun c17 => ?_)
    ·
      replace hw := hw.1 c17
      refine lv_iconst (v := I 0) hx hb dX1_step_198 rfl ?_
      exact xrz hx hb hr (by decide) hlk hP hK hD hS ⟨_, _, (by decide), rfl, hN, hF, rfl, hw⟩ (Nat.le_of_ble_eq_true rfl) (Nat.le_of_ble_eq_true rfl) dX1_step_199
    ·
      replace hw := hw.2 c17
      refine lv_iload_n hx hb dX1_step_187 rfl (lv_at hl 1 rfl) ?_
      refine lv_iconst (v := I 1) hx hb dX1_step_188 rfl ?_
      refine bi_iadd hx hb dX1_step_189 ?_
      refine lv_aload_n hx hb dX1_step_190 rfl (lv_at hl 0 rfl) ?_
      refine gfX1_stackNode hx hb hts hK hP hown (hts _ tw_688) dX1_step_191 ?_
      refine va_alen hx hb hK hP 99 0 rfl rfl (v := I 61) rfl dX1_step_194 ?_
      obtain ⟨c18, hw⟩ := hw
      refine bi_icmp_lt (tgt := 200) hx hb c18 (by decide) dX1_step_195 (by decide) (fun c19 => ?_) (fun c19 => ?_)
      ·
        replace hw := hw.1 c19
        refine lv_aload_n hx hb dX1_step_200 rfl (lv_at hl 0 rfl) ?_
        refine gfX1_stackHas hx hb hts hK hP hown (hts _ tw_689) dX1_step_201 ?_
        refine lv_iload_n hx hb dX1_step_204 rfl (lv_at hl 1 rfl) ?_
        refine lv_iconst (v := I 1) hx hb dX1_step_205 rfl ?_
        refine bi_iadd hx hb dX1_step_206 ?_
        refine lv_lload hx hb dX1_step_207 (lv_at hl 2 rfl) ?_
        obtain ⟨c20, hw⟩ := hw
        refine sdCX1_stackHas hx hb hK hP hD hS c20 dX1_step_209 (fun H locs hP hD hS => ?_)
        have hN : n_m (s_b τ 6 (u2 + 1) u7) := n_b (k := 6) (j := (u2 + 1)) (x := u7) hN
        have hF : f_r [] [] [6, 7] σ (s_b τ 6 (u2 + 1) u7) := f_b hF (by decide)
        refine lv_aload_n hx hb dX1_step_210 rfl (lv_at hl 0 rfl) ?_
        refine gfX1_stackSeveral hx hb hts hK hP hown (hts _ tw_690) dX1_step_211 ?_
        refine lv_iload_n hx hb dX1_step_214 rfl (lv_at hl 1 rfl) ?_
        refine lv_iconst (v := I 1) hx hb dX1_step_215 rfl ?_
        refine bi_iadd hx hb dX1_step_216 ?_
        refine lv_lload hx hb dX1_step_217 (lv_at hl 3 rfl) ?_
        refine sdCX1_stackSeveral hx hb hK hP hD hS c20 dX1_step_219 (fun H locs hP hD hS => ?_)
        have hN : n_m (s_b (s_b τ 6 (u2 + 1) u7) 7 (u2 + 1) u9) := n_b (k := 7) (j := (u2 + 1)) (x := u9) hN
        have hF : f_r [] [] [6, 7] σ (s_b (s_b τ 6 (u2 + 1) u7) 7 (u2 + 1) u9) := f_b hF (by decide)
        refine lv_iconst (v := I 1) hx hb dX1_step_220 rfl ?_
        exact xrz hx hb hr (by decide) hlk hP hK hD hS ⟨_, _, (by decide), rfl, hN, hF, rfl, hw⟩ (Nat.le_of_ble_eq_true rfl) (Nat.le_of_ble_eq_true rfl) dX1_step_221
      ·
        replace hw := hw.2 c19
        refine lv_iconst (v := I 0) hx hb dX1_step_198 rfl ?_
        exact xrz hx hb hr (by decide) hlk hP hK hD hS ⟨_, _, (by decide), rfl, hN, hF, rfl, hw⟩ (Nat.le_of_ble_eq_true rfl) (Nat.le_of_ble_eq_true rfl) dX1_step_199
def W_X1_walk (n1 : Int) (n2 : Int64) (n4 : Int64) (n6 : Int) (σ : S0) (Q : S0 → Prop) : Prop :=
  ∀ (P30 : Int → Int64 → Int64 → S0 → Prop) (P66 : Int → Int → S0 → Prop),
  (∀ (u1 : Int) (u2 : Int64) (u4 : Int64) (τ : S0), ((0 ≤ u1 ∧ u1 < 30001) ∧ (∀ (x9 : Int), rg x9 → x9 = τ.2.1 67 u1 → (P66 0 0 (s_b (s_b (s_a τ 80 0 x9) 6 0 u2) 7 0 u4)))) → P30 u1 u2 u4 τ) →
  (∀ (u7 : Int) (u8 : Int) (τ : S0), ((1000000 ≤ u8 → Q τ) ∧ (u8 < 1000000 → (u7 < 0 → Q τ) ∧ (0 ≤ u7 → (0 ≤ u7 ∧ u7 < 61) ∧ (∀ (x13 : Int), rg x13 → x13 = τ.2.1 80 u7 → ((¬ x13 = 0 → (0 ≤ x13 ∧ x13 < 30001) ∧ (∀ (x16 : Int), rg x16 → x16 = τ.2.1 68 x13 → (∀ (x17 : Int), rg x17 → x17 = τ.2.1 70 x13 → ((τ.1 51 ≤ x17 → rg (u8 + 1) ∧ P66 u7 (u8 + 1) (s_a τ 80 u7 x16)) ∧ (x17 < τ.1 51 → ∃ (Q20 : Int → S0 → Prop), W_X1_step x13 u7 (s_a τ 80 u7 x16) Q20 ∧ ∀ (x21 : Int) (τ22 : S0), rg x21 → n_m τ22 → f_r [] [] [6, 7] (s_a τ 80 u7 x16) τ22 → Q20 x21 τ22 → ((x21 = 0 → rg (u8 + 1) ∧ P66 u7 (u8 + 1) τ22) ∧ (¬ x21 = 0 → (0 ≤ (u7 + 1) ∧ (u7 + 1) < 61) ∧ (∀ (x26 : Int64), x26 = τ22.2.2 6 (u7 + 1) → (∀ (x27 : Int64), x27 = τ22.2.2 7 (u7 + 1) → (∃ (Q28 : S0 → Prop), W_X1_addRules x13 x26 x27 τ22 Q28 ∧ ∀ (τ30 : S0), n_m τ30 → f_r [] [79] [4, 5] τ22 τ30 → Q28 τ30 → (∀ (x31 : Int), rg x31 → x31 = τ30.2.1 67 x13 → (rg (u8 + 1) ∧ P66 (u7 + 1) (u8 + 1) (s_a τ30 80 (u7 + 1) x31))))))))))))) ∧ (x13 = 0 → rg (u7 + (-1)) ∧ rg (u8 + 1) ∧ P66 (u7 + (-1)) (u8 + 1) τ)))))) → P66 u7 u8 τ) →
  (0 ≤ n1 ∧ n1 < 30001) ∧ (∀ (x2 : Int), rg x2 → x2 = σ.2.1 70 n1 → ((x2 < σ.1 51 → (n6 = 0 → P30 n1 n2 n4 σ) ∧ (¬ n6 = 0 → ∃ (Q5 : S0 → Prop), W_X1_addRules n1 n2 n4 σ Q5 ∧ ∀ (τ7 : S0), n_m τ7 → f_r [] [79] [4, 5] σ τ7 → Q5 τ7 → (P30 n1 n2 n4 τ7))) ∧ (σ.1 51 ≤ x2 → Q σ)))
set_option maxRecDepth 100000 in
set_option maxHeartbeats 4000000 in
theorem L_X1_walk (l : Launch) (g : gG) (q : Nat → Nat) (lb : Nat) (hlb : lb < 2 ^ 31) {n1 : Int} {n2 : Int64} {n4 : Int64} {n6 : Int} {σ : S0} {Q : S0 → Prop} (r_n1 : rg n1) (r_n6 : rg n6) (hN : n_m σ) (hw : W_X1_walk n1 n2 n4 n6 σ Q) (sz : Nat) : MetV l yX1_walk cX1_walk 10 { frames := 2, cells := 0, slots := 0, locals := 57 } g [.ref (q 9), .int (I n1), .long n2, .long n4, .int (I n6)] (CX g q lb σ) sz xT (p_V (CX g q lb) [] [79, 80] [4, 5, 6, 7] σ Q) 0 0 := by
  refine mkMet (Qc := fun A => QV g A (p_V (CX g q lb) [] [79, 80] [4, 5, 6, 7] σ Q)) (by decide) (Nat.le_of_ble_eq_true rfl) ?_
  intro p e s m below meth c A H ls hx hb hr hml hown hts hlk hnm hsz hP hK hNb hD hA hAe hS hX hl
  have hl : lv_has ls 10 [(0, .ref (q 9)), (1, .int (I n1)), (2, .long n2), (4, .long n4), (6, .int (I n6))] := hl
  have hB := hN
  have hF : f_r [] [79, 80] [4, 5, 6, 7] σ σ := f_0
  obtain ⟨locs, hlocs⟩ : ∃ z : List Loc, z = [] := ⟨_, rfl⟩
  rw [← hlocs] at hS ⊢
  obtain ⟨P30, hP30⟩ : ∃ P : Int → Int64 → Int64 → S0 → Prop, ∀ (u1 : Int) (u2 : Int64) (u4 : Int64) (τ : S0), (P u1 u2 u4 τ ↔ (rg u1 → n_m τ → f_r [] [79, 80] [4, 5, 6, 7] σ τ → ∀ (H : Heap) (locs : List Loc) (ls : Array Slot), KP g (CX g q lb τ) H → va_D A (CX g q lb τ) → va_S A s.heap H locs → lv_has ls 10 [(0, .ref (q 9)), (1, .int (I u1)), (2, .long u2), (4, .long u4)] → W p l e ({ frames := 2, cells := 0, slots := 0, locals := 57 }) s m [.ref (q 9), .int (I n1), .long n2, .long n4, .int (I n6)].toArray below meth c H locs 0 0 (MQ below (QV g A (p_V (CX g q lb) [] [79, 80] [4, 5, 6, 7] σ Q)) [.ref (q 9), .int (I n1), .long n2, .long n4, .int (I n6)].toArray s 0 0 A) (F0 m 30 ls []))) := ⟨_, fun _ _ _ _ => Iff.rfl⟩
  obtain ⟨P66, hP66⟩ : ∃ P : Int → Int → S0 → Prop, ∀ (u7 : Int) (u8 : Int) (τ : S0), (P u7 u8 τ ↔ (rg u7 → rg u8 → n_m τ → f_r [] [79, 80] [4, 5, 6, 7] σ τ → ∀ (H : Heap) (locs : List Loc) (ls : Array Slot), KP g (CX g q lb τ) H → va_D A (CX g q lb τ) → va_S A s.heap H locs → lv_has ls 10 [(0, .ref (q 9)), (7, .int (I u7)), (8, .int (I u8))] → W p l e ({ frames := 2, cells := 0, slots := 0, locals := 57 }) s m [.ref (q 9), .int (I n1), .long n2, .long n4, .int (I n6)].toArray below meth c H locs 0 0 (MQ below (QV g A (p_V (CX g q lb) [] [79, 80] [4, 5, 6, 7] σ Q)) [.ref (q 9), .int (I n1), .long n2, .long n4, .int (I n6)].toArray s 0 0 A) (F0 m 66 ls []))) := ⟨_, fun _ _ _ => Iff.rfl⟩
  refine (fun hw => ?_) (hw P30 P66 ?_ ?_)
  ·
    refine lv_aload_n hx hb dX1_walk_0 rfl (lv_at hl 0 rfl) ?_
    refine gfX1_rules hx hb hts hK hP hown (hts _ tw_671) dX1_walk_1 ?_
    refine gfNX8_born hx hb hts hK hP hown (nb_use hNb tn_608) dX1_walk_4 ?_
    refine lv_iload_n hx hb dX1_walk_7 rfl (lv_at hl 1 rfl) ?_
    obtain ⟨c1, hw⟩ := hw
    refine ldCX8_born hx hb hK hP hN c1 dX1_walk_8 (fun x2 r_x2 e_x2 => ?_)
    replace hw := hw x2 r_x2 e_x2
    refine lv_aload_n hx hb dX1_walk_9 rfl (lv_at hl 0 rfl) ?_
    refine gfX1_limit hx hb hts hK hP hown (hts _ tw_678) (x := σ.1 51) rfl dX1_walk_10 ?_
    refine bi_icmp_lt (tgt := 17) hx hb r_x2 (hB.1 51) dX1_walk_13 (by decide) (fun c3 => ?_) (fun c3 => ?_)
    ·
      replace hw := hw.1 c3
      refine lv_iload hx hb dX1_walk_17 (lv_at hl 4 rfl) ?_
      refine bi_if_eq (tgt := 30) hx hb r_n6 dX1_walk_19 (by decide) (fun c4 => ?_) (fun c4 => ?_)
      ·
        replace hw := hw.1 c4
        exact (hP30 _ _ _ _).mp hw r_n1 hN hF H locs ls hP hD hS (lv_sub hl [0, 1, 2, 3] rfl)
      ·
        replace hw := hw.2 c4
        refine lv_aload_n hx hb dX1_walk_22 rfl (lv_at hl 0 rfl) ?_
        refine lv_iload_n hx hb dX1_walk_23 rfl (lv_at hl 1 rfl) ?_
        refine lv_lload_n hx hb dX1_walk_24 rfl (lv_at hl 2 rfl) ?_
        refine lv_lload hx hb dX1_walk_25 (lv_at hl 3 rfl) ?_
        obtain ⟨Q5, hc, hw⟩ := hw
        refine wc_V (X := CX g q lb) (va_runV (As := [.int (I n1), .long n2, .long n4]) (rest := []) ⟨hx, hb, hml, hown, hts⟩ (L_X1_addRules l g q lb hlb r_n1 hN hc H.size) (cwV 3 hts (TB_V tw_1740 tw_1742 ts_74 tw_11 co_X1_addRules) rfl rfl rfl (by decide +kernel) ⟨Nat.le_of_ble_eq_true rfl, Nat.le_of_ble_eq_true rfl⟩) (preV (q0 := 9) (ci := 1) rfl xT_bl hP hK hNb hD rfl rfl xT_at) rfl rfl hl.1 rfl (lv_room (Nat.le_of_ble_eq_true rfl)) dX1_walk_27 ⟨Nat.le_of_ble_eq_true rfl, Nat.le_of_ble_eq_true rfl⟩) hP hD hS hA (fun τ7 H locs hN hf hq hP hD hS => ?_)
        replace hw := hw τ7 hN hf hq
        have hF : f_r [] [79, 80] [4, 5, 6, 7] σ τ7 := f_t hF hf (by decide) (by decide) (by decide)
        have hB := hN
        exact (hP30 _ _ _ _).mp hw r_n1 hN hF H locs ls hP hD hS (lv_sub hl [0, 1, 2, 3] rfl)
    ·
      replace hw := hw.2 c3
      exact xrv hx hb hr hlk hP hK hD hS ⟨_, hN, hF, rfl, hw⟩ (Nat.le_of_ble_eq_true rfl) (Nat.le_of_ble_eq_true rfl) dX1_walk_16
  ·
    intro u1 u2 u4 τ hw
    refine (hP30 _ _ _ _).mpr ?_
    intro r_u1 hN hF H locs ls hP hD hS hl
    have hB := hN
    refine lv_iconst (v := I 0) hx hb dX1_walk_30 rfl ?_
    refine lv_istore (lv' := [(7, .int (I 0)), (0, .ref (q 9)), (1, .int (I u1)), (2, .long u2), (4, .long u4)]) hx hb dX1_walk_31 hl (by decide) rfl (fun ls hl => ?_)
    refine lv_aload_n hx hb dX1_walk_33 rfl (lv_at hl 1 rfl) ?_
    refine gfX1_stackNode hx hb hts hK hP hown (hts _ tw_688) dX1_walk_34 ?_
    refine lv_iconst (v := I 0) hx hb dX1_walk_37 rfl ?_
    refine lv_aload_n hx hb dX1_walk_38 rfl (lv_at hl 1 rfl) ?_
    refine gfX1_rules hx hb hts hK hP hown (hts _ tw_671) dX1_walk_39 ?_
    refine gfNX8_firstChild hx hb hts hK hP hown (nb_use hNb tn_602) dX1_walk_42 ?_
    refine lv_iload_n hx hb dX1_walk_45 rfl (lv_at hl 2 rfl) ?_
    obtain ⟨c8, hw⟩ := hw
    refine ldCX8_firstChild hx hb hK hP hN c8 dX1_walk_46 (fun x9 r_x9 e_x9 => ?_)
    replace hw := hw x9 r_x9 e_x9
    refine sdCX1_stackNode hx hb hK hP hD hS (by decide) dX1_walk_47 (fun H locs hP hD hS => ?_)
    have hN : n_m (s_a τ 80 0 x9) := n_a (k := 80) (j := 0) hN (r_x9 : rg x9)
    have hF : f_r [] [79, 80] [4, 5, 6, 7] σ (s_a τ 80 0 x9) := f_a hF (by decide)
    refine lv_aload_n hx hb dX1_walk_48 rfl (lv_at hl 1 rfl) ?_
    refine gfX1_stackHas hx hb hts hK hP hown (hts _ tw_689) dX1_walk_49 ?_
    refine lv_iconst (v := I 0) hx hb dX1_walk_52 rfl ?_
    refine lv_lload_n hx hb dX1_walk_53 rfl (lv_at hl 3 rfl) ?_
    refine sdCX1_stackHas hx hb hK hP hD hS (by decide) dX1_walk_54 (fun H locs hP hD hS => ?_)
    have hN : n_m (s_b (s_a τ 80 0 x9) 6 0 u2) := n_b (k := 6) (j := 0) (x := u2) hN
    have hF : f_r [] [79, 80] [4, 5, 6, 7] σ (s_b (s_a τ 80 0 x9) 6 0 u2) := f_b hF (by decide)
    refine lv_aload_n hx hb dX1_walk_55 rfl (lv_at hl 1 rfl) ?_
    refine gfX1_stackSeveral hx hb hts hK hP hown (hts _ tw_690) dX1_walk_56 ?_
    refine lv_iconst (v := I 0) hx hb dX1_walk_59 rfl ?_
    refine lv_lload hx hb dX1_walk_60 (lv_at hl 4 rfl) ?_
    refine sdCX1_stackSeveral hx hb hK hP hD hS (by decide) dX1_walk_62 (fun H locs hP hD hS => ?_)
    have hN : n_m (s_b (s_b (s_a τ 80 0 x9) 6 0 u2) 7 0 u4) := n_b (k := 7) (j := 0) (x := u4) hN
    have hF : f_r [] [79, 80] [4, 5, 6, 7] σ (s_b (s_b (s_a τ 80 0 x9) 6 0 u2) 7 0 u4) := f_b hF (by decide)
    refine lv_iconst (v := I 0) hx hb dX1_walk_63 rfl ?_
    refine lv_istore (lv' := [(8, .int (I 0)), (7, .int (I 0)), (0, .ref (q 9)), (1, .int (I u1)), (2, .long u2), (4, .long u4)]) hx hb dX1_walk_64 hl (by decide) rfl (fun ls hl => ?_)
    exact (hP66 _ _ _).mp hw (by decide) (by decide) hN hF H locs ls hP hD hS (lv_sub hl [2, 1, 0] rfl)
  ·
    intro u7 u8 τ hw
    refine (hP66 _ _ _).mpr ?_
    intro r_u7 r_u8 hN hF H locs ls hP hD hS hl
    have hB := hN
    refine lv_iload hx hb dX1_walk_66 (lv_at hl 2 rfl) ?_
    refine lv_ldc (own := RX1) (v := 1000000) hx hb hown (hts _ tw_1744) dX1_walk_68 ?_
    refine xtop (y := I 1000000) (by decide) ?_
    refine bi_icmp_ge (tgt := 189) hx hb r_u8 (by decide) dX1_walk_70 (by decide) (fun c10 => ?_) (fun c10 => ?_)
    ·
      replace hw := hw.1 c10
      exact xrv hx hb hr hlk hP hK hD hS ⟨_, hN, hF, rfl, hw⟩ (Nat.le_of_ble_eq_true rfl) (Nat.le_of_ble_eq_true rfl) dX1_walk_189
    ·
      replace hw := hw.2 c10
      refine lv_iload hx hb dX1_walk_73 (lv_at hl 1 rfl) ?_
      refine bi_if_lt (tgt := 189) hx hb r_u7 dX1_walk_75 (by decide) (fun c11 => ?_) (fun c11 => ?_)
      ·
        replace hw := hw.1 c11
        exact xrv hx hb hr hlk hP hK hD hS ⟨_, hN, hF, rfl, hw⟩ (Nat.le_of_ble_eq_true rfl) (Nat.le_of_ble_eq_true rfl) dX1_walk_189
      ·
        replace hw := hw.2 c11
        refine lv_aload_n hx hb dX1_walk_78 rfl (lv_at hl 0 rfl) ?_
        refine gfX1_stackNode hx hb hts hK hP hown (hts _ tw_688) dX1_walk_79 ?_
        refine lv_iload hx hb dX1_walk_82 (lv_at hl 1 rfl) ?_
        obtain ⟨c12, hw⟩ := hw
        refine ldCX1_stackNode hx hb hK hP hN c12 dX1_walk_84 (fun x13 r_x13 e_x13 => ?_)
        replace hw := hw x13 r_x13 e_x13
        refine lv_istore (lv' := [(9, .int (I x13)), (0, .ref (q 9)), (7, .int (I u7)), (8, .int (I u8))]) hx hb dX1_walk_85 hl (by decide) rfl (fun ls hl => ?_)
        refine lv_iload hx hb dX1_walk_87 (lv_at hl 0 rfl) ?_
        refine bi_if_ne (tgt := 98) hx hb r_x13 dX1_walk_89 (by decide) (fun c14 => ?_) (fun c14 => ?_)
        ·
          replace hw := hw.1 c14
          refine lv_aload_n hx hb dX1_walk_98 rfl (lv_at hl 1 rfl) ?_
          refine gfX1_stackNode hx hb hts hK hP hown (hts _ tw_688) dX1_walk_99 ?_
          refine lv_iload hx hb dX1_walk_102 (lv_at hl 2 rfl) ?_
          refine lv_aload_n hx hb dX1_walk_104 rfl (lv_at hl 1 rfl) ?_
          refine gfX1_rules hx hb hts hK hP hown (hts _ tw_671) dX1_walk_105 ?_
          refine gfNX8_sibling hx hb hts hK hP hown (nb_use hNb tn_604) dX1_walk_108 ?_
          refine lv_iload hx hb dX1_walk_111 (lv_at hl 0 rfl) ?_
          obtain ⟨c15, hw⟩ := hw
          refine ldCX8_sibling hx hb hK hP hN c15 dX1_walk_113 (fun x16 r_x16 e_x16 => ?_)
          replace hw := hw x16 r_x16 e_x16
          refine sdCX1_stackNode hx hb hK hP hD hS c12 dX1_walk_114 (fun H locs hP hD hS => ?_)
          have hN : n_m (s_a τ 80 u7 x16) := n_a (k := 80) (j := u7) hN (r_x16 : rg x16)
          have hF : f_r [] [79, 80] [4, 5, 6, 7] σ (s_a τ 80 u7 x16) := f_a hF (by decide)
          refine lv_aload_n hx hb dX1_walk_115 rfl (lv_at hl 1 rfl) ?_
          refine gfX1_rules hx hb hts hK hP hown (hts _ tw_671) dX1_walk_116 ?_
          refine gfNX8_born hx hb hts hK hP hown (nb_use hNb tn_608) dX1_walk_119 ?_
          refine lv_iload hx hb dX1_walk_122 (lv_at hl 0 rfl) ?_
          refine ldCX8_born hx hb hK hP hN c15 dX1_walk_124 (fun x17 r_x17 e_x17 => ?_)
          replace hw := hw x17 r_x17 e_x17
          refine lv_aload_n hx hb dX1_walk_125 rfl (lv_at hl 1 rfl) ?_
          refine gfX1_limit hx hb hts hK hP hown (hts _ tw_678) (x := τ.1 51) rfl dX1_walk_126 ?_
          refine bi_icmp_ge (tgt := 183) hx hb r_x17 (hB.1 51) dX1_walk_129 (by decide) (fun c18 => ?_) (fun c18 => ?_)
          ·
            replace hw := hw.1 c18
            refine lv_iinc (v := I (u8 + 1)) (lv' := [(8, .int (I (u8 + 1))), (9, .int (I x13)), (0, .ref (q 9)), (7, .int (I u7))]) hx hb dX1_walk_183 hl (k := 3) rfl (I_add _ _) (by decide) rfl (fun ls hl => ?_)
            refine lv_goto (tgt := 66) hx hb dX1_walk_186 (by decide) ?_
            obtain ⟨c19, hw⟩ := hw
            exact (hP66 _ _ _).mp hw r_u7 c19 hN hF H locs ls hP hD hS (lv_sub hl [2, 3, 0] rfl)
          ·
            replace hw := hw.2 c18
            refine lv_aload_n hx hb dX1_walk_132 rfl (lv_at hl 1 rfl) ?_
            refine lv_iload hx hb dX1_walk_133 (lv_at hl 0 rfl) ?_
            refine lv_iload hx hb dX1_walk_135 (lv_at hl 2 rfl) ?_
            obtain ⟨Q20, hc, hw⟩ := hw
            refine wc_I (X := CX g q lb) (va_runV (As := [.int (I x13), .int (I u7)]) (rest := []) ⟨hx, hb, hml, hown, hts⟩ (L_X1_step l g q lb hlb r_x13 r_u7 hN hc H.size) (cwV 2 hts (TB_V tw_1745 tw_1747 ts_75 tw_11 co_X1_step) rfl rfl rfl (by decide +kernel) ⟨Nat.le_of_ble_eq_true rfl, Nat.le_of_ble_eq_true rfl⟩) (preV (q0 := 9) (ci := 1) rfl xT_bl hP hK hNb hD rfl rfl xT_at) rfl rfl hl.1 rfl (lv_room (Nat.le_of_ble_eq_true rfl)) dX1_walk_137 ⟨Nat.le_of_ble_eq_true rfl, Nat.le_of_ble_eq_true rfl⟩) hP hD hS hA (fun x21 τ22 H locs r_x21 hN hf hq hP hD hS => ?_)
            replace hw := hw x21 τ22 r_x21 hN hf hq
            have hF : f_r [] [79, 80] [4, 5, 6, 7] σ τ22 := f_t hF hf (by decide) (by decide) (by decide)
            have hB := hN
            refine bi_if_eq (tgt := 183) hx hb r_x21 dX1_walk_140 (by decide) (fun c23 => ?_) (fun c23 => ?_)
            ·
              replace hw := hw.1 c23
              refine lv_iinc (v := I (u8 + 1)) (lv' := [(8, .int (I (u8 + 1))), (9, .int (I x13)), (0, .ref (q 9)), (7, .int (I u7))]) hx hb dX1_walk_183 hl (k := 3) rfl (I_add _ _) (by decide) rfl (fun ls hl => ?_)
              refine lv_goto (tgt := 66) hx hb dX1_walk_186 (by decide) ?_
              obtain ⟨c24, hw⟩ := hw
              exact (hP66 _ _ _).mp hw r_u7 c24 hN hF H locs ls hP hD hS (lv_sub hl [2, 3, 0] rfl)
            ·
              replace hw := hw.2 c23
              refine lv_iinc (v := I (u7 + 1)) (lv' := [(7, .int (I (u7 + 1))), (9, .int (I x13)), (0, .ref (q 9)), (8, .int (I u8))]) hx hb dX1_walk_143 hl (k := 2) rfl (I_add _ _) (by decide) rfl (fun ls hl => ?_)
              refine lv_aload_n hx hb dX1_walk_146 rfl (lv_at hl 2 rfl) ?_
              refine lv_iload hx hb dX1_walk_147 (lv_at hl 1 rfl) ?_
              refine lv_aload_n hx hb dX1_walk_149 rfl (lv_at hl 2 rfl) ?_
              refine gfX1_stackHas hx hb hts hK hP hown (hts _ tw_689) dX1_walk_150 ?_
              refine lv_iload hx hb dX1_walk_153 (lv_at hl 0 rfl) ?_
              obtain ⟨c25, hw⟩ := hw
              refine ldCX1_stackHas hx hb hK hP hN c25 dX1_walk_155 (fun x26 e_x26 => ?_)
              replace hw := hw x26 e_x26
              refine lv_aload_n hx hb dX1_walk_156 rfl (lv_at hl 2 rfl) ?_
              refine gfX1_stackSeveral hx hb hts hK hP hown (hts _ tw_690) dX1_walk_157 ?_
              refine lv_iload hx hb dX1_walk_160 (lv_at hl 0 rfl) ?_
              refine ldCX1_stackSeveral hx hb hK hP hN c25 dX1_walk_162 (fun x27 e_x27 => ?_)
              replace hw := hw x27 e_x27
              obtain ⟨Q28, hc, hw⟩ := hw
              refine wc_V (X := CX g q lb) (va_runV (As := [.int (I x13), .long x26, .long x27]) (rest := []) ⟨hx, hb, hml, hown, hts⟩ (L_X1_addRules l g q lb hlb r_x13 hN hc H.size) (cwV 3 hts (TB_V tw_1740 tw_1742 ts_74 tw_11 co_X1_addRules) rfl rfl rfl (by decide +kernel) ⟨Nat.le_of_ble_eq_true rfl, Nat.le_of_ble_eq_true rfl⟩) (preV (q0 := 9) (ci := 1) rfl xT_bl hP hK hNb hD rfl rfl xT_at) rfl rfl hl.1 rfl (lv_room (Nat.le_of_ble_eq_true rfl)) dX1_walk_163 ⟨Nat.le_of_ble_eq_true rfl, Nat.le_of_ble_eq_true rfl⟩) hP hD hS hA (fun τ30 H locs hN hf hq hP hD hS => ?_)
              replace hw := hw τ30 hN hf hq
              have hF : f_r [] [79, 80] [4, 5, 6, 7] σ τ30 := f_t hF hf (by decide) (by decide) (by decide)
              have hB := hN
              refine lv_aload_n hx hb dX1_walk_166 rfl (lv_at hl 2 rfl) ?_
              refine gfX1_stackNode hx hb hts hK hP hown (hts _ tw_688) dX1_walk_167 ?_
              refine lv_iload hx hb dX1_walk_170 (lv_at hl 0 rfl) ?_
              refine lv_aload_n hx hb dX1_walk_172 rfl (lv_at hl 2 rfl) ?_
              refine gfX1_rules hx hb hts hK hP hown (hts _ tw_671) dX1_walk_173 ?_
              refine gfNX8_firstChild hx hb hts hK hP hown (nb_use hNb tn_602) dX1_walk_176 ?_
              refine lv_iload hx hb dX1_walk_179 (lv_at hl 1 rfl) ?_
              refine ldCX8_firstChild hx hb hK hP hN c15 dX1_walk_181 (fun x31 r_x31 e_x31 => ?_)
              replace hw := hw x31 r_x31 e_x31
              refine sdCX1_stackNode hx hb hK hP hD hS c25 dX1_walk_182 (fun H locs hP hD hS => ?_)
              have hN : n_m (s_a τ30 80 (u7 + 1) x31) := n_a (k := 80) (j := (u7 + 1)) hN (r_x31 : rg x31)
              have hF : f_r [] [79, 80] [4, 5, 6, 7] σ (s_a τ30 80 (u7 + 1) x31) := f_a hF (by decide)
              refine lv_iinc (v := I (u8 + 1)) (lv' := [(8, .int (I (u8 + 1))), (7, .int (I (u7 + 1))), (9, .int (I x13)), (0, .ref (q 9))]) hx hb dX1_walk_183 hl (k := 3) rfl (I_add _ _) (by decide) rfl (fun ls hl => ?_)
              refine lv_goto (tgt := 66) hx hb dX1_walk_186 (by decide) ?_
              obtain ⟨c32, hw⟩ := hw
              exact (hP66 _ _ _).mp hw (rg_ix c25.1 c25.2 (by decide)) c32 hN hF H locs ls hP hD hS (lv_sub hl [3, 1, 0] rfl)
        ·
          replace hw := hw.2 c14
          refine lv_iinc (v := I (u7 + (-1))) (lv' := [(7, .int (I (u7 + (-1)))), (9, .int (I x13)), (0, .ref (q 9)), (8, .int (I u8))]) hx hb dX1_walk_92 hl (k := 2) rfl (I_add _ _) (by decide) rfl (fun ls hl => ?_)
          refine lv_goto (tgt := 183) hx hb dX1_walk_95 (by decide) ?_
          refine lv_iinc (v := I (u8 + 1)) (lv' := [(8, .int (I (u8 + 1))), (7, .int (I (u7 + (-1)))), (9, .int (I x13)), (0, .ref (q 9))]) hx hb dX1_walk_183 hl (k := 3) rfl (I_add _ _) (by decide) rfl (fun ls hl => ?_)
          refine lv_goto (tgt := 66) hx hb dX1_walk_186 (by decide) ?_
          obtain ⟨c33, hw⟩ := hw
          obtain ⟨c34, hw⟩ := hw
          exact (hP66 _ _ _).mp hw c33 c34 hN hF H locs ls hP hD hS (lv_sub hl [3, 1, 0] rfl)
def W_X1_reaches (n1 : Int) (n2 : Int) (σ : S0) (Q : Int → Prop) : Prop :=
  (0 ≤ ((n1 * 60) + σ.1 53) ∧ ((n1 * 60) + σ.1 53) < 6000) ∧ (∀ (x2 : Int64), x2 = σ.2.2 4 ((n1 * 60) + σ.1 53) → ((((j_ushr x2 n2) &&& 1) = 0 → Q 0) ∧ (¬ ((j_ushr x2 n2) &&& 1) = 0 → Q 1)))
set_option maxRecDepth 100000 in
set_option maxHeartbeats 4000000 in
theorem L_X1_reaches (l : Launch) (g : gG) (q : Nat → Nat) (lb : Nat) (hlb : lb < 2 ^ 31) {n1 : Int} {n2 : Int} {σ : S0} {Q : Int → Prop} (r_n1 : rg n1) (r_n2 : rg n2) (hN : n_m σ) (hw : W_X1_reaches n1 n2 σ Q) (sz : Nat) : MetI l yX1_reaches cX1_reaches 3 (some .boolean) { frames := 0, cells := 0, slots := 0, locals := 0 } g [.ref (q 9), .int (I n1), .int (I n2)] (CX g q lb σ) sz xT (p_i (CX g q lb) σ Q) 0 0 := by
  refine mkMet (Qc := fun A => QI g A (p_i (CX g q lb) σ Q)) (by decide) (Nat.le_of_ble_eq_true rfl) ?_
  intro p e s m below meth c A H ls hx hb hr hml hown hts hlk hnm hsz hP hK hNb hD hA hAe hS hX hl
  have hl : lv_has ls 3 [(0, .ref (q 9)), (1, .int (I n1)), (2, .int (I n2))] := hl
  have hB := hN
  obtain ⟨locs, hlocs⟩ : ∃ z : List Loc, z = [] := ⟨_, rfl⟩
  rw [← hlocs] at hS ⊢
  refine lv_aload_n hx hb dX1_reaches_0 rfl (lv_at hl 0 rfl) ?_
  refine gfX1_has hx hb hts hK hP hown (hts _ tw_683) dX1_reaches_1 ?_
  refine lv_iload_n hx hb dX1_reaches_4 rfl (lv_at hl 1 rfl) ?_
  refine lv_bipush (v := I 60) hx hb dX1_reaches_5 (by decide) ?_
  refine bi_imul hx hb dX1_reaches_7 ?_
  refine lv_aload_n hx hb dX1_reaches_8 rfl (lv_at hl 0 rfl) ?_
  refine gfX1_start hx hb hts hK hP hown (hts _ tw_687) (x := σ.1 53) rfl dX1_reaches_9 ?_
  refine bi_iadd hx hb dX1_reaches_12 ?_
  obtain ⟨c1, hw⟩ := hw
  refine ldCX1_has hx hb hK hP hN c1 dX1_reaches_13 (fun x2 e_x2 => ?_)
  replace hw := hw x2 e_x2
  refine lv_iload_n hx hb dX1_reaches_14 rfl (lv_at hl 2 rfl) ?_
  refine bi_lushr hx hb dX1_reaches_15 ?_
  refine lv_lconst (v := 1) hx hb dX1_reaches_16 (by decide) ?_
  refine lv_land hx hb dX1_reaches_17 ?_
  refine lv_lconst (v := 0) hx hb dX1_reaches_18 (by decide) ?_
  refine bi_lcmp_eq (tgt := 27) hx hb dX1_reaches_19 dX1_reaches_20 (by decide) (fun c3 => ?_) (fun c3 => ?_)
  ·
    replace hw := hw.1 c3
    refine lv_iconst (v := I 0) hx hb dX1_reaches_27 rfl ?_
    exact xrz hx hb hr (by decide) hlk hP hK hD hS ⟨_, (by decide), rfl, rfl, hw⟩ (Nat.le_of_ble_eq_true rfl) (Nat.le_of_ble_eq_true rfl) dX1_reaches_28
  ·
    replace hw := hw.2 c3
    refine lv_iconst (v := I 1) hx hb dX1_reaches_23 rfl ?_
    refine lv_goto (tgt := 28) hx hb dX1_reaches_24 (by decide) ?_
    exact xrz hx hb hr (by decide) hlk hP hK hD hS ⟨_, (by decide), rfl, rfl, hw⟩ (Nat.le_of_ble_eq_true rfl) (Nat.le_of_ble_eq_true rfl) dX1_reaches_28
def W_X1_hasUnits (n1 : Int) (σ : S0) (Q : Int → Prop) : Prop :=
  ∀ (P2 : Int → Int → Prop),
  (∀ (u1 : Int) (u2 : Int), ((σ.1 46 ≤ u2 → Q 0) ∧ (u2 < σ.1 46 → (0 ≤ u2 ∧ u2 < 1500) ∧ (∀ (x3 : Int), rg x3 → x3 = σ.2.1 75 u2 → ((σ.1 51 ≤ x3 → Q 0) ∧ (x3 < σ.1 51 → ∀ (x5 : Int), rg x5 → x5 = σ.2.1 76 u2 → (∃ (Q6 : Int → Prop), W_X1_reaches x5 u1 σ Q6 ∧ ∀ (x7 : Int), rg x7 → Q6 x7 → ((x7 = 0 → rg (u2 + 1) ∧ P2 u1 (u2 + 1)) ∧ (¬ x7 = 0 → Q 1)))))))) → P2 u1 u2) →
  P2 n1 0
set_option maxRecDepth 100000 in
set_option maxHeartbeats 4000000 in
theorem L_X1_hasUnits (l : Launch) (g : gG) (q : Nat → Nat) (lb : Nat) (hlb : lb < 2 ^ 31) {n1 : Int} {σ : S0} {Q : Int → Prop} (r_n1 : rg n1) (hN : n_m σ) (hw : W_X1_hasUnits n1 σ Q) (sz : Nat) : MetI l yX1_hasUnits cX1_hasUnits 3 (some .boolean) { frames := 1, cells := 0, slots := 0, locals := 22 } g [.ref (q 9), .int (I n1)] (CX g q lb σ) sz xT (p_i (CX g q lb) σ Q) 0 0 := by
  refine mkMet (Qc := fun A => QI g A (p_i (CX g q lb) σ Q)) (by decide) (Nat.le_of_ble_eq_true rfl) ?_
  intro p e s m below meth c A H ls hx hb hr hml hown hts hlk hnm hsz hP hK hNb hD hA hAe hS hX hl
  have hl : lv_has ls 3 [(0, .ref (q 9)), (1, .int (I n1))] := hl
  have hB := hN
  obtain ⟨locs, hlocs⟩ : ∃ z : List Loc, z = [] := ⟨_, rfl⟩
  rw [← hlocs] at hS ⊢
  obtain ⟨P2, hP2⟩ : ∃ P : Int → Int → Prop, ∀ (u1 : Int) (u2 : Int), (P u1 u2 ↔ (rg u1 → rg u2 → ∀ (H : Heap) (locs : List Loc) (ls : Array Slot), KP g (CX g q lb σ) H → va_D A (CX g q lb σ) → va_S A s.heap H locs → lv_has ls 3 [(0, .ref (q 9)), (1, .int (I u1)), (2, .int (I u2))] → W p l e ({ frames := 1, cells := 0, slots := 0, locals := 22 }) s m [.ref (q 9), .int (I n1)].toArray below meth c H locs 0 0 (MQ below (QI g A (p_i (CX g q lb) σ Q)) [.ref (q 9), .int (I n1)].toArray s 0 0 A) (F0 m 2 ls []))) := ⟨_, fun _ _ => Iff.rfl⟩
  refine (fun hw => ?_) (hw P2 ?_)
  ·
    refine lv_iconst (v := I 0) hx hb dX1_hasUnits_0 rfl ?_
    refine lv_istore_n (lv' := [(2, .int (I 0)), (0, .ref (q 9)), (1, .int (I n1))]) hx hb dX1_hasUnits_1 rfl hl (by decide) rfl (fun ls hl => ?_)
    exact (hP2 _ _).mp hw r_n1 (by decide)  H locs ls hP hD hS (lv_sub hl [1, 2, 0] rfl)
  ·
    intro u1 u2 hw
    refine (hP2 _ _).mpr ?_
    intro r_u1 r_u2 H locs ls hP hD hS hl
    refine lv_iload_n hx hb dX1_hasUnits_2 rfl (lv_at hl 2 rfl) ?_
    refine lv_aload_n hx hb dX1_hasUnits_3 rfl (lv_at hl 0 rfl) ?_
    refine gfX1_rules hx hb hts hK hP hown (hts _ tw_671) dX1_hasUnits_4 ?_
    refine gfNX8_units hx hb hts hK hP hown (nb_use hNb tn_623) (x := σ.1 46) rfl dX1_hasUnits_7 ?_
    refine bi_icmp_ge (tgt := 54) hx hb r_u2 (hB.1 46) dX1_hasUnits_10 (by decide) (fun c1 => ?_) (fun c1 => ?_)
    ·
      replace hw := hw.1 c1
      refine lv_iconst (v := I 0) hx hb dX1_hasUnits_54 rfl ?_
      exact xrz hx hb hr (by decide) hlk hP hK hD hS ⟨_, (by decide), rfl, rfl, hw⟩ (Nat.le_of_ble_eq_true rfl) (Nat.le_of_ble_eq_true rfl) dX1_hasUnits_55
    ·
      replace hw := hw.2 c1
      refine lv_aload_n hx hb dX1_hasUnits_13 rfl (lv_at hl 0 rfl) ?_
      refine gfX1_rules hx hb hts hK hP hown (hts _ tw_671) dX1_hasUnits_14 ?_
      refine gfNX8_unitRule hx hb hts hK hP hown (nb_use hNb tn_619) dX1_hasUnits_17 ?_
      refine lv_iload_n hx hb dX1_hasUnits_20 rfl (lv_at hl 2 rfl) ?_
      obtain ⟨c2, hw⟩ := hw
      refine ldCX8_unitRule hx hb hK hP hN c2 dX1_hasUnits_21 (fun x3 r_x3 e_x3 => ?_)
      replace hw := hw x3 r_x3 e_x3
      refine lv_aload_n hx hb dX1_hasUnits_22 rfl (lv_at hl 0 rfl) ?_
      refine gfX1_limit hx hb hts hK hP hown (hts _ tw_678) (x := σ.1 51) rfl dX1_hasUnits_23 ?_
      refine bi_icmp_ge (tgt := 54) hx hb r_x3 (hB.1 51) dX1_hasUnits_26 (by decide) (fun c4 => ?_) (fun c4 => ?_)
      ·
        replace hw := hw.1 c4
        refine lv_iconst (v := I 0) hx hb dX1_hasUnits_54 rfl ?_
        exact xrz hx hb hr (by decide) hlk hP hK hD hS ⟨_, (by decide), rfl, rfl, hw⟩ (Nat.le_of_ble_eq_true rfl) (Nat.le_of_ble_eq_true rfl) dX1_hasUnits_55
      ·
        replace hw := hw.2 c4
        refine lv_aload_n hx hb dX1_hasUnits_29 rfl (lv_at hl 0 rfl) ?_
        refine lv_aload_n hx hb dX1_hasUnits_30 rfl (lv_at hl 0 rfl) ?_
        refine gfX1_rules hx hb hts hK hP hown (hts _ tw_671) dX1_hasUnits_31 ?_
        refine gfNX8_unitFrom hx hb hts hK hP hown (nb_use hNb tn_621) dX1_hasUnits_34 ?_
        refine lv_iload_n hx hb dX1_hasUnits_37 rfl (lv_at hl 2 rfl) ?_
        refine ldCX8_unitFrom hx hb hK hP hN c2 dX1_hasUnits_38 (fun x5 r_x5 e_x5 => ?_)
        replace hw := hw x5 r_x5 e_x5
        refine lv_iload_n hx hb dX1_hasUnits_39 rfl (lv_at hl 1 rfl) ?_
        obtain ⟨Q6, hc, hw⟩ := hw
        refine wc_i (X := CX g q lb) (va_runV (As := [.int (I x5), .int (I u1)]) (rest := []) ⟨hx, hb, hml, hown, hts⟩ (L_X1_reaches l g q lb hlb r_x5 r_u1 hN hc H.size) (cwV 2 hts (TB_V tw_1757 tw_1759 ts_78 tw_11 co_X1_reaches) rfl rfl rfl (by decide +kernel) ⟨Nat.le_of_ble_eq_true rfl, Nat.le_of_ble_eq_true rfl⟩) (preV (q0 := 9) (ci := 1) rfl xT_bl hP hK hNb hD rfl rfl xT_at) rfl rfl hl.1 rfl (lv_room (Nat.le_of_ble_eq_true rfl)) dX1_hasUnits_40 ⟨Nat.le_of_ble_eq_true rfl, Nat.le_of_ble_eq_true rfl⟩) hP hD hS hA (fun x7 H locs r_x7 hq hP hD hS => ?_)
        replace hw := hw x7 r_x7 hq
        refine bi_if_eq (tgt := 48) hx hb r_x7 dX1_hasUnits_43 (by decide) (fun c9 => ?_) (fun c9 => ?_)
        ·
          replace hw := hw.1 c9
          refine lv_iinc (v := I (u2 + 1)) (lv' := [(2, .int (I (u2 + 1))), (0, .ref (q 9)), (1, .int (I u1))]) hx hb dX1_hasUnits_48 hl (k := 2) rfl (I_add _ _) (by decide) rfl (fun ls hl => ?_)
          refine lv_goto (tgt := 2) hx hb dX1_hasUnits_51 (by decide) ?_
          obtain ⟨c10, hw⟩ := hw
          exact (hP2 _ _).mp hw r_u1 c10  H locs ls hP hD hS (lv_sub hl [1, 2, 0] rfl)
        ·
          replace hw := hw.2 c9
          refine lv_iconst (v := I 1) hx hb dX1_hasUnits_46 rfl ?_
          exact xrz hx hb hr (by decide) hlk hP hK hD hS ⟨_, (by decide), rfl, rfl, hw⟩ (Nat.le_of_ble_eq_true rfl) (Nat.le_of_ble_eq_true rfl) dX1_hasUnits_47
def W_X1_countUnits (σ : S0) (Q : Int → S0 → Prop) : Prop :=
  ∀ (P2 : Int → S0 → Prop) (P33 : Int → S0 → Prop) (P125 : Int → Int → S0 → Prop) (P157 : Int → Int → Int → S0 → Prop),
  (∀ (u1 : Int) (τ : S0), ((τ.1 4 ≤ u1 → P33 0 τ) ∧ (u1 < τ.1 4 → (0 ≤ u1 ∧ u1 < 100) ∧ (∀ (x3 : Int), rg x3 → x3 = τ.2.1 81 u1 → (rg (u1 + 1) ∧ P2 (u1 + 1) (s_a τ 83 u1 x3))))) → P2 u1 τ) →
  (∀ (u1 : Int) (τ : S0), ((τ.1 46 ≤ u1 → P125 0 0 τ) ∧ (u1 < τ.1 46 → (0 ≤ u1 ∧ u1 < 1500) ∧ (∀ (x7 : Int), rg x7 → x7 = τ.2.1 75 u1 → ((τ.1 51 ≤ x7 → P125 0 0 τ) ∧ (x7 < τ.1 51 → ∀ (x9 : Int), rg x9 → x9 = τ.2.1 75 u1 → (∃ (Q10 : Int → Prop), W_X3_typeOf x9 τ Q10 ∧ ∀ (x11 : Int), rg x11 → Q10 x11 → (∃ (Q13 : Int → Prop), W_X8_sortRank x11 τ Q13 ∧ ∀ (x14 : Int), rg x14 → Q13 x14 → ((0 ≤ x14 ∧ x14 < 100) ∧ (∀ (x17 : Int), rg x17 → x17 = τ.2.1 83 x14 → (∀ (x18 : Int), rg x18 → x18 = τ.2.1 76 u1 → ((0 ≤ x18 ∧ x18 < 100) ∧ (∀ (x20 : Int), rg x20 → x20 = τ.2.1 82 x18 → (rg (x17 + x20) ∧ ∀ (x22 : Int), rg x22 → x22 ≤ 2 → x22 ≤ (x17 + x20) → (x22 = 2 ∨ x22 = (x17 + x20)) → (rg (u1 + 1) ∧ P33 (u1 + 1) (s_a τ 83 x14 x22))))))))))))))) → P33 u1 τ) →
  (∀ (u1 : Int) (u2 : Int) (τ : S0), ((τ.1 4 ≤ u2 → (0 ≤ u1 ∧ u1 ≤ 1) ∧ Q u1 τ) ∧ (u2 < τ.1 4 → (0 ≤ u2 ∧ u2 < 100) ∧ (∀ (x27 : Int), rg x27 → x27 = τ.2.1 83 u2 → (∀ (x28 : Int), rg x28 → x28 = τ.2.1 82 u2 → ((x27 = x28 → P157 u2 u1 0 τ) ∧ (¬ x27 = x28 → P157 u2 u1 1 τ)))))) → P125 u1 u2 τ) →
  (∀ (u2 : Int) (k0 : Int) (k1 : Int) (τ : S0), (∀ (x30 : Int), rg x30 → ((0 : Int) ≤ k0 → (0 : Int) ≤ k1 → k0 ≤ x30 ∧ k1 ≤ x30) → ((0 : Int) ≤ k0 → k0 ≤ (1 : Int) → (0 : Int) ≤ k1 → k1 ≤ (1 : Int) → x30 ≤ 1) → ((0 : Int) ≤ k0 → k0 < (65536 : Int) → k1 = (65536 : Int) → x30 = k0 + 65536) → ((0 ≤ u2 ∧ u2 < 100) ∧ (∀ (x32 : Int), rg x32 → x32 = τ.2.1 83 u2 → (rg (u2 + 1) ∧ P125 x30 (u2 + 1) (s_a τ 82 u2 x32))))) → P157 u2 k0 k1 τ) →
  P2 0 σ
set_option maxRecDepth 100000 in
set_option maxHeartbeats 4000000 in
theorem L_X1_countUnits (l : Launch) (g : gG) (q : Nat → Nat) (lb : Nat) (hlb : lb < 2 ^ 31) {σ : S0} {Q : Int → S0 → Prop} (hN : n_m σ) (hw : W_X1_countUnits σ Q) (sz : Nat) : MetI l yX1_countUnits cX1_countUnits 3 (some .boolean) { frames := 1, cells := 0, slots := 0, locals := 21 } g [.ref (q 9)] (CX g q lb σ) sz xT (p_I (CX g q lb) [] [82, 83] [] σ Q) 0 0 := by
  refine mkMet (Qc := fun A => QI g A (p_I (CX g q lb) [] [82, 83] [] σ Q)) (by decide) (Nat.le_of_ble_eq_true rfl) ?_
  intro p e s m below meth c A H ls hx hb hr hml hown hts hlk hnm hsz hP hK hNb hD hA hAe hS hX hl
  have hl : lv_has ls 3 [(0, .ref (q 9))] := hl
  have hB := hN
  have hF : f_r [] [82, 83] [] σ σ := f_0
  obtain ⟨locs, hlocs⟩ : ∃ z : List Loc, z = [] := ⟨_, rfl⟩
  rw [← hlocs] at hS ⊢
  obtain ⟨P2, hP2⟩ : ∃ P : Int → S0 → Prop, ∀ (u1 : Int) (τ : S0), (P u1 τ ↔ (rg u1 → n_m τ → f_r [] [82, 83] [] σ τ → ∀ (H : Heap) (locs : List Loc) (ls : Array Slot), KP g (CX g q lb τ) H → va_D A (CX g q lb τ) → va_S A s.heap H locs → lv_has ls 3 [(0, .ref (q 9)), (1, .int (I u1))] → W p l e ({ frames := 1, cells := 0, slots := 0, locals := 21 }) s m [.ref (q 9)].toArray below meth c H locs 0 0 (MQ below (QI g A (p_I (CX g q lb) [] [82, 83] [] σ Q)) [.ref (q 9)].toArray s 0 0 A) (F0 m 2 ls []))) := ⟨_, fun _ _ => Iff.rfl⟩
  obtain ⟨P33, hP33⟩ : ∃ P : Int → S0 → Prop, ∀ (u1 : Int) (τ : S0), (P u1 τ ↔ (rg u1 → n_m τ → f_r [] [82, 83] [] σ τ → ∀ (H : Heap) (locs : List Loc) (ls : Array Slot), KP g (CX g q lb τ) H → va_D A (CX g q lb τ) → va_S A s.heap H locs → lv_has ls 3 [(0, .ref (q 9)), (1, .int (I u1))] → W p l e ({ frames := 1, cells := 0, slots := 0, locals := 21 }) s m [.ref (q 9)].toArray below meth c H locs 0 0 (MQ below (QI g A (p_I (CX g q lb) [] [82, 83] [] σ Q)) [.ref (q 9)].toArray s 0 0 A) (F0 m 33 ls []))) := ⟨_, fun _ _ => Iff.rfl⟩
  obtain ⟨P125, hP125⟩ : ∃ P : Int → Int → S0 → Prop, ∀ (u1 : Int) (u2 : Int) (τ : S0), (P u1 u2 τ ↔ (rg u1 → rg u2 → n_m τ → f_r [] [82, 83] [] σ τ → ∀ (H : Heap) (locs : List Loc) (ls : Array Slot), KP g (CX g q lb τ) H → va_D A (CX g q lb τ) → va_S A s.heap H locs → lv_has ls 3 [(0, .ref (q 9)), (1, .int (I u1)), (2, .int (I u2))] → W p l e ({ frames := 1, cells := 0, slots := 0, locals := 21 }) s m [.ref (q 9)].toArray below meth c H locs 0 0 (MQ below (QI g A (p_I (CX g q lb) [] [82, 83] [] σ Q)) [.ref (q 9)].toArray s 0 0 A) (F0 m 125 ls []))) := ⟨_, fun _ _ _ => Iff.rfl⟩
  obtain ⟨P157, hP157⟩ : ∃ P : Int → Int → Int → S0 → Prop, ∀ (u2 : Int) (k0 : Int) (k1 : Int) (τ : S0), (P u2 k0 k1 τ ↔ (rg u2 → rg k0 → rg k1 → n_m τ → f_r [] [82, 83] [] σ τ → ∀ (H : Heap) (locs : List Loc) (ls : Array Slot), KP g (CX g q lb τ) H → va_D A (CX g q lb τ) → va_S A s.heap H locs → lv_has ls 3 [(0, .ref (q 9)), (2, .int (I u2))] → W p l e ({ frames := 1, cells := 0, slots := 0, locals := 21 }) s m [.ref (q 9)].toArray below meth c H locs 0 0 (MQ below (QI g A (p_I (CX g q lb) [] [82, 83] [] σ Q)) [.ref (q 9)].toArray s 0 0 A) (F0 m 157 ls [.int (I k1), .int (I k0)]))) := ⟨_, fun _ _ _ _ => Iff.rfl⟩
  refine (fun hw => ?_) (hw P2 P33 P125 P157 ?_ ?_ ?_ ?_)
  ·
    refine lv_iconst (v := I 0) hx hb dX1_countUnits_0 rfl ?_
    refine lv_istore_n (lv' := [(1, .int (I 0)), (0, .ref (q 9))]) hx hb dX1_countUnits_1 rfl hl (by decide) rfl (fun ls hl => ?_)
    exact (hP2 _ _).mp hw (by decide) hN hF H locs ls hP hD hS (lv_sub hl [1, 0] rfl)
  ·
    intro u1 τ hw
    refine (hP2 _ _).mpr ?_
    intro r_u1 hN hF H locs ls hP hD hS hl
    have hB := hN
    refine lv_iload_n hx hb dX1_countUnits_2 rfl (lv_at hl 1 rfl) ?_
    refine lv_aload_n hx hb dX1_countUnits_3 rfl (lv_at hl 0 rfl) ?_
    refine gfX1_library hx hb hts hK hP hown (hts _ tw_670) dX1_countUnits_4 ?_
    refine gfNX3_ranks hx hb hts hK hP hown (nb_use hNb tn_60) (x := τ.1 4) rfl dX1_countUnits_7 ?_
    refine bi_icmp_ge (tgt := 31) hx hb r_u1 (hB.1 4) dX1_countUnits_10 (by decide) (fun c1 => ?_) (fun c1 => ?_)
    ·
      replace hw := hw.1 c1
      refine lv_iconst (v := I 0) hx hb dX1_countUnits_31 rfl ?_
      refine lv_istore_n (lv' := [(1, .int (I 0)), (0, .ref (q 9))]) hx hb dX1_countUnits_32 rfl hl (by decide) rfl (fun ls hl => ?_)
      exact (hP33 _ _).mp hw (by decide) hN hF H locs ls hP hD hS (lv_sub hl [1, 0] rfl)
    ·
      replace hw := hw.2 c1
      refine lv_aload_n hx hb dX1_countUnits_13 rfl (lv_at hl 0 rfl) ?_
      refine gfX1_next hx hb hts hK hP hown (hts _ tw_693) dX1_countUnits_14 ?_
      refine lv_iload_n hx hb dX1_countUnits_17 rfl (lv_at hl 1 rfl) ?_
      refine lv_aload_n hx hb dX1_countUnits_18 rfl (lv_at hl 0 rfl) ?_
      refine gfX1_base hx hb hts hK hP hown (hts _ tw_691) dX1_countUnits_19 ?_
      refine lv_iload_n hx hb dX1_countUnits_22 rfl (lv_at hl 1 rfl) ?_
      obtain ⟨c2, hw⟩ := hw
      refine ldCX1_base hx hb hK hP hN c2 dX1_countUnits_23 (fun x3 r_x3 e_x3 => ?_)
      replace hw := hw x3 r_x3 e_x3
      refine sdCX1_next hx hb hK hP hD hS c2 dX1_countUnits_24 (fun H locs hP hD hS => ?_)
      have hN : n_m (s_a τ 83 u1 x3) := n_a (k := 83) (j := u1) hN (r_x3 : rg x3)
      have hF : f_r [] [82, 83] [] σ (s_a τ 83 u1 x3) := f_a hF (by decide)
      refine lv_iinc (v := I (u1 + 1)) (lv' := [(1, .int (I (u1 + 1))), (0, .ref (q 9))]) hx hb dX1_countUnits_25 hl (k := 1) rfl (I_add _ _) (by decide) rfl (fun ls hl => ?_)
      refine lv_goto (tgt := 2) hx hb dX1_countUnits_28 (by decide) ?_
      obtain ⟨c4, hw⟩ := hw
      exact (hP2 _ _).mp hw c4 hN hF H locs ls hP hD hS (lv_sub hl [1, 0] rfl)
  ·
    intro u1 τ hw
    refine (hP33 _ _).mpr ?_
    intro r_u1 hN hF H locs ls hP hD hS hl
    have hB := hN
    refine lv_iload_n hx hb dX1_countUnits_33 rfl (lv_at hl 1 rfl) ?_
    refine lv_aload_n hx hb dX1_countUnits_34 rfl (lv_at hl 0 rfl) ?_
    refine gfX1_rules hx hb hts hK hP hown (hts _ tw_671) dX1_countUnits_35 ?_
    refine gfNX8_units hx hb hts hK hP hown (nb_use hNb tn_623) (x := τ.1 46) rfl dX1_countUnits_38 ?_
    refine bi_icmp_ge (tgt := 121) hx hb r_u1 (hB.1 46) dX1_countUnits_41 (by decide) (fun c5 => ?_) (fun c5 => ?_)
    ·
      replace hw := hw.1 c5
      refine lv_iconst (v := I 0) hx hb dX1_countUnits_121 rfl ?_
      refine lv_istore_n (lv' := [(1, .int (I 0)), (0, .ref (q 9))]) hx hb dX1_countUnits_122 rfl hl (by decide) rfl (fun ls hl => ?_)
      refine lv_iconst (v := I 0) hx hb dX1_countUnits_123 rfl ?_
      refine lv_istore_n (lv' := [(2, .int (I 0)), (1, .int (I 0)), (0, .ref (q 9))]) hx hb dX1_countUnits_124 rfl hl (by decide) rfl (fun ls hl => ?_)
      exact (hP125 _ _ _).mp hw (by decide) (by decide) hN hF H locs ls hP hD hS (lv_sub hl [2, 1, 0] rfl)
    ·
      replace hw := hw.2 c5
      refine lv_aload_n hx hb dX1_countUnits_44 rfl (lv_at hl 0 rfl) ?_
      refine gfX1_rules hx hb hts hK hP hown (hts _ tw_671) dX1_countUnits_45 ?_
      refine gfNX8_unitRule hx hb hts hK hP hown (nb_use hNb tn_619) dX1_countUnits_48 ?_
      refine lv_iload_n hx hb dX1_countUnits_51 rfl (lv_at hl 1 rfl) ?_
      obtain ⟨c6, hw⟩ := hw
      refine ldCX8_unitRule hx hb hK hP hN c6 dX1_countUnits_52 (fun x7 r_x7 e_x7 => ?_)
      replace hw := hw x7 r_x7 e_x7
      refine lv_aload_n hx hb dX1_countUnits_53 rfl (lv_at hl 0 rfl) ?_
      refine gfX1_limit hx hb hts hK hP hown (hts _ tw_678) (x := τ.1 51) rfl dX1_countUnits_54 ?_
      refine bi_icmp_ge (tgt := 121) hx hb r_x7 (hB.1 51) dX1_countUnits_57 (by decide) (fun c8 => ?_) (fun c8 => ?_)
      ·
        replace hw := hw.1 c8
        refine lv_iconst (v := I 0) hx hb dX1_countUnits_121 rfl ?_
        refine lv_istore_n (lv' := [(1, .int (I 0)), (0, .ref (q 9))]) hx hb dX1_countUnits_122 rfl hl (by decide) rfl (fun ls hl => ?_)
        refine lv_iconst (v := I 0) hx hb dX1_countUnits_123 rfl ?_
        refine lv_istore_n (lv' := [(2, .int (I 0)), (1, .int (I 0)), (0, .ref (q 9))]) hx hb dX1_countUnits_124 rfl hl (by decide) rfl (fun ls hl => ?_)
        exact (hP125 _ _ _).mp hw (by decide) (by decide) hN hF H locs ls hP hD hS (lv_sub hl [2, 1, 0] rfl)
      ·
        replace hw := hw.2 c8
        refine lv_aload_n hx hb dX1_countUnits_60 rfl (lv_at hl 0 rfl) ?_
        refine gfX1_rules hx hb hts hK hP hown (hts _ tw_671) dX1_countUnits_61 ?_
        refine lv_aload_n hx hb dX1_countUnits_64 rfl (lv_at hl 0 rfl) ?_
        refine gfX1_library hx hb hts hK hP hown (hts _ tw_670) dX1_countUnits_65 ?_
        refine lv_aload_n hx hb dX1_countUnits_68 rfl (lv_at hl 0 rfl) ?_
        refine gfX1_rules hx hb hts hK hP hown (hts _ tw_671) dX1_countUnits_69 ?_
        refine gfNX8_unitRule hx hb hts hK hP hown (nb_use hNb tn_619) dX1_countUnits_72 ?_
        refine lv_iload_n hx hb dX1_countUnits_75 rfl (lv_at hl 1 rfl) ?_
        refine ldCX8_unitRule hx hb hK hP hN c6 dX1_countUnits_76 (fun x9 r_x9 e_x9 => ?_)
        replace hw := hw x9 r_x9 e_x9
        obtain ⟨Q10, hc, hw⟩ := hw
        refine wc_i (X := CX g q lb) (va_runV (As := [.int (I x9)]) (rest := [.ref (q 8)]) ⟨hx, hb, hml, hown, hts⟩ (L_X3_typeOf l g q lb hlb r_x9 hN hc H.size) (cwV 1 hts (TB_V tw_1714 tw_1208 tw_1209 tw_2 co_X3_typeOf) rfl rfl rfl (by decide +kernel) ⟨Nat.le_of_ble_eq_true rfl, Nat.le_of_ble_eq_true rfl⟩) (preV (q0 := 1) (ci := 3) rfl xT_bl hP hK hNb hD rfl rfl xT_at) rfl rfl hl.1 rfl (lv_room (Nat.le_of_ble_eq_true rfl)) dX1_countUnits_77 ⟨Nat.le_of_ble_eq_true rfl, Nat.le_of_ble_eq_true rfl⟩) hP hD hS hA (fun x11 H locs r_x11 hq hP hD hS => ?_)
        replace hw := hw x11 r_x11 hq
        obtain ⟨Q13, hc, hw⟩ := hw
        refine wc_i (X := CX g q lb) (va_runV (As := [.int (I x11)]) (rest := []) ⟨hx, hb, hml, hown, hts⟩ (L_X8_sortRank l g q lb hlb r_x11 hN hc H.size) (cwV 1 hts (TB_V tw_1727 tw_1728 tw_1729 tw_10 co_X8_sortRank) rfl rfl rfl (by decide +kernel) ⟨Nat.le_of_ble_eq_true rfl, Nat.le_of_ble_eq_true rfl⟩) (preV (q0 := 8) (ci := 8) rfl xT_bl hP hK hNb hD rfl rfl xT_at) rfl rfl hl.1 rfl (lv_room (Nat.le_of_ble_eq_true rfl)) dX1_countUnits_80 ⟨Nat.le_of_ble_eq_true rfl, Nat.le_of_ble_eq_true rfl⟩) hP hD hS hA (fun x14 H locs r_x14 hq hP hD hS => ?_)
        replace hw := hw x14 r_x14 hq
        refine lv_istore_n (lv' := [(2, .int (I x14)), (0, .ref (q 9)), (1, .int (I u1))]) hx hb dX1_countUnits_83 rfl hl (by decide) rfl (fun ls hl => ?_)
        refine lv_aload_n hx hb dX1_countUnits_84 rfl (lv_at hl 1 rfl) ?_
        refine gfX1_next hx hb hts hK hP hown (hts _ tw_693) dX1_countUnits_85 ?_
        refine lv_iload_n hx hb dX1_countUnits_88 rfl (lv_at hl 0 rfl) ?_
        refine lv_iconst (v := I 2) hx hb dX1_countUnits_89 rfl ?_
        refine lv_aload_n hx hb dX1_countUnits_90 rfl (lv_at hl 1 rfl) ?_
        refine gfX1_next hx hb hts hK hP hown (hts _ tw_693) dX1_countUnits_91 ?_
        refine lv_iload_n hx hb dX1_countUnits_94 rfl (lv_at hl 0 rfl) ?_
        obtain ⟨c16, hw⟩ := hw
        refine ldCX1_next hx hb hK hP hN c16 dX1_countUnits_95 (fun x17 r_x17 e_x17 => ?_)
        replace hw := hw x17 r_x17 e_x17
        refine lv_aload_n hx hb dX1_countUnits_96 rfl (lv_at hl 1 rfl) ?_
        refine gfX1_total hx hb hts hK hP hown (hts _ tw_692) dX1_countUnits_97 ?_
        refine lv_aload_n hx hb dX1_countUnits_100 rfl (lv_at hl 1 rfl) ?_
        refine gfX1_rules hx hb hts hK hP hown (hts _ tw_671) dX1_countUnits_101 ?_
        refine gfNX8_unitFrom hx hb hts hK hP hown (nb_use hNb tn_621) dX1_countUnits_104 ?_
        refine lv_iload_n hx hb dX1_countUnits_107 rfl (lv_at hl 2 rfl) ?_
        refine ldCX8_unitFrom hx hb hK hP hN c6 dX1_countUnits_108 (fun x18 r_x18 e_x18 => ?_)
        replace hw := hw x18 r_x18 e_x18
        obtain ⟨c19, hw⟩ := hw
        refine ldCX1_total hx hb hK hP hN c19 dX1_countUnits_109 (fun x20 r_x20 e_x20 => ?_)
        replace hw := hw x20 r_x20 e_x20
        refine bi_iadd hx hb dX1_countUnits_110 ?_
        obtain ⟨c21, hw⟩ := hw
        refine bi_mmin hx hb (by rw [hml]; exact hl.1.symm) hown (hts _ tw_1711) (hts _ tw_1712) (hts _ tw_16) (hts _ tw_1713) (Nat.le_of_ble_eq_true rfl) (Nat.le_of_ble_eq_true rfl) (Nat.le_of_ble_eq_true rfl) (Nat.le_of_ble_eq_true rfl) (by decide) c21 dX1_countUnits_111 (fun x22 r_x22 p_x22 m_x22 o_x22 => ?_)
        replace hw := hw x22 r_x22 p_x22 m_x22 o_x22
        refine sdCX1_next hx hb hK hP hD hS c16 dX1_countUnits_114 (fun H locs hP hD hS => ?_)
        have hN : n_m (s_a τ 83 x14 x22) := n_a (k := 83) (j := x14) hN (r_x22 : rg x22)
        have hF : f_r [] [82, 83] [] σ (s_a τ 83 x14 x22) := f_a hF (by decide)
        refine lv_iinc (v := I (u1 + 1)) (lv' := [(1, .int (I (u1 + 1))), (2, .int (I x14)), (0, .ref (q 9))]) hx hb dX1_countUnits_115 hl (k := 2) rfl (I_add _ _) (by decide) rfl (fun ls hl => ?_)
        refine lv_goto (tgt := 33) hx hb dX1_countUnits_118 (by decide) ?_
        obtain ⟨c23, hw⟩ := hw
        exact (hP33 _ _).mp hw c23 hN hF H locs ls hP hD hS (lv_sub hl [2, 0] rfl)
  ·
    intro u1 u2 τ hw
    refine (hP125 _ _ _).mpr ?_
    intro r_u1 r_u2 hN hF H locs ls hP hD hS hl
    have hB := hN
    refine lv_iload_n hx hb dX1_countUnits_125 rfl (lv_at hl 2 rfl) ?_
    refine lv_aload_n hx hb dX1_countUnits_126 rfl (lv_at hl 0 rfl) ?_
    refine gfX1_library hx hb hts hK hP hown (hts _ tw_670) dX1_countUnits_127 ?_
    refine gfNX3_ranks hx hb hts hK hP hown (nb_use hNb tn_60) (x := τ.1 4) rfl dX1_countUnits_130 ?_
    refine bi_icmp_ge (tgt := 177) hx hb r_u2 (hB.1 4) dX1_countUnits_133 (by decide) (fun c24 => ?_) (fun c24 => ?_)
    ·
      replace hw := hw.1 c24
      refine lv_iload_n hx hb dX1_countUnits_177 rfl (lv_at hl 1 rfl) ?_
      obtain ⟨c25, hw⟩ := hw
      exact xrz hx hb hr (nzI c25.1 c25.2) hlk hP hK hD hS ⟨_, _, r_u1, rfl, hN, hF, rfl, hw⟩ (Nat.le_of_ble_eq_true rfl) (Nat.le_of_ble_eq_true rfl) dX1_countUnits_178
    ·
      replace hw := hw.2 c24
      refine lv_iload_n hx hb dX1_countUnits_136 rfl (lv_at hl 1 rfl) ?_
      refine lv_aload_n hx hb dX1_countUnits_137 rfl (lv_at hl 0 rfl) ?_
      refine gfX1_next hx hb hts hK hP hown (hts _ tw_693) dX1_countUnits_138 ?_
      refine lv_iload_n hx hb dX1_countUnits_141 rfl (lv_at hl 2 rfl) ?_
      obtain ⟨c26, hw⟩ := hw
      refine ldCX1_next hx hb hK hP hN c26 dX1_countUnits_142 (fun x27 r_x27 e_x27 => ?_)
      replace hw := hw x27 r_x27 e_x27
      refine lv_aload_n hx hb dX1_countUnits_143 rfl (lv_at hl 0 rfl) ?_
      refine gfX1_total hx hb hts hK hP hown (hts _ tw_692) dX1_countUnits_144 ?_
      refine lv_iload_n hx hb dX1_countUnits_147 rfl (lv_at hl 2 rfl) ?_
      refine ldCX1_total hx hb hK hP hN c26 dX1_countUnits_148 (fun x28 r_x28 e_x28 => ?_)
      replace hw := hw x28 r_x28 e_x28
      refine bi_icmp_eq (tgt := 156) hx hb r_x27 r_x28 dX1_countUnits_149 (by decide) (fun c29 => ?_) (fun c29 => ?_)
      ·
        replace hw := hw.1 c29
        refine lv_iconst (v := I 0) hx hb dX1_countUnits_156 rfl ?_
        exact (hP157 _ _ _ _).mp hw r_u2 r_u1 (by decide) hN hF H locs ls hP hD hS (lv_sub hl [0, 2] rfl)
      ·
        replace hw := hw.2 c29
        refine lv_iconst (v := I 1) hx hb dX1_countUnits_152 rfl ?_
        refine lv_goto (tgt := 157) hx hb dX1_countUnits_153 (by decide) ?_
        exact (hP157 _ _ _ _).mp hw r_u2 r_u1 (by decide) hN hF H locs ls hP hD hS (lv_sub hl [0, 2] rfl)
  ·
    intro u2 k0 k1 τ hw
    refine (hP157 _ _ _ _).mpr ?_
    intro r_u2 r_k0 r_k1 hN hF H locs ls hP hD hS hl
    have hB := hN
    refine bi_ior hx hb r_k0 r_k1 dX1_countUnits_157 (fun x30 r_x30 p_x30 o1 o2 => ?_)
    replace hw := hw x30 r_x30 p_x30 o1 o2
    refine lv_istore_n (lv' := [(1, .int (I x30)), (0, .ref (q 9)), (2, .int (I u2))]) hx hb dX1_countUnits_158 rfl hl (by decide) rfl (fun ls hl => ?_)
    refine lv_aload_n hx hb dX1_countUnits_159 rfl (lv_at hl 1 rfl) ?_
    refine gfX1_total hx hb hts hK hP hown (hts _ tw_692) dX1_countUnits_160 ?_
    refine lv_iload_n hx hb dX1_countUnits_163 rfl (lv_at hl 2 rfl) ?_
    refine lv_aload_n hx hb dX1_countUnits_164 rfl (lv_at hl 1 rfl) ?_
    refine gfX1_next hx hb hts hK hP hown (hts _ tw_693) dX1_countUnits_165 ?_
    refine lv_iload_n hx hb dX1_countUnits_168 rfl (lv_at hl 2 rfl) ?_
    obtain ⟨c31, hw⟩ := hw
    refine ldCX1_next hx hb hK hP hN c31 dX1_countUnits_169 (fun x32 r_x32 e_x32 => ?_)
    replace hw := hw x32 r_x32 e_x32
    refine sdCX1_total hx hb hK hP hD hS c31 dX1_countUnits_170 (fun H locs hP hD hS => ?_)
    have hN : n_m (s_a τ 82 u2 x32) := n_a (k := 82) (j := u2) hN (r_x32 : rg x32)
    have hF : f_r [] [82, 83] [] σ (s_a τ 82 u2 x32) := f_a hF (by decide)
    refine lv_iinc (v := I (u2 + 1)) (lv' := [(2, .int (I (u2 + 1))), (1, .int (I x30)), (0, .ref (q 9))]) hx hb dX1_countUnits_171 hl (k := 2) rfl (I_add _ _) (by decide) rfl (fun ls hl => ?_)
    refine lv_goto (tgt := 125) hx hb dX1_countUnits_174 (by decide) ?_
    obtain ⟨c33, hw⟩ := hw
    exact (hP125 _ _ _).mp hw r_x30 c33 hN hF H locs ls hP hD hS (lv_sub hl [2, 1, 0] rfl)
def W_X1_addUnits (n1 : Int) (σ : S0) (Q : S0 → Prop) : Prop :=
  ∀ (P11 : Int → Int → S0 → Prop) (P63 : Int → Int → Int → Int → S0 → Prop) (P86 : Int → Int → Int → S0 → Prop) (P110 : Int → Int → S0 → Prop) (P203 : Int → Int → Int → Int64 → Int64 → S0 → Prop),
  (∀ (u1 : Int) (u2 : Int) (τ : S0), ((τ.1 4 ≤ u2 → P86 u1 1 0 τ) ∧ (u2 < τ.1 4 → (0 ≤ ((u2 * 60) + τ.1 53) ∧ ((u2 * 60) + τ.1 53) < 6000) ∧ (∀ (x7 : Int64), x7 = τ.2.2 5 ((u2 * 60) + τ.1 53) → (∃ (Q8 : Int → Prop), W_X1_reaches u2 u1 τ Q8 ∧ ∀ (x9 : Int), rg x9 → Q8 x9 → ((x9 = 0 → P63 u1 u2 u2 0 τ) ∧ (¬ x9 = 0 → ∀ (x12 : Int), rg x12 → (rg (((j_ushr x7 u1) &&& 1) : Int64).toInt → x12 = (((j_ushr x7 u1) &&& 1) : Int64).toInt) → (rg (1 + x12) ∧ P63 u1 u2 u2 (1 + x12) τ))))))) → P11 u1 u2 τ) →
  (∀ (u1 : Int) (u2 : Int) (k1 : Int) (k2 : Int) (τ : S0), ((0 ≤ k1 ∧ k1 < 100) ∧ ((0 ≤ u2 ∧ u2 < 100) ∧ (∀ (x22 : Int), rg x22 → x22 = (st (τ.2.1 81) k1 k2) u2 → (rg (u2 + 1) ∧ P11 u1 (u2 + 1) (s_a (s_a τ 81 k1 k2) 82 u2 x22))))) → P63 u1 u2 k1 k2 τ) →
  (∀ (u1 : Int) (u2 : Int) (u3 : Int) (τ : S0), ((u2 = 0 → P110 u1 0 τ) ∧ (¬ u2 = 0 → (200 < u3 → P110 u1 0 τ) ∧ (u3 ≤ 200 → ∃ (Q16 : Int → S0 → Prop), W_X1_countUnits τ Q16 ∧ ∀ (x17 : Int) (τ18 : S0), rg x17 → n_m τ18 → f_r [] [82, 83] [] τ τ18 → Q16 x17 τ18 → (rg (u3 + 1) ∧ P86 u1 x17 (u3 + 1) τ18)))) → P86 u1 u2 u3 τ) →
  (∀ (u1 : Int) (u3 : Int) (τ : S0), ((τ.1 46 ≤ u3 → Q τ) ∧ (u3 < τ.1 46 → (0 ≤ u3 ∧ u3 < 1500) ∧ (∀ (x26 : Int), rg x26 → x26 = τ.2.1 75 u3 → ((τ.1 51 ≤ x26 → Q τ) ∧ (x26 < τ.1 51 → ∀ (x28 : Int), rg x28 → x28 = τ.2.1 76 u3 → ((0 ≤ x28 ∧ x28 < 100) ∧ (∀ (x30 : Int), rg x30 → x30 = τ.2.1 82 x28 → ((x30 ≤ 0 → rg (u3 + 1) ∧ P110 u1 (u3 + 1) τ) ∧ (0 < x30 → ∀ (x33 : Int), rg x33 → x33 = τ.2.1 75 u3 → (∃ (Q34 : Int → Prop), W_X3_typeOf x33 τ Q34 ∧ ∀ (x35 : Int), rg x35 → Q34 x35 → (∃ (Q37 : Int → Prop), W_X8_sortRank x35 τ Q37 ∧ ∀ (x38 : Int), rg x38 → Q37 x38 → ((0 ≤ x38 ∧ x38 < 100) ∧ (∀ (x41 : Int), rg x41 → x41 = τ.2.1 82 x38 → ((x41 ≤ 1 → P203 u1 u3 x38 (j_shl 1 u1) 0 τ) ∧ (1 < x41 → P203 u1 u3 x38 (j_shl 1 u1) (j_shl 1 u1) τ))))))))))))))) → P110 u1 u3 τ) →
  (∀ (u1 : Int) (u3 : Int) (k1 : Int) (k2 : Int64) (k3 : Int64) (τ : S0), ((0 ≤ u3 ∧ u3 < 1500) ∧ (∀ (x44 : Int), rg x44 → x44 = τ.2.1 75 u3 → (∃ (Q45 : S0 → Prop), W_X1_add k1 k2 k3 x44 τ Q45 ∧ ∀ (τ47 : S0), n_m τ47 → f_r [] [79] [4, 5] τ τ47 → Q45 τ47 → (rg (u3 + 1) ∧ P110 u1 (u3 + 1) τ47)))) → P203 u1 u3 k1 k2 k3 τ) →
  ∃ (Q1 : Int → Prop), W_X1_hasUnits n1 σ Q1 ∧ ∀ (x2 : Int), rg x2 → Q1 x2 → ((¬ x2 = 0 → P11 n1 0 σ) ∧ (x2 = 0 → Q σ))
set_option maxRecDepth 100000 in
set_option maxHeartbeats 4000000 in
theorem L_X1_addUnits (l : Launch) (g : gG) (q : Nat → Nat) (lb : Nat) (hlb : lb < 2 ^ 31) {n1 : Int} {σ : S0} {Q : S0 → Prop} (r_n1 : rg n1) (hN : n_m σ) (hw : W_X1_addUnits n1 σ Q) (sz : Nat) : MetV l yX1_addUnits cX1_addUnits 5 { frames := 2, cells := 0, slots := 0, locals := 44 } g [.ref (q 9), .int (I n1)] (CX g q lb σ) sz xT (p_V (CX g q lb) [] [79, 81, 82, 83] [4, 5] σ Q) 0 0 := by
  refine mkMet (Qc := fun A => QV g A (p_V (CX g q lb) [] [79, 81, 82, 83] [4, 5] σ Q)) (by decide) (Nat.le_of_ble_eq_true rfl) ?_
  intro p e s m below meth c A H ls hx hb hr hml hown hts hlk hnm hsz hP hK hNb hD hA hAe hS hX hl
  have hl : lv_has ls 5 [(0, .ref (q 9)), (1, .int (I n1))] := hl
  have hB := hN
  have hF : f_r [] [79, 81, 82, 83] [4, 5] σ σ := f_0
  obtain ⟨locs, hlocs⟩ : ∃ z : List Loc, z = [] := ⟨_, rfl⟩
  rw [← hlocs] at hS ⊢
  obtain ⟨P11, hP11⟩ : ∃ P : Int → Int → S0 → Prop, ∀ (u1 : Int) (u2 : Int) (τ : S0), (P u1 u2 τ ↔ (rg u1 → rg u2 → n_m τ → f_r [] [79, 81, 82, 83] [4, 5] σ τ → ∀ (H : Heap) (locs : List Loc) (ls : Array Slot), KP g (CX g q lb τ) H → va_D A (CX g q lb τ) → va_S A s.heap H locs → lv_has ls 5 [(0, .ref (q 9)), (1, .int (I u1)), (2, .int (I u2))] → W p l e ({ frames := 2, cells := 0, slots := 0, locals := 44 }) s m [.ref (q 9), .int (I n1)].toArray below meth c H locs 0 0 (MQ below (QV g A (p_V (CX g q lb) [] [79, 81, 82, 83] [4, 5] σ Q)) [.ref (q 9), .int (I n1)].toArray s 0 0 A) (F0 m 11 ls []))) := ⟨_, fun _ _ _ => Iff.rfl⟩
  obtain ⟨P63, hP63⟩ : ∃ P : Int → Int → Int → Int → S0 → Prop, ∀ (u1 : Int) (u2 : Int) (k1 : Int) (k2 : Int) (τ : S0), (P u1 u2 k1 k2 τ ↔ (rg u1 → rg u2 → rg k1 → rg k2 → n_m τ → f_r [] [79, 81, 82, 83] [4, 5] σ τ → ∀ (H : Heap) (locs : List Loc) (ls : Array Slot), KP g (CX g q lb τ) H → va_D A (CX g q lb τ) → va_S A s.heap H locs → lv_has ls 5 [(0, .ref (q 9)), (1, .int (I u1)), (2, .int (I u2))] → W p l e ({ frames := 2, cells := 0, slots := 0, locals := 44 }) s m [.ref (q 9), .int (I n1)].toArray below meth c H locs 0 0 (MQ below (QV g A (p_V (CX g q lb) [] [79, 81, 82, 83] [4, 5] σ Q)) [.ref (q 9), .int (I n1)].toArray s 0 0 A) (F0 m 63 ls [.int (I k2), .int (I k1), .ref (q 102)]))) := ⟨_, fun _ _ _ _ _ => Iff.rfl⟩
  obtain ⟨P86, hP86⟩ : ∃ P : Int → Int → Int → S0 → Prop, ∀ (u1 : Int) (u2 : Int) (u3 : Int) (τ : S0), (P u1 u2 u3 τ ↔ (rg u1 → rg u2 → rg u3 → n_m τ → f_r [] [79, 81, 82, 83] [4, 5] σ τ → ∀ (H : Heap) (locs : List Loc) (ls : Array Slot), KP g (CX g q lb τ) H → va_D A (CX g q lb τ) → va_S A s.heap H locs → lv_has ls 5 [(0, .ref (q 9)), (1, .int (I u1)), (2, .int (I u2)), (3, .int (I u3))] → W p l e ({ frames := 2, cells := 0, slots := 0, locals := 44 }) s m [.ref (q 9), .int (I n1)].toArray below meth c H locs 0 0 (MQ below (QV g A (p_V (CX g q lb) [] [79, 81, 82, 83] [4, 5] σ Q)) [.ref (q 9), .int (I n1)].toArray s 0 0 A) (F0 m 86 ls []))) := ⟨_, fun _ _ _ _ => Iff.rfl⟩
  obtain ⟨P110, hP110⟩ : ∃ P : Int → Int → S0 → Prop, ∀ (u1 : Int) (u3 : Int) (τ : S0), (P u1 u3 τ ↔ (rg u1 → rg u3 → n_m τ → f_r [] [79, 81, 82, 83] [4, 5] σ τ → ∀ (H : Heap) (locs : List Loc) (ls : Array Slot), KP g (CX g q lb τ) H → va_D A (CX g q lb τ) → va_S A s.heap H locs → lv_has ls 5 [(0, .ref (q 9)), (1, .int (I u1)), (3, .int (I u3))] → W p l e ({ frames := 2, cells := 0, slots := 0, locals := 44 }) s m [.ref (q 9), .int (I n1)].toArray below meth c H locs 0 0 (MQ below (QV g A (p_V (CX g q lb) [] [79, 81, 82, 83] [4, 5] σ Q)) [.ref (q 9), .int (I n1)].toArray s 0 0 A) (F0 m 110 ls []))) := ⟨_, fun _ _ _ => Iff.rfl⟩
  obtain ⟨P203, hP203⟩ : ∃ P : Int → Int → Int → Int64 → Int64 → S0 → Prop, ∀ (u1 : Int) (u3 : Int) (k1 : Int) (k2 : Int64) (k3 : Int64) (τ : S0), (P u1 u3 k1 k2 k3 τ ↔ (rg u1 → rg u3 → rg k1 → n_m τ → f_r [] [79, 81, 82, 83] [4, 5] σ τ → ∀ (H : Heap) (locs : List Loc) (ls : Array Slot), KP g (CX g q lb τ) H → va_D A (CX g q lb τ) → va_S A s.heap H locs → lv_has ls 5 [(0, .ref (q 9)), (1, .int (I u1)), (3, .int (I u3))] → W p l e ({ frames := 2, cells := 0, slots := 0, locals := 44 }) s m [.ref (q 9), .int (I n1)].toArray below meth c H locs 0 0 (MQ below (QV g A (p_V (CX g q lb) [] [79, 81, 82, 83] [4, 5] σ Q)) [.ref (q 9), .int (I n1)].toArray s 0 0 A) (F0 m 203 ls [.long k3, .long k2, .int (I k1), .ref (q 9)]))) := ⟨_, fun _ _ _ _ _ _ => Iff.rfl⟩
  refine (fun hw => ?_) (hw P11 P63 P86 P110 P203 ?_ ?_ ?_ ?_ ?_)
  ·
    refine lv_aload_n hx hb dX1_addUnits_0 rfl (lv_at hl 0 rfl) ?_
    refine lv_iload_n hx hb dX1_addUnits_1 rfl (lv_at hl 1 rfl) ?_
    obtain ⟨Q1, hc, hw⟩ := hw
    refine wc_i (X := CX g q lb) (va_runV (As := [.int (I n1)]) (rest := []) ⟨hx, hb, hml, hown, hts⟩ (L_X1_hasUnits l g q lb hlb r_n1 hN hc H.size) (cwV 1 hts (TB_V tw_1753 tw_1755 ts_77 tw_11 co_X1_hasUnits) rfl rfl rfl (by decide +kernel) ⟨Nat.le_of_ble_eq_true rfl, Nat.le_of_ble_eq_true rfl⟩) (preV (q0 := 9) (ci := 1) rfl xT_bl hP hK hNb hD rfl rfl xT_at) rfl rfl hl.1 rfl (lv_room (Nat.le_of_ble_eq_true rfl)) dX1_addUnits_2 ⟨Nat.le_of_ble_eq_true rfl, Nat.le_of_ble_eq_true rfl⟩) hP hD hS hA (fun x2 H locs r_x2 hq hP hD hS => ?_)
    replace hw := hw x2 r_x2 hq
    refine bi_if_ne (tgt := 9) hx hb r_x2 dX1_addUnits_5 (by decide) (fun c4 => ?_) (fun c4 => ?_)
    ·
      replace hw := hw.1 c4
      refine lv_iconst (v := I 0) hx hb dX1_addUnits_9 rfl ?_
      refine lv_istore_n (lv' := [(2, .int (I 0)), (0, .ref (q 9)), (1, .int (I n1))]) hx hb dX1_addUnits_10 rfl hl (by decide) rfl (fun ls hl => ?_)
      exact (hP11 _ _ _).mp hw r_n1 (by decide) hN hF H locs ls hP hD hS (lv_sub hl [1, 2, 0] rfl)
    ·
      replace hw := hw.2 c4
      exact xrv hx hb hr hlk hP hK hD hS ⟨_, hN, hF, rfl, hw⟩ (Nat.le_of_ble_eq_true rfl) (Nat.le_of_ble_eq_true rfl) dX1_addUnits_8
  ·
    intro u1 u2 τ hw
    refine (hP11 _ _ _).mpr ?_
    intro r_u1 r_u2 hN hF H locs ls hP hD hS hl
    have hB := hN
    refine lv_iload_n hx hb dX1_addUnits_11 rfl (lv_at hl 2 rfl) ?_
    refine lv_aload_n hx hb dX1_addUnits_12 rfl (lv_at hl 0 rfl) ?_
    refine gfX1_library hx hb hts hK hP hown (hts _ tw_670) dX1_addUnits_13 ?_
    refine gfNX3_ranks hx hb hts hK hP hown (nb_use hNb tn_60) (x := τ.1 4) rfl dX1_addUnits_16 ?_
    refine bi_icmp_ge (tgt := 82) hx hb r_u2 (hB.1 4) dX1_addUnits_19 (by decide) (fun c5 => ?_) (fun c5 => ?_)
    ·
      replace hw := hw.1 c5
      refine lv_iconst (v := I 1) hx hb dX1_addUnits_82 rfl ?_
      refine lv_istore_n (lv' := [(2, .int (I 1)), (0, .ref (q 9)), (1, .int (I u1))]) hx hb dX1_addUnits_83 rfl hl (by decide) rfl (fun ls hl => ?_)
      refine lv_iconst (v := I 0) hx hb dX1_addUnits_84 rfl ?_
      refine lv_istore_n (lv' := [(3, .int (I 0)), (2, .int (I 1)), (0, .ref (q 9)), (1, .int (I u1))]) hx hb dX1_addUnits_85 rfl hl (by decide) rfl (fun ls hl => ?_)
      exact (hP86 _ _ _ _).mp hw r_u1 (by decide) (by decide) hN hF H locs ls hP hD hS (lv_sub hl [2, 3, 1, 0] rfl)
    ·
      replace hw := hw.2 c5
      refine lv_aload_n hx hb dX1_addUnits_22 rfl (lv_at hl 0 rfl) ?_
      refine gfX1_several hx hb hts hK hP hown (hts _ tw_685) dX1_addUnits_23 ?_
      refine lv_iload_n hx hb dX1_addUnits_26 rfl (lv_at hl 2 rfl) ?_
      refine lv_bipush (v := I 60) hx hb dX1_addUnits_27 (by decide) ?_
      refine bi_imul hx hb dX1_addUnits_29 ?_
      refine lv_aload_n hx hb dX1_addUnits_30 rfl (lv_at hl 0 rfl) ?_
      refine gfX1_start hx hb hts hK hP hown (hts _ tw_687) (x := τ.1 53) rfl dX1_addUnits_31 ?_
      refine bi_iadd hx hb dX1_addUnits_34 ?_
      obtain ⟨c6, hw⟩ := hw
      refine ldCX1_several hx hb hK hP hN c6 dX1_addUnits_35 (fun x7 e_x7 => ?_)
      replace hw := hw x7 e_x7
      refine lv_iload_n hx hb dX1_addUnits_36 rfl (lv_at hl 1 rfl) ?_
      refine bi_lushr hx hb dX1_addUnits_37 ?_
      refine lv_lconst (v := 1) hx hb dX1_addUnits_38 (by decide) ?_
      refine lv_land hx hb dX1_addUnits_39 ?_
      refine lv_lstore_n (lv' := [(3, .long ((j_ushr x7 u1) &&& 1)), (0, .ref (q 9)), (1, .int (I u1)), (2, .int (I u2))]) hx hb dX1_addUnits_40 rfl hl (by decide) rfl (fun ls hl => ?_)
      refine lv_aload_n hx hb dX1_addUnits_41 rfl (lv_at hl 1 rfl) ?_
      refine gfX1_base hx hb hts hK hP hown (hts _ tw_691) dX1_addUnits_42 ?_
      refine lv_iload_n hx hb dX1_addUnits_45 rfl (lv_at hl 3 rfl) ?_
      refine lv_aload_n hx hb dX1_addUnits_46 rfl (lv_at hl 1 rfl) ?_
      refine lv_iload_n hx hb dX1_addUnits_47 rfl (lv_at hl 3 rfl) ?_
      refine lv_iload_n hx hb dX1_addUnits_48 rfl (lv_at hl 2 rfl) ?_
      obtain ⟨Q8, hc, hw⟩ := hw
      refine wc_i (X := CX g q lb) (va_runV (As := [.int (I u2), .int (I u1)]) (rest := [.int (I u2), .ref (q 102)]) ⟨hx, hb, hml, hown, hts⟩ (L_X1_reaches l g q lb hlb r_u2 r_u1 hN hc H.size) (cwV 2 hts (TB_V tw_1757 tw_1759 ts_78 tw_11 co_X1_reaches) rfl rfl rfl (by decide +kernel) ⟨Nat.le_of_ble_eq_true rfl, Nat.le_of_ble_eq_true rfl⟩) (preV (q0 := 9) (ci := 1) rfl xT_bl hP hK hNb hD rfl rfl xT_at) rfl rfl hl.1 rfl (lv_room (Nat.le_of_ble_eq_true rfl)) dX1_addUnits_49 ⟨Nat.le_of_ble_eq_true rfl, Nat.le_of_ble_eq_true rfl⟩) hP hD hS hA (fun x9 H locs r_x9 hq hP hD hS => ?_)
      replace hw := hw x9 r_x9 hq
      refine bi_if_eq (tgt := 62) hx hb r_x9 dX1_addUnits_52 (by decide) (fun c11 => ?_) (fun c11 => ?_)
      ·
        replace hw := hw.1 c11
        refine lv_iconst (v := I 0) hx hb dX1_addUnits_62 rfl ?_
        exact (hP63 _ _ _ _ _).mp hw r_u1 r_u2 r_u2 (by decide) hN hF H locs ls hP hD hS (lv_sub hl [1, 2, 3] rfl)
      ·
        replace hw := hw.2 c11
        refine lv_iconst (v := I 1) hx hb dX1_addUnits_55 rfl ?_
        refine lv_lload_n hx hb dX1_addUnits_56 rfl (lv_at hl 0 rfl) ?_
        refine bi_l2i hx hb dX1_addUnits_57 (fun x12 r_x12 p_x12 => ?_)
        replace hw := hw x12 r_x12 p_x12
        refine bi_iadd hx hb dX1_addUnits_58 ?_
        refine lv_goto (tgt := 63) hx hb dX1_addUnits_59 (by decide) ?_
        obtain ⟨c13, hw⟩ := hw
        exact (hP63 _ _ _ _ _).mp hw r_u1 r_u2 r_u2 c13 hN hF H locs ls hP hD hS (lv_sub hl [1, 2, 3] rfl)
  ·
    intro u1 u2 k1 k2 τ hw
    refine (hP63 _ _ _ _ _).mpr ?_
    intro r_u1 r_u2 r_k1 r_k2 hN hF H locs ls hP hD hS hl
    have hB := hN
    obtain ⟨c20, hw⟩ := hw
    refine sdCX1_base hx hb hK hP hD hS c20 dX1_addUnits_63 (fun H locs hP hD hS => ?_)
    have hN : n_m (s_a τ 81 k1 k2) := n_a (k := 81) (j := k1) hN (r_k2 : rg k2)
    have hF : f_r [] [79, 81, 82, 83] [4, 5] σ (s_a τ 81 k1 k2) := f_a hF (by decide)
    refine lv_aload_n hx hb dX1_addUnits_64 rfl (lv_at hl 0 rfl) ?_
    refine gfX1_total hx hb hts hK hP hown (hts _ tw_692) dX1_addUnits_65 ?_
    refine lv_iload_n hx hb dX1_addUnits_68 rfl (lv_at hl 2 rfl) ?_
    refine lv_aload_n hx hb dX1_addUnits_69 rfl (lv_at hl 0 rfl) ?_
    refine gfX1_base hx hb hts hK hP hown (hts _ tw_691) dX1_addUnits_70 ?_
    refine lv_iload_n hx hb dX1_addUnits_73 rfl (lv_at hl 2 rfl) ?_
    obtain ⟨c21, hw⟩ := hw
    refine ldCX1_base hx hb hK hP hN c21 dX1_addUnits_74 (fun x22 r_x22 e_x22 => ?_)
    replace hw := hw x22 r_x22 e_x22
    refine sdCX1_total hx hb hK hP hD hS c21 dX1_addUnits_75 (fun H locs hP hD hS => ?_)
    have hN : n_m (s_a (s_a τ 81 k1 k2) 82 u2 x22) := n_a (k := 82) (j := u2) hN (r_x22 : rg x22)
    have hF : f_r [] [79, 81, 82, 83] [4, 5] σ (s_a (s_a τ 81 k1 k2) 82 u2 x22) := f_a hF (by decide)
    refine lv_iinc (v := I (u2 + 1)) (lv' := [(2, .int (I (u2 + 1))), (0, .ref (q 9)), (1, .int (I u1))]) hx hb dX1_addUnits_76 hl (k := 2) rfl (I_add _ _) (by decide) rfl (fun ls hl => ?_)
    refine lv_goto (tgt := 11) hx hb dX1_addUnits_79 (by decide) ?_
    obtain ⟨c23, hw⟩ := hw
    exact (hP11 _ _ _).mp hw r_u1 c23 hN hF H locs ls hP hD hS (lv_sub hl [1, 2, 0] rfl)
  ·
    intro u1 u2 u3 τ hw
    refine (hP86 _ _ _ _).mpr ?_
    intro r_u1 r_u2 r_u3 hN hF H locs ls hP hD hS hl
    have hB := hN
    refine lv_iload_n hx hb dX1_addUnits_86 rfl (lv_at hl 2 rfl) ?_
    refine bi_if_eq (tgt := 108) hx hb r_u2 dX1_addUnits_87 (by decide) (fun c14 => ?_) (fun c14 => ?_)
    ·
      replace hw := hw.1 c14
      refine lv_iconst (v := I 0) hx hb dX1_addUnits_108 rfl ?_
      refine lv_istore_n (lv' := [(3, .int (I 0)), (0, .ref (q 9)), (1, .int (I u1)), (2, .int (I u2))]) hx hb dX1_addUnits_109 rfl hl (by decide) rfl (fun ls hl => ?_)
      exact (hP110 _ _ _).mp hw r_u1 (by decide) hN hF H locs ls hP hD hS (lv_sub hl [1, 2, 0] rfl)
    ·
      replace hw := hw.2 c14
      refine lv_iload_n hx hb dX1_addUnits_90 rfl (lv_at hl 3 rfl) ?_
      refine lv_sipush (v := I 200) hx hb dX1_addUnits_91 (by decide) ?_
      refine bi_icmp_gt (tgt := 108) hx hb r_u3 (by decide) dX1_addUnits_94 (by decide) (fun c15 => ?_) (fun c15 => ?_)
      ·
        replace hw := hw.1 c15
        refine lv_iconst (v := I 0) hx hb dX1_addUnits_108 rfl ?_
        refine lv_istore_n (lv' := [(3, .int (I 0)), (0, .ref (q 9)), (1, .int (I u1)), (2, .int (I u2))]) hx hb dX1_addUnits_109 rfl hl (by decide) rfl (fun ls hl => ?_)
        exact (hP110 _ _ _).mp hw r_u1 (by decide) hN hF H locs ls hP hD hS (lv_sub hl [1, 2, 0] rfl)
      ·
        replace hw := hw.2 c15
        refine lv_aload_n hx hb dX1_addUnits_97 rfl (lv_at hl 0 rfl) ?_
        obtain ⟨Q16, hc, hw⟩ := hw
        refine wc_I (X := CX g q lb) (va_runV (As := []) (rest := []) ⟨hx, hb, hml, hown, hts⟩ (L_X1_countUnits l g q lb hlb  hN hc H.size) (cwV 0 hts (TB_V tw_1761 tw_1763 ts_79 tw_11 co_X1_countUnits) rfl rfl rfl (by decide +kernel) ⟨Nat.le_of_ble_eq_true rfl, Nat.le_of_ble_eq_true rfl⟩) (preV (q0 := 9) (ci := 1) rfl xT_bl hP hK hNb hD rfl rfl xT_at) rfl rfl hl.1 rfl (lv_room (Nat.le_of_ble_eq_true rfl)) dX1_addUnits_98 ⟨Nat.le_of_ble_eq_true rfl, Nat.le_of_ble_eq_true rfl⟩) hP hD hS hA (fun x17 τ18 H locs r_x17 hN hf hq hP hD hS => ?_)
        replace hw := hw x17 τ18 r_x17 hN hf hq
        have hF : f_r [] [79, 81, 82, 83] [4, 5] σ τ18 := f_t hF hf (by decide) (by decide) (by decide)
        have hB := hN
        refine lv_istore_n (lv' := [(2, .int (I x17)), (0, .ref (q 9)), (1, .int (I u1)), (3, .int (I u3))]) hx hb dX1_addUnits_101 rfl hl (by decide) rfl (fun ls hl => ?_)
        refine lv_iinc (v := I (u3 + 1)) (lv' := [(3, .int (I (u3 + 1))), (2, .int (I x17)), (0, .ref (q 9)), (1, .int (I u1))]) hx hb dX1_addUnits_102 hl (k := 3) rfl (I_add _ _) (by decide) rfl (fun ls hl => ?_)
        refine lv_goto (tgt := 86) hx hb dX1_addUnits_105 (by decide) ?_
        obtain ⟨c19, hw⟩ := hw
        exact (hP86 _ _ _ _).mp hw r_u1 r_x17 c19 hN hF H locs ls hP hD hS (lv_sub hl [2, 3, 1, 0] rfl)
  ·
    intro u1 u3 τ hw
    refine (hP110 _ _ _).mpr ?_
    intro r_u1 r_u3 hN hF H locs ls hP hD hS hl
    have hB := hN
    refine lv_iload_n hx hb dX1_addUnits_110 rfl (lv_at hl 2 rfl) ?_
    refine lv_aload_n hx hb dX1_addUnits_111 rfl (lv_at hl 0 rfl) ?_
    refine gfX1_rules hx hb hts hK hP hown (hts _ tw_671) dX1_addUnits_112 ?_
    refine gfNX8_units hx hb hts hK hP hown (nb_use hNb tn_623) (x := τ.1 46) rfl dX1_addUnits_115 ?_
    refine bi_icmp_ge (tgt := 221) hx hb r_u3 (hB.1 46) dX1_addUnits_118 (by decide) (fun c24 => ?_) (fun c24 => ?_)
    ·
      replace hw := hw.1 c24
      exact xrv hx hb hr hlk hP hK hD hS ⟨_, hN, hF, rfl, hw⟩ (Nat.le_of_ble_eq_true rfl) (Nat.le_of_ble_eq_true rfl) dX1_addUnits_221
    ·
      replace hw := hw.2 c24
      refine lv_aload_n hx hb dX1_addUnits_121 rfl (lv_at hl 0 rfl) ?_
      refine gfX1_rules hx hb hts hK hP hown (hts _ tw_671) dX1_addUnits_122 ?_
      refine gfNX8_unitRule hx hb hts hK hP hown (nb_use hNb tn_619) dX1_addUnits_125 ?_
      refine lv_iload_n hx hb dX1_addUnits_128 rfl (lv_at hl 2 rfl) ?_
      obtain ⟨c25, hw⟩ := hw
      refine ldCX8_unitRule hx hb hK hP hN c25 dX1_addUnits_129 (fun x26 r_x26 e_x26 => ?_)
      replace hw := hw x26 r_x26 e_x26
      refine lv_aload_n hx hb dX1_addUnits_130 rfl (lv_at hl 0 rfl) ?_
      refine gfX1_limit hx hb hts hK hP hown (hts _ tw_678) (x := τ.1 51) rfl dX1_addUnits_131 ?_
      refine bi_icmp_ge (tgt := 221) hx hb r_x26 (hB.1 51) dX1_addUnits_134 (by decide) (fun c27 => ?_) (fun c27 => ?_)
      ·
        replace hw := hw.1 c27
        exact xrv hx hb hr hlk hP hK hD hS ⟨_, hN, hF, rfl, hw⟩ (Nat.le_of_ble_eq_true rfl) (Nat.le_of_ble_eq_true rfl) dX1_addUnits_221
      ·
        replace hw := hw.2 c27
        refine lv_aload_n hx hb dX1_addUnits_137 rfl (lv_at hl 0 rfl) ?_
        refine gfX1_total hx hb hts hK hP hown (hts _ tw_692) dX1_addUnits_138 ?_
        refine lv_aload_n hx hb dX1_addUnits_141 rfl (lv_at hl 0 rfl) ?_
        refine gfX1_rules hx hb hts hK hP hown (hts _ tw_671) dX1_addUnits_142 ?_
        refine gfNX8_unitFrom hx hb hts hK hP hown (nb_use hNb tn_621) dX1_addUnits_145 ?_
        refine lv_iload_n hx hb dX1_addUnits_148 rfl (lv_at hl 2 rfl) ?_
        refine ldCX8_unitFrom hx hb hK hP hN c25 dX1_addUnits_149 (fun x28 r_x28 e_x28 => ?_)
        replace hw := hw x28 r_x28 e_x28
        obtain ⟨c29, hw⟩ := hw
        refine ldCX1_total hx hb hK hP hN c29 dX1_addUnits_150 (fun x30 r_x30 e_x30 => ?_)
        replace hw := hw x30 r_x30 e_x30
        refine bi_if_le (tgt := 215) hx hb r_x30 dX1_addUnits_151 (by decide) (fun c31 => ?_) (fun c31 => ?_)
        ·
          replace hw := hw.1 c31
          refine lv_iinc (v := I (u3 + 1)) (lv' := [(3, .int (I (u3 + 1))), (0, .ref (q 9)), (1, .int (I u1))]) hx hb dX1_addUnits_215 hl (k := 2) rfl (I_add _ _) (by decide) rfl (fun ls hl => ?_)
          refine lv_goto (tgt := 110) hx hb dX1_addUnits_218 (by decide) ?_
          obtain ⟨c32, hw⟩ := hw
          exact (hP110 _ _ _).mp hw r_u1 c32 hN hF H locs ls hP hD hS (lv_sub hl [1, 2, 0] rfl)
        ·
          replace hw := hw.2 c31
          refine lv_aload_n hx hb dX1_addUnits_154 rfl (lv_at hl 0 rfl) ?_
          refine gfX1_rules hx hb hts hK hP hown (hts _ tw_671) dX1_addUnits_155 ?_
          refine lv_aload_n hx hb dX1_addUnits_158 rfl (lv_at hl 0 rfl) ?_
          refine gfX1_library hx hb hts hK hP hown (hts _ tw_670) dX1_addUnits_159 ?_
          refine lv_aload_n hx hb dX1_addUnits_162 rfl (lv_at hl 0 rfl) ?_
          refine gfX1_rules hx hb hts hK hP hown (hts _ tw_671) dX1_addUnits_163 ?_
          refine gfNX8_unitRule hx hb hts hK hP hown (nb_use hNb tn_619) dX1_addUnits_166 ?_
          refine lv_iload_n hx hb dX1_addUnits_169 rfl (lv_at hl 2 rfl) ?_
          refine ldCX8_unitRule hx hb hK hP hN c25 dX1_addUnits_170 (fun x33 r_x33 e_x33 => ?_)
          replace hw := hw x33 r_x33 e_x33
          obtain ⟨Q34, hc, hw⟩ := hw
          refine wc_i (X := CX g q lb) (va_runV (As := [.int (I x33)]) (rest := [.ref (q 8)]) ⟨hx, hb, hml, hown, hts⟩ (L_X3_typeOf l g q lb hlb r_x33 hN hc H.size) (cwV 1 hts (TB_V tw_1714 tw_1208 tw_1209 tw_2 co_X3_typeOf) rfl rfl rfl (by decide +kernel) ⟨Nat.le_of_ble_eq_true rfl, Nat.le_of_ble_eq_true rfl⟩) (preV (q0 := 1) (ci := 3) rfl xT_bl hP hK hNb hD rfl rfl xT_at) rfl rfl hl.1 rfl (lv_room (Nat.le_of_ble_eq_true rfl)) dX1_addUnits_171 ⟨Nat.le_of_ble_eq_true rfl, Nat.le_of_ble_eq_true rfl⟩) hP hD hS hA (fun x35 H locs r_x35 hq hP hD hS => ?_)
          replace hw := hw x35 r_x35 hq
          obtain ⟨Q37, hc, hw⟩ := hw
          refine wc_i (X := CX g q lb) (va_runV (As := [.int (I x35)]) (rest := []) ⟨hx, hb, hml, hown, hts⟩ (L_X8_sortRank l g q lb hlb r_x35 hN hc H.size) (cwV 1 hts (TB_V tw_1727 tw_1728 tw_1729 tw_10 co_X8_sortRank) rfl rfl rfl (by decide +kernel) ⟨Nat.le_of_ble_eq_true rfl, Nat.le_of_ble_eq_true rfl⟩) (preV (q0 := 8) (ci := 8) rfl xT_bl hP hK hNb hD rfl rfl xT_at) rfl rfl hl.1 rfl (lv_room (Nat.le_of_ble_eq_true rfl)) dX1_addUnits_174 ⟨Nat.le_of_ble_eq_true rfl, Nat.le_of_ble_eq_true rfl⟩) hP hD hS hA (fun x38 H locs r_x38 hq hP hD hS => ?_)
          replace hw := hw x38 r_x38 hq
          refine lv_istore (lv' := [(4, .int (I x38)), (0, .ref (q 9)), (1, .int (I u1)), (3, .int (I u3))]) hx hb dX1_addUnits_177 hl (by decide) rfl (fun ls hl => ?_)
          refine lv_aload_n hx hb dX1_addUnits_179 rfl (lv_at hl 1 rfl) ?_
          refine lv_iload hx hb dX1_addUnits_180 (lv_at hl 0 rfl) ?_
          refine lv_lconst (v := 1) hx hb dX1_addUnits_182 (by decide) ?_
          refine lv_iload_n hx hb dX1_addUnits_183 rfl (lv_at hl 2 rfl) ?_
          refine bi_lshl hx hb dX1_addUnits_184 ?_
          refine lv_aload_n hx hb dX1_addUnits_185 rfl (lv_at hl 1 rfl) ?_
          refine gfX1_total hx hb hts hK hP hown (hts _ tw_692) dX1_addUnits_186 ?_
          refine lv_iload hx hb dX1_addUnits_189 (lv_at hl 0 rfl) ?_
          obtain ⟨c40, hw⟩ := hw
          refine ldCX1_total hx hb hK hP hN c40 dX1_addUnits_191 (fun x41 r_x41 e_x41 => ?_)
          replace hw := hw x41 r_x41 e_x41
          refine lv_iconst (v := I 1) hx hb dX1_addUnits_192 rfl ?_
          refine bi_icmp_le (tgt := 202) hx hb r_x41 (by decide) dX1_addUnits_193 (by decide) (fun c42 => ?_) (fun c42 => ?_)
          ·
            replace hw := hw.1 c42
            refine lv_lconst (v := 0) hx hb dX1_addUnits_202 (by decide) ?_
            exact (hP203 _ _ _ _ _ _).mp hw r_u1 r_u3 r_x38 hN hF H locs ls hP hD hS (lv_sub hl [1, 2, 3] rfl)
          ·
            replace hw := hw.2 c42
            refine lv_lconst (v := 1) hx hb dX1_addUnits_196 (by decide) ?_
            refine lv_iload_n hx hb dX1_addUnits_197 rfl (lv_at hl 2 rfl) ?_
            refine bi_lshl hx hb dX1_addUnits_198 ?_
            refine lv_goto (tgt := 203) hx hb dX1_addUnits_199 (by decide) ?_
            exact (hP203 _ _ _ _ _ _).mp hw r_u1 r_u3 r_x38 hN hF H locs ls hP hD hS (lv_sub hl [1, 2, 3] rfl)
  ·
    intro u1 u3 k1 k2 k3 τ hw
    refine (hP203 _ _ _ _ _ _).mpr ?_
    intro r_u1 r_u3 r_k1 hN hF H locs ls hP hD hS hl
    have hB := hN
    refine lv_aload_n hx hb dX1_addUnits_203 rfl (lv_at hl 0 rfl) ?_
    refine gfX1_rules hx hb hts hK hP hown (hts _ tw_671) dX1_addUnits_204 ?_
    refine gfNX8_unitRule hx hb hts hK hP hown (nb_use hNb tn_619) dX1_addUnits_207 ?_
    refine lv_iload_n hx hb dX1_addUnits_210 rfl (lv_at hl 2 rfl) ?_
    obtain ⟨c43, hw⟩ := hw
    refine ldCX8_unitRule hx hb hK hP hN c43 dX1_addUnits_211 (fun x44 r_x44 e_x44 => ?_)
    replace hw := hw x44 r_x44 e_x44
    obtain ⟨Q45, hc, hw⟩ := hw
    refine wc_V (X := CX g q lb) (va_runV (As := [.int (I k1), .long k2, .long k3, .int (I x44)]) (rest := []) ⟨hx, hb, hml, hown, hts⟩ (L_X1_add l g q lb hlb r_k1 r_x44 hN hc H.size) (cwV 4 hts (TB_V tw_1731 tw_1733 ts_72 tw_11 co_X1_add) rfl rfl rfl (by decide +kernel) ⟨Nat.le_of_ble_eq_true rfl, Nat.le_of_ble_eq_true rfl⟩) (preV (q0 := 9) (ci := 1) rfl xT_bl hP hK hNb hD rfl rfl xT_at) rfl rfl hl.1 rfl (lv_room (Nat.le_of_ble_eq_true rfl)) dX1_addUnits_212 ⟨Nat.le_of_ble_eq_true rfl, Nat.le_of_ble_eq_true rfl⟩) hP hD hS hA (fun τ47 H locs hN hf hq hP hD hS => ?_)
    replace hw := hw τ47 hN hf hq
    have hF : f_r [] [79, 81, 82, 83] [4, 5] σ τ47 := f_t hF hf (by decide) (by decide) (by decide)
    have hB := hN
    refine lv_iinc (v := I (u3 + 1)) (lv' := [(3, .int (I (u3 + 1))), (0, .ref (q 9)), (1, .int (I u1))]) hx hb dX1_addUnits_215 hl (k := 2) rfl (I_add _ _) (by decide) rfl (fun ls hl => ?_)
    refine lv_goto (tgt := 110) hx hb dX1_addUnits_218 (by decide) ?_
    obtain ⟨c48, hw⟩ := hw
    exact (hP110 _ _ _).mp hw r_u1 c48 hN hF H locs ls hP hD hS (lv_sub hl [1, 2, 0] rfl)
def W_X1_parseFromStart (σ : S0) (Q : S0 → Prop) : Prop :=
  ∀ (P2 : Int → S0 → Prop) (P175 : Int → S0 → Prop) (P190 : Int → Int → S0 → Prop),
  (∀ (u1 : Int) (τ : S0), ((τ.1 4 ≤ u1 → (0 ≤ τ.1 53 ∧ τ.1 53 < 60) ∧ (∀ (x3 : Int), rg x3 → x3 = τ.2.1 78 (τ.1 53) → ((x3 = (-1) → ∀ (x5 : Int), rg x5 → x5 = τ.2.1 77 (τ.1 53) → ((0 ≤ x5 ∧ x5 < 1000) ∧ (∀ (x7 : Int), rg x7 → x7 = τ.2.1 73 x5 → ((x7 ≤ 0 → rg (τ.1 53 + 1) ∧ P175 (τ.1 53 + 1) τ) ∧ (0 < x7 → ∀ (x10 : Int), rg x10 → x10 = τ.2.1 77 (τ.1 53) → ((0 ≤ x10 ∧ x10 < 1000) ∧ (∀ (x12 : Int), rg x12 → x12 = τ.2.1 73 x10 → (∃ (Q13 : S0 → Prop), W_X1_walk x12 (j_shl 1 (τ.1 53 + 1)) 0 1 τ Q13 ∧ ∀ (τ15 : S0), n_m τ15 → f_r [] [79, 80] [4, 5, 6, 7] τ τ15 → Q13 τ15 → (rg (τ15.1 53 + 1) ∧ P175 (τ15.1 53 + 1) τ15))))))))) ∧ (¬ x3 = (-1) → ∀ (x17 : Int), rg x17 → x17 = τ.2.1 78 (τ.1 53) → (∃ (Q18 : Int → Prop), W_X3_typeOf x17 τ Q18 ∧ ∀ (x19 : Int), rg x19 → Q18 x19 → (∃ (Q21 : Int → Prop), W_X8_sortRank x19 τ Q21 ∧ ∀ (x22 : Int), rg x22 → Q21 x22 → ((x22 = (-1) → rg (τ.1 53 + 1) ∧ P175 (τ.1 53 + 1) τ) ∧ (¬ x22 = (-1) → ∀ (x26 : Int), rg x26 → x26 = τ.2.1 78 (τ.1 53) → (∃ (Q27 : S0 → Prop), W_X1_add x22 (j_shl 1 (τ.1 53 + 1)) 0 x26 τ Q27 ∧ ∀ (τ29 : S0), n_m τ29 → f_r [] [79] [4, 5] τ τ29 → Q27 τ29 → (rg (τ29.1 53 + 1) ∧ P175 (τ29.1 53 + 1) τ29)))))))))) ∧ (u1 < τ.1 4 → (0 ≤ ((u1 * 60) + τ.1 53) ∧ ((u1 * 60) + τ.1 53) < 6000) ∧ (rg (u1 + 1) ∧ P2 (u1 + 1) (s_b (s_b τ 4 ((u1 * 60) + τ.1 53) 0) 5 ((u1 * 60) + τ.1 53) 0)))) → P2 u1 τ) →
  (∀ (u1 : Int) (τ : S0), ((τ.1 50 < u1 → Q τ) ∧ (u1 ≤ τ.1 50 → ∃ (Q34 : S0 → Prop), W_X1_addUnits u1 τ Q34 ∧ ∀ (τ36 : S0), n_m τ36 → f_r [] [79, 81, 82, 83] [4, 5] τ τ36 → Q34 τ36 → (P190 u1 0 τ36))) → P175 u1 τ) →
  (∀ (u1 : Int) (u2 : Int) (τ : S0), ((τ.1 4 ≤ u2 → rg (u1 + 1) ∧ P175 (u1 + 1) τ) ∧ (u2 < τ.1 4 → (0 ≤ u2 ∧ u2 < 100) ∧ (∀ (x40 : Int), rg x40 → x40 = τ.2.1 74 u2 → ((x40 ≤ 0 → rg (u2 + 1) ∧ P190 u1 (u2 + 1) τ) ∧ (0 < x40 → ∃ (Q43 : Int → Prop), W_X1_reaches u2 u1 τ Q43 ∧ ∀ (x44 : Int), rg x44 → Q43 x44 → ((x44 = 0 → rg (u2 + 1) ∧ P190 u1 (u2 + 1) τ) ∧ (¬ x44 = 0 → ∀ (x48 : Int), rg x48 → x48 = τ.2.1 74 u2 → ((0 ≤ ((u2 * 60) + τ.1 53) ∧ ((u2 * 60) + τ.1 53) < 6000) ∧ (∀ (x50 : Int64), x50 = τ.2.2 5 ((u2 * 60) + τ.1 53) → (∃ (Q51 : S0 → Prop), W_X1_walk x48 (j_shl 1 u1) (x50 &&& (j_shl 1 u1)) 0 τ Q51 ∧ ∀ (τ53 : S0), n_m τ53 → f_r [] [79, 80] [4, 5, 6, 7] τ τ53 → Q51 τ53 → (rg (u2 + 1) ∧ P190 u1 (u2 + 1) τ53))))))))))) → P190 u1 u2 τ) →
  P2 0 σ
set_option maxRecDepth 100000 in
set_option maxHeartbeats 4000000 in
theorem L_X1_parseFromStart (l : Launch) (g : gG) (q : Nat → Nat) (lb : Nat) (hlb : lb < 2 ^ 31) {σ : S0} {Q : S0 → Prop} (hN : n_m σ) (hw : W_X1_parseFromStart σ Q) (sz : Nat) : MetV l yX1_parseFromStart cX1_parseFromStart 5 { frames := 3, cells := 0, slots := 0, locals := 86 } g [.ref (q 9)] (CX g q lb σ) sz xT (p_V (CX g q lb) [] [79, 80, 81, 82, 83] [4, 5, 6, 7] σ Q) 0 0 := by
  refine mkMet (Qc := fun A => QV g A (p_V (CX g q lb) [] [79, 80, 81, 82, 83] [4, 5, 6, 7] σ Q)) (by decide) (Nat.le_of_ble_eq_true rfl) ?_
  intro p e s m below meth c A H ls hx hb hr hml hown hts hlk hnm hsz hP hK hNb hD hA hAe hS hX hl
  have hl : lv_has ls 5 [(0, .ref (q 9))] := hl
  have hB := hN
  have hF : f_r [] [79, 80, 81, 82, 83] [4, 5, 6, 7] σ σ := f_0
  obtain ⟨locs, hlocs⟩ : ∃ z : List Loc, z = [] := ⟨_, rfl⟩
  rw [← hlocs] at hS ⊢
  obtain ⟨P2, hP2⟩ : ∃ P : Int → S0 → Prop, ∀ (u1 : Int) (τ : S0), (P u1 τ ↔ (rg u1 → n_m τ → f_r [] [79, 80, 81, 82, 83] [4, 5, 6, 7] σ τ → ∀ (H : Heap) (locs : List Loc) (ls : Array Slot), KP g (CX g q lb τ) H → va_D A (CX g q lb τ) → va_S A s.heap H locs → lv_has ls 5 [(0, .ref (q 9)), (1, .int (I u1))] → W p l e ({ frames := 3, cells := 0, slots := 0, locals := 86 }) s m [.ref (q 9)].toArray below meth c H locs 0 0 (MQ below (QV g A (p_V (CX g q lb) [] [79, 80, 81, 82, 83] [4, 5, 6, 7] σ Q)) [.ref (q 9)].toArray s 0 0 A) (F0 m 2 ls []))) := ⟨_, fun _ _ => Iff.rfl⟩
  obtain ⟨P175, hP175⟩ : ∃ P : Int → S0 → Prop, ∀ (u1 : Int) (τ : S0), (P u1 τ ↔ (rg u1 → n_m τ → f_r [] [79, 80, 81, 82, 83] [4, 5, 6, 7] σ τ → ∀ (H : Heap) (locs : List Loc) (ls : Array Slot), KP g (CX g q lb τ) H → va_D A (CX g q lb τ) → va_S A s.heap H locs → lv_has ls 5 [(0, .ref (q 9)), (1, .int (I u1))] → W p l e ({ frames := 3, cells := 0, slots := 0, locals := 86 }) s m [.ref (q 9)].toArray below meth c H locs 0 0 (MQ below (QV g A (p_V (CX g q lb) [] [79, 80, 81, 82, 83] [4, 5, 6, 7] σ Q)) [.ref (q 9)].toArray s 0 0 A) (F0 m 175 ls []))) := ⟨_, fun _ _ => Iff.rfl⟩
  obtain ⟨P190, hP190⟩ : ∃ P : Int → Int → S0 → Prop, ∀ (u1 : Int) (u2 : Int) (τ : S0), (P u1 u2 τ ↔ (rg u1 → rg u2 → n_m τ → f_r [] [79, 80, 81, 82, 83] [4, 5, 6, 7] σ τ → ∀ (H : Heap) (locs : List Loc) (ls : Array Slot), KP g (CX g q lb τ) H → va_D A (CX g q lb τ) → va_S A s.heap H locs → lv_has ls 5 [(0, .ref (q 9)), (1, .int (I u1)), (2, .int (I u2))] → W p l e ({ frames := 3, cells := 0, slots := 0, locals := 86 }) s m [.ref (q 9)].toArray below meth c H locs 0 0 (MQ below (QV g A (p_V (CX g q lb) [] [79, 80, 81, 82, 83] [4, 5, 6, 7] σ Q)) [.ref (q 9)].toArray s 0 0 A) (F0 m 190 ls []))) := ⟨_, fun _ _ _ => Iff.rfl⟩
  refine (fun hw => ?_) (hw P2 P175 P190 ?_ ?_ ?_)
  ·
    refine lv_iconst (v := I 0) hx hb dX1_parseFromStart_0 rfl ?_
    refine lv_istore_n (lv' := [(1, .int (I 0)), (0, .ref (q 9))]) hx hb dX1_parseFromStart_1 rfl hl (by decide) rfl (fun ls hl => ?_)
    exact (hP2 _ _).mp hw (by decide) hN hF H locs ls hP hD hS (lv_sub hl [1, 0] rfl)
  ·
    intro u1 τ hw
    refine (hP2 _ _).mpr ?_
    intro r_u1 hN hF H locs ls hP hD hS hl
    have hB := hN
    refine lv_iload_n hx hb dX1_parseFromStart_2 rfl (lv_at hl 1 rfl) ?_
    refine lv_aload_n hx hb dX1_parseFromStart_3 rfl (lv_at hl 0 rfl) ?_
    refine gfX1_library hx hb hts hK hP hown (hts _ tw_670) dX1_parseFromStart_4 ?_
    refine gfNX3_ranks hx hb hts hK hP hown (nb_use hNb tn_60) (x := τ.1 4) rfl dX1_parseFromStart_7 ?_
    refine bi_icmp_ge (tgt := 49) hx hb r_u1 (hB.1 4) dX1_parseFromStart_10 (by decide) (fun c1 => ?_) (fun c1 => ?_)
    ·
      replace hw := hw.1 c1
      refine lv_aload_n hx hb dX1_parseFromStart_49 rfl (lv_at hl 0 rfl) ?_
      refine gfX1_leaf hx hb hts hK hP hown (hts _ tw_675) dX1_parseFromStart_50 ?_
      refine lv_aload_n hx hb dX1_parseFromStart_53 rfl (lv_at hl 0 rfl) ?_
      refine gfX1_start hx hb hts hK hP hown (hts _ tw_687) (x := τ.1 53) rfl dX1_parseFromStart_54 ?_
      obtain ⟨c2, hw⟩ := hw
      refine ldCX1_leaf hx hb hK hP hN c2 dX1_parseFromStart_57 (fun x3 r_x3 e_x3 => ?_)
      replace hw := hw x3 r_x3 e_x3
      refine lv_iconst (v := I (-1)) hx hb dX1_parseFromStart_58 rfl ?_
      refine bi_icmp_eq (tgt := 117) hx hb r_x3 (by decide) dX1_parseFromStart_59 (by decide) (fun c4 => ?_) (fun c4 => ?_)
      ·
        replace hw := hw.1 c4
        refine lv_aload_n hx hb dX1_parseFromStart_117 rfl (lv_at hl 0 rfl) ?_
        refine gfX1_rules hx hb hts hK hP hown (hts _ tw_671) dX1_parseFromStart_118 ?_
        refine gfNX8_atConstant hx hb hts hK hP hown (nb_use hNb tn_615) dX1_parseFromStart_121 ?_
        refine lv_aload_n hx hb dX1_parseFromStart_124 rfl (lv_at hl 0 rfl) ?_
        refine gfX1_row hx hb hts hK hP hown (hts _ tw_672) dX1_parseFromStart_125 ?_
        refine lv_aload_n hx hb dX1_parseFromStart_128 rfl (lv_at hl 0 rfl) ?_
        refine gfX1_start hx hb hts hK hP hown (hts _ tw_687) (x := τ.1 53) rfl dX1_parseFromStart_129 ?_
        refine ldCX1_row hx hb hK hP hN c2 dX1_parseFromStart_132 (fun x5 r_x5 e_x5 => ?_)
        replace hw := hw x5 r_x5 e_x5
        obtain ⟨c6, hw⟩ := hw
        refine ldCX8_atConstant hx hb hK hP hN c6 dX1_parseFromStart_133 (fun x7 r_x7 e_x7 => ?_)
        replace hw := hw x7 r_x7 e_x7
        refine bi_if_le (tgt := 168) hx hb r_x7 dX1_parseFromStart_134 (by decide) (fun c8 => ?_) (fun c8 => ?_)
        ·
          replace hw := hw.1 c8
          refine lv_aload_n hx hb dX1_parseFromStart_168 rfl (lv_at hl 0 rfl) ?_
          refine gfX1_start hx hb hts hK hP hown (hts _ tw_687) (x := τ.1 53) rfl dX1_parseFromStart_169 ?_
          refine lv_iconst (v := I 1) hx hb dX1_parseFromStart_172 rfl ?_
          refine bi_iadd hx hb dX1_parseFromStart_173 ?_
          refine lv_istore_n (lv' := [(1, .int (I (τ.1 53 + 1))), (0, .ref (q 9))]) hx hb dX1_parseFromStart_174 rfl hl (by decide) rfl (fun ls hl => ?_)
          obtain ⟨c9, hw⟩ := hw
          exact (hP175 _ _).mp hw c9 hN hF H locs ls hP hD hS (lv_sub hl [1, 0] rfl)
        ·
          replace hw := hw.2 c8
          refine lv_aload_n hx hb dX1_parseFromStart_137 rfl (lv_at hl 0 rfl) ?_
          refine lv_aload_n hx hb dX1_parseFromStart_138 rfl (lv_at hl 0 rfl) ?_
          refine gfX1_rules hx hb hts hK hP hown (hts _ tw_671) dX1_parseFromStart_139 ?_
          refine gfNX8_atConstant hx hb hts hK hP hown (nb_use hNb tn_615) dX1_parseFromStart_142 ?_
          refine lv_aload_n hx hb dX1_parseFromStart_145 rfl (lv_at hl 0 rfl) ?_
          refine gfX1_row hx hb hts hK hP hown (hts _ tw_672) dX1_parseFromStart_146 ?_
          refine lv_aload_n hx hb dX1_parseFromStart_149 rfl (lv_at hl 0 rfl) ?_
          refine gfX1_start hx hb hts hK hP hown (hts _ tw_687) (x := τ.1 53) rfl dX1_parseFromStart_150 ?_
          refine ldCX1_row hx hb hK hP hN c2 dX1_parseFromStart_153 (fun x10 r_x10 e_x10 => ?_)
          replace hw := hw x10 r_x10 e_x10
          obtain ⟨c11, hw⟩ := hw
          refine ldCX8_atConstant hx hb hK hP hN c11 dX1_parseFromStart_154 (fun x12 r_x12 e_x12 => ?_)
          replace hw := hw x12 r_x12 e_x12
          refine lv_lconst (v := 1) hx hb dX1_parseFromStart_155 (by decide) ?_
          refine lv_aload_n hx hb dX1_parseFromStart_156 rfl (lv_at hl 0 rfl) ?_
          refine gfX1_start hx hb hts hK hP hown (hts _ tw_687) (x := τ.1 53) rfl dX1_parseFromStart_157 ?_
          refine lv_iconst (v := I 1) hx hb dX1_parseFromStart_160 rfl ?_
          refine bi_iadd hx hb dX1_parseFromStart_161 ?_
          refine bi_lshl hx hb dX1_parseFromStart_162 ?_
          refine lv_lconst (v := 0) hx hb dX1_parseFromStart_163 (by decide) ?_
          refine lv_iconst (v := I 1) hx hb dX1_parseFromStart_164 rfl ?_
          obtain ⟨Q13, hc, hw⟩ := hw
          refine wc_V (X := CX g q lb) (va_runV (As := [.int (I x12), .long (j_shl 1 (τ.1 53 + 1)), .long 0, .int (I 1)]) (rest := []) ⟨hx, hb, hml, hown, hts⟩ (L_X1_walk l g q lb hlb r_x12 (by decide) hN hc H.size) (cwV 4 hts (TB_V tw_1736 tw_1738 ts_73 tw_11 co_X1_walk) rfl rfl rfl (by decide +kernel) ⟨Nat.le_of_ble_eq_true rfl, Nat.le_of_ble_eq_true rfl⟩) (preV (q0 := 9) (ci := 1) rfl xT_bl hP hK hNb hD rfl rfl xT_at) rfl rfl hl.1 rfl (lv_room (Nat.le_of_ble_eq_true rfl)) dX1_parseFromStart_165 ⟨Nat.le_of_ble_eq_true rfl, Nat.le_of_ble_eq_true rfl⟩) hP hD hS hA (fun τ15 H locs hN hf hq hP hD hS => ?_)
          replace hw := hw τ15 hN hf hq
          have hF : f_r [] [79, 80, 81, 82, 83] [4, 5, 6, 7] σ τ15 := f_t hF hf (by decide) (by decide) (by decide)
          have hB := hN
          refine lv_aload_n hx hb dX1_parseFromStart_168 rfl (lv_at hl 0 rfl) ?_
          refine gfX1_start hx hb hts hK hP hown (hts _ tw_687) (x := τ15.1 53) rfl dX1_parseFromStart_169 ?_
          refine lv_iconst (v := I 1) hx hb dX1_parseFromStart_172 rfl ?_
          refine bi_iadd hx hb dX1_parseFromStart_173 ?_
          refine lv_istore_n (lv' := [(1, .int (I (τ15.1 53 + 1))), (0, .ref (q 9))]) hx hb dX1_parseFromStart_174 rfl hl (by decide) rfl (fun ls hl => ?_)
          obtain ⟨c16, hw⟩ := hw
          exact (hP175 _ _).mp hw c16 hN hF H locs ls hP hD hS (lv_sub hl [1, 0] rfl)
      ·
        replace hw := hw.2 c4
        refine lv_aload_n hx hb dX1_parseFromStart_62 rfl (lv_at hl 0 rfl) ?_
        refine gfX1_rules hx hb hts hK hP hown (hts _ tw_671) dX1_parseFromStart_63 ?_
        refine lv_aload_n hx hb dX1_parseFromStart_66 rfl (lv_at hl 0 rfl) ?_
        refine gfX1_library hx hb hts hK hP hown (hts _ tw_670) dX1_parseFromStart_67 ?_
        refine lv_aload_n hx hb dX1_parseFromStart_70 rfl (lv_at hl 0 rfl) ?_
        refine gfX1_leaf hx hb hts hK hP hown (hts _ tw_675) dX1_parseFromStart_71 ?_
        refine lv_aload_n hx hb dX1_parseFromStart_74 rfl (lv_at hl 0 rfl) ?_
        refine gfX1_start hx hb hts hK hP hown (hts _ tw_687) (x := τ.1 53) rfl dX1_parseFromStart_75 ?_
        refine ldCX1_leaf hx hb hK hP hN c2 dX1_parseFromStart_78 (fun x17 r_x17 e_x17 => ?_)
        replace hw := hw x17 r_x17 e_x17
        obtain ⟨Q18, hc, hw⟩ := hw
        refine wc_i (X := CX g q lb) (va_runV (As := [.int (I x17)]) (rest := [.ref (q 8)]) ⟨hx, hb, hml, hown, hts⟩ (L_X3_typeOf l g q lb hlb r_x17 hN hc H.size) (cwV 1 hts (TB_V tw_1714 tw_1208 tw_1209 tw_2 co_X3_typeOf) rfl rfl rfl (by decide +kernel) ⟨Nat.le_of_ble_eq_true rfl, Nat.le_of_ble_eq_true rfl⟩) (preV (q0 := 1) (ci := 3) rfl xT_bl hP hK hNb hD rfl rfl xT_at) rfl rfl hl.1 rfl (lv_room (Nat.le_of_ble_eq_true rfl)) dX1_parseFromStart_79 ⟨Nat.le_of_ble_eq_true rfl, Nat.le_of_ble_eq_true rfl⟩) hP hD hS hA (fun x19 H locs r_x19 hq hP hD hS => ?_)
        replace hw := hw x19 r_x19 hq
        obtain ⟨Q21, hc, hw⟩ := hw
        refine wc_i (X := CX g q lb) (va_runV (As := [.int (I x19)]) (rest := []) ⟨hx, hb, hml, hown, hts⟩ (L_X8_sortRank l g q lb hlb r_x19 hN hc H.size) (cwV 1 hts (TB_V tw_1727 tw_1728 tw_1729 tw_10 co_X8_sortRank) rfl rfl rfl (by decide +kernel) ⟨Nat.le_of_ble_eq_true rfl, Nat.le_of_ble_eq_true rfl⟩) (preV (q0 := 8) (ci := 8) rfl xT_bl hP hK hNb hD rfl rfl xT_at) rfl rfl hl.1 rfl (lv_room (Nat.le_of_ble_eq_true rfl)) dX1_parseFromStart_82 ⟨Nat.le_of_ble_eq_true rfl, Nat.le_of_ble_eq_true rfl⟩) hP hD hS hA (fun x22 H locs r_x22 hq hP hD hS => ?_)
        replace hw := hw x22 r_x22 hq
        refine lv_istore_n (lv' := [(1, .int (I x22)), (0, .ref (q 9))]) hx hb dX1_parseFromStart_85 rfl hl (by decide) rfl (fun ls hl => ?_)
        refine lv_iload_n hx hb dX1_parseFromStart_86 rfl (lv_at hl 0 rfl) ?_
        refine lv_iconst (v := I (-1)) hx hb dX1_parseFromStart_87 rfl ?_
        refine bi_icmp_eq (tgt := 114) hx hb r_x22 (by decide) dX1_parseFromStart_88 (by decide) (fun c24 => ?_) (fun c24 => ?_)
        ·
          replace hw := hw.1 c24
          refine lv_goto (tgt := 168) hx hb dX1_parseFromStart_114 (by decide) ?_
          refine lv_aload_n hx hb dX1_parseFromStart_168 rfl (lv_at hl 1 rfl) ?_
          refine gfX1_start hx hb hts hK hP hown (hts _ tw_687) (x := τ.1 53) rfl dX1_parseFromStart_169 ?_
          refine lv_iconst (v := I 1) hx hb dX1_parseFromStart_172 rfl ?_
          refine bi_iadd hx hb dX1_parseFromStart_173 ?_
          refine lv_istore_n (lv' := [(1, .int (I (τ.1 53 + 1))), (0, .ref (q 9))]) hx hb dX1_parseFromStart_174 rfl hl (by decide) rfl (fun ls hl => ?_)
          obtain ⟨c25, hw⟩ := hw
          exact (hP175 _ _).mp hw c25 hN hF H locs ls hP hD hS (lv_sub hl [1, 0] rfl)
        ·
          replace hw := hw.2 c24
          refine lv_aload_n hx hb dX1_parseFromStart_91 rfl (lv_at hl 1 rfl) ?_
          refine lv_iload_n hx hb dX1_parseFromStart_92 rfl (lv_at hl 0 rfl) ?_
          refine lv_lconst (v := 1) hx hb dX1_parseFromStart_93 (by decide) ?_
          refine lv_aload_n hx hb dX1_parseFromStart_94 rfl (lv_at hl 1 rfl) ?_
          refine gfX1_start hx hb hts hK hP hown (hts _ tw_687) (x := τ.1 53) rfl dX1_parseFromStart_95 ?_
          refine lv_iconst (v := I 1) hx hb dX1_parseFromStart_98 rfl ?_
          refine bi_iadd hx hb dX1_parseFromStart_99 ?_
          refine bi_lshl hx hb dX1_parseFromStart_100 ?_
          refine lv_lconst (v := 0) hx hb dX1_parseFromStart_101 (by decide) ?_
          refine lv_aload_n hx hb dX1_parseFromStart_102 rfl (lv_at hl 1 rfl) ?_
          refine gfX1_leaf hx hb hts hK hP hown (hts _ tw_675) dX1_parseFromStart_103 ?_
          refine lv_aload_n hx hb dX1_parseFromStart_106 rfl (lv_at hl 1 rfl) ?_
          refine gfX1_start hx hb hts hK hP hown (hts _ tw_687) (x := τ.1 53) rfl dX1_parseFromStart_107 ?_
          refine ldCX1_leaf hx hb hK hP hN c2 dX1_parseFromStart_110 (fun x26 r_x26 e_x26 => ?_)
          replace hw := hw x26 r_x26 e_x26
          obtain ⟨Q27, hc, hw⟩ := hw
          refine wc_V (X := CX g q lb) (va_runV (As := [.int (I x22), .long (j_shl 1 (τ.1 53 + 1)), .long 0, .int (I x26)]) (rest := []) ⟨hx, hb, hml, hown, hts⟩ (L_X1_add l g q lb hlb r_x22 r_x26 hN hc H.size) (cwV 4 hts (TB_V tw_1731 tw_1733 ts_72 tw_11 co_X1_add) rfl rfl rfl (by decide +kernel) ⟨Nat.le_of_ble_eq_true rfl, Nat.le_of_ble_eq_true rfl⟩) (preV (q0 := 9) (ci := 1) rfl xT_bl hP hK hNb hD rfl rfl xT_at) rfl rfl hl.1 rfl (lv_room (Nat.le_of_ble_eq_true rfl)) dX1_parseFromStart_111 ⟨Nat.le_of_ble_eq_true rfl, Nat.le_of_ble_eq_true rfl⟩) hP hD hS hA (fun τ29 H locs hN hf hq hP hD hS => ?_)
          replace hw := hw τ29 hN hf hq
          have hF : f_r [] [79, 80, 81, 82, 83] [4, 5, 6, 7] σ τ29 := f_t hF hf (by decide) (by decide) (by decide)
          have hB := hN
          refine lv_goto (tgt := 168) hx hb dX1_parseFromStart_114 (by decide) ?_
          refine lv_aload_n hx hb dX1_parseFromStart_168 rfl (lv_at hl 1 rfl) ?_
          refine gfX1_start hx hb hts hK hP hown (hts _ tw_687) (x := τ29.1 53) rfl dX1_parseFromStart_169 ?_
          refine lv_iconst (v := I 1) hx hb dX1_parseFromStart_172 rfl ?_
          refine bi_iadd hx hb dX1_parseFromStart_173 ?_
          refine lv_istore_n (lv' := [(1, .int (I (τ29.1 53 + 1))), (0, .ref (q 9))]) hx hb dX1_parseFromStart_174 rfl hl (by decide) rfl (fun ls hl => ?_)
          obtain ⟨c30, hw⟩ := hw
          exact (hP175 _ _).mp hw c30 hN hF H locs ls hP hD hS (lv_sub hl [1, 0] rfl)
    ·
      replace hw := hw.2 c1
      refine lv_aload_n hx hb dX1_parseFromStart_13 rfl (lv_at hl 0 rfl) ?_
      refine gfX1_has hx hb hts hK hP hown (hts _ tw_683) dX1_parseFromStart_14 ?_
      refine lv_iload_n hx hb dX1_parseFromStart_17 rfl (lv_at hl 1 rfl) ?_
      refine lv_bipush (v := I 60) hx hb dX1_parseFromStart_18 (by decide) ?_
      refine bi_imul hx hb dX1_parseFromStart_20 ?_
      refine lv_aload_n hx hb dX1_parseFromStart_21 rfl (lv_at hl 0 rfl) ?_
      refine gfX1_start hx hb hts hK hP hown (hts _ tw_687) (x := τ.1 53) rfl dX1_parseFromStart_22 ?_
      refine bi_iadd hx hb dX1_parseFromStart_25 ?_
      refine lv_lconst (v := 0) hx hb dX1_parseFromStart_26 (by decide) ?_
      obtain ⟨c31, hw⟩ := hw
      refine sdCX1_has hx hb hK hP hD hS c31 dX1_parseFromStart_27 (fun H locs hP hD hS => ?_)
      have hN : n_m (s_b τ 4 ((u1 * 60) + τ.1 53) 0) := n_b (k := 4) (j := ((u1 * 60) + τ.1 53)) (x := 0) hN
      have hF : f_r [] [79, 80, 81, 82, 83] [4, 5, 6, 7] σ (s_b τ 4 ((u1 * 60) + τ.1 53) 0) := f_b hF (by decide)
      refine lv_aload_n hx hb dX1_parseFromStart_28 rfl (lv_at hl 0 rfl) ?_
      refine gfX1_several hx hb hts hK hP hown (hts _ tw_685) dX1_parseFromStart_29 ?_
      refine lv_iload_n hx hb dX1_parseFromStart_32 rfl (lv_at hl 1 rfl) ?_
      refine lv_bipush (v := I 60) hx hb dX1_parseFromStart_33 (by decide) ?_
      refine bi_imul hx hb dX1_parseFromStart_35 ?_
      refine lv_aload_n hx hb dX1_parseFromStart_36 rfl (lv_at hl 0 rfl) ?_
      refine gfX1_start hx hb hts hK hP hown (hts _ tw_687) (x := τ.1 53) rfl dX1_parseFromStart_37 ?_
      refine bi_iadd hx hb dX1_parseFromStart_40 ?_
      refine lv_lconst (v := 0) hx hb dX1_parseFromStart_41 (by decide) ?_
      refine sdCX1_several hx hb hK hP hD hS c31 dX1_parseFromStart_42 (fun H locs hP hD hS => ?_)
      have hN : n_m (s_b (s_b τ 4 ((u1 * 60) + τ.1 53) 0) 5 ((u1 * 60) + τ.1 53) 0) := n_b (k := 5) (j := ((u1 * 60) + τ.1 53)) (x := 0) hN
      have hF : f_r [] [79, 80, 81, 82, 83] [4, 5, 6, 7] σ (s_b (s_b τ 4 ((u1 * 60) + τ.1 53) 0) 5 ((u1 * 60) + τ.1 53) 0) := f_b hF (by decide)
      refine lv_iinc (v := I (u1 + 1)) (lv' := [(1, .int (I (u1 + 1))), (0, .ref (q 9))]) hx hb dX1_parseFromStart_43 hl (k := 1) rfl (I_add _ _) (by decide) rfl (fun ls hl => ?_)
      refine lv_goto (tgt := 2) hx hb dX1_parseFromStart_46 (by decide) ?_
      obtain ⟨c32, hw⟩ := hw
      exact (hP2 _ _).mp hw c32 hN hF H locs ls hP hD hS (lv_sub hl [1, 0] rfl)
  ·
    intro u1 τ hw
    refine (hP175 _ _).mpr ?_
    intro r_u1 hN hF H locs ls hP hD hS hl
    have hB := hN
    refine lv_iload_n hx hb dX1_parseFromStart_175 rfl (lv_at hl 1 rfl) ?_
    refine lv_aload_n hx hb dX1_parseFromStart_176 rfl (lv_at hl 0 rfl) ?_
    refine gfX1_length hx hb hts hK hP hown (hts _ tw_676) (x := τ.1 50) rfl dX1_parseFromStart_177 ?_
    refine bi_icmp_gt (tgt := 269) hx hb r_u1 (hB.1 50) dX1_parseFromStart_180 (by decide) (fun c33 => ?_) (fun c33 => ?_)
    ·
      replace hw := hw.1 c33
      exact xrv hx hb hr hlk hP hK hD hS ⟨_, hN, hF, rfl, hw⟩ (Nat.le_of_ble_eq_true rfl) (Nat.le_of_ble_eq_true rfl) dX1_parseFromStart_269
    ·
      replace hw := hw.2 c33
      refine lv_aload_n hx hb dX1_parseFromStart_183 rfl (lv_at hl 0 rfl) ?_
      refine lv_iload_n hx hb dX1_parseFromStart_184 rfl (lv_at hl 1 rfl) ?_
      obtain ⟨Q34, hc, hw⟩ := hw
      refine wc_V (X := CX g q lb) (va_runV (As := [.int (I u1)]) (rest := []) ⟨hx, hb, hml, hown, hts⟩ (L_X1_addUnits l g q lb hlb r_u1 hN hc H.size) (cwV 1 hts (TB_V tw_1749 tw_1751 ts_76 tw_11 co_X1_addUnits) rfl rfl rfl (by decide +kernel) ⟨Nat.le_of_ble_eq_true rfl, Nat.le_of_ble_eq_true rfl⟩) (preV (q0 := 9) (ci := 1) rfl xT_bl hP hK hNb hD rfl rfl xT_at) rfl rfl hl.1 rfl (lv_room (Nat.le_of_ble_eq_true rfl)) dX1_parseFromStart_185 ⟨Nat.le_of_ble_eq_true rfl, Nat.le_of_ble_eq_true rfl⟩) hP hD hS hA (fun τ36 H locs hN hf hq hP hD hS => ?_)
      replace hw := hw τ36 hN hf hq
      have hF : f_r [] [79, 80, 81, 82, 83] [4, 5, 6, 7] σ τ36 := f_t hF hf (by decide) (by decide) (by decide)
      have hB := hN
      refine lv_iconst (v := I 0) hx hb dX1_parseFromStart_188 rfl ?_
      refine lv_istore_n (lv' := [(2, .int (I 0)), (0, .ref (q 9)), (1, .int (I u1))]) hx hb dX1_parseFromStart_189 rfl hl (by decide) rfl (fun ls hl => ?_)
      exact (hP190 _ _ _).mp hw r_u1 (by decide) hN hF H locs ls hP hD hS (lv_sub hl [1, 2, 0] rfl)
  ·
    intro u1 u2 τ hw
    refine (hP190 _ _ _).mpr ?_
    intro r_u1 r_u2 hN hF H locs ls hP hD hS hl
    have hB := hN
    refine lv_iload_n hx hb dX1_parseFromStart_190 rfl (lv_at hl 2 rfl) ?_
    refine lv_aload_n hx hb dX1_parseFromStart_191 rfl (lv_at hl 0 rfl) ?_
    refine gfX1_library hx hb hts hK hP hown (hts _ tw_670) dX1_parseFromStart_192 ?_
    refine gfNX3_ranks hx hb hts hK hP hown (nb_use hNb tn_60) (x := τ.1 4) rfl dX1_parseFromStart_195 ?_
    refine bi_icmp_ge (tgt := 263) hx hb r_u2 (hB.1 4) dX1_parseFromStart_198 (by decide) (fun c37 => ?_) (fun c37 => ?_)
    ·
      replace hw := hw.1 c37
      refine lv_iinc (v := I (u1 + 1)) (lv' := [(1, .int (I (u1 + 1))), (0, .ref (q 9)), (2, .int (I u2))]) hx hb dX1_parseFromStart_263 hl (k := 1) rfl (I_add _ _) (by decide) rfl (fun ls hl => ?_)
      refine lv_goto (tgt := 175) hx hb dX1_parseFromStart_266 (by decide) ?_
      obtain ⟨c38, hw⟩ := hw
      exact (hP175 _ _).mp hw c38 hN hF H locs ls hP hD hS (lv_sub hl [1, 0] rfl)
    ·
      replace hw := hw.2 c37
      refine lv_aload_n hx hb dX1_parseFromStart_201 rfl (lv_at hl 0 rfl) ?_
      refine gfX1_rules hx hb hts hK hP hown (hts _ tw_671) dX1_parseFromStart_202 ?_
      refine gfNX8_atSort hx hb hts hK hP hown (nb_use hNb tn_617) dX1_parseFromStart_205 ?_
      refine lv_iload_n hx hb dX1_parseFromStart_208 rfl (lv_at hl 2 rfl) ?_
      obtain ⟨c39, hw⟩ := hw
      refine ldCX8_atSort hx hb hK hP hN c39 dX1_parseFromStart_209 (fun x40 r_x40 e_x40 => ?_)
      replace hw := hw x40 r_x40 e_x40
      refine bi_if_le (tgt := 257) hx hb r_x40 dX1_parseFromStart_210 (by decide) (fun c41 => ?_) (fun c41 => ?_)
      ·
        replace hw := hw.1 c41
        refine lv_iinc (v := I (u2 + 1)) (lv' := [(2, .int (I (u2 + 1))), (0, .ref (q 9)), (1, .int (I u1))]) hx hb dX1_parseFromStart_257 hl (k := 2) rfl (I_add _ _) (by decide) rfl (fun ls hl => ?_)
        refine lv_goto (tgt := 190) hx hb dX1_parseFromStart_260 (by decide) ?_
        obtain ⟨c42, hw⟩ := hw
        exact (hP190 _ _ _).mp hw r_u1 c42 hN hF H locs ls hP hD hS (lv_sub hl [1, 2, 0] rfl)
      ·
        replace hw := hw.2 c41
        refine lv_aload_n hx hb dX1_parseFromStart_213 rfl (lv_at hl 0 rfl) ?_
        refine lv_iload_n hx hb dX1_parseFromStart_214 rfl (lv_at hl 2 rfl) ?_
        refine lv_iload_n hx hb dX1_parseFromStart_215 rfl (lv_at hl 1 rfl) ?_
        obtain ⟨Q43, hc, hw⟩ := hw
        refine wc_i (X := CX g q lb) (va_runV (As := [.int (I u2), .int (I u1)]) (rest := []) ⟨hx, hb, hml, hown, hts⟩ (L_X1_reaches l g q lb hlb r_u2 r_u1 hN hc H.size) (cwV 2 hts (TB_V tw_1757 tw_1759 ts_78 tw_11 co_X1_reaches) rfl rfl rfl (by decide +kernel) ⟨Nat.le_of_ble_eq_true rfl, Nat.le_of_ble_eq_true rfl⟩) (preV (q0 := 9) (ci := 1) rfl xT_bl hP hK hNb hD rfl rfl xT_at) rfl rfl hl.1 rfl (lv_room (Nat.le_of_ble_eq_true rfl)) dX1_parseFromStart_216 ⟨Nat.le_of_ble_eq_true rfl, Nat.le_of_ble_eq_true rfl⟩) hP hD hS hA (fun x44 H locs r_x44 hq hP hD hS => ?_)
        replace hw := hw x44 r_x44 hq
        refine bi_if_eq (tgt := 257) hx hb r_x44 dX1_parseFromStart_219 (by decide) (fun c46 => ?_) (fun c46 => ?_)
        ·
          replace hw := hw.1 c46
          refine lv_iinc (v := I (u2 + 1)) (lv' := [(2, .int (I (u2 + 1))), (0, .ref (q 9)), (1, .int (I u1))]) hx hb dX1_parseFromStart_257 hl (k := 2) rfl (I_add _ _) (by decide) rfl (fun ls hl => ?_)
          refine lv_goto (tgt := 190) hx hb dX1_parseFromStart_260 (by decide) ?_
          obtain ⟨c47, hw⟩ := hw
          exact (hP190 _ _ _).mp hw r_u1 c47 hN hF H locs ls hP hD hS (lv_sub hl [1, 2, 0] rfl)
        ·
          replace hw := hw.2 c46
          refine lv_lconst (v := 1) hx hb dX1_parseFromStart_222 (by decide) ?_
          refine lv_iload_n hx hb dX1_parseFromStart_223 rfl (lv_at hl 1 rfl) ?_
          refine bi_lshl hx hb dX1_parseFromStart_224 ?_
          refine lv_lstore_n (lv' := [(3, .long (j_shl 1 u1)), (0, .ref (q 9)), (1, .int (I u1)), (2, .int (I u2))]) hx hb dX1_parseFromStart_225 rfl hl (by decide) rfl (fun ls hl => ?_)
          refine lv_aload_n hx hb dX1_parseFromStart_226 rfl (lv_at hl 1 rfl) ?_
          refine lv_aload_n hx hb dX1_parseFromStart_227 rfl (lv_at hl 1 rfl) ?_
          refine gfX1_rules hx hb hts hK hP hown (hts _ tw_671) dX1_parseFromStart_228 ?_
          refine gfNX8_atSort hx hb hts hK hP hown (nb_use hNb tn_617) dX1_parseFromStart_231 ?_
          refine lv_iload_n hx hb dX1_parseFromStart_234 rfl (lv_at hl 3 rfl) ?_
          refine ldCX8_atSort hx hb hK hP hN c39 dX1_parseFromStart_235 (fun x48 r_x48 e_x48 => ?_)
          replace hw := hw x48 r_x48 e_x48
          refine lv_lload_n hx hb dX1_parseFromStart_236 rfl (lv_at hl 0 rfl) ?_
          refine lv_aload_n hx hb dX1_parseFromStart_237 rfl (lv_at hl 1 rfl) ?_
          refine gfX1_several hx hb hts hK hP hown (hts _ tw_685) dX1_parseFromStart_238 ?_
          refine lv_iload_n hx hb dX1_parseFromStart_241 rfl (lv_at hl 3 rfl) ?_
          refine lv_bipush (v := I 60) hx hb dX1_parseFromStart_242 (by decide) ?_
          refine bi_imul hx hb dX1_parseFromStart_244 ?_
          refine lv_aload_n hx hb dX1_parseFromStart_245 rfl (lv_at hl 1 rfl) ?_
          refine gfX1_start hx hb hts hK hP hown (hts _ tw_687) (x := τ.1 53) rfl dX1_parseFromStart_246 ?_
          refine bi_iadd hx hb dX1_parseFromStart_249 ?_
          obtain ⟨c49, hw⟩ := hw
          refine ldCX1_several hx hb hK hP hN c49 dX1_parseFromStart_250 (fun x50 e_x50 => ?_)
          replace hw := hw x50 e_x50
          refine lv_lload_n hx hb dX1_parseFromStart_251 rfl (lv_at hl 0 rfl) ?_
          refine lv_land hx hb dX1_parseFromStart_252 ?_
          refine lv_iconst (v := I 0) hx hb dX1_parseFromStart_253 rfl ?_
          obtain ⟨Q51, hc, hw⟩ := hw
          refine wc_V (X := CX g q lb) (va_runV (As := [.int (I x48), .long (j_shl 1 u1), .long (x50 &&& (j_shl 1 u1)), .int (I 0)]) (rest := []) ⟨hx, hb, hml, hown, hts⟩ (L_X1_walk l g q lb hlb r_x48 (by decide) hN hc H.size) (cwV 4 hts (TB_V tw_1736 tw_1738 ts_73 tw_11 co_X1_walk) rfl rfl rfl (by decide +kernel) ⟨Nat.le_of_ble_eq_true rfl, Nat.le_of_ble_eq_true rfl⟩) (preV (q0 := 9) (ci := 1) rfl xT_bl hP hK hNb hD rfl rfl xT_at) rfl rfl hl.1 rfl (lv_room (Nat.le_of_ble_eq_true rfl)) dX1_parseFromStart_254 ⟨Nat.le_of_ble_eq_true rfl, Nat.le_of_ble_eq_true rfl⟩) hP hD hS hA (fun τ53 H locs hN hf hq hP hD hS => ?_)
          replace hw := hw τ53 hN hf hq
          have hF : f_r [] [79, 80, 81, 82, 83] [4, 5, 6, 7] σ τ53 := f_t hF hf (by decide) (by decide) (by decide)
          have hB := hN
          refine lv_iinc (v := I (u2 + 1)) (lv' := [(2, .int (I (u2 + 1))), (3, .long (j_shl 1 u1)), (0, .ref (q 9)), (1, .int (I u1))]) hx hb dX1_parseFromStart_257 hl (k := 3) rfl (I_add _ _) (by decide) rfl (fun ls hl => ?_)
          refine lv_goto (tgt := 190) hx hb dX1_parseFromStart_260 (by decide) ?_
          obtain ⟨c54, hw⟩ := hw
          exact (hP190 _ _ _).mp hw r_u1 c54 hN hF H locs ls hP hD hS (lv_sub hl [2, 3, 0] rfl)
def W_X1_countTrees (σ : S0) (Q : Int → S0 → Prop) : Prop :=
  ∀ (P19 : Int → S0 → Prop) (P57 : Int → S0 → Prop),
  (∀ (u1 : Int) (τ : S0), ((τ.1 50 ≤ u1 → rg (τ.1 50 - 1) ∧ P57 (τ.1 50 - 1) τ) ∧ (u1 < τ.1 50 → (0 ≤ u1 ∧ u1 < 60) ∧ (∀ (x6 : Int), rg x6 → x6 = τ.2.1 77 u1 → ((0 ≤ x6 ∧ x6 < 1000) ∧ (∀ (x8 : Int64), x8 = τ.2.2 3 x6 → (rg (u1 + 1) ∧ P19 (u1 + 1) (s_b τ 3 x6 (x8 ||| (j_shl 1 u1))))))))) → P19 u1 τ) →
  (∀ (u1 : Int) (τ : S0), ((u1 < 0 → (0 ≤ (τ.1 52 * 60) ∧ (τ.1 52 * 60) < 6000) ∧ (∀ (x12 : Int64), x12 = τ.2.2 4 (τ.1 52 * 60) → (∀ (x13 : Int64), x13 = τ.2.2 5 (τ.1 52 * 60) → (∀ (x14 : Int), rg x14 → (rg ((((j_ushr x12 (τ.1 50)) &&& 1) + ((j_ushr x13 (τ.1 50)) &&& 1)) : Int64).toInt → x14 = ((((j_ushr x12 (τ.1 50)) &&& 1) + ((j_ushr x13 (τ.1 50)) &&& 1)) : Int64).toInt) → (Q x14 τ))))) ∧ (0 ≤ u1 → ∃ (Q15 : S0 → Prop), W_X1_parseFromStart (s_v τ 53 u1) Q15 ∧ ∀ (τ17 : S0), n_m τ17 → f_r [] [79, 80, 81, 82, 83] [4, 5, 6, 7] (s_v τ 53 u1) τ17 → Q15 τ17 → (rg (u1 + (-1)) ∧ P57 (u1 + (-1)) τ17))) → P57 u1 τ) →
  (σ.1 52 = (-1) → Q 0 σ) ∧ (¬ σ.1 52 = (-1) → (¬ σ.1 50 = 0 → P19 0 σ) ∧ (σ.1 50 = 0 → Q 0 σ))
set_option maxRecDepth 100000 in
set_option maxHeartbeats 4000000 in
theorem L_X1_countTrees (l : Launch) (g : gG) (q : Nat → Nat) (lb : Nat) (hlb : lb < 2 ^ 31) {σ : S0} {Q : Int → S0 → Prop} (hN : n_m σ) (hw : W_X1_countTrees σ Q) (sz : Nat) : MetI l yX1_countTrees cX1_countTrees 2 (some .int) { frames := 4, cells := 0, slots := 0, locals := 110 } g [.ref (q 9)] (CX g q lb σ) sz xT (p_I (CX g q lb) [53] [79, 80, 81, 82, 83] [3, 4, 5, 6, 7] σ Q) 0 0 := by
  refine mkMet (Qc := fun A => QI g A (p_I (CX g q lb) [53] [79, 80, 81, 82, 83] [3, 4, 5, 6, 7] σ Q)) (by decide) (Nat.le_of_ble_eq_true rfl) ?_
  intro p e s m below meth c A H ls hx hb hr hml hown hts hlk hnm hsz hP hK hNb hD hA hAe hS hX hl
  have hl : lv_has ls 2 [(0, .ref (q 9))] := hl
  have hB := hN
  have hF : f_r [53] [79, 80, 81, 82, 83] [3, 4, 5, 6, 7] σ σ := f_0
  obtain ⟨locs, hlocs⟩ : ∃ z : List Loc, z = [] := ⟨_, rfl⟩
  rw [← hlocs] at hS ⊢
  obtain ⟨P19, hP19⟩ : ∃ P : Int → S0 → Prop, ∀ (u1 : Int) (τ : S0), (P u1 τ ↔ (rg u1 → n_m τ → f_r [53] [79, 80, 81, 82, 83] [3, 4, 5, 6, 7] σ τ → ∀ (H : Heap) (locs : List Loc) (ls : Array Slot), KP g (CX g q lb τ) H → va_D A (CX g q lb τ) → va_S A s.heap H locs → lv_has ls 2 [(0, .ref (q 9)), (1, .int (I u1))] → W p l e ({ frames := 4, cells := 0, slots := 0, locals := 110 }) s m [.ref (q 9)].toArray below meth c H locs 0 0 (MQ below (QI g A (p_I (CX g q lb) [53] [79, 80, 81, 82, 83] [3, 4, 5, 6, 7] σ Q)) [.ref (q 9)].toArray s 0 0 A) (F0 m 19 ls []))) := ⟨_, fun _ _ => Iff.rfl⟩
  obtain ⟨P57, hP57⟩ : ∃ P : Int → S0 → Prop, ∀ (u1 : Int) (τ : S0), (P u1 τ ↔ (rg u1 → n_m τ → f_r [53] [79, 80, 81, 82, 83] [3, 4, 5, 6, 7] σ τ → ∀ (H : Heap) (locs : List Loc) (ls : Array Slot), KP g (CX g q lb τ) H → va_D A (CX g q lb τ) → va_S A s.heap H locs → lv_has ls 2 [(0, .ref (q 9)), (1, .int (I u1))] → W p l e ({ frames := 4, cells := 0, slots := 0, locals := 110 }) s m [.ref (q 9)].toArray below meth c H locs 0 0 (MQ below (QI g A (p_I (CX g q lb) [53] [79, 80, 81, 82, 83] [3, 4, 5, 6, 7] σ Q)) [.ref (q 9)].toArray s 0 0 A) (F0 m 57 ls []))) := ⟨_, fun _ _ => Iff.rfl⟩
  refine (fun hw => ?_) (hw P19 P57 ?_ ?_)
  ·
    refine lv_aload_n hx hb dX1_countTrees_0 rfl (lv_at hl 0 rfl) ?_
    refine gfX1_goal hx hb hts hK hP hown (hts _ tw_680) (x := σ.1 52) rfl dX1_countTrees_1 ?_
    refine lv_iconst (v := I (-1)) hx hb dX1_countTrees_4 rfl ?_
    refine bi_icmp_eq (tgt := 15) hx hb (hB.1 52) (by decide) dX1_countTrees_5 (by decide) (fun c1 => ?_) (fun c1 => ?_)
    ·
      replace hw := hw.1 c1
      refine lv_iconst (v := I 0) hx hb dX1_countTrees_15 rfl ?_
      exact xri hx hb hr hlk hP hK hD hS ⟨_, _, (by decide), rfl, hN, hF, rfl, hw⟩ (Nat.le_of_ble_eq_true rfl) (Nat.le_of_ble_eq_true rfl) dX1_countTrees_16
    ·
      replace hw := hw.2 c1
      refine lv_aload_n hx hb dX1_countTrees_8 rfl (lv_at hl 0 rfl) ?_
      refine gfX1_length hx hb hts hK hP hown (hts _ tw_676) (x := σ.1 50) rfl dX1_countTrees_9 ?_
      refine bi_if_ne (tgt := 17) hx hb (hB.1 50) dX1_countTrees_12 (by decide) (fun c2 => ?_) (fun c2 => ?_)
      ·
        replace hw := hw.1 c2
        refine lv_iconst (v := I 0) hx hb dX1_countTrees_17 rfl ?_
        refine lv_istore_n (lv' := [(1, .int (I 0)), (0, .ref (q 9))]) hx hb dX1_countTrees_18 rfl hl (by decide) rfl (fun ls hl => ?_)
        exact (hP19 _ _).mp hw (by decide) hN hF H locs ls hP hD hS (lv_sub hl [1, 0] rfl)
      ·
        replace hw := hw.2 c2
        refine lv_iconst (v := I 0) hx hb dX1_countTrees_15 rfl ?_
        exact xri hx hb hr hlk hP hK hD hS ⟨_, _, (by decide), rfl, hN, hF, rfl, hw⟩ (Nat.le_of_ble_eq_true rfl) (Nat.le_of_ble_eq_true rfl) dX1_countTrees_16
  ·
    intro u1 τ hw
    refine (hP19 _ _).mpr ?_
    intro r_u1 hN hF H locs ls hP hD hS hl
    have hB := hN
    refine lv_iload_n hx hb dX1_countTrees_19 rfl (lv_at hl 1 rfl) ?_
    refine lv_aload_n hx hb dX1_countTrees_20 rfl (lv_at hl 0 rfl) ?_
    refine gfX1_length hx hb hts hK hP hown (hts _ tw_676) (x := τ.1 50) rfl dX1_countTrees_21 ?_
    refine bi_icmp_ge (tgt := 50) hx hb r_u1 (hB.1 50) dX1_countTrees_24 (by decide) (fun c3 => ?_) (fun c3 => ?_)
    ·
      replace hw := hw.1 c3
      refine lv_aload_n hx hb dX1_countTrees_50 rfl (lv_at hl 0 rfl) ?_
      refine gfX1_length hx hb hts hK hP hown (hts _ tw_676) (x := τ.1 50) rfl dX1_countTrees_51 ?_
      refine lv_iconst (v := I 1) hx hb dX1_countTrees_54 rfl ?_
      refine bi_isub hx hb dX1_countTrees_55 ?_
      refine lv_istore_n (lv' := [(1, .int (I (τ.1 50 - 1))), (0, .ref (q 9))]) hx hb dX1_countTrees_56 rfl hl (by decide) rfl (fun ls hl => ?_)
      obtain ⟨c4, hw⟩ := hw
      exact (hP57 _ _).mp hw c4 hN hF H locs ls hP hD hS (lv_sub hl [1, 0] rfl)
    ·
      replace hw := hw.2 c3
      refine lv_aload_n hx hb dX1_countTrees_27 rfl (lv_at hl 0 rfl) ?_
      refine gfX1_where hx hb hts hK hP hown (hts _ tw_681) dX1_countTrees_28 ?_
      refine lv_aload_n hx hb dX1_countTrees_31 rfl (lv_at hl 0 rfl) ?_
      refine gfX1_row hx hb hts hK hP hown (hts _ tw_672) dX1_countTrees_32 ?_
      refine lv_iload_n hx hb dX1_countTrees_35 rfl (lv_at hl 1 rfl) ?_
      obtain ⟨c5, hw⟩ := hw
      refine ldCX1_row hx hb hK hP hN c5 dX1_countTrees_36 (fun x6 r_x6 e_x6 => ?_)
      replace hw := hw x6 r_x6 e_x6
      refine lv_dup2_11 hx hb dX1_countTrees_37 rfl rfl ?_
      obtain ⟨c7, hw⟩ := hw
      refine ldCX1_where hx hb hK hP hN c7 dX1_countTrees_38 (fun x8 e_x8 => ?_)
      replace hw := hw x8 e_x8
      refine lv_lconst (v := 1) hx hb dX1_countTrees_39 (by decide) ?_
      refine lv_iload_n hx hb dX1_countTrees_40 rfl (lv_at hl 1 rfl) ?_
      refine bi_lshl hx hb dX1_countTrees_41 ?_
      refine lv_lor hx hb dX1_countTrees_42 ?_
      refine sdCX1_where hx hb hK hP hD hS c7 dX1_countTrees_43 (fun H locs hP hD hS => ?_)
      have hN : n_m (s_b τ 3 x6 (x8 ||| (j_shl 1 u1))) := n_b (k := 3) (j := x6) (x := (x8 ||| (j_shl 1 u1))) hN
      have hF : f_r [53] [79, 80, 81, 82, 83] [3, 4, 5, 6, 7] σ (s_b τ 3 x6 (x8 ||| (j_shl 1 u1))) := f_b hF (by decide)
      refine lv_iinc (v := I (u1 + 1)) (lv' := [(1, .int (I (u1 + 1))), (0, .ref (q 9))]) hx hb dX1_countTrees_44 hl (k := 1) rfl (I_add _ _) (by decide) rfl (fun ls hl => ?_)
      refine lv_goto (tgt := 19) hx hb dX1_countTrees_47 (by decide) ?_
      obtain ⟨c9, hw⟩ := hw
      exact (hP19 _ _).mp hw c9 hN hF H locs ls hP hD hS (lv_sub hl [1, 0] rfl)
  ·
    intro u1 τ hw
    refine (hP57 _ _).mpr ?_
    intro r_u1 hN hF H locs ls hP hD hS hl
    have hB := hN
    refine lv_iload_n hx hb dX1_countTrees_57 rfl (lv_at hl 1 rfl) ?_
    refine bi_if_lt (tgt := 76) hx hb r_u1 dX1_countTrees_58 (by decide) (fun c10 => ?_) (fun c10 => ?_)
    ·
      replace hw := hw.1 c10
      refine lv_aload_n hx hb dX1_countTrees_76 rfl (lv_at hl 0 rfl) ?_
      refine gfX1_goal hx hb hts hK hP hown (hts _ tw_680) (x := τ.1 52) rfl dX1_countTrees_77 ?_
      refine lv_bipush (v := I 60) hx hb dX1_countTrees_80 (by decide) ?_
      refine bi_imul hx hb dX1_countTrees_82 ?_
      refine lv_istore_n (lv' := [(1, .int (I (τ.1 52 * 60))), (0, .ref (q 9))]) hx hb dX1_countTrees_83 rfl hl (by decide) rfl (fun ls hl => ?_)
      refine lv_aload_n hx hb dX1_countTrees_84 rfl (lv_at hl 1 rfl) ?_
      refine gfX1_has hx hb hts hK hP hown (hts _ tw_683) dX1_countTrees_85 ?_
      refine lv_iload_n hx hb dX1_countTrees_88 rfl (lv_at hl 0 rfl) ?_
      obtain ⟨c11, hw⟩ := hw
      refine ldCX1_has hx hb hK hP hN c11 dX1_countTrees_89 (fun x12 e_x12 => ?_)
      replace hw := hw x12 e_x12
      refine lv_aload_n hx hb dX1_countTrees_90 rfl (lv_at hl 1 rfl) ?_
      refine gfX1_length hx hb hts hK hP hown (hts _ tw_676) (x := τ.1 50) rfl dX1_countTrees_91 ?_
      refine bi_lushr hx hb dX1_countTrees_94 ?_
      refine lv_lconst (v := 1) hx hb dX1_countTrees_95 (by decide) ?_
      refine lv_land hx hb dX1_countTrees_96 ?_
      refine lv_aload_n hx hb dX1_countTrees_97 rfl (lv_at hl 1 rfl) ?_
      refine gfX1_several hx hb hts hK hP hown (hts _ tw_685) dX1_countTrees_98 ?_
      refine lv_iload_n hx hb dX1_countTrees_101 rfl (lv_at hl 0 rfl) ?_
      refine ldCX1_several hx hb hK hP hN c11 dX1_countTrees_102 (fun x13 e_x13 => ?_)
      replace hw := hw x13 e_x13
      refine lv_aload_n hx hb dX1_countTrees_103 rfl (lv_at hl 1 rfl) ?_
      refine gfX1_length hx hb hts hK hP hown (hts _ tw_676) (x := τ.1 50) rfl dX1_countTrees_104 ?_
      refine bi_lushr hx hb dX1_countTrees_107 ?_
      refine lv_lconst (v := 1) hx hb dX1_countTrees_108 (by decide) ?_
      refine lv_land hx hb dX1_countTrees_109 ?_
      refine lv_ladd hx hb dX1_countTrees_110 ?_
      refine bi_l2i hx hb dX1_countTrees_111 (fun x14 r_x14 p_x14 => ?_)
      replace hw := hw x14 r_x14 p_x14
      exact xri hx hb hr hlk hP hK hD hS ⟨_, _, r_x14, rfl, hN, hF, rfl, hw⟩ (Nat.le_of_ble_eq_true rfl) (Nat.le_of_ble_eq_true rfl) dX1_countTrees_112
    ·
      replace hw := hw.2 c10
      refine lv_aload_n hx hb dX1_countTrees_61 rfl (lv_at hl 0 rfl) ?_
      refine lv_iload_n hx hb dX1_countTrees_62 rfl (lv_at hl 1 rfl) ?_
      refine pfX1_start hx hb hts hK hP hD hS hown (hts _ tw_687) dX1_countTrees_63 (fun H locs hP hD hS => ?_)
      have hN : n_m (s_v τ 53 u1) := n_v (i := 53) hN (r_u1 : rg u1)
      have hF : f_r [53] [79, 80, 81, 82, 83] [3, 4, 5, 6, 7] σ (s_v τ 53 u1) := f_v hF (by decide)
      refine lv_aload_n hx hb dX1_countTrees_66 rfl (lv_at hl 0 rfl) ?_
      obtain ⟨Q15, hc, hw⟩ := hw
      refine wc_V (X := CX g q lb) (va_runV (As := []) (rest := []) ⟨hx, hb, hml, hown, hts⟩ (L_X1_parseFromStart l g q lb hlb  hN hc H.size) (cwV 0 hts (TB_V tw_1723 tw_1725 ts_71 tw_11 co_X1_parseFromStart) rfl rfl rfl (by decide +kernel) ⟨Nat.le_of_ble_eq_true rfl, Nat.le_of_ble_eq_true rfl⟩) (preV (q0 := 9) (ci := 1) rfl xT_bl hP hK hNb hD rfl rfl xT_at) rfl rfl hl.1 rfl (lv_room (Nat.le_of_ble_eq_true rfl)) dX1_countTrees_67 ⟨Nat.le_of_ble_eq_true rfl, Nat.le_of_ble_eq_true rfl⟩) hP hD hS hA (fun τ17 H locs hN hf hq hP hD hS => ?_)
      replace hw := hw τ17 hN hf hq
      have hF : f_r [53] [79, 80, 81, 82, 83] [3, 4, 5, 6, 7] σ τ17 := f_t hF hf (by decide) (by decide) (by decide)
      have hB := hN
      refine lv_iinc (v := I (u1 + (-1))) (lv' := [(1, .int (I (u1 + (-1)))), (0, .ref (q 9))]) hx hb dX1_countTrees_70 hl (k := 1) rfl (I_add _ _) (by decide) rfl (fun ls hl => ?_)
      refine lv_goto (tgt := 57) hx hb dX1_countTrees_73 (by decide) ?_
      obtain ⟨c18, hw⟩ := hw
      exact (hP57 _ _).mp hw c18 hN hF H locs ls hP hD hS (lv_sub hl [1, 0] rfl)
def W_X1_ruleOf (n1 : Int) (n2 : Int) (n3 : Int) (σ : S0) (Q : Int → Prop) : Prop :=
  rg (n3 * (n3 - 1)) ∧ ∀ (x2 : Int), rg x2 → (0 ≤ (n3 * (n3 - 1)) → x2 = (n3 * (n3 - 1)) / 2) → ((n3 * (n3 - 1)) < 0 → x2 = -((-(n3 * (n3 - 1))) / 2)) → ((0 ≤ (((n1 * 1770) + x2) + n2) ∧ (((n1 * 1770) + x2) + n2) < 177000) ∧ (∀ (x4 : Int), rg x4 → x4 = σ.2.1 79 (((n1 * 1770) + x2) + n2) → (Q x4)))
set_option maxRecDepth 100000 in
set_option maxHeartbeats 4000000 in
theorem L_X1_ruleOf (l : Launch) (g : gG) (q : Nat → Nat) (lb : Nat) (hlb : lb < 2 ^ 31) {n1 : Int} {n2 : Int} {n3 : Int} {σ : S0} {Q : Int → Prop} (r_n1 : rg n1) (r_n2 : rg n2) (r_n3 : rg n3) (hN : n_m σ) (hw : W_X1_ruleOf n1 n2 n3 σ Q) (sz : Nat) : MetI l yX1_ruleOf cX1_ruleOf 4 (some .int) { frames := 0, cells := 0, slots := 0, locals := 0 } g [.ref (q 9), .int (I n1), .int (I n2), .int (I n3)] (CX g q lb σ) sz xT (p_i (CX g q lb) σ Q) 0 0 := by
  refine mkMet (Qc := fun A => QI g A (p_i (CX g q lb) σ Q)) (by decide) (Nat.le_of_ble_eq_true rfl) ?_
  intro p e s m below meth c A H ls hx hb hr hml hown hts hlk hnm hsz hP hK hNb hD hA hAe hS hX hl
  have hl : lv_has ls 4 [(0, .ref (q 9)), (1, .int (I n1)), (2, .int (I n2)), (3, .int (I n3))] := hl
  have hB := hN
  obtain ⟨locs, hlocs⟩ : ∃ z : List Loc, z = [] := ⟨_, rfl⟩
  rw [← hlocs] at hS ⊢
  refine lv_aload_n hx hb dX1_ruleOf_0 rfl (lv_at hl 0 rfl) ?_
  refine gfX1_madeBy hx hb hts hK hP hown (hts _ tw_686) dX1_ruleOf_1 ?_
  refine lv_iload_n hx hb dX1_ruleOf_4 rfl (lv_at hl 1 rfl) ?_
  refine lv_sipush (v := I 1770) hx hb dX1_ruleOf_5 (by decide) ?_
  refine bi_imul hx hb dX1_ruleOf_8 ?_
  refine lv_iload_n hx hb dX1_ruleOf_9 rfl (lv_at hl 3 rfl) ?_
  refine lv_iload_n hx hb dX1_ruleOf_10 rfl (lv_at hl 3 rfl) ?_
  refine lv_iconst (v := I 1) hx hb dX1_ruleOf_11 rfl ?_
  refine bi_isub hx hb dX1_ruleOf_12 ?_
  refine bi_imul hx hb dX1_ruleOf_13 ?_
  refine lv_iconst (v := I 2) hx hb dX1_ruleOf_14 rfl ?_
  obtain ⟨c1, hw⟩ := hw
  refine bi_idiv hx hb c1 (by decide) (by decide) dX1_ruleOf_15 (fun x2 r_x2 p_x2 m_x2 => ?_)
  replace hw := hw x2 r_x2 p_x2 m_x2
  refine bi_iadd hx hb dX1_ruleOf_16 ?_
  refine lv_iload_n hx hb dX1_ruleOf_17 rfl (lv_at hl 2 rfl) ?_
  refine bi_iadd hx hb dX1_ruleOf_18 ?_
  obtain ⟨c3, hw⟩ := hw
  refine ldCX1_madeBy hx hb hK hP hN c3 dX1_ruleOf_19 (fun x4 r_x4 e_x4 => ?_)
  replace hw := hw x4 r_x4 e_x4
  exact xri hx hb hr hlk hP hK hD hS ⟨_, r_x4, rfl, rfl, hw⟩ (Nat.le_of_ble_eq_true rfl) (Nat.le_of_ble_eq_true rfl) dX1_ruleOf_20
def W_J7_fill_53178_q117 (n1 : Int) (σ : S0) (Q : S0 → Prop) : Prop :=
  ∀ (P5 : Int → Int → Int → S0 → Prop),
  (∀ (u1 : Int) (u2 : Int) (u3 : Int) (τ : S0), ((u3 ≤ u2 → Q τ) ∧ (u2 < u3 → (0 ≤ u2 ∧ u2 < 1500) ∧ (rg (u2 + 1) ∧ P5 u1 (u2 + 1) u3 (s_a τ 95 u2 u1)))) → P5 u1 u2 u3 τ) →
  P5 n1 0 1500 σ
set_option maxRecDepth 100000 in
set_option maxHeartbeats 4000000 in
theorem L_J7_fill_53178_q117 (l : Launch) (g : gG) (q : Nat → Nat) (lb : Nat) (hlb : lb < 2 ^ 31) {n1 : Int} {σ : S0} {Q : S0 → Prop} (r_n1 : rg n1) (hN : n_m σ) (hw : W_J7_fill_53178_q117 n1 σ Q) (sz : Nat) : MetV l yJ7_fill_53178 cJ7_fill_53178 4 { frames := 0, cells := 0, slots := 0, locals := 0 } g [.ref (q 117), .int (I n1)] (CX g q lb σ) sz xT (p_V (CX g q lb) [] [95] [] σ Q) 0 0 := by
  refine mkMet (Qc := fun A => QV g A (p_V (CX g q lb) [] [95] [] σ Q)) (by decide) (Nat.le_of_ble_eq_true rfl) ?_
  intro p e s m below meth c A H ls hx hb hr hml hown hts hlk hnm hsz hP hK hNb hD hA hAe hS hX hl
  have hl : lv_has ls 4 [(0, .ref (q 117)), (1, .int (I n1))] := hl
  have hB := hN
  have hF : f_r [] [95] [] σ σ := f_0
  obtain ⟨locs, hlocs⟩ : ∃ z : List Loc, z = [] := ⟨_, rfl⟩
  rw [← hlocs] at hS ⊢
  obtain ⟨P5, hP5⟩ : ∃ P : Int → Int → Int → S0 → Prop, ∀ (u1 : Int) (u2 : Int) (u3 : Int) (τ : S0), (P u1 u2 u3 τ ↔ (rg u1 → rg u2 → rg u3 → n_m τ → f_r [] [95] [] σ τ → ∀ (H : Heap) (locs : List Loc) (ls : Array Slot), KP g (CX g q lb τ) H → va_D A (CX g q lb τ) → va_S A s.heap H locs → lv_has ls 4 [(0, .ref (q 117)), (1, .int (I u1)), (2, .int (I u2)), (3, .int (I u3))] → W p l e ({ frames := 0, cells := 0, slots := 0, locals := 0 }) s m [.ref (q 117), .int (I n1)].toArray below meth c H locs 0 0 (MQ below (QV g A (p_V (CX g q lb) [] [95] [] σ Q)) [.ref (q 117), .int (I n1)].toArray s 0 0 A) (F0 m 5 ls []))) := ⟨_, fun _ _ _ _ => Iff.rfl⟩
  refine (fun hw => ?_) (hw P5 ?_)
  ·
    refine lv_iconst (v := I 0) hx hb dJ7_fill_53178_0 rfl ?_
    refine lv_istore_n (lv' := [(2, .int (I 0)), (0, .ref (q 117)), (1, .int (I n1))]) hx hb dJ7_fill_53178_1 rfl hl (by decide) rfl (fun ls hl => ?_)
    refine lv_aload_n hx hb dJ7_fill_53178_2 rfl (lv_at hl 1 rfl) ?_
    refine va_alen hx hb hK hP 117 0 rfl rfl (v := I 1500) rfl dJ7_fill_53178_3 ?_
    refine lv_istore_n (lv' := [(3, .int (I 1500)), (2, .int (I 0)), (0, .ref (q 117)), (1, .int (I n1))]) hx hb dJ7_fill_53178_4 rfl hl (by decide) rfl (fun ls hl => ?_)
    exact (hP5 _ _ _ _).mp hw r_n1 (by decide) (by decide) hN hF H locs ls hP hD hS (lv_sub hl [2, 3, 1, 0] rfl)
  ·
    intro u1 u2 u3 τ hw
    refine (hP5 _ _ _ _).mpr ?_
    intro r_u1 r_u2 r_u3 hN hF H locs ls hP hD hS hl
    have hB := hN
    refine lv_iload_n hx hb dJ7_fill_53178_5 rfl (lv_at hl 2 rfl) ?_
    refine lv_iload_n hx hb dJ7_fill_53178_6 rfl (lv_at hl 3 rfl) ?_
    refine bi_icmp_ge (tgt := 20) hx hb r_u2 r_u3 dJ7_fill_53178_7 (by decide) (fun c1 => ?_) (fun c1 => ?_)
    ·
      replace hw := hw.1 c1
      exact xrv hx hb hr hlk hP hK hD hS ⟨_, hN, hF, rfl, hw⟩ (Nat.le_of_ble_eq_true rfl) (Nat.le_of_ble_eq_true rfl) dJ7_fill_53178_20
    ·
      replace hw := hw.2 c1
      refine lv_aload_n hx hb dJ7_fill_53178_10 rfl (lv_at hl 0 rfl) ?_
      refine lv_iload_n hx hb dJ7_fill_53178_11 rfl (lv_at hl 2 rfl) ?_
      refine lv_iload_n hx hb dJ7_fill_53178_12 rfl (lv_at hl 1 rfl) ?_
      obtain ⟨c2, hw⟩ := hw
      refine sdCX2_definedBy hx hb hK hP hD hS c2 dJ7_fill_53178_13 (fun H locs hP hD hS => ?_)
      have hN : n_m (s_a τ 95 u2 u1) := n_a (k := 95) (j := u2) hN (r_u1 : rg u1)
      have hF : f_r [] [95] [] σ (s_a τ 95 u2 u1) := f_a hF (by decide)
      refine lv_iinc (v := I (u2 + 1)) (lv' := [(2, .int (I (u2 + 1))), (0, .ref (q 117)), (1, .int (I u1)), (3, .int (I u3))]) hx hb dJ7_fill_53178_14 hl (k := 2) rfl (I_add _ _) (by decide) rfl (fun ls hl => ?_)
      refine lv_goto (tgt := 5) hx hb dJ7_fill_53178_17 (by decide) ?_
      obtain ⟨c3, hw⟩ := hw
      exact (hP5 _ _ _ _).mp hw r_u1 c3 r_u3 hN hF H locs ls hP hD hS (lv_sub hl [1, 2, 0, 3] rfl)
def W_X2_turn (n1 : Int) (σ : S0) (Q : Int → S0 → Prop) : Prop :=
  ∀ (P19 : Int → Int → Int → S0 → Prop) (P39 : Int → Int → S0 → Prop),
  (∀ (u1 : Int) (k1 : Int) (k2 : Int) (τ : S0), ((0 ≤ k1 ∧ k1 < 1500) ∧ ((0 ≤ k2 ∧ k2 ≤ 1) ∧ ((0 ≤ u1 ∧ u1 < 1500) ∧ (∀ (x7 : Int), rg x7 → x7 = (st (τ.2.1 96) k1 k2) u1 → ((x7 = 0 → P39 (τ.1 58) (-1) (s_a τ 96 k1 k2)) ∧ (¬ x7 = 0 → P39 (τ.1 58) 1 (s_a τ 96 k1 k2))))))) → P19 u1 k1 k2 τ) →
  (∀ (k1 : Int) (k2 : Int) (τ : S0), (∀ (x9 : Int), rg x9 → (∃ (Q10 : S0 → Prop), W_J7_fill_53178_q117 0 (s_v τ 58 x9) Q10 ∧ ∀ (τ12 : S0), n_m τ12 → f_r [] [95] [] (s_v τ 58 x9) τ12 → Q10 τ12 → (Q (τ12.1 58) (s_v (s_v τ12 59 0) 60 0)))) → P39 k1 k2 τ) →
  (0 ≤ n1 ∧ n1 < 1500) ∧ (∀ (x2 : Int), rg x2 → x2 = σ.2.1 96 n1 → ((¬ x2 = 0 → P19 n1 n1 0 σ) ∧ (x2 = 0 → P19 n1 n1 1 σ)))
set_option maxRecDepth 100000 in
set_option maxHeartbeats 4000000 in
theorem L_X2_turn (l : Launch) (g : gG) (q : Nat → Nat) (lb : Nat) (hlb : lb < 2 ^ 31) {n1 : Int} {σ : S0} {Q : Int → S0 → Prop} (r_n1 : rg n1) (hN : n_m σ) (hw : W_X2_turn n1 σ Q) (sz : Nat) : MetI l yX2_turn cX2_turn 2 (some .int) { frames := 1, cells := 0, slots := 0, locals := 23 } g [.ref (q 11), .int (I n1)] (CX g q lb σ) sz xT (p_I (CX g q lb) [58, 59, 60] [95, 96] [] σ Q) 0 0 := by
  refine mkMet (Qc := fun A => QI g A (p_I (CX g q lb) [58, 59, 60] [95, 96] [] σ Q)) (by decide) (Nat.le_of_ble_eq_true rfl) ?_
  intro p e s m below meth c A H ls hx hb hr hml hown hts hlk hnm hsz hP hK hNb hD hA hAe hS hX hl
  have hl : lv_has ls 2 [(0, .ref (q 11)), (1, .int (I n1))] := hl
  have hB := hN
  have hF : f_r [58, 59, 60] [95, 96] [] σ σ := f_0
  obtain ⟨locs, hlocs⟩ : ∃ z : List Loc, z = [] := ⟨_, rfl⟩
  rw [← hlocs] at hS ⊢
  obtain ⟨P19, hP19⟩ : ∃ P : Int → Int → Int → S0 → Prop, ∀ (u1 : Int) (k1 : Int) (k2 : Int) (τ : S0), (P u1 k1 k2 τ ↔ (rg u1 → rg k1 → rg k2 → n_m τ → f_r [58, 59, 60] [95, 96] [] σ τ → ∀ (H : Heap) (locs : List Loc) (ls : Array Slot), KP g (CX g q lb τ) H → va_D A (CX g q lb τ) → va_S A s.heap H locs → lv_has ls 2 [(0, .ref (q 11)), (1, .int (I u1))] → W p l e ({ frames := 1, cells := 0, slots := 0, locals := 23 }) s m [.ref (q 11), .int (I n1)].toArray below meth c H locs 0 0 (MQ below (QI g A (p_I (CX g q lb) [58, 59, 60] [95, 96] [] σ Q)) [.ref (q 11), .int (I n1)].toArray s 0 0 A) (F0 m 19 ls [.int (I k2), .int (I k1), .ref (q 118)]))) := ⟨_, fun _ _ _ _ => Iff.rfl⟩
  obtain ⟨P39, hP39⟩ : ∃ P : Int → Int → S0 → Prop, ∀ (k1 : Int) (k2 : Int) (τ : S0), (P k1 k2 τ ↔ (rg k1 → rg k2 → n_m τ → f_r [58, 59, 60] [95, 96] [] σ τ → ∀ (H : Heap) (locs : List Loc) (ls : Array Slot), KP g (CX g q lb τ) H → va_D A (CX g q lb τ) → va_S A s.heap H locs → lv_has ls 2 [(0, .ref (q 11))] → W p l e ({ frames := 1, cells := 0, slots := 0, locals := 23 }) s m [.ref (q 11), .int (I n1)].toArray below meth c H locs 0 0 (MQ below (QI g A (p_I (CX g q lb) [58, 59, 60] [95, 96] [] σ Q)) [.ref (q 11), .int (I n1)].toArray s 0 0 A) (F0 m 39 ls [.int (I k2), .int (I k1), .ref (q 11)]))) := ⟨_, fun _ _ _ => Iff.rfl⟩
  refine (fun hw => ?_) (hw P19 P39 ?_ ?_)
  ·
    refine lv_aload_n hx hb dX2_turn_0 rfl (lv_at hl 0 rfl) ?_
    refine gfX2_equality hx hb hts hK hP hown (hts _ tw_806) dX2_turn_1 ?_
    refine lv_iload_n hx hb dX2_turn_4 rfl (lv_at hl 1 rfl) ?_
    refine lv_aload_n hx hb dX2_turn_5 rfl (lv_at hl 0 rfl) ?_
    refine gfX2_equality hx hb hts hK hP hown (hts _ tw_806) dX2_turn_6 ?_
    refine lv_iload_n hx hb dX2_turn_9 rfl (lv_at hl 1 rfl) ?_
    obtain ⟨c1, hw⟩ := hw
    refine ldCX2_equality hx hb hK hP hN c1 dX2_turn_10 (fun x2 r_x2 e_x2 => ?_)
    replace hw := hw x2 r_x2 e_x2
    refine bi_if_ne (tgt := 18) hx hb r_x2 dX2_turn_11 (by decide) (fun c3 => ?_) (fun c3 => ?_)
    ·
      replace hw := hw.1 c3
      refine lv_iconst (v := I 0) hx hb dX2_turn_18 rfl ?_
      exact (hP19 _ _ _ _).mp hw r_n1 r_n1 (by decide) hN hF H locs ls hP hD hS (lv_sub hl [0, 1] rfl)
    ·
      replace hw := hw.2 c3
      refine lv_iconst (v := I 1) hx hb dX2_turn_14 rfl ?_
      refine lv_goto (tgt := 19) hx hb dX2_turn_15 (by decide) ?_
      exact (hP19 _ _ _ _).mp hw r_n1 r_n1 (by decide) hN hF H locs ls hP hD hS (lv_sub hl [0, 1] rfl)
  ·
    intro u1 k1 k2 τ hw
    refine (hP19 _ _ _ _).mpr ?_
    intro r_u1 r_k1 r_k2 hN hF H locs ls hP hD hS hl
    have hB := hN
    obtain ⟨c4, hw⟩ := hw
    obtain ⟨c5, hw⟩ := hw
    refine sdCX2_equality hx hb hK hP hD hS c4 c5 dX2_turn_19 (fun H locs hP hD hS => ?_)
    have hN : n_m (s_a τ 96 k1 k2) := n_a (k := 96) (j := k1) hN (r_k2 : rg k2)
    have hF : f_r [58, 59, 60] [95, 96] [] σ (s_a τ 96 k1 k2) := f_a hF (by decide)
    refine lv_aload_n hx hb dX2_turn_20 rfl (lv_at hl 0 rfl) ?_
    refine lv_dup hx hb dX2_turn_21 rfl ?_
    refine gfX2_equalities hx hb hts hK hP hown (hts _ tw_807) (x := τ.1 58) rfl dX2_turn_22 ?_
    refine lv_aload_n hx hb dX2_turn_25 rfl (lv_at hl 0 rfl) ?_
    refine gfX2_equality hx hb hts hK hP hown (hts _ tw_806) dX2_turn_26 ?_
    refine lv_iload_n hx hb dX2_turn_29 rfl (lv_at hl 1 rfl) ?_
    obtain ⟨c6, hw⟩ := hw
    refine ldCX2_equality hx hb hK hP hN c6 dX2_turn_30 (fun x7 r_x7 e_x7 => ?_)
    replace hw := hw x7 r_x7 e_x7
    refine bi_if_eq (tgt := 38) hx hb r_x7 dX2_turn_31 (by decide) (fun c8 => ?_) (fun c8 => ?_)
    ·
      replace hw := hw.1 c8
      refine lv_iconst (v := I (-1)) hx hb dX2_turn_38 rfl ?_
      exact (hP39 _ _ _).mp hw (hB.1 58) (by decide) hN hF H locs ls hP hD hS (lv_sub hl [0] rfl)
    ·
      replace hw := hw.2 c8
      refine lv_iconst (v := I 1) hx hb dX2_turn_34 rfl ?_
      refine lv_goto (tgt := 39) hx hb dX2_turn_35 (by decide) ?_
      exact (hP39 _ _ _).mp hw (hB.1 58) (by decide) hN hF H locs ls hP hD hS (lv_sub hl [0] rfl)
  ·
    intro k1 k2 τ hw
    refine (hP39 _ _ _).mpr ?_
    intro r_k1 r_k2 hN hF H locs ls hP hD hS hl
    have hB := hN
    refine bi_iadd hx hb dX2_turn_39 ?_
    refine bi_hav (fun x9 r_x9 => ?_)
    replace hw := hw x9 r_x9
    refine pfX2_equalities hx hb hts hK hP hD hS hown (hts _ tw_807) dX2_turn_40 (fun H locs hP hD hS => ?_)
    have hN : n_m (s_v τ 58 x9) := n_v (i := 58) hN (r_x9 : rg x9)
    have hF : f_r [58, 59, 60] [95, 96] [] σ (s_v τ 58 x9) := f_v hF (by decide)
    refine lv_aload_n hx hb dX2_turn_43 rfl (lv_at hl 0 rfl) ?_
    refine gfX2_definedBy hx hb hts hK hP hown (hts _ tw_805) dX2_turn_44 ?_
    refine lv_iconst (v := I 0) hx hb dX2_turn_47 rfl ?_
    obtain ⟨Q10, hc, hw⟩ := hw
    refine wc_V (X := CX g q lb) (va_runS (As := [.ref (q 117), .int (I 0)]) (rest := []) ⟨hx, hb, hml, hown, hts⟩ (L_J7_fill_53178_q117 l g q lb hlb (by decide) hN hc H.size) (va_cwS 2 hts (TB_vS tw_1909 tw_163 tw_4 co_J7_fill_53178) rfl rfl rfl (by decide +kernel) ⟨Nat.le_of_ble_eq_true rfl, Nat.le_of_ble_eq_true rfl⟩) (preS xT_bl hP hK hNb hD xT_at) rfl rfl hl.1 rfl (lv_room (Nat.le_of_ble_eq_true rfl)) dX2_turn_48 ⟨Nat.le_of_ble_eq_true rfl, Nat.le_of_ble_eq_true rfl⟩) hP hD hS hA (fun τ12 H locs hN hf hq hP hD hS => ?_)
    replace hw := hw τ12 hN hf hq
    have hF : f_r [58, 59, 60] [95, 96] [] σ τ12 := f_t hF hf (by decide) (by decide) (by decide)
    have hB := hN
    refine lv_aload_n hx hb dX2_turn_51 rfl (lv_at hl 0 rfl) ?_
    refine lv_iconst (v := I 0) hx hb dX2_turn_52 rfl ?_
    refine pfX2_prepared hx hb hts hK hP hD hS hown (hts _ tw_808) dX2_turn_53 (fun H locs hP hD hS => ?_)
    have hN : n_m (s_v τ12 59 0) := n_v (i := 59) hN ((by decide) : rg 0)
    have hF : f_r [58, 59, 60] [95, 96] [] σ (s_v τ12 59 0) := f_v hF (by decide)
    refine lv_aload_n hx hb dX2_turn_56 rfl (lv_at hl 0 rfl) ?_
    refine lv_iconst (v := I 0) hx hb dX2_turn_57 rfl ?_
    refine pfX2_bodiesUsed hx hb hts hK hP hD hS hown (hts _ tw_812) dX2_turn_58 (fun H locs hP hD hS => ?_)
    have hN : n_m (s_v (s_v τ12 59 0) 60 0) := n_v (i := 60) hN ((by decide) : rg 0)
    have hF : f_r [58, 59, 60] [95, 96] [] σ (s_v (s_v τ12 59 0) 60 0) := f_v hF (by decide)
    refine lv_aload_n hx hb dX2_turn_61 rfl (lv_at hl 0 rfl) ?_
    refine gfX2_equalities hx hb hts hK hP hown (hts _ tw_807) (x := τ12.1 58) rfl dX2_turn_62 ?_
    exact xri hx hb hr hlk hP hK hD hS ⟨_, _, (hB.1 58), rfl, hN, hF, rfl, hw⟩ (Nat.le_of_ble_eq_true rfl) (Nat.le_of_ble_eq_true rfl) dX2_turn_65
