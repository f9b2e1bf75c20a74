-- methods told as propositions, and tied to the machine
def W_X4_hash (n1 : Int) (σ : S0) (Q : Int → Prop) : Prop :=
  ∀ (P30 : Int → Int → Int → Prop),
  (∀ (u1 : Int) (u2 : Int) (u3 : Int), ((0 ≤ ((σ.1 44 + u1) + 1) ∧ ((σ.1 44 + u1) + 1) < 20001) ∧ (∀ (x6 : Int), rg x6 → x6 = σ.2.1 36 ((σ.1 44 + u1) + 1) → ((x6 ≤ u3 → ∀ (x8 : Int), rg x8 → (∀ (x9 : Int), rg x9 → (Q x9))) ∧ (u3 < x6 → (0 ≤ u3 ∧ u3 < 20000) ∧ (∀ (x11 : Int), rg x11 → x11 = σ.2.1 37 u3 → ((0 ≤ x11 ∧ x11 < 20000) ∧ (∀ (x13 : Int), rg x13 → x13 = σ.2.1 55 x11 → (∀ (x14 : Int), rg x14 → (rg (u3 + 1) ∧ P30 u1 x14 (u3 + 1)))))))))) → P30 u1 u2 u3) →
  (0 ≤ (σ.1 44 + n1) ∧ (σ.1 44 + n1) < 20000) ∧ (∀ (x2 : Int), rg x2 → x2 = σ.2.1 35 (σ.1 44 + n1) → ((0 ≤ (σ.1 44 + n1) ∧ (σ.1 44 + n1) < 20001) ∧ (∀ (x4 : Int), rg x4 → x4 = σ.2.1 36 (σ.1 44 + n1) → (P30 n1 x2 x4))))
set_option maxRecDepth 100000 in
set_option maxHeartbeats 4000000 in
theorem L_X4_hash (l : Launch) (g : gG) (q : Nat → Nat) (lb : Nat) (hlb : lb < 2 ^ 31) {n1 : Int} {σ : S0} {Q : Int → Prop} (r_n1 : rg n1) (hN : n_m σ) (hw : W_X4_hash n1 σ Q) (sz : Nat) : MetI l yX4_hash cX4_hash 4 (some .int) { frames := 0, cells := 0, slots := 0, locals := 0 } g [.ref (q 7), .int (I n1)] (CX g q lb σ) sz xT (p_i (CX g q lb) σ Q) 0 0 := by
  refine mkMet (Qc := fun A => QI g A (p_i (CX g q lb) σ Q)) (by decide) (Nat.le_of_ble_eq_true rfl) ?_
  intro p e s m below meth c A H ls hx hb hr hml hown hts hlk hnm hsz hP hK hNb hD hA hAe hS hX hl
  have hl : lv_has ls 4 [(0, .ref (q 7)), (1, .int (I n1))] := hl
  have hB := hN
  obtain ⟨locs, hlocs⟩ : ∃ z : List Loc, z = [] := ⟨_, rfl⟩
  rw [← hlocs] at hS ⊢
  obtain ⟨P30, hP30⟩ : ∃ P : Int → Int → Int → Prop, ∀ (u1 : Int) (u2 : Int) (u3 : Int), (P u1 u2 u3 ↔ (rg u1 → rg u2 → rg u3 → ∀ (H : Heap) (locs : List Loc) (ls : Array Slot), KP g (CX g q lb σ) H → va_D A (CX g q lb σ) → va_S A s.heap H locs → lv_has ls 4 [(0, .ref (q 7)), (1, .int (I u1)), (2, .int (I u2)), (3, .int (I u3))] → W p l e ({ frames := 0, cells := 0, slots := 0, locals := 0 }) s m [.ref (q 7), .int (I n1)].toArray below meth c H locs 0 0 (MQ below (QI g A (p_i (CX g q lb) σ Q)) [.ref (q 7), .int (I n1)].toArray s 0 0 A) (F0 m 30 ls []))) := ⟨_, fun _ _ _ => Iff.rfl⟩
  refine (fun hw => ?_) (hw P30 ?_)
  ·
    refine lv_aload_n hx hb dX4_hash_0 rfl (lv_at hl 0 rfl) ?_
    refine gfX4_assertions hx hb hts hK hP hown (hts _ tw_533) dX4_hash_1 ?_
    refine gfNX0_rowStatement hx hb hts hK hP hown (nb_use hNb tn_274) dX4_hash_4 ?_
    refine lv_aload_n hx hb dX4_hash_7 rfl (lv_at hl 0 rfl) ?_
    refine gfX4_base hx hb hts hK hP hown (hts _ tw_553) (x := σ.1 44) rfl dX4_hash_8 ?_
    refine lv_iload_n hx hb dX4_hash_11 rfl (lv_at hl 1 rfl) ?_
    refine bi_iadd hx hb dX4_hash_12 ?_
    obtain ⟨c1, hw⟩ := hw
    refine ldCX0_rowStatement hx hb hK hP hN c1 dX4_hash_13 (fun x2 r_x2 e_x2 => ?_)
    replace hw := hw x2 r_x2 e_x2
    refine lv_istore_n (lv' := [(2, .int (I x2)), (0, .ref (q 7)), (1, .int (I n1))]) hx hb dX4_hash_14 rfl hl (by decide) rfl (fun ls hl => ?_)
    refine lv_aload_n hx hb dX4_hash_15 rfl (lv_at hl 1 rfl) ?_
    refine gfX4_assertions hx hb hts hK hP hown (hts _ tw_533) dX4_hash_16 ?_
    refine gfNX0_childAt hx hb hts hK hP hown (nb_use hNb tn_279) dX4_hash_19 ?_
    refine lv_aload_n hx hb dX4_hash_22 rfl (lv_at hl 1 rfl) ?_
    refine gfX4_base hx hb hts hK hP hown (hts _ tw_553) (x := σ.1 44) rfl dX4_hash_23 ?_
    refine lv_iload_n hx hb dX4_hash_26 rfl (lv_at hl 2 rfl) ?_
    refine bi_iadd hx hb dX4_hash_27 ?_
    obtain ⟨c3, hw⟩ := hw
    refine ldCX0_childAt hx hb hK hP hN c3 dX4_hash_28 (fun x4 r_x4 e_x4 => ?_)
    replace hw := hw x4 r_x4 e_x4
    refine lv_istore_n (lv' := [(3, .int (I x4)), (2, .int (I x2)), (0, .ref (q 7)), (1, .int (I n1))]) hx hb dX4_hash_29 rfl hl (by decide) rfl (fun ls hl => ?_)
    exact (hP30 _ _ _).mp hw r_n1 r_x2 r_x4  H locs ls hP hD hS (lv_sub hl [2, 3, 1, 0] rfl)
  ·
    intro u1 u2 u3 hw
    refine (hP30 _ _ _).mpr ?_
    intro r_u1 r_u2 r_u3 H locs ls hP hD hS hl
    refine lv_iload_n hx hb dX4_hash_30 rfl (lv_at hl 3 rfl) ?_
    refine lv_aload_n hx hb dX4_hash_31 rfl (lv_at hl 0 rfl) ?_
    refine gfX4_assertions hx hb hts hK hP hown (hts _ tw_533) dX4_hash_32 ?_
    refine gfNX0_childAt hx hb hts hK hP hown (nb_use hNb tn_279) dX4_hash_35 ?_
    refine lv_aload_n hx hb dX4_hash_38 rfl (lv_at hl 0 rfl) ?_
    refine gfX4_base hx hb hts hK hP hown (hts _ tw_553) (x := σ.1 44) rfl dX4_hash_39 ?_
    refine lv_iload_n hx hb dX4_hash_42 rfl (lv_at hl 1 rfl) ?_
    refine bi_iadd hx hb dX4_hash_43 ?_
    refine lv_iconst (v := I 1) hx hb dX4_hash_44 rfl ?_
    refine bi_iadd hx hb dX4_hash_45 ?_
    obtain ⟨c5, hw⟩ := hw
    refine ldCX0_childAt hx hb hK hP hN c5 dX4_hash_46 (fun x6 r_x6 e_x6 => ?_)
    replace hw := hw x6 r_x6 e_x6
    refine bi_icmp_ge (tgt := 76) hx hb r_u3 r_x6 dX4_hash_47 (by decide) (fun c7 => ?_) (fun c7 => ?_)
    ·
      replace hw := hw.1 c7
      refine lv_iload_n hx hb dX4_hash_76 rfl (lv_at hl 2 rfl) ?_
      refine lv_ldc (own := RX4) (v := (-1640531535)) hx hb hown (hts _ tw_1605) dX4_hash_77 ?_
      refine xtop (y := I (-1640531535)) (by decide) ?_
      refine bi_imul hx hb dX4_hash_79 ?_
      refine bi_hav (fun x8 r_x8 => ?_)
      replace hw := hw x8 r_x8
      refine lv_istore_n (lv' := [(2, .int (I x8)), (0, .ref (q 7)), (1, .int (I u1)), (3, .int (I u3))]) hx hb dX4_hash_80 rfl hl (by decide) rfl (fun ls hl => ?_)
      refine lv_iload_n hx hb dX4_hash_81 rfl (lv_at hl 0 rfl) ?_
      refine lv_bipush (v := I 16) hx hb dX4_hash_82 (by decide) ?_
      refine lv_iushr (v := _) hx hb dX4_hash_84 rfl ?_
      refine bi_hav (fun x9 r_x9 => ?_)
      replace hw := hw x9 r_x9
      exact xri hx hb hr hlk hP hK hD hS ⟨_, r_x9, rfl, rfl, hw⟩ (Nat.le_of_ble_eq_true rfl) (Nat.le_of_ble_eq_true rfl) dX4_hash_85
    ·
      replace hw := hw.2 c7
      refine lv_iload_n hx hb dX4_hash_50 rfl (lv_at hl 2 rfl) ?_
      refine lv_ldc (own := RX4) (v := 1000003) hx hb hown (hts _ tw_1604) dX4_hash_51 ?_
      refine xtop (y := I 1000003) (by decide) ?_
      refine bi_imul hx hb dX4_hash_53 ?_
      refine lv_aload_n hx hb dX4_hash_54 rfl (lv_at hl 0 rfl) ?_
      refine gfX4_sameAs hx hb hts hK hP hown (hts _ tw_534) dX4_hash_55 ?_
      refine lv_aload_n hx hb dX4_hash_58 rfl (lv_at hl 0 rfl) ?_
      refine gfX4_assertions hx hb hts hK hP hown (hts _ tw_533) dX4_hash_59 ?_
      refine gfNX0_children hx hb hts hK hP hown (nb_use hNb tn_285) dX4_hash_62 ?_
      refine lv_iload_n hx hb dX4_hash_65 rfl (lv_at hl 3 rfl) ?_
      obtain ⟨c10, hw⟩ := hw
      refine ldCX0_children hx hb hK hP hN c10 dX4_hash_66 (fun x11 r_x11 e_x11 => ?_)
      replace hw := hw x11 r_x11 e_x11
      obtain ⟨c12, hw⟩ := hw
      refine ldCX4_sameAs hx hb hK hP hN c12 dX4_hash_67 (fun x13 r_x13 e_x13 => ?_)
      replace hw := hw x13 r_x13 e_x13
      refine bi_iadd hx hb dX4_hash_68 ?_
      refine bi_hav (fun x14 r_x14 => ?_)
      replace hw := hw x14 r_x14
      refine lv_istore_n (lv' := [(2, .int (I x14)), (0, .ref (q 7)), (1, .int (I u1)), (3, .int (I u3))]) hx hb dX4_hash_69 rfl hl (by decide) rfl (fun ls hl => ?_)
      refine lv_iinc (v := I (u3 + 1)) (lv' := [(3, .int (I (u3 + 1))), (2, .int (I x14)), (0, .ref (q 7)), (1, .int (I u1))]) hx hb dX4_hash_70 hl (k := 3) rfl (I_add _ _) (by decide) rfl (fun ls hl => ?_)
      refine lv_goto (tgt := 30) hx hb dX4_hash_73 (by decide) ?_
      obtain ⟨c15, hw⟩ := hw
      exact (hP30 _ _ _).mp hw r_u1 r_x14 c15  H locs ls hP hD hS (lv_sub hl [2, 3, 1, 0] rfl)
def W_X4_isAlike (n1 : Int) (n2 : Int) (σ : S0) (Q : Int → Prop) : Prop :=
  ∀ (P67 : Int → Int → Int → Int → Prop),
  (∀ (u1 : Int) (u3 : Int) (u4 : Int) (u5 : Int), (rg (σ.1 44 + u1) ∧ ∃ (Q11 : Int → Prop), W_X0_childCount (σ.1 44 + u1) σ Q11 ∧ ∀ (x12 : Int), rg x12 → Q11 x12 → ((x12 ≤ u5 → Q 1) ∧ (u5 < x12 → (0 ≤ (u3 + u5) ∧ (u3 + u5) < 20000) ∧ (∀ (x16 : Int), rg x16 → x16 = σ.2.1 37 (u3 + u5) → ((0 ≤ x16 ∧ x16 < 20000) ∧ (∀ (x18 : Int), rg x18 → x18 = σ.2.1 55 x16 → ((0 ≤ (u4 + u5) ∧ (u4 + u5) < 20000) ∧ (∀ (x20 : Int), rg x20 → x20 = σ.2.1 37 (u4 + u5) → ((0 ≤ x20 ∧ x20 < 20000) ∧ (∀ (x22 : Int), rg x22 → x22 = σ.2.1 55 x20 → ((x18 = x22 → rg (u5 + 1) ∧ P67 u1 u3 u4 (u5 + 1)) ∧ (¬ x18 = x22 → Q 0)))))))))))) → P67 u1 u3 u4 u5) →
  (0 ≤ (σ.1 44 + n1) ∧ (σ.1 44 + n1) < 20000) ∧ (∀ (x2 : Int), rg x2 → x2 = σ.2.1 35 (σ.1 44 + n1) → ((0 ≤ (σ.1 44 + n2) ∧ (σ.1 44 + n2) < 20000) ∧ (∀ (x4 : Int), rg x4 → x4 = σ.2.1 35 (σ.1 44 + n2) → ((x2 = x4 → (0 ≤ (σ.1 44 + n1) ∧ (σ.1 44 + n1) < 20001) ∧ (∀ (x7 : Int), rg x7 → x7 = σ.2.1 36 (σ.1 44 + n1) → ((0 ≤ (σ.1 44 + n2) ∧ (σ.1 44 + n2) < 20001) ∧ (∀ (x9 : Int), rg x9 → x9 = σ.2.1 36 (σ.1 44 + n2) → (P67 n1 x7 x9 0))))) ∧ (¬ x2 = x4 → Q 0)))))
set_option maxRecDepth 100000 in
set_option maxHeartbeats 4000000 in
theorem L_X4_isAlike (l : Launch) (g : gG) (q : Nat → Nat) (lb : Nat) (hlb : lb < 2 ^ 31) {n1 : Int} {n2 : Int} {σ : S0} {Q : Int → Prop} (r_n1 : rg n1) (r_n2 : rg n2) (hN : n_m σ) (hw : W_X4_isAlike n1 n2 σ Q) (sz : Nat) : MetI l yX4_isAlike cX4_isAlike 6 (some .boolean) { frames := 1, cells := 0, slots := 0, locals := 21 } g [.ref (q 7), .int (I n1), .int (I n2)] (CX g q lb σ) sz xT (p_i (CX g q lb) σ Q) 0 0 := by
  refine mkMet (Qc := fun A => QI g A (p_i (CX g q lb) σ Q)) (by decide) (Nat.le_of_ble_eq_true rfl) ?_
  intro p e s m below meth c A H ls hx hb hr hml hown hts hlk hnm hsz hP hK hNb hD hA hAe hS hX hl
  have hl : lv_has ls 6 [(0, .ref (q 7)), (1, .int (I n1)), (2, .int (I n2))] := hl
  have hB := hN
  obtain ⟨locs, hlocs⟩ : ∃ z : List Loc, z = [] := ⟨_, rfl⟩
  rw [← hlocs] at hS ⊢
  obtain ⟨P67, hP67⟩ : ∃ P : Int → Int → Int → Int → Prop, ∀ (u1 : Int) (u3 : Int) (u4 : Int) (u5 : Int), (P u1 u3 u4 u5 ↔ (rg u1 → rg u3 → rg u4 → rg u5 → ∀ (H : Heap) (locs : List Loc) (ls : Array Slot), KP g (CX g q lb σ) H → va_D A (CX g q lb σ) → va_S A s.heap H locs → lv_has ls 6 [(0, .ref (q 7)), (1, .int (I u1)), (3, .int (I u3)), (4, .int (I u4)), (5, .int (I u5))] → W p l e ({ frames := 1, cells := 0, slots := 0, locals := 21 }) s m [.ref (q 7), .int (I n1), .int (I n2)].toArray below meth c H locs 0 0 (MQ below (QI g A (p_i (CX g q lb) σ Q)) [.ref (q 7), .int (I n1), .int (I n2)].toArray s 0 0 A) (F0 m 67 ls []))) := ⟨_, fun _ _ _ _ => Iff.rfl⟩
  refine (fun hw => ?_) (hw P67 ?_)
  ·
    refine lv_aload_n hx hb dX4_isAlike_0 rfl (lv_at hl 0 rfl) ?_
    refine gfX4_assertions hx hb hts hK hP hown (hts _ tw_533) dX4_isAlike_1 ?_
    refine gfNX0_rowStatement hx hb hts hK hP hown (nb_use hNb tn_274) dX4_isAlike_4 ?_
    refine lv_aload_n hx hb dX4_isAlike_7 rfl (lv_at hl 0 rfl) ?_
    refine gfX4_base hx hb hts hK hP hown (hts _ tw_553) (x := σ.1 44) rfl dX4_isAlike_8 ?_
    refine lv_iload_n hx hb dX4_isAlike_11 rfl (lv_at hl 1 rfl) ?_
    refine bi_iadd hx hb dX4_isAlike_12 ?_
    obtain ⟨c1, hw⟩ := hw
    refine ldCX0_rowStatement hx hb hK hP hN c1 dX4_isAlike_13 (fun x2 r_x2 e_x2 => ?_)
    replace hw := hw x2 r_x2 e_x2
    refine lv_aload_n hx hb dX4_isAlike_14 rfl (lv_at hl 0 rfl) ?_
    refine gfX4_assertions hx hb hts hK hP hown (hts _ tw_533) dX4_isAlike_15 ?_
    refine gfNX0_rowStatement hx hb hts hK hP hown (nb_use hNb tn_274) dX4_isAlike_18 ?_
    refine lv_aload_n hx hb dX4_isAlike_21 rfl (lv_at hl 0 rfl) ?_
    refine gfX4_base hx hb hts hK hP hown (hts _ tw_553) (x := σ.1 44) rfl dX4_isAlike_22 ?_
    refine lv_iload_n hx hb dX4_isAlike_25 rfl (lv_at hl 2 rfl) ?_
    refine bi_iadd hx hb dX4_isAlike_26 ?_
    obtain ⟨c3, hw⟩ := hw
    refine ldCX0_rowStatement hx hb hK hP hN c3 dX4_isAlike_27 (fun x4 r_x4 e_x4 => ?_)
    replace hw := hw x4 r_x4 e_x4
    refine bi_icmp_eq (tgt := 33) hx hb r_x2 r_x4 dX4_isAlike_28 (by decide) (fun c5 => ?_) (fun c5 => ?_)
    ·
      replace hw := hw.1 c5
      refine lv_aload_n hx hb dX4_isAlike_33 rfl (lv_at hl 0 rfl) ?_
      refine gfX4_assertions hx hb hts hK hP hown (hts _ tw_533) dX4_isAlike_34 ?_
      refine gfNX0_childAt hx hb hts hK hP hown (nb_use hNb tn_279) dX4_isAlike_37 ?_
      refine lv_aload_n hx hb dX4_isAlike_40 rfl (lv_at hl 0 rfl) ?_
      refine gfX4_base hx hb hts hK hP hown (hts _ tw_553) (x := σ.1 44) rfl dX4_isAlike_41 ?_
      refine lv_iload_n hx hb dX4_isAlike_44 rfl (lv_at hl 1 rfl) ?_
      refine bi_iadd hx hb dX4_isAlike_45 ?_
      obtain ⟨c6, hw⟩ := hw
      refine ldCX0_childAt hx hb hK hP hN c6 dX4_isAlike_46 (fun x7 r_x7 e_x7 => ?_)
      replace hw := hw x7 r_x7 e_x7
      refine lv_istore_n (lv' := [(3, .int (I x7)), (0, .ref (q 7)), (1, .int (I n1)), (2, .int (I n2))]) hx hb dX4_isAlike_47 rfl hl (by decide) rfl (fun ls hl => ?_)
      refine lv_aload_n hx hb dX4_isAlike_48 rfl (lv_at hl 1 rfl) ?_
      refine gfX4_assertions hx hb hts hK hP hown (hts _ tw_533) dX4_isAlike_49 ?_
      refine gfNX0_childAt hx hb hts hK hP hown (nb_use hNb tn_279) dX4_isAlike_52 ?_
      refine lv_aload_n hx hb dX4_isAlike_55 rfl (lv_at hl 1 rfl) ?_
      refine gfX4_base hx hb hts hK hP hown (hts _ tw_553) (x := σ.1 44) rfl dX4_isAlike_56 ?_
      refine lv_iload_n hx hb dX4_isAlike_59 rfl (lv_at hl 3 rfl) ?_
      refine bi_iadd hx hb dX4_isAlike_60 ?_
      obtain ⟨c8, hw⟩ := hw
      refine ldCX0_childAt hx hb hK hP hN c8 dX4_isAlike_61 (fun x9 r_x9 e_x9 => ?_)
      replace hw := hw x9 r_x9 e_x9
      refine lv_istore (lv' := [(4, .int (I x9)), (3, .int (I x7)), (0, .ref (q 7)), (1, .int (I n1)), (2, .int (I n2))]) hx hb dX4_isAlike_62 hl (by decide) rfl (fun ls hl => ?_)
      refine lv_iconst (v := I 0) hx hb dX4_isAlike_64 rfl ?_
      refine lv_istore (lv' := [(5, .int (I 0)), (4, .int (I x9)), (3, .int (I x7)), (0, .ref (q 7)), (1, .int (I n1)), (2, .int (I n2))]) hx hb dX4_isAlike_65 hl (by decide) rfl (fun ls hl => ?_)
      exact (hP67 _ _ _ _).mp hw r_n1 r_x7 r_x9 (by decide)  H locs ls hP hD hS (lv_sub hl [3, 4, 2, 1, 0] rfl)
    ·
      replace hw := hw.2 c5
      refine lv_iconst (v := I 0) hx hb dX4_isAlike_31 rfl ?_
      exact xrz hx hb hr (by decide) hlk hP hK hD hS ⟨_, (by decide), rfl, rfl, hw⟩ (Nat.le_of_ble_eq_true rfl) (Nat.le_of_ble_eq_true rfl) dX4_isAlike_32
  ·
    intro u1 u3 u4 u5 hw
    refine (hP67 _ _ _ _).mpr ?_
    intro r_u1 r_u3 r_u4 r_u5 H locs ls hP hD hS hl
    refine lv_iload hx hb dX4_isAlike_67 (lv_at hl 4 rfl) ?_
    refine lv_aload_n hx hb dX4_isAlike_69 rfl (lv_at hl 0 rfl) ?_
    refine gfX4_assertions hx hb hts hK hP hown (hts _ tw_533) dX4_isAlike_70 ?_
    refine lv_aload_n hx hb dX4_isAlike_73 rfl (lv_at hl 0 rfl) ?_
    refine gfX4_base hx hb hts hK hP hown (hts _ tw_553) (x := σ.1 44) rfl dX4_isAlike_74 ?_
    refine lv_iload_n hx hb dX4_isAlike_77 rfl (lv_at hl 1 rfl) ?_
    refine bi_iadd hx hb dX4_isAlike_78 ?_
    obtain ⟨c10, hw⟩ := hw
    obtain ⟨Q11, hc, hw⟩ := hw
    refine wc_i (X := CX g q lb) (va_runV (As := [.int (I (σ.1 44 + u1))]) (rest := [.int (I u5)]) ⟨hx, hb, hml, hown, hts⟩ (L_X0_childCount l g q lb hlb c10 hN hc H.size) (cwV 1 hts (TB_V tw_1610 tw_1505 tw_1506 tw_5 co_X0_childCount) rfl rfl rfl (by decide +kernel) ⟨Nat.le_of_ble_eq_true rfl, Nat.le_of_ble_eq_true rfl⟩) (preV (q0 := 3) (ci := 0) rfl xT_bl hP hK hNb hD rfl rfl xT_at) rfl rfl hl.1 rfl (lv_room (Nat.le_of_ble_eq_true rfl)) dX4_isAlike_79 ⟨Nat.le_of_ble_eq_true rfl, Nat.le_of_ble_eq_true rfl⟩) hP hD hS hA (fun x12 H locs r_x12 hq hP hD hS => ?_)
    replace hw := hw x12 r_x12 hq
    refine bi_icmp_ge (tgt := 131) hx hb r_u5 r_x12 dX4_isAlike_82 (by decide) (fun c14 => ?_) (fun c14 => ?_)
    ·
      replace hw := hw.1 c14
      refine lv_iconst (v := I 1) hx hb dX4_isAlike_131 rfl ?_
      exact xrz hx hb hr (by decide) hlk hP hK hD hS ⟨_, (by decide), rfl, rfl, hw⟩ (Nat.le_of_ble_eq_true rfl) (Nat.le_of_ble_eq_true rfl) dX4_isAlike_132
    ·
      replace hw := hw.2 c14
      refine lv_aload_n hx hb dX4_isAlike_85 rfl (lv_at hl 0 rfl) ?_
      refine gfX4_sameAs hx hb hts hK hP hown (hts _ tw_534) dX4_isAlike_86 ?_
      refine lv_aload_n hx hb dX4_isAlike_89 rfl (lv_at hl 0 rfl) ?_
      refine gfX4_assertions hx hb hts hK hP hown (hts _ tw_533) dX4_isAlike_90 ?_
      refine gfNX0_children hx hb hts hK hP hown (nb_use hNb tn_285) dX4_isAlike_93 ?_
      refine lv_iload_n hx hb dX4_isAlike_96 rfl (lv_at hl 2 rfl) ?_
      refine lv_iload hx hb dX4_isAlike_97 (lv_at hl 4 rfl) ?_
      refine bi_iadd hx hb dX4_isAlike_99 ?_
      obtain ⟨c15, hw⟩ := hw
      refine ldCX0_children hx hb hK hP hN c15 dX4_isAlike_100 (fun x16 r_x16 e_x16 => ?_)
      replace hw := hw x16 r_x16 e_x16
      obtain ⟨c17, hw⟩ := hw
      refine ldCX4_sameAs hx hb hK hP hN c17 dX4_isAlike_101 (fun x18 r_x18 e_x18 => ?_)
      replace hw := hw x18 r_x18 e_x18
      refine lv_aload_n hx hb dX4_isAlike_102 rfl (lv_at hl 0 rfl) ?_
      refine gfX4_sameAs hx hb hts hK hP hown (hts _ tw_534) dX4_isAlike_103 ?_
      refine lv_aload_n hx hb dX4_isAlike_106 rfl (lv_at hl 0 rfl) ?_
      refine gfX4_assertions hx hb hts hK hP hown (hts _ tw_533) dX4_isAlike_107 ?_
      refine gfNX0_children hx hb hts hK hP hown (nb_use hNb tn_285) dX4_isAlike_110 ?_
      refine lv_iload hx hb dX4_isAlike_113 (lv_at hl 3 rfl) ?_
      refine lv_iload hx hb dX4_isAlike_115 (lv_at hl 4 rfl) ?_
      refine bi_iadd hx hb dX4_isAlike_117 ?_
      obtain ⟨c19, hw⟩ := hw
      refine ldCX0_children hx hb hK hP hN c19 dX4_isAlike_118 (fun x20 r_x20 e_x20 => ?_)
      replace hw := hw x20 r_x20 e_x20
      obtain ⟨c21, hw⟩ := hw
      refine ldCX4_sameAs hx hb hK hP hN c21 dX4_isAlike_119 (fun x22 r_x22 e_x22 => ?_)
      replace hw := hw x22 r_x22 e_x22
      refine bi_icmp_eq (tgt := 125) hx hb r_x18 r_x22 dX4_isAlike_120 (by decide) (fun c23 => ?_) (fun c23 => ?_)
      ·
        replace hw := hw.1 c23
        refine lv_iinc (v := I (u5 + 1)) (lv' := [(5, .int (I (u5 + 1))), (0, .ref (q 7)), (1, .int (I u1)), (3, .int (I u3)), (4, .int (I u4))]) hx hb dX4_isAlike_125 hl (k := 4) rfl (I_add _ _) (by decide) rfl (fun ls hl => ?_)
        refine lv_goto (tgt := 67) hx hb dX4_isAlike_128 (by decide) ?_
        obtain ⟨c24, hw⟩ := hw
        exact (hP67 _ _ _ _).mp hw r_u1 r_u3 r_u4 c24  H locs ls hP hD hS (lv_sub hl [1, 2, 3, 4, 0] rfl)
      ·
        replace hw := hw.2 c23
        refine lv_iconst (v := I 0) hx hb dX4_isAlike_123 rfl ?_
        exact xrz hx hb hr (by decide) hlk hP hK hD hS ⟨_, (by decide), rfl, rfl, hw⟩ (Nat.le_of_ble_eq_true rfl) (Nat.le_of_ble_eq_true rfl) dX4_isAlike_124
def W_X4_findSame (n1 : Int) (σ : S0) (Q : S0 → Prop) : Prop :=
  ∀ (P2 : Int → Int → S0 → Prop) (P20 : Int → Int → S0 → Prop) (P35 : Int → Int → Int → S0 → Prop) (P61 : Int → Int → Int → Int → Int → Int → S0 → Prop) (P101 : Int → Int → Int → Int → Int → S0 → Prop),
  (∀ (u1 : Int) (u2 : Int) (τ : S0), ((u1 ≤ u2 → P20 u1 u2 τ) ∧ (u2 < u1 → (32768 ≤ u2 → P20 u1 u2 τ) ∧ (u2 < 32768 → rg (u2 * 2) ∧ P2 u1 (u2 * 2) τ))) → P2 u1 u2 τ) →
  (∀ (u1 : Int) (u2 : Int) (τ : S0), (∃ (Q4 : S0 → Prop), W_J7_fill_fda19_q72 0 u2 0 τ Q4 ∧ ∀ (τ6 : S0), n_m τ6 → f_r [] [56] [] τ τ6 → Q4 τ6 → (rg (u2 + (-1)) ∧ P35 u1 (u2 + (-1)) 0 τ6)) → P20 u1 u2 τ) →
  (∀ (u1 : Int) (u2 : Int) (u3 : Int) (τ : S0), ((u1 ≤ u3 → Q τ) ∧ (u3 < u1 → ∃ (Q9 : Int → Prop), W_X4_hash u3 τ Q9 ∧ ∀ (x10 : Int), rg x10 → Q9 x10 → (∀ (x12 : Int), rg x12 → ((0 : Int) ≤ u2 → 0 ≤ x12 ∧ x12 ≤ u2) → ((0 ≤ x12 ∧ x12 < 32768) ∧ (∀ (x14 : Int), rg x14 → x14 = τ.2.1 56 x12 → (P61 u1 u2 u3 x12 x14 0 τ)))))) → P35 u1 u2 u3 τ) →
  (∀ (u1 : Int) (u2 : Int) (u3 : Int) (u4 : Int) (u5 : Int) (u6 : Int) (τ : S0), ((u1 ≤ u6 → P101 u1 u2 u3 u4 u5 τ) ∧ (u6 < u1 → (u5 ≤ 0 → P101 u1 u2 u3 u4 u5 τ) ∧ (0 < u5 → rg (u5 - 1) ∧ ∃ (Q18 : Int → Prop), W_X4_isAlike (u5 - 1) u3 τ Q18 ∧ ∀ (x19 : Int), rg x19 → Q18 x19 → ((¬ x19 = 0 → P101 u1 u2 u3 u4 u5 τ) ∧ (x19 = 0 → (0 ≤ (u5 - 1) ∧ (u5 - 1) < 20000) ∧ (∀ (x23 : Int), rg x23 → x23 = τ.2.1 57 (u5 - 1) → (rg (u6 + 1) ∧ P61 u1 u2 u3 u4 x23 (u6 + 1) τ))))))) → P61 u1 u2 u3 u4 u5 u6 τ) →
  (∀ (u1 : Int) (u2 : Int) (u3 : Int) (u4 : Int) (u5 : Int) (τ : S0), ((0 ≤ u3 ∧ u3 < 20000) ∧ ((u5 ≤ 0 → (0 ≤ u4 ∧ u4 < 32768) ∧ (∀ (x28 : Int), rg x28 → x28 = τ.2.1 56 u4 → (rg (u3 + 1) ∧ P35 u1 u2 (u3 + 1) (s_a (s_a (s_a τ 55 u3 u3) 57 u3 x28) 56 u4 (u3 + 1))))) ∧ (0 < u5 → rg (u5 - 1) ∧ rg (u3 + 1) ∧ P35 u1 u2 (u3 + 1) (s_a (s_a τ 55 u3 u3) 55 u3 (u5 - 1))))) → P101 u1 u2 u3 u4 u5 τ) →
  P2 n1 1 σ
set_option maxRecDepth 100000 in
set_option maxHeartbeats 4000000 in
theorem L_X4_findSame (l : Launch) (g : gG) (q : Nat → Nat) (lb : Nat) (hlb : lb < 2 ^ 31) {n1 : Int} {σ : S0} {Q : S0 → Prop} (r_n1 : rg n1) (hN : n_m σ) (hw : W_X4_findSame n1 σ Q) (sz : Nat) : MetV l yX4_findSame cX4_findSame 7 { frames := 2, cells := 0, slots := 0, locals := 46 } g [.ref (q 7), .int (I n1)] (CX g q lb σ) sz xT (p_V (CX g q lb) [] [55, 56, 57] [] σ Q) 0 0 := by
  refine mkMet (Qc := fun A => QV g A (p_V (CX g q lb) [] [55, 56, 57] [] σ Q)) (by decide) (Nat.le_of_ble_eq_true rfl) ?_
  intro p e s m below meth c A H ls hx hb hr hml hown hts hlk hnm hsz hP hK hNb hD hA hAe hS hX hl
  have hl : lv_has ls 7 [(0, .ref (q 7)), (1, .int (I n1))] := hl
  have hB := hN
  have hF : f_r [] [55, 56, 57] [] σ σ := f_0
  obtain ⟨locs, hlocs⟩ : ∃ z : List Loc, z = [] := ⟨_, rfl⟩
  rw [← hlocs] at hS ⊢
  obtain ⟨P2, hP2⟩ : ∃ P : Int → Int → S0 → Prop, ∀ (u1 : Int) (u2 : Int) (τ : S0), (P u1 u2 τ ↔ (rg u1 → rg u2 → n_m τ → f_r [] [55, 56, 57] [] σ τ → ∀ (H : Heap) (locs : List Loc) (ls : Array Slot), KP g (CX g q lb τ) H → va_D A (CX g q lb τ) → va_S A s.heap H locs → lv_has ls 7 [(0, .ref (q 7)), (1, .int (I u1)), (2, .int (I u2))] → W p l e ({ frames := 2, cells := 0, slots := 0, locals := 46 }) s m [.ref (q 7), .int (I n1)].toArray below meth c H locs 0 0 (MQ below (QV g A (p_V (CX g q lb) [] [55, 56, 57] [] σ Q)) [.ref (q 7), .int (I n1)].toArray s 0 0 A) (F0 m 2 ls []))) := ⟨_, fun _ _ _ => Iff.rfl⟩
  obtain ⟨P20, hP20⟩ : ∃ P : Int → Int → S0 → Prop, ∀ (u1 : Int) (u2 : Int) (τ : S0), (P u1 u2 τ ↔ (rg u1 → rg u2 → n_m τ → f_r [] [55, 56, 57] [] σ τ → ∀ (H : Heap) (locs : List Loc) (ls : Array Slot), KP g (CX g q lb τ) H → va_D A (CX g q lb τ) → va_S A s.heap H locs → lv_has ls 7 [(0, .ref (q 7)), (1, .int (I u1)), (2, .int (I u2))] → W p l e ({ frames := 2, cells := 0, slots := 0, locals := 46 }) s m [.ref (q 7), .int (I n1)].toArray below meth c H locs 0 0 (MQ below (QV g A (p_V (CX g q lb) [] [55, 56, 57] [] σ Q)) [.ref (q 7), .int (I n1)].toArray s 0 0 A) (F0 m 20 ls []))) := ⟨_, fun _ _ _ => Iff.rfl⟩
  obtain ⟨P35, hP35⟩ : ∃ P : Int → Int → Int → S0 → Prop, ∀ (u1 : Int) (u2 : Int) (u3 : Int) (τ : S0), (P u1 u2 u3 τ ↔ (rg u1 → rg u2 → rg u3 → n_m τ → f_r [] [55, 56, 57] [] σ τ → ∀ (H : Heap) (locs : List Loc) (ls : Array Slot), KP g (CX g q lb τ) H → va_D A (CX g q lb τ) → va_S A s.heap H locs → lv_has ls 7 [(0, .ref (q 7)), (1, .int (I u1)), (2, .int (I u2)), (3, .int (I u3))] → W p l e ({ frames := 2, cells := 0, slots := 0, locals := 46 }) s m [.ref (q 7), .int (I n1)].toArray below meth c H locs 0 0 (MQ below (QV g A (p_V (CX g q lb) [] [55, 56, 57] [] σ Q)) [.ref (q 7), .int (I n1)].toArray s 0 0 A) (F0 m 35 ls []))) := ⟨_, fun _ _ _ _ => Iff.rfl⟩
  obtain ⟨P61, hP61⟩ : ∃ P : Int → Int → Int → Int → Int → Int → S0 → Prop, ∀ (u1 : Int) (u2 : Int) (u3 : Int) (u4 : Int) (u5 : Int) (u6 : Int) (τ : S0), (P u1 u2 u3 u4 u5 u6 τ ↔ (rg u1 → rg u2 → rg u3 → rg u4 → rg u5 → rg u6 → n_m τ → f_r [] [55, 56, 57] [] σ τ → ∀ (H : Heap) (locs : List Loc) (ls : Array Slot), KP g (CX g q lb τ) H → va_D A (CX g q lb τ) → va_S A s.heap H locs → lv_has ls 7 [(0, .ref (q 7)), (1, .int (I u1)), (2, .int (I u2)), (3, .int (I u3)), (4, .int (I u4)), (5, .int (I u5)), (6, .int (I u6))] → W p l e ({ frames := 2, cells := 0, slots := 0, locals := 46 }) s m [.ref (q 7), .int (I n1)].toArray below meth c H locs 0 0 (MQ below (QV g A (p_V (CX g q lb) [] [55, 56, 57] [] σ Q)) [.ref (q 7), .int (I n1)].toArray s 0 0 A) (F0 m 61 ls []))) := ⟨_, fun _ _ _ _ _ _ _ => Iff.rfl⟩
  obtain ⟨P101, hP101⟩ : ∃ P : Int → Int → Int → Int → Int → S0 → Prop, ∀ (u1 : Int) (u2 : Int) (u3 : Int) (u4 : Int) (u5 : Int) (τ : S0), (P u1 u2 u3 u4 u5 τ ↔ (rg u1 → rg u2 → rg u3 → rg u4 → rg u5 → n_m τ → f_r [] [55, 56, 57] [] σ τ → ∀ (H : Heap) (locs : List Loc) (ls : Array Slot), KP g (CX g q lb τ) H → va_D A (CX g q lb τ) → va_S A s.heap H locs → lv_has ls 7 [(0, .ref (q 7)), (1, .int (I u1)), (2, .int (I u2)), (3, .int (I u3)), (4, .int (I u4)), (5, .int (I u5))] → W p l e ({ frames := 2, cells := 0, slots := 0, locals := 46 }) s m [.ref (q 7), .int (I n1)].toArray below meth c H locs 0 0 (MQ below (QV g A (p_V (CX g q lb) [] [55, 56, 57] [] σ Q)) [.ref (q 7), .int (I n1)].toArray s 0 0 A) (F0 m 101 ls []))) := ⟨_, fun _ _ _ _ _ _ => Iff.rfl⟩
  refine (fun hw => ?_) (hw P2 P20 P35 P61 P101 ?_ ?_ ?_ ?_ ?_)
  ·
    refine lv_iconst (v := I 1) hx hb dX4_findSame_0 rfl ?_
    refine lv_istore_n (lv' := [(2, .int (I 1)), (0, .ref (q 7)), (1, .int (I n1))]) hx hb dX4_findSame_1 rfl hl (by decide) rfl (fun ls hl => ?_)
    exact (hP2 _ _ _).mp hw r_n1 (by decide) hN hF H locs ls hP hD hS (lv_sub hl [1, 2, 0] rfl)
  ·
    intro u1 u2 τ hw
    refine (hP2 _ _ _).mpr ?_
    intro r_u1 r_u2 hN hF H locs ls hP hD hS hl
    have hB := hN
    refine lv_iload_n hx hb dX4_findSame_2 rfl (lv_at hl 2 rfl) ?_
    refine lv_iload_n hx hb dX4_findSame_3 rfl (lv_at hl 1 rfl) ?_
    refine bi_icmp_ge (tgt := 20) hx hb r_u2 r_u1 dX4_findSame_4 (by decide) (fun c1 => ?_) (fun c1 => ?_)
    ·
      replace hw := hw.1 c1
      exact (hP20 _ _ _).mp hw r_u1 r_u2 hN hF H locs ls hP hD hS (lv_sub hl [0, 1, 2] rfl)
    ·
      replace hw := hw.2 c1
      refine lv_iload_n hx hb dX4_findSame_7 rfl (lv_at hl 2 rfl) ?_
      refine lv_ldc (own := RX4) (v := 32768) hx hb hown (hts _ tw_531) dX4_findSame_8 ?_
      refine xtop (y := I 32768) (by decide) ?_
      refine bi_icmp_ge (tgt := 20) hx hb r_u2 (by decide) dX4_findSame_10 (by decide) (fun c2 => ?_) (fun c2 => ?_)
      ·
        replace hw := hw.1 c2
        exact (hP20 _ _ _).mp hw r_u1 r_u2 hN hF H locs ls hP hD hS (lv_sub hl [0, 1, 2] rfl)
      ·
        replace hw := hw.2 c2
        refine lv_iload_n hx hb dX4_findSame_13 rfl (lv_at hl 2 rfl) ?_
        refine lv_iconst (v := I 2) hx hb dX4_findSame_14 rfl ?_
        refine bi_imul hx hb dX4_findSame_15 ?_
        refine lv_istore_n (lv' := [(2, .int (I (u2 * 2))), (0, .ref (q 7)), (1, .int (I u1))]) hx hb dX4_findSame_16 rfl hl (by decide) rfl (fun ls hl => ?_)
        refine lv_goto (tgt := 2) hx hb dX4_findSame_17 (by decide) ?_
        obtain ⟨c3, hw⟩ := hw
        exact (hP2 _ _ _).mp hw r_u1 c3 hN hF H locs ls hP hD hS (lv_sub hl [1, 2, 0] rfl)
  ·
    intro u1 u2 τ hw
    refine (hP20 _ _ _).mpr ?_
    intro r_u1 r_u2 hN hF H locs ls hP hD hS hl
    have hB := hN
    refine lv_aload_n hx hb dX4_findSame_20 rfl (lv_at hl 0 rfl) ?_
    refine gfX4_heads hx hb hts hK hP hown (hts _ tw_535) dX4_findSame_21 ?_
    refine lv_iconst (v := I 0) hx hb dX4_findSame_24 rfl ?_
    refine lv_iload_n hx hb dX4_findSame_25 rfl (lv_at hl 2 rfl) ?_
    refine lv_iconst (v := I 0) hx hb dX4_findSame_26 rfl ?_
    obtain ⟨Q4, hc, hw⟩ := hw
    refine wc_V (X := CX g q lb) (va_runS (As := [.ref (q 72), .int (I 0), .int (I u2), .int (I 0)]) (rest := []) ⟨hx, hb, hml, hown, hts⟩ (L_J7_fill_fda19_q72 l g q lb hlb (by decide) r_u2 (by decide) hN hc H.size) (va_cwS 4 hts (TB_vS tw_1599 tw_1571 tw_4 co_J7_fill_fda19) rfl rfl rfl (by decide +kernel) ⟨Nat.le_of_ble_eq_true rfl, Nat.le_of_ble_eq_true rfl⟩) (preS xT_bl hP hK hNb hD xT_at) rfl rfl hl.1 rfl (lv_room (Nat.le_of_ble_eq_true rfl)) dX4_findSame_27 ⟨Nat.le_of_ble_eq_true rfl, Nat.le_of_ble_eq_true rfl⟩) hP hD hS hA (fun τ6 H locs hN hf hq hP hD hS => ?_)
    replace hw := hw τ6 hN hf hq
    have hF : f_r [] [55, 56, 57] [] σ τ6 := f_t hF hf (by decide) (by decide) (by decide)
    have hB := hN
    refine lv_iinc (v := I (u2 + (-1))) (lv' := [(2, .int (I (u2 + (-1)))), (0, .ref (q 7)), (1, .int (I u1))]) hx hb dX4_findSame_30 hl (k := 2) rfl (I_add _ _) (by decide) rfl (fun ls hl => ?_)
    refine lv_iconst (v := I 0) hx hb dX4_findSame_33 rfl ?_
    refine lv_istore_n (lv' := [(3, .int (I 0)), (2, .int (I (u2 + (-1)))), (0, .ref (q 7)), (1, .int (I u1))]) hx hb dX4_findSame_34 rfl hl (by decide) rfl (fun ls hl => ?_)
    obtain ⟨c7, hw⟩ := hw
    exact (hP35 _ _ _ _).mp hw r_u1 c7 (by decide) hN hF H locs ls hP hD hS (lv_sub hl [2, 3, 1, 0] rfl)
  ·
    intro u1 u2 u3 τ hw
    refine (hP35 _ _ _ _).mpr ?_
    intro r_u1 r_u2 r_u3 hN hF H locs ls hP hD hS hl
    have hB := hN
    refine lv_iload_n hx hb dX4_findSame_35 rfl (lv_at hl 3 rfl) ?_
    refine lv_iload_n hx hb dX4_findSame_36 rfl (lv_at hl 1 rfl) ?_
    refine bi_icmp_ge (tgt := 155) hx hb r_u3 r_u1 dX4_findSame_37 (by decide) (fun c8 => ?_) (fun c8 => ?_)
    ·
      replace hw := hw.1 c8
      exact xrv hx hb hr hlk hP hK hD hS ⟨_, hN, hF, rfl, hw⟩ (Nat.le_of_ble_eq_true rfl) (Nat.le_of_ble_eq_true rfl) dX4_findSame_155
    ·
      replace hw := hw.2 c8
      refine lv_aload_n hx hb dX4_findSame_40 rfl (lv_at hl 0 rfl) ?_
      refine lv_iload_n hx hb dX4_findSame_41 rfl (lv_at hl 3 rfl) ?_
      obtain ⟨Q9, hc, hw⟩ := hw
      refine wc_i (X := CX g q lb) (va_runV (As := [.int (I u3)]) (rest := []) ⟨hx, hb, hml, hown, hts⟩ (L_X4_hash l g q lb hlb r_u3 hN hc H.size) (cwV 1 hts (TB_V tw_1600 tw_1602 ts_58 tw_9 co_X4_hash) rfl rfl rfl (by decide +kernel) ⟨Nat.le_of_ble_eq_true rfl, Nat.le_of_ble_eq_true rfl⟩) (preV (q0 := 7) (ci := 4) rfl xT_bl hP hK hNb hD rfl rfl xT_at) rfl rfl hl.1 rfl (lv_room (Nat.le_of_ble_eq_true rfl)) dX4_findSame_42 ⟨Nat.le_of_ble_eq_true rfl, Nat.le_of_ble_eq_true rfl⟩) hP hD hS hA (fun x10 H locs r_x10 hq hP hD hS => ?_)
      replace hw := hw x10 r_x10 hq
      refine lv_iload_n hx hb dX4_findSame_45 rfl (lv_at hl 2 rfl) ?_
      refine bi_iand hx hb r_x10 r_u2 dX4_findSame_46 (fun x12 r_x12 p_x12 => ?_)
      replace hw := hw x12 r_x12 p_x12
      refine lv_istore (lv' := [(4, .int (I x12)), (0, .ref (q 7)), (1, .int (I u1)), (2, .int (I u2)), (3, .int (I u3))]) hx hb dX4_findSame_47 hl (by decide) rfl (fun ls hl => ?_)
      refine lv_aload_n hx hb dX4_findSame_49 rfl (lv_at hl 1 rfl) ?_
      refine gfX4_heads hx hb hts hK hP hown (hts _ tw_535) dX4_findSame_50 ?_
      refine lv_iload hx hb dX4_findSame_53 (lv_at hl 0 rfl) ?_
      obtain ⟨c13, hw⟩ := hw
      refine ldCX4_heads hx hb hK hP hN c13 dX4_findSame_55 (fun x14 r_x14 e_x14 => ?_)
      replace hw := hw x14 r_x14 e_x14
      refine lv_istore (lv' := [(5, .int (I x14)), (4, .int (I x12)), (0, .ref (q 7)), (1, .int (I u1)), (2, .int (I u2)), (3, .int (I u3))]) hx hb dX4_findSame_56 hl (by decide) rfl (fun ls hl => ?_)
      refine lv_iconst (v := I 0) hx hb dX4_findSame_58 rfl ?_
      refine lv_istore (lv' := [(6, .int (I 0)), (5, .int (I x14)), (4, .int (I x12)), (0, .ref (q 7)), (1, .int (I u1)), (2, .int (I u2)), (3, .int (I u3))]) hx hb dX4_findSame_59 hl (by decide) rfl (fun ls hl => ?_)
      exact (hP61 _ _ _ _ _ _ _).mp hw r_u1 r_u2 r_u3 r_x12 r_x14 (by decide) hN hF H locs ls hP hD hS (lv_sub hl [3, 4, 5, 6, 2, 1, 0] rfl)
  ·
    intro u1 u2 u3 u4 u5 u6 τ hw
    refine (hP61 _ _ _ _ _ _ _).mpr ?_
    intro r_u1 r_u2 r_u3 r_u4 r_u5 r_u6 hN hF H locs ls hP hD hS hl
    have hB := hN
    refine lv_iload hx hb dX4_findSame_61 (lv_at hl 6 rfl) ?_
    refine lv_iload_n hx hb dX4_findSame_63 rfl (lv_at hl 1 rfl) ?_
    refine bi_icmp_ge (tgt := 101) hx hb r_u6 r_u1 dX4_findSame_64 (by decide) (fun c15 => ?_) (fun c15 => ?_)
    ·
      replace hw := hw.1 c15
      exact (hP101 _ _ _ _ _ _).mp hw r_u1 r_u2 r_u3 r_u4 r_u5 hN hF H locs ls hP hD hS (lv_sub hl [0, 1, 2, 3, 4, 5] rfl)
    ·
      replace hw := hw.2 c15
      refine lv_iload hx hb dX4_findSame_67 (lv_at hl 5 rfl) ?_
      refine bi_if_le (tgt := 101) hx hb r_u5 dX4_findSame_69 (by decide) (fun c16 => ?_) (fun c16 => ?_)
      ·
        replace hw := hw.1 c16
        exact (hP101 _ _ _ _ _ _).mp hw r_u1 r_u2 r_u3 r_u4 r_u5 hN hF H locs ls hP hD hS (lv_sub hl [0, 1, 2, 3, 4, 5] rfl)
      ·
        replace hw := hw.2 c16
        refine lv_aload_n hx hb dX4_findSame_72 rfl (lv_at hl 0 rfl) ?_
        refine lv_iload hx hb dX4_findSame_73 (lv_at hl 5 rfl) ?_
        refine lv_iconst (v := I 1) hx hb dX4_findSame_75 rfl ?_
        refine bi_isub hx hb dX4_findSame_76 ?_
        refine lv_iload_n hx hb dX4_findSame_77 rfl (lv_at hl 3 rfl) ?_
        obtain ⟨c17, hw⟩ := hw
        obtain ⟨Q18, hc, hw⟩ := hw
        refine wc_i (X := CX g q lb) (va_runV (As := [.int (I (u5 - 1)), .int (I u3)]) (rest := []) ⟨hx, hb, hml, hown, hts⟩ (L_X4_isAlike l g q lb hlb c17 r_u3 hN hc H.size) (cwV 2 hts (TB_V tw_1606 tw_1608 ts_59 tw_9 co_X4_isAlike) rfl rfl rfl (by decide +kernel) ⟨Nat.le_of_ble_eq_true rfl, Nat.le_of_ble_eq_true rfl⟩) (preV (q0 := 7) (ci := 4) rfl xT_bl hP hK hNb hD rfl rfl xT_at) rfl rfl hl.1 rfl (lv_room (Nat.le_of_ble_eq_true rfl)) dX4_findSame_78 ⟨Nat.le_of_ble_eq_true rfl, Nat.le_of_ble_eq_true rfl⟩) hP hD hS hA (fun x19 H locs r_x19 hq hP hD hS => ?_)
        replace hw := hw x19 r_x19 hq
        refine bi_if_ne (tgt := 101) hx hb r_x19 dX4_findSame_81 (by decide) (fun c21 => ?_) (fun c21 => ?_)
        ·
          replace hw := hw.1 c21
          exact (hP101 _ _ _ _ _ _).mp hw r_u1 r_u2 r_u3 r_u4 r_u5 hN hF H locs ls hP hD hS (lv_sub hl [0, 1, 2, 3, 4, 5] rfl)
        ·
          replace hw := hw.2 c21
          refine lv_aload_n hx hb dX4_findSame_84 rfl (lv_at hl 0 rfl) ?_
          refine gfX4_nextRow hx hb hts hK hP hown (hts _ tw_536) dX4_findSame_85 ?_
          refine lv_iload hx hb dX4_findSame_88 (lv_at hl 5 rfl) ?_
          refine lv_iconst (v := I 1) hx hb dX4_findSame_90 rfl ?_
          refine bi_isub hx hb dX4_findSame_91 ?_
          obtain ⟨c22, hw⟩ := hw
          refine ldCX4_nextRow hx hb hK hP hN c22 dX4_findSame_92 (fun x23 r_x23 e_x23 => ?_)
          replace hw := hw x23 r_x23 e_x23
          refine lv_istore (lv' := [(5, .int (I x23)), (0, .ref (q 7)), (1, .int (I u1)), (2, .int (I u2)), (3, .int (I u3)), (4, .int (I u4)), (6, .int (I u6))]) hx hb dX4_findSame_93 hl (by decide) rfl (fun ls hl => ?_)
          refine lv_iinc (v := I (u6 + 1)) (lv' := [(6, .int (I (u6 + 1))), (5, .int (I x23)), (0, .ref (q 7)), (1, .int (I u1)), (2, .int (I u2)), (3, .int (I u3)), (4, .int (I u4))]) hx hb dX4_findSame_95 hl (k := 6) rfl (I_add _ _) (by decide) rfl (fun ls hl => ?_)
          refine lv_goto (tgt := 61) hx hb dX4_findSame_98 (by decide) ?_
          obtain ⟨c24, hw⟩ := hw
          exact (hP61 _ _ _ _ _ _ _).mp hw r_u1 r_u2 r_u3 r_u4 r_x23 c24 hN hF H locs ls hP hD hS (lv_sub hl [2, 3, 4, 5, 6, 1, 0] rfl)
  ·
    intro u1 u2 u3 u4 u5 τ hw
    refine (hP101 _ _ _ _ _ _).mpr ?_
    intro r_u1 r_u2 r_u3 r_u4 r_u5 hN hF H locs ls hP hD hS hl
    have hB := hN
    refine lv_aload_n hx hb dX4_findSame_101 rfl (lv_at hl 0 rfl) ?_
    refine gfX4_sameAs hx hb hts hK hP hown (hts _ tw_534) dX4_findSame_102 ?_
    refine lv_iload_n hx hb dX4_findSame_105 rfl (lv_at hl 3 rfl) ?_
    refine lv_iload_n hx hb dX4_findSame_106 rfl (lv_at hl 3 rfl) ?_
    obtain ⟨c25, hw⟩ := hw
    refine sdCX4_sameAs hx hb hK hP hD hS c25 dX4_findSame_107 (fun H locs hP hD hS => ?_)
    have hN : n_m (s_a τ 55 u3 u3) := n_a (k := 55) (j := u3) hN (r_u3 : rg u3)
    have hF : f_r [] [55, 56, 57] [] σ (s_a τ 55 u3 u3) := f_a hF (by decide)
    refine lv_iload hx hb dX4_findSame_108 (lv_at hl 5 rfl) ?_
    refine bi_if_le (tgt := 126) hx hb r_u5 dX4_findSame_110 (by decide) (fun c26 => ?_) (fun c26 => ?_)
    ·
      replace hw := hw.1 c26
      refine lv_aload_n hx hb dX4_findSame_126 rfl (lv_at hl 0 rfl) ?_
      refine gfX4_nextRow hx hb hts hK hP hown (hts _ tw_536) dX4_findSame_127 ?_
      refine lv_iload_n hx hb dX4_findSame_130 rfl (lv_at hl 3 rfl) ?_
      refine lv_aload_n hx hb dX4_findSame_131 rfl (lv_at hl 0 rfl) ?_
      refine gfX4_heads hx hb hts hK hP hown (hts _ tw_535) dX4_findSame_132 ?_
      refine lv_iload hx hb dX4_findSame_135 (lv_at hl 4 rfl) ?_
      obtain ⟨c27, hw⟩ := hw
      refine ldCX4_heads hx hb hK hP hN c27 dX4_findSame_137 (fun x28 r_x28 e_x28 => ?_)
      replace hw := hw x28 r_x28 e_x28
      refine sdCX4_nextRow hx hb hK hP hD hS c25 dX4_findSame_138 (fun H locs hP hD hS => ?_)
      have hN : n_m (s_a (s_a τ 55 u3 u3) 57 u3 x28) := n_a (k := 57) (j := u3) hN (r_x28 : rg x28)
      have hF : f_r [] [55, 56, 57] [] σ (s_a (s_a τ 55 u3 u3) 57 u3 x28) := f_a hF (by decide)
      refine lv_aload_n hx hb dX4_findSame_139 rfl (lv_at hl 0 rfl) ?_
      refine gfX4_heads hx hb hts hK hP hown (hts _ tw_535) dX4_findSame_140 ?_
      refine lv_iload hx hb dX4_findSame_143 (lv_at hl 4 rfl) ?_
      refine lv_iload_n hx hb dX4_findSame_145 rfl (lv_at hl 3 rfl) ?_
      refine lv_iconst (v := I 1) hx hb dX4_findSame_146 rfl ?_
      refine bi_iadd hx hb dX4_findSame_147 ?_
      obtain ⟨c29, hw⟩ := hw
      refine sdCX4_heads hx hb hK hP hD hS c27 dX4_findSame_148 (fun H locs hP hD hS => ?_)
      have hN : n_m (s_a (s_a (s_a τ 55 u3 u3) 57 u3 x28) 56 u4 (u3 + 1)) := n_a (k := 56) (j := u4) hN (c29 : rg (u3 + 1))
      have hF : f_r [] [55, 56, 57] [] σ (s_a (s_a (s_a τ 55 u3 u3) 57 u3 x28) 56 u4 (u3 + 1)) := f_a hF (by decide)
      refine lv_iinc (v := I (u3 + 1)) (lv' := [(3, .int (I (u3 + 1))), (0, .ref (q 7)), (1, .int (I u1)), (2, .int (I u2)), (4, .int (I u4)), (5, .int (I u5))]) hx hb dX4_findSame_149 hl (k := 3) rfl (I_add _ _) (by decide) rfl (fun ls hl => ?_)
      refine lv_goto (tgt := 35) hx hb dX4_findSame_152 (by decide) ?_
      exact (hP35 _ _ _ _).mp hw r_u1 r_u2 c29 hN hF H locs ls hP hD hS (lv_sub hl [1, 2, 3, 0] rfl)
    ·
      replace hw := hw.2 c26
      refine lv_aload_n hx hb dX4_findSame_113 rfl (lv_at hl 0 rfl) ?_
      refine gfX4_sameAs hx hb hts hK hP hown (hts _ tw_534) dX4_findSame_114 ?_
      refine lv_iload_n hx hb dX4_findSame_117 rfl (lv_at hl 3 rfl) ?_
      refine lv_iload hx hb dX4_findSame_118 (lv_at hl 5 rfl) ?_
      refine lv_iconst (v := I 1) hx hb dX4_findSame_120 rfl ?_
      refine bi_isub hx hb dX4_findSame_121 ?_
      obtain ⟨c30, hw⟩ := hw
      refine sdCX4_sameAs hx hb hK hP hD hS c25 dX4_findSame_122 (fun H locs hP hD hS => ?_)
      have hN : n_m (s_a (s_a τ 55 u3 u3) 55 u3 (u5 - 1)) := n_a (k := 55) (j := u3) hN (c30 : rg (u5 - 1))
      have hF : f_r [] [55, 56, 57] [] σ (s_a (s_a τ 55 u3 u3) 55 u3 (u5 - 1)) := f_a hF (by decide)
      refine lv_goto (tgt := 149) hx hb dX4_findSame_123 (by decide) ?_
      refine lv_iinc (v := I (u3 + 1)) (lv' := [(3, .int (I (u3 + 1))), (0, .ref (q 7)), (1, .int (I u1)), (2, .int (I u2)), (4, .int (I u4)), (5, .int (I u5))]) hx hb dX4_findSame_149 hl (k := 3) rfl (I_add _ _) (by decide) rfl (fun ls hl => ?_)
      refine lv_goto (tgt := 35) hx hb dX4_findSame_152 (by decide) ?_
      obtain ⟨c31, hw⟩ := hw
      exact (hP35 _ _ _ _).mp hw r_u1 r_u2 c31 hN hF H locs ls hP hD hS (lv_sub hl [1, 2, 3, 0] rfl)
def W_J7_fill_fda19_q74 (n1 : Int) (n2 : Int) (n3 : Int) (σ : S0) (Q : S0 → Prop) : Prop :=
  ∀ (P10 : Int → Int → Int → S0 → Prop),
  (∀ (u2 : Int) (u3 : Int) (u4 : Int) (τ : S0), ((u2 ≤ u4 → Q τ) ∧ (u4 < u2 → (0 ≤ u4 ∧ u4 < 20000) ∧ (rg (u4 + 1) ∧ P10 u2 u3 (u4 + 1) (s_a τ 58 u4 u3)))) → P10 u2 u3 u4 τ) →
  ∃ (Q1 : S0 → Prop), W_J7_rangeCheck_23922 20000 n1 n2 σ Q1 ∧ ∀ (τ3 : S0), n_m τ3 → f_r [] [] [] σ τ3 → Q1 τ3 → (P10 n2 n3 n1 τ3)
set_option maxRecDepth 100000 in
set_option maxHeartbeats 4000000 in
theorem L_J7_fill_fda19_q74 (l : Launch) (g : gG) (q : Nat → Nat) (lb : Nat) (hlb : lb < 2 ^ 31) {n1 : Int} {n2 : Int} {n3 : Int} {σ : S0} {Q : S0 → Prop} (r_n1 : rg n1) (r_n2 : rg n2) (r_n3 : rg n3) (hN : n_m σ) (hw : W_J7_fill_fda19_q74 n1 n2 n3 σ Q) (sz : Nat) : MetV l yJ7_fill_fda19 cJ7_fill_fda19 5 { frames := 1, cells := 0, slots := 0, locals := 22 } g [.ref (q 74), .int (I n1), .int (I n2), .int (I n3)] (CX g q lb σ) sz xT (p_V (CX g q lb) [] [58] [] σ Q) 0 0 := by
  refine mkMet (Qc := fun A => QV g A (p_V (CX g q lb) [] [58] [] σ Q)) (by decide) (Nat.le_of_ble_eq_true rfl) ?_
  intro p e s m below meth c A H ls hx hb hr hml hown hts hlk hnm hsz hP hK hNb hD hA hAe hS hX hl
  have hl : lv_has ls 5 [(0, .ref (q 74)), (1, .int (I n1)), (2, .int (I n2)), (3, .int (I n3))] := hl
  have hB := hN
  have hF : f_r [] [58] [] σ σ := f_0
  obtain ⟨locs, hlocs⟩ : ∃ z : List Loc, z = [] := ⟨_, rfl⟩
  rw [← hlocs] at hS ⊢
  obtain ⟨P10, hP10⟩ : ∃ P : Int → Int → Int → S0 → Prop, ∀ (u2 : Int) (u3 : Int) (u4 : Int) (τ : S0), (P u2 u3 u4 τ ↔ (rg u2 → rg u3 → rg u4 → n_m τ → f_r [] [58] [] σ τ → ∀ (H : Heap) (locs : List Loc) (ls : Array Slot), KP g (CX g q lb τ) H → va_D A (CX g q lb τ) → va_S A s.heap H locs → lv_has ls 5 [(0, .ref (q 74)), (2, .int (I u2)), (3, .int (I u3)), (4, .int (I u4))] → W p l e ({ frames := 1, cells := 0, slots := 0, locals := 22 }) s m [.ref (q 74), .int (I n1), .int (I n2), .int (I n3)].toArray below meth c H locs 0 0 (MQ below (QV g A (p_V (CX g q lb) [] [58] [] σ Q)) [.ref (q 74), .int (I n1), .int (I n2), .int (I n3)].toArray s 0 0 A) (F0 m 10 ls []))) := ⟨_, fun _ _ _ _ => Iff.rfl⟩
  refine (fun hw => ?_) (hw P10 ?_)
  ·
    refine lv_aload_n hx hb dJ7_fill_fda19_0 rfl (lv_at hl 0 rfl) ?_
    refine va_alen hx hb hK hP 74 0 rfl rfl (v := I 20000) rfl dJ7_fill_fda19_1 ?_
    refine lv_iload_n hx hb dJ7_fill_fda19_2 rfl (lv_at hl 1 rfl) ?_
    refine lv_iload_n hx hb dJ7_fill_fda19_3 rfl (lv_at hl 2 rfl) ?_
    obtain ⟨Q1, hc, hw⟩ := hw
    refine wc_V (X := CX g q lb) (va_runS (As := [.int (I 20000), .int (I n1), .int (I n2)]) (rest := []) ⟨hx, hb, hml, hown, hts⟩ (L_J7_rangeCheck_23922 l g q lb hlb (by decide) r_n1 r_n2 hN hc H.size) (cwS 3 hts (TB_S tw_1573 tw_1574 tw_4 co_J7_rangeCheck_23922) rfl rfl rfl (by decide +kernel) ⟨Nat.le_of_ble_eq_true rfl, Nat.le_of_ble_eq_true rfl⟩) (preS xT_bl hP hK hNb hD xT_at) rfl rfl hl.1 rfl (lv_room (Nat.le_of_ble_eq_true rfl)) dJ7_fill_fda19_4 ⟨Nat.le_of_ble_eq_true rfl, Nat.le_of_ble_eq_true rfl⟩) hP hD hS hA (fun τ3 H locs hN hf hq hP hD hS => ?_)
    replace hw := hw τ3 hN hf hq
    have hF : f_r [] [58] [] σ τ3 := f_t hF hf (by decide) (by decide) (by decide)
    have hB := hN
    refine lv_iload_n hx hb dJ7_fill_fda19_7 rfl (lv_at hl 1 rfl) ?_
    refine lv_istore (lv' := [(4, .int (I n1)), (0, .ref (q 74)), (1, .int (I n1)), (2, .int (I n2)), (3, .int (I n3))]) hx hb dJ7_fill_fda19_8 hl (by decide) rfl (fun ls hl => ?_)
    exact (hP10 _ _ _ _).mp hw r_n2 r_n3 r_n1 hN hF H locs ls hP hD hS (lv_sub hl [1, 3, 4, 0] rfl)
  ·
    intro u2 u3 u4 τ hw
    refine (hP10 _ _ _ _).mpr ?_
    intro r_u2 r_u3 r_u4 hN hF H locs ls hP hD hS hl
    have hB := hN
    refine lv_iload hx hb dJ7_fill_fda19_10 (lv_at hl 3 rfl) ?_
    refine lv_iload_n hx hb dJ7_fill_fda19_12 rfl (lv_at hl 1 rfl) ?_
    refine bi_icmp_ge (tgt := 27) hx hb r_u4 r_u2 dJ7_fill_fda19_13 (by decide) (fun c4 => ?_) (fun c4 => ?_)
    ·
      replace hw := hw.1 c4
      exact xrv hx hb hr hlk hP hK hD hS ⟨_, hN, hF, rfl, hw⟩ (Nat.le_of_ble_eq_true rfl) (Nat.le_of_ble_eq_true rfl) dJ7_fill_fda19_27
    ·
      replace hw := hw.2 c4
      refine lv_aload_n hx hb dJ7_fill_fda19_16 rfl (lv_at hl 0 rfl) ?_
      refine lv_iload hx hb dJ7_fill_fda19_17 (lv_at hl 3 rfl) ?_
      refine lv_iload_n hx hb dJ7_fill_fda19_19 rfl (lv_at hl 2 rfl) ?_
      obtain ⟨c5, hw⟩ := hw
      refine sdCX4_tellings hx hb hK hP hD hS c5 dJ7_fill_fda19_20 (fun H locs hP hD hS => ?_)
      have hN : n_m (s_a τ 58 u4 u3) := n_a (k := 58) (j := u4) hN (r_u3 : rg u3)
      have hF : f_r [] [58] [] σ (s_a τ 58 u4 u3) := f_a hF (by decide)
      refine lv_iinc (v := I (u4 + 1)) (lv' := [(4, .int (I (u4 + 1))), (0, .ref (q 74)), (2, .int (I u2)), (3, .int (I u3))]) hx hb dJ7_fill_fda19_21 hl (k := 3) rfl (I_add _ _) (by decide) rfl (fun ls hl => ?_)
      refine lv_goto (tgt := 10) hx hb dJ7_fill_fda19_24 (by decide) ?_
      obtain ⟨c6, hw⟩ := hw
      exact (hP10 _ _ _ _).mp hw r_u2 r_u3 c6 hN hF H locs ls hP hD hS (lv_sub hl [1, 2, 3, 0] rfl)
def W_X4_tell (n1 : Int) (σ : S0) (Q : S0 → Prop) : Prop :=
  (20001 ≤ σ.1 41 → Q σ) ∧ (σ.1 41 < 20001 → (0 ≤ σ.1 41 ∧ σ.1 41 < 20001) ∧ (rg (σ.1 41 + 1) ∧ Q (s_v (s_a σ 62 (σ.1 41) n1) 41 (σ.1 41 + 1))))
set_option maxRecDepth 100000 in
set_option maxHeartbeats 4000000 in
theorem L_X4_tell (l : Launch) (g : gG) (q : Nat → Nat) (lb : Nat) (hlb : lb < 2 ^ 31) {n1 : Int} {σ : S0} {Q : S0 → Prop} (r_n1 : rg n1) (hN : n_m σ) (hw : W_X4_tell n1 σ Q) (sz : Nat) : MetV l yX4_tell cX4_tell 2 { frames := 0, cells := 0, slots := 0, locals := 0 } g [.ref (q 7), .int (I n1)] (CX g q lb σ) sz xT (p_V (CX g q lb) [41] [62] [] σ Q) 0 0 := by
  refine mkMet (Qc := fun A => QV g A (p_V (CX g q lb) [41] [62] [] σ Q)) (by decide) (Nat.le_of_ble_eq_true rfl) ?_
  intro p e s m below meth c A H ls hx hb hr hml hown hts hlk hnm hsz hP hK hNb hD hA hAe hS hX hl
  have hl : lv_has ls 2 [(0, .ref (q 7)), (1, .int (I n1))] := hl
  have hB := hN
  have hF : f_r [41] [62] [] σ σ := f_0
  obtain ⟨locs, hlocs⟩ : ∃ z : List Loc, z = [] := ⟨_, rfl⟩
  rw [← hlocs] at hS ⊢
  refine lv_aload_n hx hb dX4_tell_0 rfl (lv_at hl 0 rfl) ?_
  refine gfX4_toldCount hx hb hts hK hP hown (hts _ tw_545) (x := σ.1 41) rfl dX4_tell_1 ?_
  refine lv_aload_n hx hb dX4_tell_4 rfl (lv_at hl 0 rfl) ?_
  refine gfX4_told hx hb hts hK hP hown (hts _ tw_544) dX4_tell_5 ?_
  refine va_alen hx hb hK hP 78 0 rfl rfl (v := I 20001) rfl dX4_tell_8 ?_
  refine bi_icmp_ge (tgt := 32) hx hb (hB.1 41) (by decide) dX4_tell_9 (by decide) (fun c1 => ?_) (fun c1 => ?_)
  ·
    replace hw := hw.1 c1
    exact xrv hx hb hr hlk hP hK hD hS ⟨_, hN, hF, rfl, hw⟩ (Nat.le_of_ble_eq_true rfl) (Nat.le_of_ble_eq_true rfl) dX4_tell_32
  ·
    replace hw := hw.2 c1
    refine lv_aload_n hx hb dX4_tell_12 rfl (lv_at hl 0 rfl) ?_
    refine gfX4_told hx hb hts hK hP hown (hts _ tw_544) dX4_tell_13 ?_
    refine lv_aload_n hx hb dX4_tell_16 rfl (lv_at hl 0 rfl) ?_
    refine gfX4_toldCount hx hb hts hK hP hown (hts _ tw_545) (x := σ.1 41) rfl dX4_tell_17 ?_
    refine lv_iload_n hx hb dX4_tell_20 rfl (lv_at hl 1 rfl) ?_
    obtain ⟨c2, hw⟩ := hw
    refine sdCX4_told hx hb hK hP hD hS c2 dX4_tell_21 (fun H locs hP hD hS => ?_)
    have hN : n_m (s_a σ 62 (σ.1 41) n1) := n_a (k := 62) (j := σ.1 41) hN (r_n1 : rg n1)
    have hF : f_r [41] [62] [] σ (s_a σ 62 (σ.1 41) n1) := f_a hF (by decide)
    refine lv_aload_n hx hb dX4_tell_22 rfl (lv_at hl 0 rfl) ?_
    refine lv_dup hx hb dX4_tell_23 rfl ?_
    refine gfX4_toldCount hx hb hts hK hP hown (hts _ tw_545) (x := σ.1 41) rfl dX4_tell_24 ?_
    refine lv_iconst (v := I 1) hx hb dX4_tell_27 rfl ?_
    refine bi_iadd hx hb dX4_tell_28 ?_
    obtain ⟨c3, hw⟩ := hw
    refine pfX4_toldCount hx hb hts hK hP hD hS hown (hts _ tw_545) dX4_tell_29 (fun H locs hP hD hS => ?_)
    have hN : n_m (s_v (s_a σ 62 (σ.1 41) n1) 41 (σ.1 41 + 1)) := n_v (i := 41) hN (c3 : rg (σ.1 41 + 1))
    have hF : f_r [41] [62] [] σ (s_v (s_a σ 62 (σ.1 41) n1) 41 (σ.1 41 + 1)) := f_v hF (by decide)
    exact xrv hx hb hr hlk hP hK hD hS ⟨_, hN, hF, rfl, hw⟩ (Nat.le_of_ble_eq_true rfl) (Nat.le_of_ble_eq_true rfl) dX4_tell_32
def W_X4_enter (n1 : Int) (n2 : Int) (σ : S0) (Q : S0 → Prop) : Prop :=
  ∀ (P72 : Int → S0 → Prop),
  (∀ (u1 : Int) (τ : S0), ((20000 ≤ τ.1 42 → Q τ) ∧ (τ.1 42 < 20000 → (0 ≤ τ.1 42 ∧ τ.1 42 < 20000) ∧ (rg (τ.1 42 + 1) ∧ Q (s_v (s_a (s_a τ 63 (τ.1 42) u1) 64 (τ.1 42) 0) 42 (τ.1 42 + 1))))) → P72 u1 τ) →
  rg (σ.1 44 + n1) ∧ ∃ (Q2 : Int → Prop), W_X0_childCount (σ.1 44 + n1) σ Q2 ∧ ∀ (x3 : Int), rg x3 → Q2 x3 → ((¬ x3 = 0 → (n2 = 0 → P72 n1 σ) ∧ (¬ n2 = 0 → (0 ≤ n1 ∧ n1 < 20000) ∧ (∀ (x8 : Int), rg x8 → x8 = σ.2.1 55 n1 → ((0 ≤ x8 ∧ x8 < 20000) ∧ (∀ (x10 : Int), rg x10 → x10 = σ.2.1 58 x8 → ((x10 ≤ 0 → P72 n1 σ) ∧ (0 < x10 → ∀ (x12 : Int), rg x12 → x12 = σ.2.1 55 n1 → ((0 ≤ x12 ∧ x12 < 20000) ∧ (∀ (x14 : Int), rg x14 → x14 = σ.2.1 58 x12 → (rg (x14 + 1) ∧ ∀ (x16 : Int), rg x16 → x16 = σ.2.1 55 n1 → (∃ (Q17 : S0 → Prop), W_X4_tell (-1 - x16) (s_a σ 58 x12 (x14 + 1)) Q17 ∧ ∀ (τ19 : S0), n_m τ19 → f_r [41] [62] [] (s_a σ 58 x12 (x14 + 1)) τ19 → Q17 τ19 → (Q τ19)))))))))))) ∧ (x3 = 0 → ∃ (Q20 : S0 → Prop), W_X4_tell n1 σ Q20 ∧ ∀ (τ22 : S0), n_m τ22 → f_r [41] [62] [] σ τ22 → Q20 τ22 → (Q τ22)))
set_option maxRecDepth 100000 in
set_option maxHeartbeats 4000000 in
theorem L_X4_enter (l : Launch) (g : gG) (q : Nat → Nat) (lb : Nat) (hlb : lb < 2 ^ 31) {n1 : Int} {n2 : Int} {σ : S0} {Q : S0 → Prop} (r_n1 : rg n1) (r_n2 : rg n2) (hN : n_m σ) (hw : W_X4_enter n1 n2 σ Q) (sz : Nat) : MetV l yX4_enter cX4_enter 3 { frames := 1, cells := 0, slots := 0, locals := 21 } g [.ref (q 7), .int (I n1), .int (I n2)] (CX g q lb σ) sz xT (p_V (CX g q lb) [41, 42] [58, 62, 63, 64] [] σ Q) 0 0 := by
  refine mkMet (Qc := fun A => QV g A (p_V (CX g q lb) [41, 42] [58, 62, 63, 64] [] σ Q)) (by decide) (Nat.le_of_ble_eq_true rfl) ?_
  intro p e s m below meth c A H ls hx hb hr hml hown hts hlk hnm hsz hP hK hNb hD hA hAe hS hX hl
  have hl : lv_has ls 3 [(0, .ref (q 7)), (1, .int (I n1)), (2, .int (I n2))] := hl
  have hB := hN
  have hF : f_r [41, 42] [58, 62, 63, 64] [] σ σ := f_0
  obtain ⟨locs, hlocs⟩ : ∃ z : List Loc, z = [] := ⟨_, rfl⟩
  rw [← hlocs] at hS ⊢
  obtain ⟨P72, hP72⟩ : ∃ P : Int → S0 → Prop, ∀ (u1 : Int) (τ : S0), (P u1 τ ↔ (rg u1 → n_m τ → f_r [41, 42] [58, 62, 63, 64] [] σ τ → ∀ (H : Heap) (locs : List Loc) (ls : Array Slot), KP g (CX g q lb τ) H → va_D A (CX g q lb τ) → va_S A s.heap H locs → lv_has ls 3 [(0, .ref (q 7)), (1, .int (I u1))] → W p l e ({ frames := 1, cells := 0, slots := 0, locals := 21 }) s m [.ref (q 7), .int (I n1), .int (I n2)].toArray below meth c H locs 0 0 (MQ below (QV g A (p_V (CX g q lb) [41, 42] [58, 62, 63, 64] [] σ Q)) [.ref (q 7), .int (I n1), .int (I n2)].toArray s 0 0 A) (F0 m 72 ls []))) := ⟨_, fun _ _ => Iff.rfl⟩
  refine (fun hw => ?_) (hw P72 ?_)
  ·
    refine lv_aload_n hx hb dX4_enter_0 rfl (lv_at hl 0 rfl) ?_
    refine gfX4_assertions hx hb hts hK hP hown (hts _ tw_533) dX4_enter_1 ?_
    refine lv_aload_n hx hb dX4_enter_4 rfl (lv_at hl 0 rfl) ?_
    refine gfX4_base hx hb hts hK hP hown (hts _ tw_553) (x := σ.1 44) rfl dX4_enter_5 ?_
    refine lv_iload_n hx hb dX4_enter_8 rfl (lv_at hl 1 rfl) ?_
    refine bi_iadd hx hb dX4_enter_9 ?_
    obtain ⟨c1, hw⟩ := hw
    obtain ⟨Q2, hc, hw⟩ := hw
    refine wc_i (X := CX g q lb) (va_runV (As := [.int (I (σ.1 44 + n1))]) (rest := []) ⟨hx, hb, hml, hown, hts⟩ (L_X0_childCount l g q lb hlb c1 hN hc H.size) (cwV 1 hts (TB_V tw_1610 tw_1505 tw_1506 tw_5 co_X0_childCount) rfl rfl rfl (by decide +kernel) ⟨Nat.le_of_ble_eq_true rfl, Nat.le_of_ble_eq_true rfl⟩) (preV (q0 := 3) (ci := 0) rfl xT_bl hP hK hNb hD rfl rfl xT_at) rfl rfl hl.1 rfl (lv_room (Nat.le_of_ble_eq_true rfl)) dX4_enter_10 ⟨Nat.le_of_ble_eq_true rfl, Nat.le_of_ble_eq_true rfl⟩) hP hD hS hA (fun x3 H locs r_x3 hq hP hD hS => ?_)
    replace hw := hw x3 r_x3 hq
    refine bi_if_ne (tgt := 24) hx hb r_x3 dX4_enter_13 (by decide) (fun c5 => ?_) (fun c5 => ?_)
    ·
      replace hw := hw.1 c5
      refine lv_iload_n hx hb dX4_enter_24 rfl (lv_at hl 2 rfl) ?_
      refine bi_if_eq (tgt := 72) hx hb r_n2 dX4_enter_25 (by decide) (fun c6 => ?_) (fun c6 => ?_)
      ·
        replace hw := hw.1 c6
        exact (hP72 _ _).mp hw r_n1 hN hF H locs ls hP hD hS (lv_sub hl [0, 1] rfl)
      ·
        replace hw := hw.2 c6
        refine lv_aload_n hx hb dX4_enter_28 rfl (lv_at hl 0 rfl) ?_
        refine gfX4_tellings hx hb hts hK hP hown (hts _ tw_537) dX4_enter_29 ?_
        refine lv_aload_n hx hb dX4_enter_32 rfl (lv_at hl 0 rfl) ?_
        refine gfX4_sameAs hx hb hts hK hP hown (hts _ tw_534) dX4_enter_33 ?_
        refine lv_iload_n hx hb dX4_enter_36 rfl (lv_at hl 1 rfl) ?_
        obtain ⟨c7, hw⟩ := hw
        refine ldCX4_sameAs hx hb hK hP hN c7 dX4_enter_37 (fun x8 r_x8 e_x8 => ?_)
        replace hw := hw x8 r_x8 e_x8
        obtain ⟨c9, hw⟩ := hw
        refine ldCX4_tellings hx hb hK hP hN c9 dX4_enter_38 (fun x10 r_x10 e_x10 => ?_)
        replace hw := hw x10 r_x10 e_x10
        refine bi_if_le (tgt := 72) hx hb r_x10 dX4_enter_39 (by decide) (fun c11 => ?_) (fun c11 => ?_)
        ·
          replace hw := hw.1 c11
          exact (hP72 _ _).mp hw r_n1 hN hF H locs ls hP hD hS (lv_sub hl [0, 1] rfl)
        ·
          replace hw := hw.2 c11
          refine lv_aload_n hx hb dX4_enter_42 rfl (lv_at hl 0 rfl) ?_
          refine gfX4_tellings hx hb hts hK hP hown (hts _ tw_537) dX4_enter_43 ?_
          refine lv_aload_n hx hb dX4_enter_46 rfl (lv_at hl 0 rfl) ?_
          refine gfX4_sameAs hx hb hts hK hP hown (hts _ tw_534) dX4_enter_47 ?_
          refine lv_iload_n hx hb dX4_enter_50 rfl (lv_at hl 1 rfl) ?_
          refine ldCX4_sameAs hx hb hK hP hN c7 dX4_enter_51 (fun x12 r_x12 e_x12 => ?_)
          replace hw := hw x12 r_x12 e_x12
          refine lv_dup2_11 hx hb dX4_enter_52 rfl rfl ?_
          obtain ⟨c13, hw⟩ := hw
          refine ldCX4_tellings hx hb hK hP hN c13 dX4_enter_53 (fun x14 r_x14 e_x14 => ?_)
          replace hw := hw x14 r_x14 e_x14
          refine lv_iconst (v := I 1) hx hb dX4_enter_54 rfl ?_
          refine bi_iadd hx hb dX4_enter_55 ?_
          obtain ⟨c15, hw⟩ := hw
          refine sdCX4_tellings hx hb hK hP hD hS c13 dX4_enter_56 (fun H locs hP hD hS => ?_)
          have hN : n_m (s_a σ 58 x12 (x14 + 1)) := n_a (k := 58) (j := x12) hN (c15 : rg (x14 + 1))
          have hF : f_r [41, 42] [58, 62, 63, 64] [] σ (s_a σ 58 x12 (x14 + 1)) := f_a hF (by decide)
          refine lv_aload_n hx hb dX4_enter_57 rfl (lv_at hl 0 rfl) ?_
          refine lv_aload_n hx hb dX4_enter_58 rfl (lv_at hl 0 rfl) ?_
          refine gfX4_sameAs hx hb hts hK hP hown (hts _ tw_534) dX4_enter_59 ?_
          refine lv_iload_n hx hb dX4_enter_62 rfl (lv_at hl 1 rfl) ?_
          refine ldCX4_sameAs hx hb hK hP hN c7 dX4_enter_63 (fun x16 r_x16 e_x16 => ?_)
          replace hw := hw x16 r_x16 e_x16
          refine lv_iconst (v := I (-1)) hx hb dX4_enter_64 rfl ?_
          refine bi_inot hx hb dX4_enter_65 ?_
          obtain ⟨Q17, hc, hw⟩ := hw
          refine wc_V (X := CX g q lb) (va_runV (As := [.int (I (-1 - x16))]) (rest := []) ⟨hx, hb, hml, hown, hts⟩ (L_X4_tell l g q lb hlb (⟨by have := (r_x16 : rg x16).2; omega, by have := (r_x16 : rg x16).1; omega⟩ : rg (-1 - x16)) hN hc H.size) (cwV 1 hts (TB_V tw_1619 tw_1621 ts_62 tw_9 co_X4_tell) rfl rfl rfl (by decide +kernel) ⟨Nat.le_of_ble_eq_true rfl, Nat.le_of_ble_eq_true rfl⟩) (preV (q0 := 7) (ci := 4) rfl xT_bl hP hK hNb hD rfl rfl xT_at) rfl rfl hl.1 rfl (lv_room (Nat.le_of_ble_eq_true rfl)) dX4_enter_66 ⟨Nat.le_of_ble_eq_true rfl, Nat.le_of_ble_eq_true rfl⟩) hP hD hS hA (fun τ19 H locs hN hf hq hP hD hS => ?_)
          replace hw := hw τ19 hN hf hq
          have hF : f_r [41, 42] [58, 62, 63, 64] [] σ τ19 := f_t hF hf (by decide) (by decide) (by decide)
          have hB := hN
          refine lv_goto (tgt := 112) hx hb dX4_enter_69 (by decide) ?_
          exact xrv hx hb hr hlk hP hK hD hS ⟨_, hN, hF, rfl, hw⟩ (Nat.le_of_ble_eq_true rfl) (Nat.le_of_ble_eq_true rfl) dX4_enter_112
    ·
      replace hw := hw.2 c5
      refine lv_aload_n hx hb dX4_enter_16 rfl (lv_at hl 0 rfl) ?_
      refine lv_iload_n hx hb dX4_enter_17 rfl (lv_at hl 1 rfl) ?_
      obtain ⟨Q20, hc, hw⟩ := hw
      refine wc_V (X := CX g q lb) (va_runV (As := [.int (I n1)]) (rest := []) ⟨hx, hb, hml, hown, hts⟩ (L_X4_tell l g q lb hlb r_n1 hN hc H.size) (cwV 1 hts (TB_V tw_1619 tw_1621 ts_62 tw_9 co_X4_tell) rfl rfl rfl (by decide +kernel) ⟨Nat.le_of_ble_eq_true rfl, Nat.le_of_ble_eq_true rfl⟩) (preV (q0 := 7) (ci := 4) rfl xT_bl hP hK hNb hD rfl rfl xT_at) rfl rfl hl.1 rfl (lv_room (Nat.le_of_ble_eq_true rfl)) dX4_enter_18 ⟨Nat.le_of_ble_eq_true rfl, Nat.le_of_ble_eq_true rfl⟩) hP hD hS hA (fun τ22 H locs hN hf hq hP hD hS => ?_)
      replace hw := hw τ22 hN hf hq
      have hF : f_r [41, 42] [58, 62, 63, 64] [] σ τ22 := f_t hF hf (by decide) (by decide) (by decide)
      have hB := hN
      refine lv_goto (tgt := 112) hx hb dX4_enter_21 (by decide) ?_
      exact xrv hx hb hr hlk hP hK hD hS ⟨_, hN, hF, rfl, hw⟩ (Nat.le_of_ble_eq_true rfl) (Nat.le_of_ble_eq_true rfl) dX4_enter_112
  ·
    intro u1 τ hw
    refine (hP72 _ _).mpr ?_
    intro r_u1 hN hF H locs ls hP hD hS hl
    have hB := hN
    refine lv_aload_n hx hb dX4_enter_72 rfl (lv_at hl 0 rfl) ?_
    refine gfX4_depth hx hb hts hK hP hown (hts _ tw_549) (x := τ.1 42) rfl dX4_enter_73 ?_
    refine lv_sipush (v := I 20000) hx hb dX4_enter_76 (by decide) ?_
    refine bi_icmp_ge (tgt := 112) hx hb (hB.1 42) (by decide) dX4_enter_79 (by decide) (fun c23 => ?_) (fun c23 => ?_)
    ·
      replace hw := hw.1 c23
      exact xrv hx hb hr hlk hP hK hD hS ⟨_, hN, hF, rfl, hw⟩ (Nat.le_of_ble_eq_true rfl) (Nat.le_of_ble_eq_true rfl) dX4_enter_112
    ·
      replace hw := hw.2 c23
      refine lv_aload_n hx hb dX4_enter_82 rfl (lv_at hl 0 rfl) ?_
      refine gfX4_stackRow hx hb hts hK hP hown (hts _ tw_547) dX4_enter_83 ?_
      refine lv_aload_n hx hb dX4_enter_86 rfl (lv_at hl 0 rfl) ?_
      refine gfX4_depth hx hb hts hK hP hown (hts _ tw_549) (x := τ.1 42) rfl dX4_enter_87 ?_
      refine lv_iload_n hx hb dX4_enter_90 rfl (lv_at hl 1 rfl) ?_
      obtain ⟨c24, hw⟩ := hw
      refine sdCX4_stackRow hx hb hK hP hD hS c24 dX4_enter_91 (fun H locs hP hD hS => ?_)
      have hN : n_m (s_a τ 63 (τ.1 42) u1) := n_a (k := 63) (j := τ.1 42) hN (r_u1 : rg u1)
      have hF : f_r [41, 42] [58, 62, 63, 64] [] σ (s_a τ 63 (τ.1 42) u1) := f_a hF (by decide)
      refine lv_aload_n hx hb dX4_enter_92 rfl (lv_at hl 0 rfl) ?_
      refine gfX4_stackNext hx hb hts hK hP hown (hts _ tw_548) dX4_enter_93 ?_
      refine lv_aload_n hx hb dX4_enter_96 rfl (lv_at hl 0 rfl) ?_
      refine gfX4_depth hx hb hts hK hP hown (hts _ tw_549) (x := τ.1 42) rfl dX4_enter_97 ?_
      refine lv_iconst (v := I 0) hx hb dX4_enter_100 rfl ?_
      refine sdCX4_stackNext hx hb hK hP hD hS c24 dX4_enter_101 (fun H locs hP hD hS => ?_)
      have hN : n_m (s_a (s_a τ 63 (τ.1 42) u1) 64 (τ.1 42) 0) := n_a (k := 64) (j := τ.1 42) hN ((by decide) : rg 0)
      have hF : f_r [41, 42] [58, 62, 63, 64] [] σ (s_a (s_a τ 63 (τ.1 42) u1) 64 (τ.1 42) 0) := f_a hF (by decide)
      refine lv_aload_n hx hb dX4_enter_102 rfl (lv_at hl 0 rfl) ?_
      refine lv_dup hx hb dX4_enter_103 rfl ?_
      refine gfX4_depth hx hb hts hK hP hown (hts _ tw_549) (x := τ.1 42) rfl dX4_enter_104 ?_
      refine lv_iconst (v := I 1) hx hb dX4_enter_107 rfl ?_
      refine bi_iadd hx hb dX4_enter_108 ?_
      obtain ⟨c25, hw⟩ := hw
      refine pfX4_depth hx hb hts hK hP hD hS hown (hts _ tw_549) dX4_enter_109 (fun H locs hP hD hS => ?_)
      have hN : n_m (s_v (s_a (s_a τ 63 (τ.1 42) u1) 64 (τ.1 42) 0) 42 (τ.1 42 + 1)) := n_v (i := 42) hN (c25 : rg (τ.1 42 + 1))
      have hF : f_r [41, 42] [58, 62, 63, 64] [] σ (s_v (s_a (s_a τ 63 (τ.1 42) u1) 64 (τ.1 42) 0) 42 (τ.1 42 + 1)) := f_v hF (by decide)
      exact xrv hx hb hr hlk hP hK hD hS ⟨_, hN, hF, rfl, hw⟩ (Nat.le_of_ble_eq_true rfl) (Nat.le_of_ble_eq_true rfl) dX4_enter_112
def W_X4_walk (n1 : Int) (n2 : Int) (σ : S0) (Q : S0 → Prop) : Prop :=
  ∀ (P18 : Int → Int → S0 → Prop) (P161 : Int → Int → Int → Int → S0 → Prop),
  (∀ (u2 : Int) (u3 : Int) (τ : S0), ((1000000 ≤ u3 → Q τ) ∧ (u3 < 1000000 → (τ.1 42 ≤ 0 → Q τ) ∧ (0 < τ.1 42 → (0 ≤ (τ.1 42 - 1) ∧ (τ.1 42 - 1) < 20000) ∧ (∀ (x7 : Int), rg x7 → x7 = τ.2.1 63 (τ.1 42 - 1) → (∀ (x8 : Int), rg x8 → x8 = τ.2.1 64 (τ.1 42 - 1) → (rg (τ.1 44 + x7) ∧ ∃ (Q10 : Int → Prop), W_X0_childCount (τ.1 44 + x7) τ Q10 ∧ ∀ (x11 : Int), rg x11 → Q10 x11 → ((x11 ≤ x8 → ∃ (Q14 : S0 → Prop), W_X4_tell x7 (s_v τ 42 (τ.1 42 - 1)) Q14 ∧ ∀ (τ16 : S0), n_m τ16 → f_r [41] [62] [] (s_v τ 42 (τ.1 42 - 1)) τ16 → Q14 τ16 → ((0 ≤ x7 ∧ x7 < 20000) ∧ (∀ (x18 : Int), rg x18 → x18 = τ16.2.1 55 x7 → ((u2 = 0 → P161 u2 u3 x18 0 τ16) ∧ (¬ u2 = 0 → P161 u2 u3 x18 1 τ16))))) ∧ (x8 < x11 → ∀ (x20 : Int), rg x20 → x20 = τ.2.1 64 (τ.1 42 - 1) → (rg (x20 + 1) ∧ (0 ≤ (τ.1 44 + x7) ∧ (τ.1 44 + x7) < 20001) ∧ (∀ (x23 : Int), rg x23 → x23 = τ.2.1 36 (τ.1 44 + x7) → ((0 ≤ (x23 + x8) ∧ (x23 + x8) < 20000) ∧ (∀ (x25 : Int), rg x25 → x25 = τ.2.1 37 (x23 + x8) → (∃ (Q26 : S0 → Prop), W_X4_enter x25 u2 (s_a τ 64 (τ.1 42 - 1) (x20 + 1)) Q26 ∧ ∀ (τ28 : S0), n_m τ28 → f_r [41, 42] [58, 62, 63, 64] [] (s_a τ 64 (τ.1 42 - 1) (x20 + 1)) τ28 → Q26 τ28 → (rg (u3 + 1) ∧ P18 u2 (u3 + 1) τ28)))))))))))))) → P18 u2 u3 τ) →
  (∀ (u2 : Int) (u3 : Int) (k1 : Int) (k2 : Int) (τ : S0), ((0 ≤ k1 ∧ k1 < 20000) ∧ (rg (u3 + 1) ∧ P18 u2 (u3 + 1) (s_a τ 58 k1 k2))) → P161 u2 u3 k1 k2 τ) →
  ∃ (Q1 : S0 → Prop), W_X4_enter n1 n2 (s_v (s_v σ 41 0) 42 0) Q1 ∧ ∀ (τ3 : S0), n_m τ3 → f_r [41, 42] [58, 62, 63, 64] [] (s_v (s_v σ 41 0) 42 0) τ3 → Q1 τ3 → (P18 n2 0 τ3)
set_option maxRecDepth 100000 in
set_option maxHeartbeats 4000000 in
theorem L_X4_walk (l : Launch) (g : gG) (q : Nat → Nat) (lb : Nat) (hlb : lb < 2 ^ 31) {n1 : Int} {n2 : Int} {σ : S0} {Q : S0 → Prop} (r_n1 : rg n1) (r_n2 : rg n2) (hN : n_m σ) (hw : W_X4_walk n1 n2 σ Q) (sz : Nat) : MetV l yX4_walk cX4_walk 6 { frames := 2, cells := 0, slots := 0, locals := 43 } g [.ref (q 7), .int (I n1), .int (I n2)] (CX g q lb σ) sz xT (p_V (CX g q lb) [41, 42] [58, 62, 63, 64] [] σ Q) 0 0 := by
  refine mkMet (Qc := fun A => QV g A (p_V (CX g q lb) [41, 42] [58, 62, 63, 64] [] σ Q)) (by decide) (Nat.le_of_ble_eq_true rfl) ?_
  intro p e s m below meth c A H ls hx hb hr hml hown hts hlk hnm hsz hP hK hNb hD hA hAe hS hX hl
  have hl : lv_has ls 6 [(0, .ref (q 7)), (1, .int (I n1)), (2, .int (I n2))] := hl
  have hB := hN
  have hF : f_r [41, 42] [58, 62, 63, 64] [] σ σ := f_0
  obtain ⟨locs, hlocs⟩ : ∃ z : List Loc, z = [] := ⟨_, rfl⟩
  rw [← hlocs] at hS ⊢
  obtain ⟨P18, hP18⟩ : ∃ P : Int → Int → S0 → Prop, ∀ (u2 : Int) (u3 : Int) (τ : S0), (P u2 u3 τ ↔ (rg u2 → rg u3 → n_m τ → f_r [41, 42] [58, 62, 63, 64] [] σ τ → ∀ (H : Heap) (locs : List Loc) (ls : Array Slot), KP g (CX g q lb τ) H → va_D A (CX g q lb τ) → va_S A s.heap H locs → lv_has ls 6 [(0, .ref (q 7)), (2, .int (I u2)), (3, .int (I u3))] → W p l e ({ frames := 2, cells := 0, slots := 0, locals := 43 }) s m [.ref (q 7), .int (I n1), .int (I n2)].toArray below meth c H locs 0 0 (MQ below (QV g A (p_V (CX g q lb) [41, 42] [58, 62, 63, 64] [] σ Q)) [.ref (q 7), .int (I n1), .int (I n2)].toArray s 0 0 A) (F0 m 18 ls []))) := ⟨_, fun _ _ _ => Iff.rfl⟩
  obtain ⟨P161, hP161⟩ : ∃ P : Int → Int → Int → Int → S0 → Prop, ∀ (u2 : Int) (u3 : Int) (k1 : Int) (k2 : Int) (τ : S0), (P u2 u3 k1 k2 τ ↔ (rg u2 → rg u3 → rg k1 → rg k2 → n_m τ → f_r [41, 42] [58, 62, 63, 64] [] σ τ → ∀ (H : Heap) (locs : List Loc) (ls : Array Slot), KP g (CX g q lb τ) H → va_D A (CX g q lb τ) → va_S A s.heap H locs → lv_has ls 6 [(0, .ref (q 7)), (2, .int (I u2)), (3, .int (I u3))] → W p l e ({ frames := 2, cells := 0, slots := 0, locals := 43 }) s m [.ref (q 7), .int (I n1), .int (I n2)].toArray below meth c H locs 0 0 (MQ below (QV g A (p_V (CX g q lb) [41, 42] [58, 62, 63, 64] [] σ Q)) [.ref (q 7), .int (I n1), .int (I n2)].toArray s 0 0 A) (F0 m 161 ls [.int (I k2), .int (I k1), .ref (q 74)]))) := ⟨_, fun _ _ _ _ _ => Iff.rfl⟩
  refine (fun hw => ?_) (hw P18 P161 ?_ ?_)
  ·
    refine lv_aload_n hx hb dX4_walk_0 rfl (lv_at hl 0 rfl) ?_
    refine lv_iconst (v := I 0) hx hb dX4_walk_1 rfl ?_
    refine pfX4_toldCount hx hb hts hK hP hD hS hown (hts _ tw_545) dX4_walk_2 (fun H locs hP hD hS => ?_)
    have hN : n_m (s_v σ 41 0) := n_v (i := 41) hN ((by decide) : rg 0)
    have hF : f_r [41, 42] [58, 62, 63, 64] [] σ (s_v σ 41 0) := f_v hF (by decide)
    refine lv_aload_n hx hb dX4_walk_5 rfl (lv_at hl 0 rfl) ?_
    refine lv_iconst (v := I 0) hx hb dX4_walk_6 rfl ?_
    refine pfX4_depth hx hb hts hK hP hD hS hown (hts _ tw_549) dX4_walk_7 (fun H locs hP hD hS => ?_)
    have hN : n_m (s_v (s_v σ 41 0) 42 0) := n_v (i := 42) hN ((by decide) : rg 0)
    have hF : f_r [41, 42] [58, 62, 63, 64] [] σ (s_v (s_v σ 41 0) 42 0) := f_v hF (by decide)
    refine lv_aload_n hx hb dX4_walk_10 rfl (lv_at hl 0 rfl) ?_
    refine lv_iload_n hx hb dX4_walk_11 rfl (lv_at hl 1 rfl) ?_
    refine lv_iload_n hx hb dX4_walk_12 rfl (lv_at hl 2 rfl) ?_
    obtain ⟨Q1, hc, hw⟩ := hw
    refine wc_V (X := CX g q lb) (va_runV (As := [.int (I n1), .int (I n2)]) (rest := []) ⟨hx, hb, hml, hown, hts⟩ (L_X4_enter l g q lb hlb r_n1 r_n2 hN hc H.size) (cwV 2 hts (TB_V tw_1615 tw_1617 ts_61 tw_9 co_X4_enter) rfl rfl rfl (by decide +kernel) ⟨Nat.le_of_ble_eq_true rfl, Nat.le_of_ble_eq_true rfl⟩) (preV (q0 := 7) (ci := 4) rfl xT_bl hP hK hNb hD rfl rfl xT_at) rfl rfl hl.1 rfl (lv_room (Nat.le_of_ble_eq_true rfl)) dX4_walk_13 ⟨Nat.le_of_ble_eq_true rfl, Nat.le_of_ble_eq_true rfl⟩) hP hD hS hA (fun τ3 H locs hN hf hq hP hD hS => ?_)
    replace hw := hw τ3 hN hf hq
    have hF : f_r [41, 42] [58, 62, 63, 64] [] σ τ3 := f_t hF hf (by decide) (by decide) (by decide)
    have hB := hN
    refine lv_iconst (v := I 0) hx hb dX4_walk_16 rfl ?_
    refine lv_istore_n (lv' := [(3, .int (I 0)), (0, .ref (q 7)), (1, .int (I n1)), (2, .int (I n2))]) hx hb dX4_walk_17 rfl hl (by decide) rfl (fun ls hl => ?_)
    exact (hP18 _ _ _).mp hw r_n2 (by decide) hN hF H locs ls hP hD hS (lv_sub hl [1, 3, 0] rfl)
  ·
    intro u2 u3 τ hw
    refine (hP18 _ _ _).mpr ?_
    intro r_u2 r_u3 hN hF H locs ls hP hD hS hl
    have hB := hN
    refine lv_iload_n hx hb dX4_walk_18 rfl (lv_at hl 2 rfl) ?_
    refine lv_ldc (own := RX4) (v := 1000000) hx hb hown (hts _ tw_1623) dX4_walk_19 ?_
    refine xtop (y := I 1000000) (by decide) ?_
    refine bi_icmp_ge (tgt := 168) hx hb r_u3 (by decide) dX4_walk_21 (by decide) (fun c4 => ?_) (fun c4 => ?_)
    ·
      replace hw := hw.1 c4
      exact xrv hx hb hr hlk hP hK hD hS ⟨_, hN, hF, rfl, hw⟩ (Nat.le_of_ble_eq_true rfl) (Nat.le_of_ble_eq_true rfl) dX4_walk_168
    ·
      replace hw := hw.2 c4
      refine lv_aload_n hx hb dX4_walk_24 rfl (lv_at hl 0 rfl) ?_
      refine gfX4_depth hx hb hts hK hP hown (hts _ tw_549) (x := τ.1 42) rfl dX4_walk_25 ?_
      refine bi_if_le (tgt := 168) hx hb (hB.1 42) dX4_walk_28 (by decide) (fun c5 => ?_) (fun c5 => ?_)
      ·
        replace hw := hw.1 c5
        exact xrv hx hb hr hlk hP hK hD hS ⟨_, hN, hF, rfl, hw⟩ (Nat.le_of_ble_eq_true rfl) (Nat.le_of_ble_eq_true rfl) dX4_walk_168
      ·
        replace hw := hw.2 c5
        refine lv_aload_n hx hb dX4_walk_31 rfl (lv_at hl 0 rfl) ?_
        refine gfX4_stackRow hx hb hts hK hP hown (hts _ tw_547) dX4_walk_32 ?_
        refine lv_aload_n hx hb dX4_walk_35 rfl (lv_at hl 0 rfl) ?_
        refine gfX4_depth hx hb hts hK hP hown (hts _ tw_549) (x := τ.1 42) rfl dX4_walk_36 ?_
        refine lv_iconst (v := I 1) hx hb dX4_walk_39 rfl ?_
        refine bi_isub hx hb dX4_walk_40 ?_
        obtain ⟨c6, hw⟩ := hw
        refine ldCX4_stackRow hx hb hK hP hN c6 dX4_walk_41 (fun x7 r_x7 e_x7 => ?_)
        replace hw := hw x7 r_x7 e_x7
        refine lv_istore (lv' := [(4, .int (I x7)), (0, .ref (q 7)), (2, .int (I u2)), (3, .int (I u3))]) hx hb dX4_walk_42 hl (by decide) rfl (fun ls hl => ?_)
        refine lv_aload_n hx hb dX4_walk_44 rfl (lv_at hl 1 rfl) ?_
        refine gfX4_stackNext hx hb hts hK hP hown (hts _ tw_548) dX4_walk_45 ?_
        refine lv_aload_n hx hb dX4_walk_48 rfl (lv_at hl 1 rfl) ?_
        refine gfX4_depth hx hb hts hK hP hown (hts _ tw_549) (x := τ.1 42) rfl dX4_walk_49 ?_
        refine lv_iconst (v := I 1) hx hb dX4_walk_52 rfl ?_
        refine bi_isub hx hb dX4_walk_53 ?_
        refine ldCX4_stackNext hx hb hK hP hN c6 dX4_walk_54 (fun x8 r_x8 e_x8 => ?_)
        replace hw := hw x8 r_x8 e_x8
        refine lv_istore (lv' := [(5, .int (I x8)), (4, .int (I x7)), (0, .ref (q 7)), (2, .int (I u2)), (3, .int (I u3))]) hx hb dX4_walk_55 hl (by decide) rfl (fun ls hl => ?_)
        refine lv_iload hx hb dX4_walk_57 (lv_at hl 0 rfl) ?_
        refine lv_aload_n hx hb dX4_walk_59 rfl (lv_at hl 2 rfl) ?_
        refine gfX4_assertions hx hb hts hK hP hown (hts _ tw_533) dX4_walk_60 ?_
        refine lv_aload_n hx hb dX4_walk_63 rfl (lv_at hl 2 rfl) ?_
        refine gfX4_base hx hb hts hK hP hown (hts _ tw_553) (x := τ.1 44) rfl dX4_walk_64 ?_
        refine lv_iload hx hb dX4_walk_67 (lv_at hl 1 rfl) ?_
        refine bi_iadd hx hb dX4_walk_69 ?_
        obtain ⟨c9, hw⟩ := hw
        obtain ⟨Q10, hc, hw⟩ := hw
        refine wc_i (X := CX g q lb) (va_runV (As := [.int (I (τ.1 44 + x7))]) (rest := [.int (I x8)]) ⟨hx, hb, hml, hown, hts⟩ (L_X0_childCount l g q lb hlb c9 hN hc H.size) (cwV 1 hts (TB_V tw_1610 tw_1505 tw_1506 tw_5 co_X0_childCount) rfl rfl rfl (by decide +kernel) ⟨Nat.le_of_ble_eq_true rfl, Nat.le_of_ble_eq_true rfl⟩) (preV (q0 := 3) (ci := 0) rfl xT_bl hP hK hNb hD rfl rfl xT_at) rfl rfl hl.1 rfl (lv_room (Nat.le_of_ble_eq_true rfl)) dX4_walk_70 ⟨Nat.le_of_ble_eq_true rfl, Nat.le_of_ble_eq_true rfl⟩) hP hD hS hA (fun x11 H locs r_x11 hq hP hD hS => ?_)
        replace hw := hw x11 r_x11 hq
        refine bi_icmp_ge (tgt := 125) hx hb r_x8 r_x11 dX4_walk_73 (by decide) (fun c13 => ?_) (fun c13 => ?_)
        ·
          replace hw := hw.1 c13
          refine lv_aload_n hx hb dX4_walk_125 rfl (lv_at hl 2 rfl) ?_
          refine lv_dup hx hb dX4_walk_126 rfl ?_
          refine gfX4_depth hx hb hts hK hP hown (hts _ tw_549) (x := τ.1 42) rfl dX4_walk_127 ?_
          refine lv_iconst (v := I 1) hx hb dX4_walk_130 rfl ?_
          refine bi_isub hx hb dX4_walk_131 ?_
          refine pfX4_depth hx hb hts hK hP hD hS hown (hts _ tw_549) dX4_walk_132 (fun H locs hP hD hS => ?_)
          have hN : n_m (s_v τ 42 (τ.1 42 - 1)) := n_v (i := 42) hN ((rg_ix c6.1 c6.2 (by decide)) : rg (τ.1 42 - 1))
          have hF : f_r [41, 42] [58, 62, 63, 64] [] σ (s_v τ 42 (τ.1 42 - 1)) := f_v hF (by decide)
          refine lv_aload_n hx hb dX4_walk_135 rfl (lv_at hl 2 rfl) ?_
          refine lv_iload hx hb dX4_walk_136 (lv_at hl 1 rfl) ?_
          obtain ⟨Q14, hc, hw⟩ := hw
          refine wc_V (X := CX g q lb) (va_runV (As := [.int (I x7)]) (rest := []) ⟨hx, hb, hml, hown, hts⟩ (L_X4_tell l g q lb hlb r_x7 hN hc H.size) (cwV 1 hts (TB_V tw_1619 tw_1621 ts_62 tw_9 co_X4_tell) rfl rfl rfl (by decide +kernel) ⟨Nat.le_of_ble_eq_true rfl, Nat.le_of_ble_eq_true rfl⟩) (preV (q0 := 7) (ci := 4) rfl xT_bl hP hK hNb hD rfl rfl xT_at) rfl rfl hl.1 rfl (lv_room (Nat.le_of_ble_eq_true rfl)) dX4_walk_138 ⟨Nat.le_of_ble_eq_true rfl, Nat.le_of_ble_eq_true rfl⟩) hP hD hS hA (fun τ16 H locs hN hf hq hP hD hS => ?_)
          replace hw := hw τ16 hN hf hq
          have hF : f_r [41, 42] [58, 62, 63, 64] [] σ τ16 := f_t hF hf (by decide) (by decide) (by decide)
          have hB := hN
          refine lv_aload_n hx hb dX4_walk_141 rfl (lv_at hl 2 rfl) ?_
          refine gfX4_tellings hx hb hts hK hP hown (hts _ tw_537) dX4_walk_142 ?_
          refine lv_aload_n hx hb dX4_walk_145 rfl (lv_at hl 2 rfl) ?_
          refine gfX4_sameAs hx hb hts hK hP hown (hts _ tw_534) dX4_walk_146 ?_
          refine lv_iload hx hb dX4_walk_149 (lv_at hl 1 rfl) ?_
          obtain ⟨c17, hw⟩ := hw
          refine ldCX4_sameAs hx hb hK hP hN c17 dX4_walk_151 (fun x18 r_x18 e_x18 => ?_)
          replace hw := hw x18 r_x18 e_x18
          refine lv_iload_n hx hb dX4_walk_152 rfl (lv_at hl 3 rfl) ?_
          refine bi_if_eq (tgt := 160) hx hb r_u2 dX4_walk_153 (by decide) (fun c19 => ?_) (fun c19 => ?_)
          ·
            replace hw := hw.1 c19
            refine lv_iconst (v := I 0) hx hb dX4_walk_160 rfl ?_
            exact (hP161 _ _ _ _ _).mp hw r_u2 r_u3 r_x18 (by decide) hN hF H locs ls hP hD hS (lv_sub hl [2, 3, 4] rfl)
          ·
            replace hw := hw.2 c19
            refine lv_iconst (v := I 1) hx hb dX4_walk_156 rfl ?_
            refine lv_goto (tgt := 161) hx hb dX4_walk_157 (by decide) ?_
            exact (hP161 _ _ _ _ _).mp hw r_u2 r_u3 r_x18 (by decide) hN hF H locs ls hP hD hS (lv_sub hl [2, 3, 4] rfl)
        ·
          replace hw := hw.2 c13
          refine lv_aload_n hx hb dX4_walk_76 rfl (lv_at hl 2 rfl) ?_
          refine gfX4_stackNext hx hb hts hK hP hown (hts _ tw_548) dX4_walk_77 ?_
          refine lv_aload_n hx hb dX4_walk_80 rfl (lv_at hl 2 rfl) ?_
          refine gfX4_depth hx hb hts hK hP hown (hts _ tw_549) (x := τ.1 42) rfl dX4_walk_81 ?_
          refine lv_iconst (v := I 1) hx hb dX4_walk_84 rfl ?_
          refine bi_isub hx hb dX4_walk_85 ?_
          refine lv_dup2_11 hx hb dX4_walk_86 rfl rfl ?_
          refine ldCX4_stackNext hx hb hK hP hN c6 dX4_walk_87 (fun x20 r_x20 e_x20 => ?_)
          replace hw := hw x20 r_x20 e_x20
          refine lv_iconst (v := I 1) hx hb dX4_walk_88 rfl ?_
          refine bi_iadd hx hb dX4_walk_89 ?_
          obtain ⟨c21, hw⟩ := hw
          refine sdCX4_stackNext hx hb hK hP hD hS c6 dX4_walk_90 (fun H locs hP hD hS => ?_)
          have hN : n_m (s_a τ 64 (τ.1 42 - 1) (x20 + 1)) := n_a (k := 64) (j := (τ.1 42 - 1)) hN (c21 : rg (x20 + 1))
          have hF : f_r [41, 42] [58, 62, 63, 64] [] σ (s_a τ 64 (τ.1 42 - 1) (x20 + 1)) := f_a hF (by decide)
          refine lv_aload_n hx hb dX4_walk_91 rfl (lv_at hl 2 rfl) ?_
          refine lv_aload_n hx hb dX4_walk_92 rfl (lv_at hl 2 rfl) ?_
          refine gfX4_assertions hx hb hts hK hP hown (hts _ tw_533) dX4_walk_93 ?_
          refine gfNX0_children hx hb hts hK hP hown (nb_use hNb tn_285) dX4_walk_96 ?_
          refine lv_aload_n hx hb dX4_walk_99 rfl (lv_at hl 2 rfl) ?_
          refine gfX4_assertions hx hb hts hK hP hown (hts _ tw_533) dX4_walk_100 ?_
          refine gfNX0_childAt hx hb hts hK hP hown (nb_use hNb tn_279) dX4_walk_103 ?_
          refine lv_aload_n hx hb dX4_walk_106 rfl (lv_at hl 2 rfl) ?_
          refine gfX4_base hx hb hts hK hP hown (hts _ tw_553) (x := τ.1 44) rfl dX4_walk_107 ?_
          refine lv_iload hx hb dX4_walk_110 (lv_at hl 1 rfl) ?_
          refine bi_iadd hx hb dX4_walk_112 ?_
          obtain ⟨c22, hw⟩ := hw
          refine ldCX0_childAt hx hb hK hP hN c22 dX4_walk_113 (fun x23 r_x23 e_x23 => ?_)
          replace hw := hw x23 r_x23 e_x23
          refine lv_iload hx hb dX4_walk_114 (lv_at hl 0 rfl) ?_
          refine bi_iadd hx hb dX4_walk_116 ?_
          obtain ⟨c24, hw⟩ := hw
          refine ldCX0_children hx hb hK hP hN c24 dX4_walk_117 (fun x25 r_x25 e_x25 => ?_)
          replace hw := hw x25 r_x25 e_x25
          refine lv_iload_n hx hb dX4_walk_118 rfl (lv_at hl 3 rfl) ?_
          obtain ⟨Q26, hc, hw⟩ := hw
          refine wc_V (X := CX g q lb) (va_runV (As := [.int (I x25), .int (I u2)]) (rest := []) ⟨hx, hb, hml, hown, hts⟩ (L_X4_enter l g q lb hlb r_x25 r_u2 hN hc H.size) (cwV 2 hts (TB_V tw_1615 tw_1617 ts_61 tw_9 co_X4_enter) rfl rfl rfl (by decide +kernel) ⟨Nat.le_of_ble_eq_true rfl, Nat.le_of_ble_eq_true rfl⟩) (preV (q0 := 7) (ci := 4) rfl xT_bl hP hK hNb hD rfl rfl xT_at) rfl rfl hl.1 rfl (lv_room (Nat.le_of_ble_eq_true rfl)) dX4_walk_119 ⟨Nat.le_of_ble_eq_true rfl, Nat.le_of_ble_eq_true rfl⟩) hP hD hS hA (fun τ28 H locs hN hf hq hP hD hS => ?_)
          replace hw := hw τ28 hN hf hq
          have hF : f_r [41, 42] [58, 62, 63, 64] [] σ τ28 := f_t hF hf (by decide) (by decide) (by decide)
          have hB := hN
          refine lv_goto (tgt := 162) hx hb dX4_walk_122 (by decide) ?_
          refine lv_iinc (v := I (u3 + 1)) (lv' := [(3, .int (I (u3 + 1))), (5, .int (I x8)), (4, .int (I x7)), (0, .ref (q 7)), (2, .int (I u2))]) hx hb dX4_walk_162 hl (k := 4) rfl (I_add _ _) (by decide) rfl (fun ls hl => ?_)
          refine lv_goto (tgt := 18) hx hb dX4_walk_165 (by decide) ?_
          obtain ⟨c29, hw⟩ := hw
          exact (hP18 _ _ _).mp hw r_u2 c29 hN hF H locs ls hP hD hS (lv_sub hl [3, 4, 0] rfl)
  ·
    intro u2 u3 k1 k2 τ hw
    refine (hP161 _ _ _ _ _).mpr ?_
    intro r_u2 r_u3 r_k1 r_k2 hN hF H locs ls hP hD hS hl
    have hB := hN
    obtain ⟨c30, hw⟩ := hw
    refine sdCX4_tellings hx hb hK hP hD hS c30 dX4_walk_161 (fun H locs hP hD hS => ?_)
    have hN : n_m (s_a τ 58 k1 k2) := n_a (k := 58) (j := k1) hN (r_k2 : rg k2)
    have hF : f_r [41, 42] [58, 62, 63, 64] [] σ (s_a τ 58 k1 k2) := f_a hF (by decide)
    refine lv_iinc (v := I (u3 + 1)) (lv' := [(3, .int (I (u3 + 1))), (0, .ref (q 7)), (2, .int (I u2))]) hx hb dX4_walk_162 hl (k := 2) rfl (I_add _ _) (by decide) rfl (fun ls hl => ?_)
    refine lv_goto (tgt := 18) hx hb dX4_walk_165 (by decide) ?_
    obtain ⟨c31, hw⟩ := hw
    exact (hP18 _ _ _).mp hw r_u2 c31 hN hF H locs ls hP hD hS (lv_sub hl [1, 2, 0] rfl)
def W_J7_fill_53178_q76 (n1 : Int) (σ : S0) (Q : S0 → Prop) : Prop :=
  ∀ (P5 : Int → Int → Int → S0 → Prop),
  (∀ (u1 : Int) (u2 : Int) (u3 : Int) (τ : S0), ((u3 ≤ u2 → Q τ) ∧ (u2 < u3 → (0 ≤ u2 ∧ u2 < 1500) ∧ (rg (u2 + 1) ∧ P5 u1 (u2 + 1) u3 (s_a τ 60 u2 u1)))) → P5 u1 u2 u3 τ) →
  P5 n1 0 1500 σ
set_option maxRecDepth 100000 in
set_option maxHeartbeats 4000000 in
theorem L_J7_fill_53178_q76 (l : Launch) (g : gG) (q : Nat → Nat) (lb : Nat) (hlb : lb < 2 ^ 31) {n1 : Int} {σ : S0} {Q : S0 → Prop} (r_n1 : rg n1) (hN : n_m σ) (hw : W_J7_fill_53178_q76 n1 σ Q) (sz : Nat) : MetV l yJ7_fill_53178 cJ7_fill_53178 4 { frames := 0, cells := 0, slots := 0, locals := 0 } g [.ref (q 76), .int (I n1)] (CX g q lb σ) sz xT (p_V (CX g q lb) [] [60] [] σ Q) 0 0 := by
  refine mkMet (Qc := fun A => QV g A (p_V (CX g q lb) [] [60] [] σ Q)) (by decide) (Nat.le_of_ble_eq_true rfl) ?_
  intro p e s m below meth c A H ls hx hb hr hml hown hts hlk hnm hsz hP hK hNb hD hA hAe hS hX hl
  have hl : lv_has ls 4 [(0, .ref (q 76)), (1, .int (I n1))] := hl
  have hB := hN
  have hF : f_r [] [60] [] σ σ := f_0
  obtain ⟨locs, hlocs⟩ : ∃ z : List Loc, z = [] := ⟨_, rfl⟩
  rw [← hlocs] at hS ⊢
  obtain ⟨P5, hP5⟩ : ∃ P : Int → Int → Int → S0 → Prop, ∀ (u1 : Int) (u2 : Int) (u3 : Int) (τ : S0), (P u1 u2 u3 τ ↔ (rg u1 → rg u2 → rg u3 → n_m τ → f_r [] [60] [] σ τ → ∀ (H : Heap) (locs : List Loc) (ls : Array Slot), KP g (CX g q lb τ) H → va_D A (CX g q lb τ) → va_S A s.heap H locs → lv_has ls 4 [(0, .ref (q 76)), (1, .int (I u1)), (2, .int (I u2)), (3, .int (I u3))] → W p l e ({ frames := 0, cells := 0, slots := 0, locals := 0 }) s m [.ref (q 76), .int (I n1)].toArray below meth c H locs 0 0 (MQ below (QV g A (p_V (CX g q lb) [] [60] [] σ Q)) [.ref (q 76), .int (I n1)].toArray s 0 0 A) (F0 m 5 ls []))) := ⟨_, fun _ _ _ _ => Iff.rfl⟩
  refine (fun hw => ?_) (hw P5 ?_)
  ·
    refine lv_iconst (v := I 0) hx hb dJ7_fill_53178_0 rfl ?_
    refine lv_istore_n (lv' := [(2, .int (I 0)), (0, .ref (q 76)), (1, .int (I n1))]) hx hb dJ7_fill_53178_1 rfl hl (by decide) rfl (fun ls hl => ?_)
    refine lv_aload_n hx hb dJ7_fill_53178_2 rfl (lv_at hl 1 rfl) ?_
    refine va_alen hx hb hK hP 76 0 rfl rfl (v := I 1500) rfl dJ7_fill_53178_3 ?_
    refine lv_istore_n (lv' := [(3, .int (I 1500)), (2, .int (I 0)), (0, .ref (q 76)), (1, .int (I n1))]) hx hb dJ7_fill_53178_4 rfl hl (by decide) rfl (fun ls hl => ?_)
    exact (hP5 _ _ _ _).mp hw r_n1 (by decide) (by decide) hN hF H locs ls hP hD hS (lv_sub hl [2, 3, 1, 0] rfl)
  ·
    intro u1 u2 u3 τ hw
    refine (hP5 _ _ _ _).mpr ?_
    intro r_u1 r_u2 r_u3 hN hF H locs ls hP hD hS hl
    have hB := hN
    refine lv_iload_n hx hb dJ7_fill_53178_5 rfl (lv_at hl 2 rfl) ?_
    refine lv_iload_n hx hb dJ7_fill_53178_6 rfl (lv_at hl 3 rfl) ?_
    refine bi_icmp_ge (tgt := 20) hx hb r_u2 r_u3 dJ7_fill_53178_7 (by decide) (fun c1 => ?_) (fun c1 => ?_)
    ·
      replace hw := hw.1 c1
      exact xrv hx hb hr hlk hP hK hD hS ⟨_, hN, hF, rfl, hw⟩ (Nat.le_of_ble_eq_true rfl) (Nat.le_of_ble_eq_true rfl) dJ7_fill_53178_20
    ·
      replace hw := hw.2 c1
      refine lv_aload_n hx hb dJ7_fill_53178_10 rfl (lv_at hl 0 rfl) ?_
      refine lv_iload_n hx hb dJ7_fill_53178_11 rfl (lv_at hl 2 rfl) ?_
      refine lv_iload_n hx hb dJ7_fill_53178_12 rfl (lv_at hl 1 rfl) ?_
      obtain ⟨c2, hw⟩ := hw
      refine sdCX4_labelNumbers hx hb hK hP hD hS c2 dJ7_fill_53178_13 (fun H locs hP hD hS => ?_)
      have hN : n_m (s_a τ 60 u2 u1) := n_a (k := 60) (j := u2) hN (r_u1 : rg u1)
      have hF : f_r [] [60] [] σ (s_a τ 60 u2 u1) := f_a hF (by decide)
      refine lv_iinc (v := I (u2 + 1)) (lv' := [(2, .int (I (u2 + 1))), (0, .ref (q 76)), (1, .int (I u1)), (3, .int (I u3))]) hx hb dJ7_fill_53178_14 hl (k := 2) rfl (I_add _ _) (by decide) rfl (fun ls hl => ?_)
      refine lv_goto (tgt := 5) hx hb dJ7_fill_53178_17 (by decide) ?_
      obtain ⟨c3, hw⟩ := hw
      exact (hP5 _ _ _ _).mp hw r_u1 c3 r_u3 hN hF H locs ls hP hD hS (lv_sub hl [1, 2, 0, 3] rfl)
def W_X4_statementOf (n1 : Int) (σ : S0) (Q : Int → Prop) : Prop :=
  (0 ≤ n1 ∧ n1 < 20001) ∧ (∀ (x2 : Int), rg x2 → x2 = σ.2.1 62 n1 → ((0 ≤ x2 → ∀ (x4 : Int), rg x4 → x4 = σ.2.1 62 n1 → ((0 ≤ (σ.1 44 + x4) ∧ (σ.1 44 + x4) < 20000) ∧ (∀ (x6 : Int), rg x6 → x6 = σ.2.1 35 (σ.1 44 + x4) → (Q x6)))) ∧ (x2 < 0 → Q (-1))))
set_option maxRecDepth 100000 in
set_option maxHeartbeats 4000000 in
theorem L_X4_statementOf (l : Launch) (g : gG) (q : Nat → Nat) (lb : Nat) (hlb : lb < 2 ^ 31) {n1 : Int} {σ : S0} {Q : Int → Prop} (r_n1 : rg n1) (hN : n_m σ) (hw : W_X4_statementOf n1 σ Q) (sz : Nat) : MetI l yX4_statementOf cX4_statementOf 2 (some .int) { frames := 0, cells := 0, slots := 0, locals := 0 } g [.ref (q 7), .int (I n1)] (CX g q lb σ) sz xT (p_i (CX g q lb) σ Q) 0 0 := by
  refine mkMet (Qc := fun A => QI g A (p_i (CX g q lb) σ Q)) (by decide) (Nat.le_of_ble_eq_true rfl) ?_
  intro p e s m below meth c A H ls hx hb hr hml hown hts hlk hnm hsz hP hK hNb hD hA hAe hS hX hl
  have hl : lv_has ls 2 [(0, .ref (q 7)), (1, .int (I n1))] := hl
  have hB := hN
  obtain ⟨locs, hlocs⟩ : ∃ z : List Loc, z = [] := ⟨_, rfl⟩
  rw [← hlocs] at hS ⊢
  refine lv_aload_n hx hb dX4_statementOf_0 rfl (lv_at hl 0 rfl) ?_
  refine gfX4_told hx hb hts hK hP hown (hts _ tw_544) dX4_statementOf_1 ?_
  refine lv_iload_n hx hb dX4_statementOf_4 rfl (lv_at hl 1 rfl) ?_
  obtain ⟨c1, hw⟩ := hw
  refine ldCX4_told hx hb hK hP hN c1 dX4_statementOf_5 (fun x2 r_x2 e_x2 => ?_)
  replace hw := hw x2 r_x2 e_x2
  refine bi_if_ge (tgt := 13) hx hb r_x2 dX4_statementOf_6 (by decide) (fun c3 => ?_) (fun c3 => ?_)
  ·
    replace hw := hw.1 c3
    refine lv_aload_n hx hb dX4_statementOf_13 rfl (lv_at hl 0 rfl) ?_
    refine gfX4_assertions hx hb hts hK hP hown (hts _ tw_533) dX4_statementOf_14 ?_
    refine gfNX0_rowStatement hx hb hts hK hP hown (nb_use hNb tn_274) dX4_statementOf_17 ?_
    refine lv_aload_n hx hb dX4_statementOf_20 rfl (lv_at hl 0 rfl) ?_
    refine gfX4_base hx hb hts hK hP hown (hts _ tw_553) (x := σ.1 44) rfl dX4_statementOf_21 ?_
    refine lv_aload_n hx hb dX4_statementOf_24 rfl (lv_at hl 0 rfl) ?_
    refine gfX4_told hx hb hts hK hP hown (hts _ tw_544) dX4_statementOf_25 ?_
    refine lv_iload_n hx hb dX4_statementOf_28 rfl (lv_at hl 1 rfl) ?_
    refine ldCX4_told hx hb hK hP hN c1 dX4_statementOf_29 (fun x4 r_x4 e_x4 => ?_)
    replace hw := hw x4 r_x4 e_x4
    refine bi_iadd hx hb dX4_statementOf_30 ?_
    obtain ⟨c5, hw⟩ := hw
    refine ldCX0_rowStatement hx hb hK hP hN c5 dX4_statementOf_31 (fun x6 r_x6 e_x6 => ?_)
    replace hw := hw x6 r_x6 e_x6
    exact xri hx hb hr hlk hP hK hD hS ⟨_, r_x6, rfl, rfl, hw⟩ (Nat.le_of_ble_eq_true rfl) (Nat.le_of_ble_eq_true rfl) dX4_statementOf_32
  ·
    replace hw := hw.2 c3
    refine lv_iconst (v := I (-1)) hx hb dX4_statementOf_9 rfl ?_
    refine lv_goto (tgt := 32) hx hb dX4_statementOf_10 (by decide) ?_
    exact xri hx hb hr hlk hP hK hD hS ⟨_, (by decide), rfl, rfl, hw⟩ (Nat.le_of_ble_eq_true rfl) (Nat.le_of_ble_eq_true rfl) dX4_statementOf_32
def W_X4_saves (n1 : Int) (σ : S0) (Q : Int → Prop) : Prop :=
  (0 ≤ n1 ∧ n1 < 20001) ∧ (∀ (x2 : Int), rg x2 → x2 = σ.2.1 62 n1 → ((x2 < 0 → Q 0) ∧ (0 ≤ x2 → ∀ (x4 : Int), rg x4 → x4 = σ.2.1 62 n1 → (rg (σ.1 44 + x4) ∧ ∃ (Q6 : Int → Prop), W_X0_childCount (σ.1 44 + x4) σ Q6 ∧ ∀ (x7 : Int), rg x7 → Q6 x7 → ((x7 ≤ 0 → Q 0) ∧ (0 < x7 → ∀ (x10 : Int), rg x10 → x10 = σ.2.1 62 n1 → ((0 ≤ x10 ∧ x10 < 20000) ∧ (∀ (x12 : Int), rg x12 → x12 = σ.2.1 55 x10 → ((0 ≤ x12 ∧ x12 < 20000) ∧ (∀ (x14 : Int), rg x14 → x14 = σ.2.1 58 x12 → ((x14 ≤ 1 → Q 0) ∧ (1 < x14 → Q 1))))))))))))
set_option maxRecDepth 100000 in
set_option maxHeartbeats 4000000 in
theorem L_X4_saves (l : Launch) (g : gG) (q : Nat → Nat) (lb : Nat) (hlb : lb < 2 ^ 31) {n1 : Int} {σ : S0} {Q : Int → Prop} (r_n1 : rg n1) (hN : n_m σ) (hw : W_X4_saves n1 σ Q) (sz : Nat) : MetI l yX4_saves cX4_saves 2 (some .boolean) { frames := 1, cells := 0, slots := 0, locals := 21 } g [.ref (q 7), .int (I n1)] (CX g q lb σ) sz xT (p_i (CX g q lb) σ Q) 0 0 := by
  refine mkMet (Qc := fun A => QI g A (p_i (CX g q lb) σ Q)) (by decide) (Nat.le_of_ble_eq_true rfl) ?_
  intro p e s m below meth c A H ls hx hb hr hml hown hts hlk hnm hsz hP hK hNb hD hA hAe hS hX hl
  have hl : lv_has ls 2 [(0, .ref (q 7)), (1, .int (I n1))] := hl
  have hB := hN
  obtain ⟨locs, hlocs⟩ : ∃ z : List Loc, z = [] := ⟨_, rfl⟩
  rw [← hlocs] at hS ⊢
  refine lv_aload_n hx hb dX4_saves_0 rfl (lv_at hl 0 rfl) ?_
  refine gfX4_told hx hb hts hK hP hown (hts _ tw_544) dX4_saves_1 ?_
  refine lv_iload_n hx hb dX4_saves_4 rfl (lv_at hl 1 rfl) ?_
  obtain ⟨c1, hw⟩ := hw
  refine ldCX4_told hx hb hK hP hN c1 dX4_saves_5 (fun x2 r_x2 e_x2 => ?_)
  replace hw := hw x2 r_x2 e_x2
  refine bi_if_lt (tgt := 54) hx hb r_x2 dX4_saves_6 (by decide) (fun c3 => ?_) (fun c3 => ?_)
  ·
    replace hw := hw.1 c3
    refine lv_iconst (v := I 0) hx hb dX4_saves_54 rfl ?_
    exact xrz hx hb hr (by decide) hlk hP hK hD hS ⟨_, (by decide), rfl, rfl, hw⟩ (Nat.le_of_ble_eq_true rfl) (Nat.le_of_ble_eq_true rfl) dX4_saves_55
  ·
    replace hw := hw.2 c3
    refine lv_aload_n hx hb dX4_saves_9 rfl (lv_at hl 0 rfl) ?_
    refine gfX4_assertions hx hb hts hK hP hown (hts _ tw_533) dX4_saves_10 ?_
    refine lv_aload_n hx hb dX4_saves_13 rfl (lv_at hl 0 rfl) ?_
    refine gfX4_base hx hb hts hK hP hown (hts _ tw_553) (x := σ.1 44) rfl dX4_saves_14 ?_
    refine lv_aload_n hx hb dX4_saves_17 rfl (lv_at hl 0 rfl) ?_
    refine gfX4_told hx hb hts hK hP hown (hts _ tw_544) dX4_saves_18 ?_
    refine lv_iload_n hx hb dX4_saves_21 rfl (lv_at hl 1 rfl) ?_
    refine ldCX4_told hx hb hK hP hN c1 dX4_saves_22 (fun x4 r_x4 e_x4 => ?_)
    replace hw := hw x4 r_x4 e_x4
    refine bi_iadd hx hb dX4_saves_23 ?_
    obtain ⟨c5, hw⟩ := hw
    obtain ⟨Q6, hc, hw⟩ := hw
    refine wc_i (X := CX g q lb) (va_runV (As := [.int (I (σ.1 44 + x4))]) (rest := []) ⟨hx, hb, hml, hown, hts⟩ (L_X0_childCount l g q lb hlb c5 hN hc H.size) (cwV 1 hts (TB_V tw_1610 tw_1505 tw_1506 tw_5 co_X0_childCount) rfl rfl rfl (by decide +kernel) ⟨Nat.le_of_ble_eq_true rfl, Nat.le_of_ble_eq_true rfl⟩) (preV (q0 := 3) (ci := 0) rfl xT_bl hP hK hNb hD rfl rfl xT_at) rfl rfl hl.1 rfl (lv_room (Nat.le_of_ble_eq_true rfl)) dX4_saves_24 ⟨Nat.le_of_ble_eq_true rfl, Nat.le_of_ble_eq_true rfl⟩) hP hD hS hA (fun x7 H locs r_x7 hq hP hD hS => ?_)
    replace hw := hw x7 r_x7 hq
    refine bi_if_le (tgt := 54) hx hb r_x7 dX4_saves_27 (by decide) (fun c9 => ?_) (fun c9 => ?_)
    ·
      replace hw := hw.1 c9
      refine lv_iconst (v := I 0) hx hb dX4_saves_54 rfl ?_
      exact xrz hx hb hr (by decide) hlk hP hK hD hS ⟨_, (by decide), rfl, rfl, hw⟩ (Nat.le_of_ble_eq_true rfl) (Nat.le_of_ble_eq_true rfl) dX4_saves_55
    ·
      replace hw := hw.2 c9
      refine lv_aload_n hx hb dX4_saves_30 rfl (lv_at hl 0 rfl) ?_
      refine gfX4_tellings hx hb hts hK hP hown (hts _ tw_537) dX4_saves_31 ?_
      refine lv_aload_n hx hb dX4_saves_34 rfl (lv_at hl 0 rfl) ?_
      refine gfX4_sameAs hx hb hts hK hP hown (hts _ tw_534) dX4_saves_35 ?_
      refine lv_aload_n hx hb dX4_saves_38 rfl (lv_at hl 0 rfl) ?_
      refine gfX4_told hx hb hts hK hP hown (hts _ tw_544) dX4_saves_39 ?_
      refine lv_iload_n hx hb dX4_saves_42 rfl (lv_at hl 1 rfl) ?_
      refine ldCX4_told hx hb hK hP hN c1 dX4_saves_43 (fun x10 r_x10 e_x10 => ?_)
      replace hw := hw x10 r_x10 e_x10
      obtain ⟨c11, hw⟩ := hw
      refine ldCX4_sameAs hx hb hK hP hN c11 dX4_saves_44 (fun x12 r_x12 e_x12 => ?_)
      replace hw := hw x12 r_x12 e_x12
      obtain ⟨c13, hw⟩ := hw
      refine ldCX4_tellings hx hb hK hP hN c13 dX4_saves_45 (fun x14 r_x14 e_x14 => ?_)
      replace hw := hw x14 r_x14 e_x14
      refine lv_iconst (v := I 1) hx hb dX4_saves_46 rfl ?_
      refine bi_icmp_le (tgt := 54) hx hb r_x14 (by decide) dX4_saves_47 (by decide) (fun c15 => ?_) (fun c15 => ?_)
      ·
        replace hw := hw.1 c15
        refine lv_iconst (v := I 0) hx hb dX4_saves_54 rfl ?_
        exact xrz hx hb hr (by decide) hlk hP hK hD hS ⟨_, (by decide), rfl, rfl, hw⟩ (Nat.le_of_ble_eq_true rfl) (Nat.le_of_ble_eq_true rfl) dX4_saves_55
      ·
        replace hw := hw.2 c15
        refine lv_iconst (v := I 1) hx hb dX4_saves_50 rfl ?_
        refine lv_goto (tgt := 55) hx hb dX4_saves_51 (by decide) ?_
        exact xrz hx hb hr (by decide) hlk hP hK hD hS ⟨_, (by decide), rfl, rfl, hw⟩ (Nat.le_of_ble_eq_true rfl) (Nat.le_of_ble_eq_true rfl) dX4_saves_55
def W_X4_giveNumbers (n1 : Int) (σ : S0) (Q : S0 → Prop) : Prop :=
  ∀ (P20 : Int → Int → Int → S0 → Prop) (P65 : Int → Int → S0 → Prop) (P146 : Int → Int → S0 → Prop),
  (∀ (u1 : Int) (u2 : Int) (u3 : Int) (τ : S0), ((u2 ≤ u3 → P65 u2 0 (s_v τ 40 0)) ∧ (u3 < u2 → (0 ≤ u1 ∧ u1 < 1500) ∧ (∀ (x8 : Int), rg x8 → x8 = τ.2.1 27 u1 → ((0 ≤ (x8 + u3) ∧ (x8 + u3) < 90000) ∧ (∀ (x10 : Int), rg x10 → x10 = τ.2.1 29 (x8 + u3) → ((0 ≤ x10 ∧ x10 < 1500) ∧ (rg (u3 + 1) ∧ P20 u1 u2 (u3 + 1) (s_a τ 60 x10 (u3 + 1))))))))) → P20 u1 u2 u3 τ) →
  (∀ (u2 : Int) (u3 : Int) (τ : S0), ((τ.1 41 ≤ u3 → rg (u2 + τ.1 40) ∧ P146 (u2 + τ.1 40) 0 τ) ∧ (u3 < τ.1 41 → ∃ (Q15 : Int → Prop), W_X4_statementOf u3 τ Q15 ∧ ∀ (x16 : Int), rg x16 → Q15 x16 → ((x16 = (-1) → rg (u3 + 1) ∧ P65 u2 (u3 + 1) τ) ∧ (¬ x16 = (-1) → (0 ≤ x16 ∧ x16 < 1500) ∧ (∀ (x21 : Int), rg x21 → x21 = τ.2.1 60 x16 → ((¬ x21 = 0 → rg (u3 + 1) ∧ P65 u2 (u3 + 1) τ) ∧ (x21 = 0 → (0 ≤ τ.1 40 ∧ τ.1 40 < 1500) ∧ (rg (τ.1 40 + 1) ∧ rg (u2 + (τ.1 40 + 1)) ∧ rg (u3 + 1) ∧ P65 u2 (u3 + 1) (s_a (s_v (s_a τ 61 (τ.1 40) x16) 40 (τ.1 40 + 1)) 60 x16 (u2 + (τ.1 40 + 1))))))))))) → P65 u2 u3 τ) →
  (∀ (u3 : Int) (u4 : Int) (τ : S0), ((τ.1 41 ≤ u4 → Q τ) ∧ (u4 < τ.1 41 → ∃ (Q29 : Int → Prop), W_X4_saves u4 τ Q29 ∧ ∀ (x30 : Int), rg x30 → Q29 x30 → ((x30 = 0 → rg (u4 + 1) ∧ P146 u3 (u4 + 1) τ) ∧ (¬ x30 = 0 → (0 ≤ u4 ∧ u4 < 20001) ∧ (∀ (x35 : Int), rg x35 → x35 = τ.2.1 62 u4 → ((0 ≤ x35 ∧ x35 < 20000) ∧ (∀ (x37 : Int), rg x37 → x37 = τ.2.1 55 x35 → ((0 ≤ x37 ∧ x37 < 20000) ∧ (rg (u3 + 1) ∧ rg (u4 + 1) ∧ P146 (u3 + 1) (u4 + 1) (s_a τ 59 x37 (u3 + 1))))))))))) → P146 u3 u4 τ) →
  ∃ (Q1 : S0 → Prop), W_J7_fill_53178_q76 0 σ Q1 ∧ ∀ (τ3 : S0), n_m τ3 → f_r [] [60] [] σ τ3 → Q1 τ3 → ((0 ≤ n1 ∧ n1 < 1500) ∧ (∀ (x5 : Int), rg x5 → x5 = τ3.2.1 28 n1 → (P20 n1 x5 0 τ3)))
set_option maxRecDepth 100000 in
set_option maxHeartbeats 4000000 in
theorem L_X4_giveNumbers (l : Launch) (g : gG) (q : Nat → Nat) (lb : Nat) (hlb : lb < 2 ^ 31) {n1 : Int} {σ : S0} {Q : S0 → Prop} (r_n1 : rg n1) (hN : n_m σ) (hw : W_X4_giveNumbers n1 σ Q) (sz : Nat) : MetV l yX4_giveNumbers cX4_giveNumbers 5 { frames := 2, cells := 0, slots := 0, locals := 42 } g [.ref (q 7), .int (I n1)] (CX g q lb σ) sz xT (p_V (CX g q lb) [40] [59, 60, 61] [] σ Q) 0 0 := by
  refine mkMet (Qc := fun A => QV g A (p_V (CX g q lb) [40] [59, 60, 61] [] σ Q)) (by decide) (Nat.le_of_ble_eq_true rfl) ?_
  intro p e s m below meth c A H ls hx hb hr hml hown hts hlk hnm hsz hP hK hNb hD hA hAe hS hX hl
  have hl : lv_has ls 5 [(0, .ref (q 7)), (1, .int (I n1))] := hl
  have hB := hN
  have hF : f_r [40] [59, 60, 61] [] σ σ := f_0
  obtain ⟨locs, hlocs⟩ : ∃ z : List Loc, z = [] := ⟨_, rfl⟩
  rw [← hlocs] at hS ⊢
  obtain ⟨P20, hP20⟩ : ∃ P : Int → Int → Int → S0 → Prop, ∀ (u1 : Int) (u2 : Int) (u3 : Int) (τ : S0), (P u1 u2 u3 τ ↔ (rg u1 → rg u2 → rg u3 → n_m τ → f_r [40] [59, 60, 61] [] σ τ → ∀ (H : Heap) (locs : List Loc) (ls : Array Slot), KP g (CX g q lb τ) H → va_D A (CX g q lb τ) → va_S A s.heap H locs → lv_has ls 5 [(0, .ref (q 7)), (1, .int (I u1)), (2, .int (I u2)), (3, .int (I u3))] → W p l e ({ frames := 2, cells := 0, slots := 0, locals := 42 }) s m [.ref (q 7), .int (I n1)].toArray below meth c H locs 0 0 (MQ below (QV g A (p_V (CX g q lb) [40] [59, 60, 61] [] σ Q)) [.ref (q 7), .int (I n1)].toArray s 0 0 A) (F0 m 20 ls []))) := ⟨_, fun _ _ _ _ => Iff.rfl⟩
  obtain ⟨P65, hP65⟩ : ∃ P : Int → Int → S0 → Prop, ∀ (u2 : Int) (u3 : Int) (τ : S0), (P u2 u3 τ ↔ (rg u2 → rg u3 → n_m τ → f_r [40] [59, 60, 61] [] σ τ → ∀ (H : Heap) (locs : List Loc) (ls : Array Slot), KP g (CX g q lb τ) H → va_D A (CX g q lb τ) → va_S A s.heap H locs → lv_has ls 5 [(0, .ref (q 7)), (2, .int (I u2)), (3, .int (I u3))] → W p l e ({ frames := 2, cells := 0, slots := 0, locals := 42 }) s m [.ref (q 7), .int (I n1)].toArray below meth c H locs 0 0 (MQ below (QV g A (p_V (CX g q lb) [40] [59, 60, 61] [] σ Q)) [.ref (q 7), .int (I n1)].toArray s 0 0 A) (F0 m 65 ls []))) := ⟨_, fun _ _ _ => Iff.rfl⟩
  obtain ⟨P146, hP146⟩ : ∃ P : Int → Int → S0 → Prop, ∀ (u3 : Int) (u4 : Int) (τ : S0), (P u3 u4 τ ↔ (rg u3 → rg u4 → n_m τ → f_r [40] [59, 60, 61] [] σ τ → ∀ (H : Heap) (locs : List Loc) (ls : Array Slot), KP g (CX g q lb τ) H → va_D A (CX g q lb τ) → va_S A s.heap H locs → lv_has ls 5 [(0, .ref (q 7)), (3, .int (I u3)), (4, .int (I u4))] → W p l e ({ frames := 2, cells := 0, slots := 0, locals := 42 }) s m [.ref (q 7), .int (I n1)].toArray below meth c H locs 0 0 (MQ below (QV g A (p_V (CX g q lb) [40] [59, 60, 61] [] σ Q)) [.ref (q 7), .int (I n1)].toArray s 0 0 A) (F0 m 146 ls []))) := ⟨_, fun _ _ _ => Iff.rfl⟩
  refine (fun hw => ?_) (hw P20 P65 P146 ?_ ?_ ?_)
  ·
    refine lv_aload_n hx hb dX4_giveNumbers_0 rfl (lv_at hl 0 rfl) ?_
    refine gfX4_labelNumbers hx hb hts hK hP hown (hts _ tw_539) dX4_giveNumbers_1 ?_
    refine lv_iconst (v := I 0) hx hb dX4_giveNumbers_4 rfl ?_
    obtain ⟨Q1, hc, hw⟩ := hw
    refine wc_V (X := CX g q lb) (va_runS (As := [.ref (q 76), .int (I 0)]) (rest := []) ⟨hx, hb, hml, hown, hts⟩ (L_J7_fill_53178_q76 l g q lb hlb (by decide) hN hc H.size) (va_cwS 2 hts (TB_vS tw_1628 tw_163 tw_4 co_J7_fill_53178) rfl rfl rfl (by decide +kernel) ⟨Nat.le_of_ble_eq_true rfl, Nat.le_of_ble_eq_true rfl⟩) (preS xT_bl hP hK hNb hD xT_at) rfl rfl hl.1 rfl (lv_room (Nat.le_of_ble_eq_true rfl)) dX4_giveNumbers_5 ⟨Nat.le_of_ble_eq_true rfl, Nat.le_of_ble_eq_true rfl⟩) hP hD hS hA (fun τ3 H locs hN hf hq hP hD hS => ?_)
    replace hw := hw τ3 hN hf hq
    have hF : f_r [40] [59, 60, 61] [] σ τ3 := f_t hF hf (by decide) (by decide) (by decide)
    have hB := hN
    refine lv_aload_n hx hb dX4_giveNumbers_8 rfl (lv_at hl 0 rfl) ?_
    refine gfX4_assertions hx hb hts hK hP hown (hts _ tw_533) dX4_giveNumbers_9 ?_
    refine gfNX0_frameSize hx hb hts hK hP hown (nb_use hNb tn_246) dX4_giveNumbers_12 ?_
    refine lv_iload_n hx hb dX4_giveNumbers_15 rfl (lv_at hl 1 rfl) ?_
    obtain ⟨c4, hw⟩ := hw
    refine ldCX0_frameSize hx hb hK hP hN c4 dX4_giveNumbers_16 (fun x5 r_x5 e_x5 => ?_)
    replace hw := hw x5 r_x5 e_x5
    refine lv_istore_n (lv' := [(2, .int (I x5)), (0, .ref (q 7)), (1, .int (I n1))]) hx hb dX4_giveNumbers_17 rfl hl (by decide) rfl (fun ls hl => ?_)
    refine lv_iconst (v := I 0) hx hb dX4_giveNumbers_18 rfl ?_
    refine lv_istore_n (lv' := [(3, .int (I 0)), (2, .int (I x5)), (0, .ref (q 7)), (1, .int (I n1))]) hx hb dX4_giveNumbers_19 rfl hl (by decide) rfl (fun ls hl => ?_)
    exact (hP20 _ _ _ _).mp hw r_n1 r_x5 (by decide) hN hF H locs ls hP hD hS (lv_sub hl [2, 3, 1, 0] rfl)
  ·
    intro u1 u2 u3 τ hw
    refine (hP20 _ _ _ _).mpr ?_
    intro r_u1 r_u2 r_u3 hN hF H locs ls hP hD hS hl
    have hB := hN
    refine lv_iload_n hx hb dX4_giveNumbers_20 rfl (lv_at hl 3 rfl) ?_
    refine lv_iload_n hx hb dX4_giveNumbers_21 rfl (lv_at hl 2 rfl) ?_
    refine bi_icmp_ge (tgt := 58) hx hb r_u3 r_u2 dX4_giveNumbers_22 (by decide) (fun c6 => ?_) (fun c6 => ?_)
    ·
      replace hw := hw.1 c6
      refine lv_aload_n hx hb dX4_giveNumbers_58 rfl (lv_at hl 0 rfl) ?_
      refine lv_iconst (v := I 0) hx hb dX4_giveNumbers_59 rfl ?_
      refine pfX4_listedCount hx hb hts hK hP hD hS hown (hts _ tw_542) dX4_giveNumbers_60 (fun H locs hP hD hS => ?_)
      have hN : n_m (s_v τ 40 0) := n_v (i := 40) hN ((by decide) : rg 0)
      have hF : f_r [40] [59, 60, 61] [] σ (s_v τ 40 0) := f_v hF (by decide)
      refine lv_iconst (v := I 0) hx hb dX4_giveNumbers_63 rfl ?_
      refine lv_istore_n (lv' := [(3, .int (I 0)), (0, .ref (q 7)), (1, .int (I u1)), (2, .int (I u2))]) hx hb dX4_giveNumbers_64 rfl hl (by decide) rfl (fun ls hl => ?_)
      exact (hP65 _ _ _).mp hw r_u2 (by decide) hN hF H locs ls hP hD hS (lv_sub hl [1, 3, 0] rfl)
    ·
      replace hw := hw.2 c6
      refine lv_aload_n hx hb dX4_giveNumbers_25 rfl (lv_at hl 0 rfl) ?_
      refine gfX4_labelNumbers hx hb hts hK hP hown (hts _ tw_539) dX4_giveNumbers_26 ?_
      refine lv_aload_n hx hb dX4_giveNumbers_29 rfl (lv_at hl 0 rfl) ?_
      refine gfX4_assertions hx hb hts hK hP hown (hts _ tw_533) dX4_giveNumbers_30 ?_
      refine gfNX0_hypotheses hx hb hts hK hP hown (nb_use hNb tn_253) dX4_giveNumbers_33 ?_
      refine lv_aload_n hx hb dX4_giveNumbers_36 rfl (lv_at hl 0 rfl) ?_
      refine gfX4_assertions hx hb hts hK hP hown (hts _ tw_533) dX4_giveNumbers_37 ?_
      refine gfNX0_frameAt hx hb hts hK hP hown (nb_use hNb tn_238) dX4_giveNumbers_40 ?_
      refine lv_iload_n hx hb dX4_giveNumbers_43 rfl (lv_at hl 1 rfl) ?_
      obtain ⟨c7, hw⟩ := hw
      refine ldCX0_frameAt hx hb hK hP hN c7 dX4_giveNumbers_44 (fun x8 r_x8 e_x8 => ?_)
      replace hw := hw x8 r_x8 e_x8
      refine lv_iload_n hx hb dX4_giveNumbers_45 rfl (lv_at hl 3 rfl) ?_
      refine bi_iadd hx hb dX4_giveNumbers_46 ?_
      obtain ⟨c9, hw⟩ := hw
      refine ldCX0_hypotheses hx hb hK hP hN c9 dX4_giveNumbers_47 (fun x10 r_x10 e_x10 => ?_)
      replace hw := hw x10 r_x10 e_x10
      refine lv_iload_n hx hb dX4_giveNumbers_48 rfl (lv_at hl 3 rfl) ?_
      refine lv_iconst (v := I 1) hx hb dX4_giveNumbers_49 rfl ?_
      refine bi_iadd hx hb dX4_giveNumbers_50 ?_
      obtain ⟨c11, hw⟩ := hw
      obtain ⟨c12, hw⟩ := hw
      refine sdCX4_labelNumbers hx hb hK hP hD hS c11 dX4_giveNumbers_51 (fun H locs hP hD hS => ?_)
      have hN : n_m (s_a τ 60 x10 (u3 + 1)) := n_a (k := 60) (j := x10) hN (c12 : rg (u3 + 1))
      have hF : f_r [40] [59, 60, 61] [] σ (s_a τ 60 x10 (u3 + 1)) := f_a hF (by decide)
      refine lv_iinc (v := I (u3 + 1)) (lv' := [(3, .int (I (u3 + 1))), (0, .ref (q 7)), (1, .int (I u1)), (2, .int (I u2))]) hx hb dX4_giveNumbers_52 hl (k := 3) rfl (I_add _ _) (by decide) rfl (fun ls hl => ?_)
      refine lv_goto (tgt := 20) hx hb dX4_giveNumbers_55 (by decide) ?_
      exact (hP20 _ _ _ _).mp hw r_u1 r_u2 c12 hN hF H locs ls hP hD hS (lv_sub hl [1, 2, 3, 0] rfl)
  ·
    intro u2 u3 τ hw
    refine (hP65 _ _ _).mpr ?_
    intro r_u2 r_u3 hN hF H locs ls hP hD hS hl
    have hB := hN
    refine lv_iload_n hx hb dX4_giveNumbers_65 rfl (lv_at hl 2 rfl) ?_
    refine lv_aload_n hx hb dX4_giveNumbers_66 rfl (lv_at hl 0 rfl) ?_
    refine gfX4_toldCount hx hb hts hK hP hown (hts _ tw_545) (x := τ.1 41) rfl dX4_giveNumbers_67 ?_
    refine bi_icmp_ge (tgt := 136) hx hb r_u3 (hB.1 41) dX4_giveNumbers_70 (by decide) (fun c13 => ?_) (fun c13 => ?_)
    ·
      replace hw := hw.1 c13
      refine lv_iload_n hx hb dX4_giveNumbers_136 rfl (lv_at hl 1 rfl) ?_
      refine lv_aload_n hx hb dX4_giveNumbers_137 rfl (lv_at hl 0 rfl) ?_
      refine gfX4_listedCount hx hb hts hK hP hown (hts _ tw_542) (x := τ.1 40) rfl dX4_giveNumbers_138 ?_
      refine bi_iadd hx hb dX4_giveNumbers_141 ?_
      refine lv_istore_n (lv' := [(3, .int (I (u2 + τ.1 40))), (0, .ref (q 7)), (2, .int (I u2))]) hx hb dX4_giveNumbers_142 rfl hl (by decide) rfl (fun ls hl => ?_)
      refine lv_iconst (v := I 0) hx hb dX4_giveNumbers_143 rfl ?_
      refine lv_istore (lv' := [(4, .int (I 0)), (3, .int (I (u2 + τ.1 40))), (0, .ref (q 7)), (2, .int (I u2))]) hx hb dX4_giveNumbers_144 hl (by decide) rfl (fun ls hl => ?_)
      obtain ⟨c14, hw⟩ := hw
      exact (hP146 _ _ _).mp hw c14 (by decide) hN hF H locs ls hP hD hS (lv_sub hl [2, 1, 0] rfl)
    ·
      replace hw := hw.2 c13
      refine lv_aload_n hx hb dX4_giveNumbers_73 rfl (lv_at hl 0 rfl) ?_
      refine lv_iload_n hx hb dX4_giveNumbers_74 rfl (lv_at hl 2 rfl) ?_
      obtain ⟨Q15, hc, hw⟩ := hw
      refine wc_i (X := CX g q lb) (va_runV (As := [.int (I u3)]) (rest := []) ⟨hx, hb, hml, hown, hts⟩ (L_X4_statementOf l g q lb hlb r_u3 hN hc H.size) (cwV 1 hts (TB_V tw_1629 tw_1630 tw_1631 tw_9 co_X4_statementOf) rfl rfl rfl (by decide +kernel) ⟨Nat.le_of_ble_eq_true rfl, Nat.le_of_ble_eq_true rfl⟩) (preV (q0 := 7) (ci := 4) rfl xT_bl hP hK hNb hD rfl rfl xT_at) rfl rfl hl.1 rfl (lv_room (Nat.le_of_ble_eq_true rfl)) dX4_giveNumbers_75 ⟨Nat.le_of_ble_eq_true rfl, Nat.le_of_ble_eq_true rfl⟩) hP hD hS hA (fun x16 H locs r_x16 hq hP hD hS => ?_)
      replace hw := hw x16 r_x16 hq
      refine lv_istore (lv' := [(4, .int (I x16)), (0, .ref (q 7)), (2, .int (I u2)), (3, .int (I u3))]) hx hb dX4_giveNumbers_78 hl (by decide) rfl (fun ls hl => ?_)
      refine lv_iload hx hb dX4_giveNumbers_80 (lv_at hl 0 rfl) ?_
      refine lv_iconst (v := I (-1)) hx hb dX4_giveNumbers_82 rfl ?_
      refine bi_icmp_eq (tgt := 130) hx hb r_x16 (by decide) dX4_giveNumbers_83 (by decide) (fun c18 => ?_) (fun c18 => ?_)
      ·
        replace hw := hw.1 c18
        refine lv_iinc (v := I (u3 + 1)) (lv' := [(3, .int (I (u3 + 1))), (4, .int (I x16)), (0, .ref (q 7)), (2, .int (I u2))]) hx hb dX4_giveNumbers_130 hl (k := 3) rfl (I_add _ _) (by decide) rfl (fun ls hl => ?_)
        refine lv_goto (tgt := 65) hx hb dX4_giveNumbers_133 (by decide) ?_
        obtain ⟨c19, hw⟩ := hw
        exact (hP65 _ _ _).mp hw r_u2 c19 hN hF H locs ls hP hD hS (lv_sub hl [2, 3, 0] rfl)
      ·
        replace hw := hw.2 c18
        refine lv_aload_n hx hb dX4_giveNumbers_86 rfl (lv_at hl 1 rfl) ?_
        refine gfX4_labelNumbers hx hb hts hK hP hown (hts _ tw_539) dX4_giveNumbers_87 ?_
        refine lv_iload hx hb dX4_giveNumbers_90 (lv_at hl 0 rfl) ?_
        obtain ⟨c20, hw⟩ := hw
        refine ldCX4_labelNumbers hx hb hK hP hN c20 dX4_giveNumbers_92 (fun x21 r_x21 e_x21 => ?_)
        replace hw := hw x21 r_x21 e_x21
        refine bi_if_ne (tgt := 130) hx hb r_x21 dX4_giveNumbers_93 (by decide) (fun c22 => ?_) (fun c22 => ?_)
        ·
          replace hw := hw.1 c22
          refine lv_iinc (v := I (u3 + 1)) (lv' := [(3, .int (I (u3 + 1))), (4, .int (I x16)), (0, .ref (q 7)), (2, .int (I u2))]) hx hb dX4_giveNumbers_130 hl (k := 3) rfl (I_add _ _) (by decide) rfl (fun ls hl => ?_)
          refine lv_goto (tgt := 65) hx hb dX4_giveNumbers_133 (by decide) ?_
          obtain ⟨c23, hw⟩ := hw
          exact (hP65 _ _ _).mp hw r_u2 c23 hN hF H locs ls hP hD hS (lv_sub hl [2, 3, 0] rfl)
        ·
          replace hw := hw.2 c22
          refine lv_aload_n hx hb dX4_giveNumbers_96 rfl (lv_at hl 1 rfl) ?_
          refine gfX4_listed hx hb hts hK hP hown (hts _ tw_540) dX4_giveNumbers_97 ?_
          refine lv_aload_n hx hb dX4_giveNumbers_100 rfl (lv_at hl 1 rfl) ?_
          refine gfX4_listedCount hx hb hts hK hP hown (hts _ tw_542) (x := τ.1 40) rfl dX4_giveNumbers_101 ?_
          refine lv_iload hx hb dX4_giveNumbers_104 (lv_at hl 0 rfl) ?_
          obtain ⟨c24, hw⟩ := hw
          refine sdCX4_listed hx hb hK hP hD hS c24 dX4_giveNumbers_106 (fun H locs hP hD hS => ?_)
          have hN : n_m (s_a τ 61 (τ.1 40) x16) := n_a (k := 61) (j := τ.1 40) hN (r_x16 : rg x16)
          have hF : f_r [40] [59, 60, 61] [] σ (s_a τ 61 (τ.1 40) x16) := f_a hF (by decide)
          refine lv_aload_n hx hb dX4_giveNumbers_107 rfl (lv_at hl 1 rfl) ?_
          refine lv_dup hx hb dX4_giveNumbers_108 rfl ?_
          refine gfX4_listedCount hx hb hts hK hP hown (hts _ tw_542) (x := τ.1 40) rfl dX4_giveNumbers_109 ?_
          refine lv_iconst (v := I 1) hx hb dX4_giveNumbers_112 rfl ?_
          refine bi_iadd hx hb dX4_giveNumbers_113 ?_
          obtain ⟨c25, hw⟩ := hw
          refine pfX4_listedCount hx hb hts hK hP hD hS hown (hts _ tw_542) dX4_giveNumbers_114 (fun H locs hP hD hS => ?_)
          have hN : n_m (s_v (s_a τ 61 (τ.1 40) x16) 40 (τ.1 40 + 1)) := n_v (i := 40) hN (c25 : rg (τ.1 40 + 1))
          have hF : f_r [40] [59, 60, 61] [] σ (s_v (s_a τ 61 (τ.1 40) x16) 40 (τ.1 40 + 1)) := f_v hF (by decide)
          refine lv_aload_n hx hb dX4_giveNumbers_117 rfl (lv_at hl 1 rfl) ?_
          refine gfX4_labelNumbers hx hb hts hK hP hown (hts _ tw_539) dX4_giveNumbers_118 ?_
          refine lv_iload hx hb dX4_giveNumbers_121 (lv_at hl 0 rfl) ?_
          refine lv_iload_n hx hb dX4_giveNumbers_123 rfl (lv_at hl 2 rfl) ?_
          refine lv_aload_n hx hb dX4_giveNumbers_124 rfl (lv_at hl 1 rfl) ?_
          refine gfX4_listedCount hx hb hts hK hP hown (hts _ tw_542) (x := (τ.1 40 + 1)) rfl dX4_giveNumbers_125 ?_
          refine bi_iadd hx hb dX4_giveNumbers_128 ?_
          obtain ⟨c26, hw⟩ := hw
          refine sdCX4_labelNumbers hx hb hK hP hD hS c20 dX4_giveNumbers_129 (fun H locs hP hD hS => ?_)
          have hN : n_m (s_a (s_v (s_a τ 61 (τ.1 40) x16) 40 (τ.1 40 + 1)) 60 x16 (u2 + (τ.1 40 + 1))) := n_a (k := 60) (j := x16) hN (c26 : rg (u2 + (τ.1 40 + 1)))
          have hF : f_r [40] [59, 60, 61] [] σ (s_a (s_v (s_a τ 61 (τ.1 40) x16) 40 (τ.1 40 + 1)) 60 x16 (u2 + (τ.1 40 + 1))) := f_a hF (by decide)
          refine lv_iinc (v := I (u3 + 1)) (lv' := [(3, .int (I (u3 + 1))), (4, .int (I x16)), (0, .ref (q 7)), (2, .int (I u2))]) hx hb dX4_giveNumbers_130 hl (k := 3) rfl (I_add _ _) (by decide) rfl (fun ls hl => ?_)
          refine lv_goto (tgt := 65) hx hb dX4_giveNumbers_133 (by decide) ?_
          obtain ⟨c27, hw⟩ := hw
          exact (hP65 _ _ _).mp hw r_u2 c27 hN hF H locs ls hP hD hS (lv_sub hl [2, 3, 0] rfl)
  ·
    intro u3 u4 τ hw
    refine (hP146 _ _ _).mpr ?_
    intro r_u3 r_u4 hN hF H locs ls hP hD hS hl
    have hB := hN
    refine lv_iload hx hb dX4_giveNumbers_146 (lv_at hl 2 rfl) ?_
    refine lv_aload_n hx hb dX4_giveNumbers_148 rfl (lv_at hl 0 rfl) ?_
    refine gfX4_toldCount hx hb hts hK hP hown (hts _ tw_545) (x := τ.1 41) rfl dX4_giveNumbers_149 ?_
    refine bi_icmp_ge (tgt := 191) hx hb r_u4 (hB.1 41) dX4_giveNumbers_152 (by decide) (fun c28 => ?_) (fun c28 => ?_)
    ·
      replace hw := hw.1 c28
      exact xrv hx hb hr hlk hP hK hD hS ⟨_, hN, hF, rfl, hw⟩ (Nat.le_of_ble_eq_true rfl) (Nat.le_of_ble_eq_true rfl) dX4_giveNumbers_191
    ·
      replace hw := hw.2 c28
      refine lv_aload_n hx hb dX4_giveNumbers_155 rfl (lv_at hl 0 rfl) ?_
      refine lv_iload hx hb dX4_giveNumbers_156 (lv_at hl 2 rfl) ?_
      obtain ⟨Q29, hc, hw⟩ := hw
      refine wc_i (X := CX g q lb) (va_runV (As := [.int (I u4)]) (rest := []) ⟨hx, hb, hml, hown, hts⟩ (L_X4_saves l g q lb hlb r_u4 hN hc H.size) (cwV 1 hts (TB_V tw_1633 tw_1634 tw_1635 tw_9 co_X4_saves) rfl rfl rfl (by decide +kernel) ⟨Nat.le_of_ble_eq_true rfl, Nat.le_of_ble_eq_true rfl⟩) (preV (q0 := 7) (ci := 4) rfl xT_bl hP hK hNb hD rfl rfl xT_at) rfl rfl hl.1 rfl (lv_room (Nat.le_of_ble_eq_true rfl)) dX4_giveNumbers_158 ⟨Nat.le_of_ble_eq_true rfl, Nat.le_of_ble_eq_true rfl⟩) hP hD hS hA (fun x30 H locs r_x30 hq hP hD hS => ?_)
      replace hw := hw x30 r_x30 hq
      refine bi_if_eq (tgt := 185) hx hb r_x30 dX4_giveNumbers_161 (by decide) (fun c32 => ?_) (fun c32 => ?_)
      ·
        replace hw := hw.1 c32
        refine lv_iinc (v := I (u4 + 1)) (lv' := [(4, .int (I (u4 + 1))), (0, .ref (q 7)), (3, .int (I u3))]) hx hb dX4_giveNumbers_185 hl (k := 2) rfl (I_add _ _) (by decide) rfl (fun ls hl => ?_)
        refine lv_goto (tgt := 146) hx hb dX4_giveNumbers_188 (by decide) ?_
        obtain ⟨c33, hw⟩ := hw
        exact (hP146 _ _ _).mp hw r_u3 c33 hN hF H locs ls hP hD hS (lv_sub hl [1, 2, 0] rfl)
      ·
        replace hw := hw.2 c32
        refine lv_iinc (v := I (u3 + 1)) (lv' := [(3, .int (I (u3 + 1))), (0, .ref (q 7)), (4, .int (I u4))]) hx hb dX4_giveNumbers_164 hl (k := 1) rfl (I_add _ _) (by decide) rfl (fun ls hl => ?_)
        refine lv_aload_n hx hb dX4_giveNumbers_167 rfl (lv_at hl 1 rfl) ?_
        refine gfX4_numbers hx hb hts hK hP hown (hts _ tw_538) dX4_giveNumbers_168 ?_
        refine lv_aload_n hx hb dX4_giveNumbers_171 rfl (lv_at hl 1 rfl) ?_
        refine gfX4_sameAs hx hb hts hK hP hown (hts _ tw_534) dX4_giveNumbers_172 ?_
        refine lv_aload_n hx hb dX4_giveNumbers_175 rfl (lv_at hl 1 rfl) ?_
        refine gfX4_told hx hb hts hK hP hown (hts _ tw_544) dX4_giveNumbers_176 ?_
        refine lv_iload hx hb dX4_giveNumbers_179 (lv_at hl 2 rfl) ?_
        obtain ⟨c34, hw⟩ := hw
        refine ldCX4_told hx hb hK hP hN c34 dX4_giveNumbers_181 (fun x35 r_x35 e_x35 => ?_)
        replace hw := hw x35 r_x35 e_x35
        obtain ⟨c36, hw⟩ := hw
        refine ldCX4_sameAs hx hb hK hP hN c36 dX4_giveNumbers_182 (fun x37 r_x37 e_x37 => ?_)
        replace hw := hw x37 r_x37 e_x37
        refine lv_iload_n hx hb dX4_giveNumbers_183 rfl (lv_at hl 0 rfl) ?_
        obtain ⟨c38, hw⟩ := hw
        obtain ⟨c39, hw⟩ := hw
        refine sdCX4_numbers hx hb hK hP hD hS c38 dX4_giveNumbers_184 (fun H locs hP hD hS => ?_)
        have hN : n_m (s_a τ 59 x37 (u3 + 1)) := n_a (k := 59) (j := x37) hN (c39 : rg (u3 + 1))
        have hF : f_r [40] [59, 60, 61] [] σ (s_a τ 59 x37 (u3 + 1)) := f_a hF (by decide)
        refine lv_iinc (v := I (u4 + 1)) (lv' := [(4, .int (I (u4 + 1))), (3, .int (I (u3 + 1))), (0, .ref (q 7))]) hx hb dX4_giveNumbers_185 hl (k := 2) rfl (I_add _ _) (by decide) rfl (fun ls hl => ?_)
        refine lv_goto (tgt := 146) hx hb dX4_giveNumbers_188 (by decide) ?_
        obtain ⟨c40, hw⟩ := hw
        exact (hP146 _ _ _).mp hw c39 c40 hN hF H locs ls hP hD hS (lv_sub hl [2, 1, 0] rfl)
def W_X4_pack (n1 : Int) (σ : S0) (Q : S0 → Prop) : Prop :=
  (0 ≤ n1 ∧ n1 < 1500) ∧ (∀ (x2 : Int), rg x2 → x2 = σ.2.1 33 n1 → (∀ (x3 : Int), rg x3 → x3 = σ.2.1 34 n1 → (∃ (Q4 : S0 → Prop), W_X4_findSame x3 (s_v σ 44 x2) Q4 ∧ ∀ (τ6 : S0), n_m τ6 → f_r [] [55, 56, 57] [] (s_v σ 44 x2) τ6 → Q4 τ6 → (∀ (x7 : Int), rg x7 → x7 = τ6.2.1 34 n1 → (∃ (Q8 : S0 → Prop), W_J7_fill_fda19_q74 0 x7 0 τ6 Q8 ∧ ∀ (τ10 : S0), n_m τ10 → f_r [] [58] [] τ6 τ10 → Q8 τ10 → (∀ (x11 : Int), rg x11 → x11 = τ10.2.1 34 n1 → (rg (x11 - 1) ∧ ∃ (Q13 : S0 → Prop), W_X4_walk (x11 - 1) 1 τ10 Q13 ∧ ∀ (τ15 : S0), n_m τ15 → f_r [41, 42] [58, 62, 63, 64] [] τ10 τ15 → Q13 τ15 → (∃ (Q16 : S0 → Prop), W_X4_giveNumbers n1 τ15 Q16 ∧ ∀ (τ18 : S0), n_m τ18 → f_r [40] [59, 60, 61] [] τ15 τ18 → Q16 τ18 → (Q τ18)))))))))
set_option maxRecDepth 100000 in
set_option maxHeartbeats 4000000 in
theorem L_X4_pack (l : Launch) (g : gG) (q : Nat → Nat) (lb : Nat) (hlb : lb < 2 ^ 31) {n1 : Int} {σ : S0} {Q : S0 → Prop} (r_n1 : rg n1) (hN : n_m σ) (hw : W_X4_pack n1 σ Q) (sz : Nat) : MetV l yX4_pack cX4_pack 2 { frames := 3, cells := 0, slots := 0, locals := 72 } g [.ref (q 7), .int (I n1)] (CX g q lb σ) sz xT (p_V (CX g q lb) [40, 41, 42, 44] [55, 56, 57, 58, 59, 60, 61, 62, 63, 64] [] σ Q) 0 0 := by
  refine mkMet (Qc := fun A => QV g A (p_V (CX g q lb) [40, 41, 42, 44] [55, 56, 57, 58, 59, 60, 61, 62, 63, 64] [] σ Q)) (by decide) (Nat.le_of_ble_eq_true rfl) ?_
  intro p e s m below meth c A H ls hx hb hr hml hown hts hlk hnm hsz hP hK hNb hD hA hAe hS hX hl
  have hl : lv_has ls 2 [(0, .ref (q 7)), (1, .int (I n1))] := hl
  have hB := hN
  have hF : f_r [40, 41, 42, 44] [55, 56, 57, 58, 59, 60, 61, 62, 63, 64] [] σ σ := f_0
  obtain ⟨locs, hlocs⟩ : ∃ z : List Loc, z = [] := ⟨_, rfl⟩
  rw [← hlocs] at hS ⊢
  refine lv_aload_n hx hb dX4_pack_0 rfl (lv_at hl 0 rfl) ?_
  refine lv_aload_n hx hb dX4_pack_1 rfl (lv_at hl 0 rfl) ?_
  refine gfX4_assertions hx hb hts hK hP hown (hts _ tw_533) dX4_pack_2 ?_
  refine gfNX0_rowAt hx hb hts hK hP hown (nb_use hNb tn_266) dX4_pack_5 ?_
  refine lv_iload_n hx hb dX4_pack_8 rfl (lv_at hl 1 rfl) ?_
  obtain ⟨c1, hw⟩ := hw
  refine ldCX0_rowAt hx hb hK hP hN c1 dX4_pack_9 (fun x2 r_x2 e_x2 => ?_)
  replace hw := hw x2 r_x2 e_x2
  refine pfX4_base hx hb hts hK hP hD hS hown (hts _ tw_553) dX4_pack_10 (fun H locs hP hD hS => ?_)
  have hN : n_m (s_v σ 44 x2) := n_v (i := 44) hN (r_x2 : rg x2)
  have hF : f_r [40, 41, 42, 44] [55, 56, 57, 58, 59, 60, 61, 62, 63, 64] [] σ (s_v σ 44 x2) := f_v hF (by decide)
  refine lv_aload_n hx hb dX4_pack_13 rfl (lv_at hl 0 rfl) ?_
  refine lv_aload_n hx hb dX4_pack_14 rfl (lv_at hl 0 rfl) ?_
  refine gfX4_assertions hx hb hts hK hP hown (hts _ tw_533) dX4_pack_15 ?_
  refine gfNX0_rowCount hx hb hts hK hP hown (nb_use hNb tn_270) dX4_pack_18 ?_
  refine lv_iload_n hx hb dX4_pack_21 rfl (lv_at hl 1 rfl) ?_
  refine ldCX0_rowCount hx hb hK hP hN c1 dX4_pack_22 (fun x3 r_x3 e_x3 => ?_)
  replace hw := hw x3 r_x3 e_x3
  obtain ⟨Q4, hc, hw⟩ := hw
  refine wc_V (X := CX g q lb) (va_runV (As := [.int (I x3)]) (rest := []) ⟨hx, hb, hml, hown, hts⟩ (L_X4_findSame l g q lb hlb r_x3 hN hc H.size) (cwV 1 hts (TB_V tw_1595 tw_1597 ts_57 tw_9 co_X4_findSame) rfl rfl rfl (by decide +kernel) ⟨Nat.le_of_ble_eq_true rfl, Nat.le_of_ble_eq_true rfl⟩) (preV (q0 := 7) (ci := 4) rfl xT_bl hP hK hNb hD rfl rfl xT_at) rfl rfl hl.1 rfl (lv_room (Nat.le_of_ble_eq_true rfl)) dX4_pack_23 ⟨Nat.le_of_ble_eq_true rfl, Nat.le_of_ble_eq_true rfl⟩) hP hD hS hA (fun τ6 H locs hN hf hq hP hD hS => ?_)
  replace hw := hw τ6 hN hf hq
  have hF : f_r [40, 41, 42, 44] [55, 56, 57, 58, 59, 60, 61, 62, 63, 64] [] σ τ6 := f_t hF hf (by decide) (by decide) (by decide)
  have hB := hN
  refine lv_aload_n hx hb dX4_pack_26 rfl (lv_at hl 0 rfl) ?_
  refine gfX4_tellings hx hb hts hK hP hown (hts _ tw_537) dX4_pack_27 ?_
  refine lv_iconst (v := I 0) hx hb dX4_pack_30 rfl ?_
  refine lv_aload_n hx hb dX4_pack_31 rfl (lv_at hl 0 rfl) ?_
  refine gfX4_assertions hx hb hts hK hP hown (hts _ tw_533) dX4_pack_32 ?_
  refine gfNX0_rowCount hx hb hts hK hP hown (nb_use hNb tn_270) dX4_pack_35 ?_
  refine lv_iload_n hx hb dX4_pack_38 rfl (lv_at hl 1 rfl) ?_
  refine ldCX0_rowCount hx hb hK hP hN c1 dX4_pack_39 (fun x7 r_x7 e_x7 => ?_)
  replace hw := hw x7 r_x7 e_x7
  refine lv_iconst (v := I 0) hx hb dX4_pack_40 rfl ?_
  obtain ⟨Q8, hc, hw⟩ := hw
  refine wc_V (X := CX g q lb) (va_runS (As := [.ref (q 74), .int (I 0), .int (I x7), .int (I 0)]) (rest := []) ⟨hx, hb, hml, hown, hts⟩ (L_J7_fill_fda19_q74 l g q lb hlb (by decide) r_x7 (by decide) hN hc H.size) (va_cwS 4 hts (TB_vS tw_1599 tw_1571 tw_4 co_J7_fill_fda19) rfl rfl rfl (by decide +kernel) ⟨Nat.le_of_ble_eq_true rfl, Nat.le_of_ble_eq_true rfl⟩) (preS xT_bl hP hK hNb hD xT_at) rfl rfl hl.1 rfl (lv_room (Nat.le_of_ble_eq_true rfl)) dX4_pack_41 ⟨Nat.le_of_ble_eq_true rfl, Nat.le_of_ble_eq_true rfl⟩) hP hD hS hA (fun τ10 H locs hN hf hq hP hD hS => ?_)
  replace hw := hw τ10 hN hf hq
  have hF : f_r [40, 41, 42, 44] [55, 56, 57, 58, 59, 60, 61, 62, 63, 64] [] σ τ10 := f_t hF hf (by decide) (by decide) (by decide)
  have hB := hN
  refine lv_aload_n hx hb dX4_pack_44 rfl (lv_at hl 0 rfl) ?_
  refine lv_aload_n hx hb dX4_pack_45 rfl (lv_at hl 0 rfl) ?_
  refine gfX4_assertions hx hb hts hK hP hown (hts _ tw_533) dX4_pack_46 ?_
  refine gfNX0_rowCount hx hb hts hK hP hown (nb_use hNb tn_270) dX4_pack_49 ?_
  refine lv_iload_n hx hb dX4_pack_52 rfl (lv_at hl 1 rfl) ?_
  refine ldCX0_rowCount hx hb hK hP hN c1 dX4_pack_53 (fun x11 r_x11 e_x11 => ?_)
  replace hw := hw x11 r_x11 e_x11
  refine lv_iconst (v := I 1) hx hb dX4_pack_54 rfl ?_
  refine bi_isub hx hb dX4_pack_55 ?_
  refine lv_iconst (v := I 1) hx hb dX4_pack_56 rfl ?_
  obtain ⟨c12, hw⟩ := hw
  obtain ⟨Q13, hc, hw⟩ := hw
  refine wc_V (X := CX g q lb) (va_runV (As := [.int (I (x11 - 1)), .int (I 1)]) (rest := []) ⟨hx, hb, hml, hown, hts⟩ (L_X4_walk l g q lb hlb c12 (by decide) hN hc H.size) (cwV 2 hts (TB_V tw_1611 tw_1613 ts_60 tw_9 co_X4_walk) rfl rfl rfl (by decide +kernel) ⟨Nat.le_of_ble_eq_true rfl, Nat.le_of_ble_eq_true rfl⟩) (preV (q0 := 7) (ci := 4) rfl xT_bl hP hK hNb hD rfl rfl xT_at) rfl rfl hl.1 rfl (lv_room (Nat.le_of_ble_eq_true rfl)) dX4_pack_57 ⟨Nat.le_of_ble_eq_true rfl, Nat.le_of_ble_eq_true rfl⟩) hP hD hS hA (fun τ15 H locs hN hf hq hP hD hS => ?_)
  replace hw := hw τ15 hN hf hq
  have hF : f_r [40, 41, 42, 44] [55, 56, 57, 58, 59, 60, 61, 62, 63, 64] [] σ τ15 := f_t hF hf (by decide) (by decide) (by decide)
  have hB := hN
  refine lv_aload_n hx hb dX4_pack_60 rfl (lv_at hl 0 rfl) ?_
  refine lv_iload_n hx hb dX4_pack_61 rfl (lv_at hl 1 rfl) ?_
  obtain ⟨Q16, hc, hw⟩ := hw
  refine wc_V (X := CX g q lb) (va_runV (As := [.int (I n1)]) (rest := []) ⟨hx, hb, hml, hown, hts⟩ (L_X4_giveNumbers l g q lb hlb r_n1 hN hc H.size) (cwV 1 hts (TB_V tw_1624 tw_1626 ts_63 tw_9 co_X4_giveNumbers) rfl rfl rfl (by decide +kernel) ⟨Nat.le_of_ble_eq_true rfl, Nat.le_of_ble_eq_true rfl⟩) (preV (q0 := 7) (ci := 4) rfl xT_bl hP hK hNb hD rfl rfl xT_at) rfl rfl hl.1 rfl (lv_room (Nat.le_of_ble_eq_true rfl)) dX4_pack_62 ⟨Nat.le_of_ble_eq_true rfl, Nat.le_of_ble_eq_true rfl⟩) hP hD hS hA (fun τ18 H locs hN hf hq hP hD hS => ?_)
  replace hw := hw τ18 hN hf hq
  have hF : f_r [40, 41, 42, 44] [55, 56, 57, 58, 59, 60, 61, 62, 63, 64] [] σ τ18 := f_t hF hf (by decide) (by decide) (by decide)
  have hB := hN
  exact xrv hx hb hr hlk hP hK hD hS ⟨_, hN, hF, rfl, hw⟩ (Nat.le_of_ble_eq_true rfl) (Nat.le_of_ble_eq_true rfl) dX4_pack_65
def W_X4_unpack (n1 : Int) (σ : S0) (Q : S0 → Prop) : Prop :=
  (0 ≤ n1 ∧ n1 < 1500) ∧ (∀ (x2 : Int), rg x2 → x2 = σ.2.1 33 n1 → (∀ (x3 : Int), rg x3 → x3 = σ.2.1 34 n1 → (rg (x3 - 1) ∧ ∃ (Q5 : S0 → Prop), W_X4_walk (x3 - 1) 0 (s_v σ 44 x2) Q5 ∧ ∀ (τ7 : S0), n_m τ7 → f_r [41, 42] [58, 62, 63, 64] [] (s_v σ 44 x2) τ7 → Q5 τ7 → (Q τ7))))
set_option maxRecDepth 100000 in
set_option maxHeartbeats 4000000 in
theorem L_X4_unpack (l : Launch) (g : gG) (q : Nat → Nat) (lb : Nat) (hlb : lb < 2 ^ 31) {n1 : Int} {σ : S0} {Q : S0 → Prop} (r_n1 : rg n1) (hN : n_m σ) (hw : W_X4_unpack n1 σ Q) (sz : Nat) : MetV l yX4_unpack cX4_unpack 2 { frames := 3, cells := 0, slots := 0, locals := 68 } g [.ref (q 7), .int (I n1)] (CX g q lb σ) sz xT (p_V (CX g q lb) [41, 42, 44] [58, 62, 63, 64] [] σ Q) 0 0 := by
  refine mkMet (Qc := fun A => QV g A (p_V (CX g q lb) [41, 42, 44] [58, 62, 63, 64] [] σ Q)) (by decide) (Nat.le_of_ble_eq_true rfl) ?_
  intro p e s m below meth c A H ls hx hb hr hml hown hts hlk hnm hsz hP hK hNb hD hA hAe hS hX hl
  have hl : lv_has ls 2 [(0, .ref (q 7)), (1, .int (I n1))] := hl
  have hB := hN
  have hF : f_r [41, 42, 44] [58, 62, 63, 64] [] σ σ := f_0
  obtain ⟨locs, hlocs⟩ : ∃ z : List Loc, z = [] := ⟨_, rfl⟩
  rw [← hlocs] at hS ⊢
  refine lv_aload_n hx hb dX4_unpack_0 rfl (lv_at hl 0 rfl) ?_
  refine lv_aload_n hx hb dX4_unpack_1 rfl (lv_at hl 0 rfl) ?_
  refine gfX4_assertions hx hb hts hK hP hown (hts _ tw_533) dX4_unpack_2 ?_
  refine gfNX0_rowAt hx hb hts hK hP hown (nb_use hNb tn_266) dX4_unpack_5 ?_
  refine lv_iload_n hx hb dX4_unpack_8 rfl (lv_at hl 1 rfl) ?_
  obtain ⟨c1, hw⟩ := hw
  refine ldCX0_rowAt hx hb hK hP hN c1 dX4_unpack_9 (fun x2 r_x2 e_x2 => ?_)
  replace hw := hw x2 r_x2 e_x2
  refine pfX4_base hx hb hts hK hP hD hS hown (hts _ tw_553) dX4_unpack_10 (fun H locs hP hD hS => ?_)
  have hN : n_m (s_v σ 44 x2) := n_v (i := 44) hN (r_x2 : rg x2)
  have hF : f_r [41, 42, 44] [58, 62, 63, 64] [] σ (s_v σ 44 x2) := f_v hF (by decide)
  refine lv_aload_n hx hb dX4_unpack_13 rfl (lv_at hl 0 rfl) ?_
  refine lv_aload_n hx hb dX4_unpack_14 rfl (lv_at hl 0 rfl) ?_
  refine gfX4_assertions hx hb hts hK hP hown (hts _ tw_533) dX4_unpack_15 ?_
  refine gfNX0_rowCount hx hb hts hK hP hown (nb_use hNb tn_270) dX4_unpack_18 ?_
  refine lv_iload_n hx hb dX4_unpack_21 rfl (lv_at hl 1 rfl) ?_
  refine ldCX0_rowCount hx hb hK hP hN c1 dX4_unpack_22 (fun x3 r_x3 e_x3 => ?_)
  replace hw := hw x3 r_x3 e_x3
  refine lv_iconst (v := I 1) hx hb dX4_unpack_23 rfl ?_
  refine bi_isub hx hb dX4_unpack_24 ?_
  refine lv_iconst (v := I 0) hx hb dX4_unpack_25 rfl ?_
  obtain ⟨c4, hw⟩ := hw
  obtain ⟨Q5, hc, hw⟩ := hw
  refine wc_V (X := CX g q lb) (va_runV (As := [.int (I (x3 - 1)), .int (I 0)]) (rest := []) ⟨hx, hb, hml, hown, hts⟩ (L_X4_walk l g q lb hlb c4 (by decide) hN hc H.size) (cwV 2 hts (TB_V tw_1611 tw_1613 ts_60 tw_9 co_X4_walk) rfl rfl rfl (by decide +kernel) ⟨Nat.le_of_ble_eq_true rfl, Nat.le_of_ble_eq_true rfl⟩) (preV (q0 := 7) (ci := 4) rfl xT_bl hP hK hNb hD rfl rfl xT_at) rfl rfl hl.1 rfl (lv_room (Nat.le_of_ble_eq_true rfl)) dX4_unpack_26 ⟨Nat.le_of_ble_eq_true rfl, Nat.le_of_ble_eq_true rfl⟩) hP hD hS hA (fun τ7 H locs hN hf hq hP hD hS => ?_)
  replace hw := hw τ7 hN hf hq
  have hF : f_r [41, 42, 44] [58, 62, 63, 64] [] σ τ7 := f_t hF hf (by decide) (by decide) (by decide)
  have hB := hN
  exact xrv hx hb hr hlk hP hK hD hS ⟨_, hN, hF, rfl, hw⟩ (Nat.le_of_ble_eq_true rfl) (Nat.le_of_ble_eq_true rfl) dX4_unpack_29
def W_X4_numberOf (n1 : Int) (σ : S0) (Q : Int → Prop) : Prop :=
  (0 ≤ n1 ∧ n1 < 20001) ∧ (∀ (x2 : Int), rg x2 → x2 = σ.2.1 62 n1 → ((0 ≤ x2 → ∃ (Q4 : Int → Prop), W_X4_statementOf n1 σ Q4 ∧ ∀ (x5 : Int), rg x5 → Q4 x5 → ((0 ≤ x5 ∧ x5 < 1500) ∧ (∀ (x8 : Int), rg x8 → x8 = σ.2.1 60 x5 → (Q x8)))) ∧ (x2 < 0 → ∀ (x9 : Int), rg x9 → x9 = σ.2.1 62 n1 → ((0 ≤ (-1 - x9) ∧ (-1 - x9) < 20000) ∧ (∀ (x11 : Int), rg x11 → x11 = σ.2.1 59 (-1 - x9) → (Q x11))))))
set_option maxRecDepth 100000 in
set_option maxHeartbeats 4000000 in
theorem L_X4_numberOf (l : Launch) (g : gG) (q : Nat → Nat) (lb : Nat) (hlb : lb < 2 ^ 31) {n1 : Int} {σ : S0} {Q : Int → Prop} (r_n1 : rg n1) (hN : n_m σ) (hw : W_X4_numberOf n1 σ Q) (sz : Nat) : MetI l yX4_numberOf cX4_numberOf 2 (some .int) { frames := 1, cells := 0, slots := 0, locals := 21 } g [.ref (q 7), .int (I n1)] (CX g q lb σ) sz xT (p_i (CX g q lb) σ Q) 0 0 := by
  refine mkMet (Qc := fun A => QI g A (p_i (CX g q lb) σ Q)) (by decide) (Nat.le_of_ble_eq_true rfl) ?_
  intro p e s m below meth c A H ls hx hb hr hml hown hts hlk hnm hsz hP hK hNb hD hA hAe hS hX hl
  have hl : lv_has ls 2 [(0, .ref (q 7)), (1, .int (I n1))] := hl
  have hB := hN
  obtain ⟨locs, hlocs⟩ : ∃ z : List Loc, z = [] := ⟨_, rfl⟩
  rw [← hlocs] at hS ⊢
  refine lv_aload_n hx hb dX4_numberOf_0 rfl (lv_at hl 0 rfl) ?_
  refine gfX4_told hx hb hts hK hP hown (hts _ tw_544) dX4_numberOf_1 ?_
  refine lv_iload_n hx hb dX4_numberOf_4 rfl (lv_at hl 1 rfl) ?_
  obtain ⟨c1, hw⟩ := hw
  refine ldCX4_told hx hb hK hP hN c1 dX4_numberOf_5 (fun x2 r_x2 e_x2 => ?_)
  replace hw := hw x2 r_x2 e_x2
  refine bi_if_ge (tgt := 25) hx hb r_x2 dX4_numberOf_6 (by decide) (fun c3 => ?_) (fun c3 => ?_)
  ·
    replace hw := hw.1 c3
    refine lv_aload_n hx hb dX4_numberOf_25 rfl (lv_at hl 0 rfl) ?_
    refine gfX4_labelNumbers hx hb hts hK hP hown (hts _ tw_539) dX4_numberOf_26 ?_
    refine lv_aload_n hx hb dX4_numberOf_29 rfl (lv_at hl 0 rfl) ?_
    refine lv_iload_n hx hb dX4_numberOf_30 rfl (lv_at hl 1 rfl) ?_
    obtain ⟨Q4, hc, hw⟩ := hw
    refine wc_i (X := CX g q lb) (va_runV (As := [.int (I n1)]) (rest := [.ref (q 76)]) ⟨hx, hb, hml, hown, hts⟩ (L_X4_statementOf l g q lb hlb r_n1 hN hc H.size) (cwV 1 hts (TB_V tw_1629 tw_1630 tw_1631 tw_9 co_X4_statementOf) rfl rfl rfl (by decide +kernel) ⟨Nat.le_of_ble_eq_true rfl, Nat.le_of_ble_eq_true rfl⟩) (preV (q0 := 7) (ci := 4) rfl xT_bl hP hK hNb hD rfl rfl xT_at) rfl rfl hl.1 rfl (lv_room (Nat.le_of_ble_eq_true rfl)) dX4_numberOf_31 ⟨Nat.le_of_ble_eq_true rfl, Nat.le_of_ble_eq_true rfl⟩) hP hD hS hA (fun x5 H locs r_x5 hq hP hD hS => ?_)
    replace hw := hw x5 r_x5 hq
    obtain ⟨c7, hw⟩ := hw
    refine ldCX4_labelNumbers hx hb hK hP hN c7 dX4_numberOf_34 (fun x8 r_x8 e_x8 => ?_)
    replace hw := hw x8 r_x8 e_x8
    exact xri hx hb hr hlk hP hK hD hS ⟨_, r_x8, rfl, rfl, hw⟩ (Nat.le_of_ble_eq_true rfl) (Nat.le_of_ble_eq_true rfl) dX4_numberOf_35
  ·
    replace hw := hw.2 c3
    refine lv_aload_n hx hb dX4_numberOf_9 rfl (lv_at hl 0 rfl) ?_
    refine gfX4_numbers hx hb hts hK hP hown (hts _ tw_538) dX4_numberOf_10 ?_
    refine lv_aload_n hx hb dX4_numberOf_13 rfl (lv_at hl 0 rfl) ?_
    refine gfX4_told hx hb hts hK hP hown (hts _ tw_544) dX4_numberOf_14 ?_
    refine lv_iload_n hx hb dX4_numberOf_17 rfl (lv_at hl 1 rfl) ?_
    refine ldCX4_told hx hb hK hP hN c1 dX4_numberOf_18 (fun x9 r_x9 e_x9 => ?_)
    replace hw := hw x9 r_x9 e_x9
    refine lv_iconst (v := I (-1)) hx hb dX4_numberOf_19 rfl ?_
    refine bi_inot hx hb dX4_numberOf_20 ?_
    obtain ⟨c10, hw⟩ := hw
    refine ldCX4_numbers hx hb hK hP hN c10 dX4_numberOf_21 (fun x11 r_x11 e_x11 => ?_)
    replace hw := hw x11 r_x11 e_x11
    refine lv_goto (tgt := 35) hx hb dX4_numberOf_22 (by decide) ?_
    exact xri hx hb hr hlk hP hK hD hS ⟨_, r_x11, rfl, rfl, hw⟩ (Nat.le_of_ble_eq_true rfl) (Nat.le_of_ble_eq_true rfl) dX4_numberOf_35
def W_X4_fillIn (n1 : Int) (σ : S0) (Q : Int → S0 → Prop) : Prop :=
  ∀ (P16 : Int → Int → S0 → Prop) (P35 : Int → Int → Int → S0 → Prop) (P61 : Int → Int → Int → Int → S0 → Prop) (P105 : Int → Int → Int → Int → Int → Int → S0 → Prop),
  (∀ (u1 : Int) (k0 : Int) (τ : S0), ((0 ≤ u1 → P35 u1 k0 1 τ) ∧ (u1 < 0 → (0 ≤ (-1 - u1) ∧ (-1 - u1) < 20000) ∧ (∀ (x6 : Int), rg x6 → x6 = τ.2.1 57 (-1 - u1) → (rg (x6 - k0) ∧ P35 u1 k0 (x6 - k0) τ)))) → P16 u1 k0 τ) →
  (∀ (u1 : Int) (u2 : Int) (k0 : Int) (τ : S0), ((u2 < 0 → Q 0 τ) ∧ (0 ≤ u2 → (k0 < 0 → Q 0 τ) ∧ (0 ≤ k0 → rg (τ.1 43 + k0) ∧ ((τ.1 43 + k0) ≤ 4000 → P61 u1 u2 k0 0 τ) ∧ (4000 < (τ.1 43 + k0) → Q 0 τ)))) → P35 u1 u2 k0 τ) →
  (∀ (u1 : Int) (u2 : Int) (u3 : Int) (u4 : Int) (τ : S0), ((u3 ≤ u4 → Q 1 τ) ∧ (u4 < u3 → (0 ≤ u1 → (0 ≤ (τ.1 44 + u1) ∧ (τ.1 44 + u1) < 20000) ∧ (∀ (x15 : Int), rg x15 → x15 = τ.2.1 35 (τ.1 44 + u1) → (P105 u1 u2 u3 u4 (τ.1 43) x15 τ))) ∧ (u1 < 0 → (0 ≤ (u2 + u4) ∧ (u2 + u4) < 4000) ∧ (∀ (x17 : Int), rg x17 → x17 = τ.2.1 65 (u2 + u4) → (P105 u1 u2 u3 u4 (τ.1 43) x17 τ))))) → P61 u1 u2 u3 u4 τ) →
  (∀ (u1 : Int) (u2 : Int) (u3 : Int) (u4 : Int) (k1 : Int) (k2 : Int) (τ : S0), ((0 ≤ k1 ∧ k1 < 4000) ∧ (rg (τ.1 43 + 1) ∧ rg (u4 + 1) ∧ P61 u1 u2 u3 (u4 + 1) (s_v (s_a τ 65 k1 k2) 43 (τ.1 43 + 1)))) → P105 u1 u2 u3 u4 k1 k2 τ) →
  (0 ≤ n1 → P16 n1 0 σ) ∧ (n1 < 0 → (0 ≤ (-1 - n1) ∧ (-1 - n1) < 20000) ∧ (∀ (x3 : Int), rg x3 → x3 = σ.2.1 59 (-1 - n1) → (P16 n1 x3 σ)))
set_option maxRecDepth 100000 in
set_option maxHeartbeats 4000000 in
theorem L_X4_fillIn (l : Launch) (g : gG) (q : Nat → Nat) (lb : Nat) (hlb : lb < 2 ^ 31) {n1 : Int} {σ : S0} {Q : Int → S0 → Prop} (r_n1 : rg n1) (hN : n_m σ) (hw : W_X4_fillIn n1 σ Q) (sz : Nat) : MetI l yX4_fillIn cX4_fillIn 5 (some .boolean) { frames := 0, cells := 0, slots := 0, locals := 0 } g [.ref (q 7), .int (I n1)] (CX g q lb σ) sz xT (p_I (CX g q lb) [43] [65] [] σ Q) 0 0 := by
  refine mkMet (Qc := fun A => QI g A (p_I (CX g q lb) [43] [65] [] σ Q)) (by decide) (Nat.le_of_ble_eq_true rfl) ?_
  intro p e s m below meth c A H ls hx hb hr hml hown hts hlk hnm hsz hP hK hNb hD hA hAe hS hX hl
  have hl : lv_has ls 5 [(0, .ref (q 7)), (1, .int (I n1))] := hl
  have hB := hN
  have hF : f_r [43] [65] [] σ σ := f_0
  obtain ⟨locs, hlocs⟩ : ∃ z : List Loc, z = [] := ⟨_, rfl⟩
  rw [← hlocs] at hS ⊢
  obtain ⟨P16, hP16⟩ : ∃ P : Int → Int → S0 → Prop, ∀ (u1 : Int) (k0 : Int) (τ : S0), (P u1 k0 τ ↔ (rg u1 → rg k0 → n_m τ → f_r [43] [65] [] σ τ → ∀ (H : Heap) (locs : List Loc) (ls : Array Slot), KP g (CX g q lb τ) H → va_D A (CX g q lb τ) → va_S A s.heap H locs → lv_has ls 5 [(0, .ref (q 7)), (1, .int (I u1))] → W p l e ({ frames := 0, cells := 0, slots := 0, locals := 0 }) s m [.ref (q 7), .int (I n1)].toArray below meth c H locs 0 0 (MQ below (QI g A (p_I (CX g q lb) [43] [65] [] σ Q)) [.ref (q 7), .int (I n1)].toArray s 0 0 A) (F0 m 16 ls [.int (I k0)]))) := ⟨_, fun _ _ _ => Iff.rfl⟩
  obtain ⟨P35, hP35⟩ : ∃ P : Int → Int → Int → S0 → Prop, ∀ (u1 : Int) (u2 : Int) (k0 : Int) (τ : S0), (P u1 u2 k0 τ ↔ (rg u1 → rg u2 → rg k0 → n_m τ → f_r [43] [65] [] σ τ → ∀ (H : Heap) (locs : List Loc) (ls : Array Slot), KP g (CX g q lb τ) H → va_D A (CX g q lb τ) → va_S A s.heap H locs → lv_has ls 5 [(0, .ref (q 7)), (1, .int (I u1)), (2, .int (I u2))] → W p l e ({ frames := 0, cells := 0, slots := 0, locals := 0 }) s m [.ref (q 7), .int (I n1)].toArray below meth c H locs 0 0 (MQ below (QI g A (p_I (CX g q lb) [43] [65] [] σ Q)) [.ref (q 7), .int (I n1)].toArray s 0 0 A) (F0 m 35 ls [.int (I k0)]))) := ⟨_, fun _ _ _ _ => Iff.rfl⟩
  obtain ⟨P61, hP61⟩ : ∃ P : Int → Int → Int → Int → S0 → Prop, ∀ (u1 : Int) (u2 : Int) (u3 : Int) (u4 : Int) (τ : S0), (P u1 u2 u3 u4 τ ↔ (rg u1 → rg u2 → rg u3 → rg u4 → n_m τ → f_r [43] [65] [] σ τ → ∀ (H : Heap) (locs : List Loc) (ls : Array Slot), KP g (CX g q lb τ) H → va_D A (CX g q lb τ) → va_S A s.heap H locs → lv_has ls 5 [(0, .ref (q 7)), (1, .int (I u1)), (2, .int (I u2)), (3, .int (I u3)), (4, .int (I u4))] → W p l e ({ frames := 0, cells := 0, slots := 0, locals := 0 }) s m [.ref (q 7), .int (I n1)].toArray below meth c H locs 0 0 (MQ below (QI g A (p_I (CX g q lb) [43] [65] [] σ Q)) [.ref (q 7), .int (I n1)].toArray s 0 0 A) (F0 m 61 ls []))) := ⟨_, fun _ _ _ _ _ => Iff.rfl⟩
  obtain ⟨P105, hP105⟩ : ∃ P : Int → Int → Int → Int → Int → Int → S0 → Prop, ∀ (u1 : Int) (u2 : Int) (u3 : Int) (u4 : Int) (k1 : Int) (k2 : Int) (τ : S0), (P u1 u2 u3 u4 k1 k2 τ ↔ (rg u1 → rg u2 → rg u3 → rg u4 → rg k1 → rg k2 → n_m τ → f_r [43] [65] [] σ τ → ∀ (H : Heap) (locs : List Loc) (ls : Array Slot), KP g (CX g q lb τ) H → va_D A (CX g q lb τ) → va_S A s.heap H locs → lv_has ls 5 [(0, .ref (q 7)), (1, .int (I u1)), (2, .int (I u2)), (3, .int (I u3)), (4, .int (I u4))] → W p l e ({ frames := 0, cells := 0, slots := 0, locals := 0 }) s m [.ref (q 7), .int (I n1)].toArray below meth c H locs 0 0 (MQ below (QI g A (p_I (CX g q lb) [43] [65] [] σ Q)) [.ref (q 7), .int (I n1)].toArray s 0 0 A) (F0 m 105 ls [.int (I k2), .int (I k1), .ref (q 81)]))) := ⟨_, fun _ _ _ _ _ _ _ => Iff.rfl⟩
  refine (fun hw => ?_) (hw P16 P35 P61 P105 ?_ ?_ ?_ ?_)
  ·
    refine lv_iload_n hx hb dX4_fillIn_0 rfl (lv_at hl 1 rfl) ?_
    refine bi_if_ge (tgt := 15) hx hb r_n1 dX4_fillIn_1 (by decide) (fun c1 => ?_) (fun c1 => ?_)
    ·
      replace hw := hw.1 c1
      refine lv_iconst (v := I 0) hx hb dX4_fillIn_15 rfl ?_
      exact (hP16 _ _ _).mp hw r_n1 (by decide) hN hF H locs ls hP hD hS (lv_sub hl [0, 1] rfl)
    ·
      replace hw := hw.2 c1
      refine lv_aload_n hx hb dX4_fillIn_4 rfl (lv_at hl 0 rfl) ?_
      refine gfX4_numbers hx hb hts hK hP hown (hts _ tw_538) dX4_fillIn_5 ?_
      refine lv_iload_n hx hb dX4_fillIn_8 rfl (lv_at hl 1 rfl) ?_
      refine lv_iconst (v := I (-1)) hx hb dX4_fillIn_9 rfl ?_
      refine bi_inot hx hb dX4_fillIn_10 ?_
      obtain ⟨c2, hw⟩ := hw
      refine ldCX4_numbers hx hb hK hP hN c2 dX4_fillIn_11 (fun x3 r_x3 e_x3 => ?_)
      replace hw := hw x3 r_x3 e_x3
      refine lv_goto (tgt := 16) hx hb dX4_fillIn_12 (by decide) ?_
      exact (hP16 _ _ _).mp hw r_n1 r_x3 hN hF H locs ls hP hD hS (lv_sub hl [0, 1] rfl)
  ·
    intro u1 k0 τ hw
    refine (hP16 _ _ _).mpr ?_
    intro r_u1 r_k0 hN hF H locs ls hP hD hS hl
    have hB := hN
    refine lv_istore_n (lv' := [(2, .int (I k0)), (0, .ref (q 7)), (1, .int (I u1))]) hx hb dX4_fillIn_16 rfl hl (by decide) rfl (fun ls hl => ?_)
    refine lv_iload_n hx hb dX4_fillIn_17 rfl (lv_at hl 2 rfl) ?_
    refine bi_if_ge (tgt := 34) hx hb r_u1 dX4_fillIn_18 (by decide) (fun c4 => ?_) (fun c4 => ?_)
    ·
      replace hw := hw.1 c4
      refine lv_iconst (v := I 1) hx hb dX4_fillIn_34 rfl ?_
      exact (hP35 _ _ _ _).mp hw r_u1 r_k0 (by decide) hN hF H locs ls hP hD hS (lv_sub hl [1, 2, 0] rfl)
    ·
      replace hw := hw.2 c4
      refine lv_aload_n hx hb dX4_fillIn_21 rfl (lv_at hl 1 rfl) ?_
      refine gfX4_nextRow hx hb hts hK hP hown (hts _ tw_536) dX4_fillIn_22 ?_
      refine lv_iload_n hx hb dX4_fillIn_25 rfl (lv_at hl 2 rfl) ?_
      refine lv_iconst (v := I (-1)) hx hb dX4_fillIn_26 rfl ?_
      refine bi_inot hx hb dX4_fillIn_27 ?_
      obtain ⟨c5, hw⟩ := hw
      refine ldCX4_nextRow hx hb hK hP hN c5 dX4_fillIn_28 (fun x6 r_x6 e_x6 => ?_)
      replace hw := hw x6 r_x6 e_x6
      refine lv_iload_n hx hb dX4_fillIn_29 rfl (lv_at hl 0 rfl) ?_
      refine bi_isub hx hb dX4_fillIn_30 ?_
      refine lv_goto (tgt := 35) hx hb dX4_fillIn_31 (by decide) ?_
      obtain ⟨c7, hw⟩ := hw
      exact (hP35 _ _ _ _).mp hw r_u1 r_k0 c7 hN hF H locs ls hP hD hS (lv_sub hl [1, 2, 0] rfl)
  ·
    intro u1 u2 k0 τ hw
    refine (hP35 _ _ _ _).mpr ?_
    intro r_u1 r_u2 r_k0 hN hF H locs ls hP hD hS hl
    have hB := hN
    refine lv_istore_n (lv' := [(3, .int (I k0)), (0, .ref (q 7)), (1, .int (I u1)), (2, .int (I u2))]) hx hb dX4_fillIn_35 rfl hl (by decide) rfl (fun ls hl => ?_)
    refine lv_iload_n hx hb dX4_fillIn_36 rfl (lv_at hl 3 rfl) ?_
    refine bi_if_lt (tgt := 56) hx hb r_u2 dX4_fillIn_37 (by decide) (fun c8 => ?_) (fun c8 => ?_)
    ·
      replace hw := hw.1 c8
      refine lv_iconst (v := I 0) hx hb dX4_fillIn_56 rfl ?_
      exact xrz hx hb hr (by decide) hlk hP hK hD hS ⟨_, _, (by decide), rfl, hN, hF, rfl, hw⟩ (Nat.le_of_ble_eq_true rfl) (Nat.le_of_ble_eq_true rfl) dX4_fillIn_57
    ·
      replace hw := hw.2 c8
      refine lv_iload_n hx hb dX4_fillIn_40 rfl (lv_at hl 0 rfl) ?_
      refine bi_if_lt (tgt := 56) hx hb r_k0 dX4_fillIn_41 (by decide) (fun c9 => ?_) (fun c9 => ?_)
      ·
        replace hw := hw.1 c9
        refine lv_iconst (v := I 0) hx hb dX4_fillIn_56 rfl ?_
        exact xrz hx hb hr (by decide) hlk hP hK hD hS ⟨_, _, (by decide), rfl, hN, hF, rfl, hw⟩ (Nat.le_of_ble_eq_true rfl) (Nat.le_of_ble_eq_true rfl) dX4_fillIn_57
      ·
        replace hw := hw.2 c9
        refine lv_aload_n hx hb dX4_fillIn_44 rfl (lv_at hl 1 rfl) ?_
        refine gfX4_fullCount hx hb hts hK hP hown (hts _ tw_551) (x := τ.1 43) rfl dX4_fillIn_45 ?_
        refine lv_iload_n hx hb dX4_fillIn_48 rfl (lv_at hl 0 rfl) ?_
        refine bi_iadd hx hb dX4_fillIn_49 ?_
        refine lv_sipush (v := I 4000) hx hb dX4_fillIn_50 (by decide) ?_
        obtain ⟨c10, hw⟩ := hw
        refine bi_icmp_le (tgt := 58) hx hb c10 (by decide) dX4_fillIn_53 (by decide) (fun c11 => ?_) (fun c11 => ?_)
        ·
          replace hw := hw.1 c11
          refine lv_iconst (v := I 0) hx hb dX4_fillIn_58 rfl ?_
          refine lv_istore (lv' := [(4, .int (I 0)), (3, .int (I k0)), (0, .ref (q 7)), (1, .int (I u1)), (2, .int (I u2))]) hx hb dX4_fillIn_59 hl (by decide) rfl (fun ls hl => ?_)
          exact (hP61 _ _ _ _ _).mp hw r_u1 r_u2 r_k0 (by decide) hN hF H locs ls hP hD hS (lv_sub hl [2, 3, 4, 1, 0] rfl)
        ·
          replace hw := hw.2 c11
          refine lv_iconst (v := I 0) hx hb dX4_fillIn_56 rfl ?_
          exact xrz hx hb hr (by decide) hlk hP hK hD hS ⟨_, _, (by decide), rfl, hN, hF, rfl, hw⟩ (Nat.le_of_ble_eq_true rfl) (Nat.le_of_ble_eq_true rfl) dX4_fillIn_57
  ·
    intro u1 u2 u3 u4 τ hw
    refine (hP61 _ _ _ _ _).mpr ?_
    intro r_u1 r_u2 r_u3 r_u4 hN hF H locs ls hP hD hS hl
    have hB := hN
    refine lv_iload hx hb dX4_fillIn_61 (lv_at hl 4 rfl) ?_
    refine lv_iload_n hx hb dX4_fillIn_63 rfl (lv_at hl 3 rfl) ?_
    refine bi_icmp_ge (tgt := 122) hx hb r_u4 r_u3 dX4_fillIn_64 (by decide) (fun c12 => ?_) (fun c12 => ?_)
    ·
      replace hw := hw.1 c12
      refine lv_iconst (v := I 1) hx hb dX4_fillIn_122 rfl ?_
      exact xrz hx hb hr (by decide) hlk hP hK hD hS ⟨_, _, (by decide), rfl, hN, hF, rfl, hw⟩ (Nat.le_of_ble_eq_true rfl) (Nat.le_of_ble_eq_true rfl) dX4_fillIn_123
    ·
      replace hw := hw.2 c12
      refine lv_aload_n hx hb dX4_fillIn_67 rfl (lv_at hl 0 rfl) ?_
      refine gfX4_full hx hb hts hK hP hown (hts _ tw_550) dX4_fillIn_68 ?_
      refine lv_aload_n hx hb dX4_fillIn_71 rfl (lv_at hl 0 rfl) ?_
      refine gfX4_fullCount hx hb hts hK hP hown (hts _ tw_551) (x := τ.1 43) rfl dX4_fillIn_72 ?_
      refine lv_iload_n hx hb dX4_fillIn_75 rfl (lv_at hl 1 rfl) ?_
      refine bi_if_ge (tgt := 91) hx hb r_u1 dX4_fillIn_76 (by decide) (fun c13 => ?_) (fun c13 => ?_)
      ·
        replace hw := hw.1 c13
        refine lv_aload_n hx hb dX4_fillIn_91 rfl (lv_at hl 0 rfl) ?_
        refine gfX4_assertions hx hb hts hK hP hown (hts _ tw_533) dX4_fillIn_92 ?_
        refine gfNX0_rowStatement hx hb hts hK hP hown (nb_use hNb tn_274) dX4_fillIn_95 ?_
        refine lv_aload_n hx hb dX4_fillIn_98 rfl (lv_at hl 0 rfl) ?_
        refine gfX4_base hx hb hts hK hP hown (hts _ tw_553) (x := τ.1 44) rfl dX4_fillIn_99 ?_
        refine lv_iload_n hx hb dX4_fillIn_102 rfl (lv_at hl 1 rfl) ?_
        refine bi_iadd hx hb dX4_fillIn_103 ?_
        obtain ⟨c14, hw⟩ := hw
        refine ldCX0_rowStatement hx hb hK hP hN c14 dX4_fillIn_104 (fun x15 r_x15 e_x15 => ?_)
        replace hw := hw x15 r_x15 e_x15
        exact (hP105 _ _ _ _ _ _ _).mp hw r_u1 r_u2 r_u3 r_u4 (hB.1 43) r_x15 hN hF H locs ls hP hD hS (lv_sub hl [0, 1, 2, 3, 4] rfl)
      ·
        replace hw := hw.2 c13
        refine lv_aload_n hx hb dX4_fillIn_79 rfl (lv_at hl 0 rfl) ?_
        refine gfX4_full hx hb hts hK hP hown (hts _ tw_550) dX4_fillIn_80 ?_
        refine lv_iload_n hx hb dX4_fillIn_83 rfl (lv_at hl 2 rfl) ?_
        refine lv_iload hx hb dX4_fillIn_84 (lv_at hl 4 rfl) ?_
        refine bi_iadd hx hb dX4_fillIn_86 ?_
        obtain ⟨c16, hw⟩ := hw
        refine ldCX4_full hx hb hK hP hN c16 dX4_fillIn_87 (fun x17 r_x17 e_x17 => ?_)
        replace hw := hw x17 r_x17 e_x17
        refine lv_goto (tgt := 105) hx hb dX4_fillIn_88 (by decide) ?_
        exact (hP105 _ _ _ _ _ _ _).mp hw r_u1 r_u2 r_u3 r_u4 (hB.1 43) r_x17 hN hF H locs ls hP hD hS (lv_sub hl [0, 1, 2, 3, 4] rfl)
  ·
    intro u1 u2 u3 u4 k1 k2 τ hw
    refine (hP105 _ _ _ _ _ _ _).mpr ?_
    intro r_u1 r_u2 r_u3 r_u4 r_k1 r_k2 hN hF H locs ls hP hD hS hl
    have hB := hN
    obtain ⟨c18, hw⟩ := hw
    refine sdCX4_full hx hb hK hP hD hS c18 dX4_fillIn_105 (fun H locs hP hD hS => ?_)
    have hN : n_m (s_a τ 65 k1 k2) := n_a (k := 65) (j := k1) hN (r_k2 : rg k2)
    have hF : f_r [43] [65] [] σ (s_a τ 65 k1 k2) := f_a hF (by decide)
    refine lv_aload_n hx hb dX4_fillIn_106 rfl (lv_at hl 0 rfl) ?_
    refine lv_dup hx hb dX4_fillIn_107 rfl ?_
    refine gfX4_fullCount hx hb hts hK hP hown (hts _ tw_551) (x := τ.1 43) rfl dX4_fillIn_108 ?_
    refine lv_iconst (v := I 1) hx hb dX4_fillIn_111 rfl ?_
    refine bi_iadd hx hb dX4_fillIn_112 ?_
    obtain ⟨c19, hw⟩ := hw
    refine pfX4_fullCount hx hb hts hK hP hD hS hown (hts _ tw_551) dX4_fillIn_113 (fun H locs hP hD hS => ?_)
    have hN : n_m (s_v (s_a τ 65 k1 k2) 43 (τ.1 43 + 1)) := n_v (i := 43) hN (c19 : rg (τ.1 43 + 1))
    have hF : f_r [43] [65] [] σ (s_v (s_a τ 65 k1 k2) 43 (τ.1 43 + 1)) := f_v hF (by decide)
    refine lv_iinc (v := I (u4 + 1)) (lv' := [(4, .int (I (u4 + 1))), (0, .ref (q 7)), (1, .int (I u1)), (2, .int (I u2)), (3, .int (I u3))]) hx hb dX4_fillIn_116 hl (k := 4) rfl (I_add _ _) (by decide) rfl (fun ls hl => ?_)
    refine lv_goto (tgt := 61) hx hb dX4_fillIn_119 (by decide) ?_
    obtain ⟨c20, hw⟩ := hw
    exact (hP61 _ _ _ _ _).mp hw r_u1 r_u2 r_u3 c20 hN hF H locs ls hP hD hS (lv_sub hl [1, 2, 3, 4, 0] rfl)
def W_X4_fill (σ : S0) (Q : Int → S0 → Prop) : Prop :=
  ∀ (P9 : Int → Int → S0 → Prop) (P51 : Int → Int → Int → Int → Int → S0 → Prop) (P115 : Int → Int → Int → S0 → Prop),
  (∀ (u1 : Int) (u2 : Int) (τ : S0), ((τ.1 41 ≤ u2 → (¬ u1 = 1 → Q 0 τ) ∧ (u1 = 1 → Q 1 τ)) ∧ (u2 < τ.1 41 → (0 ≤ u2 ∧ u2 < 20001) ∧ (∀ (x4 : Int), rg x4 → x4 = τ.2.1 62 u2 → ((0 ≤ x4 → rg (τ.1 44 + x4) ∧ ∃ (Q7 : Int → Prop), W_X0_childCount (τ.1 44 + x4) τ Q7 ∧ ∀ (x8 : Int), rg x8 → Q7 x8 → (P51 u1 u2 x4 (τ.1 43) x8 τ)) ∧ (x4 < 0 → P51 u1 u2 x4 (τ.1 43) 0 τ))))) → P9 u1 u2 τ) →
  (∀ (u1 : Int) (u2 : Int) (u3 : Int) (u4 : Int) (k0 : Int) (τ : S0), ((u1 < k0 → Q 0 τ) ∧ (k0 ≤ u1 → ∃ (Q11 : Int → S0 → Prop), W_X4_fillIn u3 τ Q11 ∧ ∀ (x12 : Int) (τ13 : S0), rg x12 → n_m τ13 → f_r [43] [65] [] τ τ13 → Q11 x12 τ13 → ((¬ x12 = 0 → (k0 ≤ 0 → rg (u1 - k0) ∧ P115 (u1 - k0) u2 u4 τ13) ∧ (0 < k0 → (0 ≤ (u1 - k0) ∧ (u1 - k0) < 20000) ∧ (∀ (x18 : Int), rg x18 → x18 = τ13.2.1 66 (u1 - k0) → ((0 ≤ u3 ∧ u3 < 20000) ∧ (∀ (x20 : Int), rg x20 → x20 = τ13.2.1 55 u3 → ((0 ≤ x20 ∧ x20 < 20000) ∧ (∀ (x22 : Int), rg x22 → x22 = τ13.2.1 55 u3 → ((0 ≤ x22 ∧ x22 < 20000) ∧ (P115 (u1 - k0) u2 x18 (s_a (s_a τ13 59 x20 x18) 57 x22 (τ13.1 43))))))))))) ∧ (x12 = 0 → Q 0 τ13)))) → P51 u1 u2 u3 u4 k0 τ) →
  (∀ (u1 : Int) (u2 : Int) (u4 : Int) (τ : S0), ((0 ≤ u1 ∧ u1 < 20000) ∧ (rg (u1 + 1) ∧ rg (u2 + 1) ∧ P9 (u1 + 1) (u2 + 1) (s_a τ 66 u1 u4))) → P115 u1 u2 u4 τ) →
  P9 0 0 (s_v σ 43 0)
set_option maxRecDepth 100000 in
set_option maxHeartbeats 4000000 in
theorem L_X4_fill (l : Launch) (g : gG) (q : Nat → Nat) (lb : Nat) (hlb : lb < 2 ^ 31) {σ : S0} {Q : Int → S0 → Prop} (hN : n_m σ) (hw : W_X4_fill σ Q) (sz : Nat) : MetI l yX4_fill cX4_fill 6 (some .boolean) { frames := 1, cells := 0, slots := 0, locals := 24 } g [.ref (q 7)] (CX g q lb σ) sz xT (p_I (CX g q lb) [43] [57, 59, 65, 66] [] σ Q) 0 0 := by
  refine mkMet (Qc := fun A => QI g A (p_I (CX g q lb) [43] [57, 59, 65, 66] [] σ Q)) (by decide) (Nat.le_of_ble_eq_true rfl) ?_
  intro p e s m below meth c A H ls hx hb hr hml hown hts hlk hnm hsz hP hK hNb hD hA hAe hS hX hl
  have hl : lv_has ls 6 [(0, .ref (q 7))] := hl
  have hB := hN
  have hF : f_r [43] [57, 59, 65, 66] [] σ σ := f_0
  obtain ⟨locs, hlocs⟩ : ∃ z : List Loc, z = [] := ⟨_, rfl⟩
  rw [← hlocs] at hS ⊢
  obtain ⟨P9, hP9⟩ : ∃ P : Int → Int → S0 → Prop, ∀ (u1 : Int) (u2 : Int) (τ : S0), (P u1 u2 τ ↔ (rg u1 → rg u2 → n_m τ → f_r [43] [57, 59, 65, 66] [] σ τ → ∀ (H : Heap) (locs : List Loc) (ls : Array Slot), KP g (CX g q lb τ) H → va_D A (CX g q lb τ) → va_S A s.heap H locs → lv_has ls 6 [(0, .ref (q 7)), (1, .int (I u1)), (2, .int (I u2))] → W p l e ({ frames := 1, cells := 0, slots := 0, locals := 24 }) s m [.ref (q 7)].toArray below meth c H locs 0 0 (MQ below (QI g A (p_I (CX g q lb) [43] [57, 59, 65, 66] [] σ Q)) [.ref (q 7)].toArray s 0 0 A) (F0 m 9 ls []))) := ⟨_, fun _ _ _ => Iff.rfl⟩
  obtain ⟨P51, hP51⟩ : ∃ P : Int → Int → Int → Int → Int → S0 → Prop, ∀ (u1 : Int) (u2 : Int) (u3 : Int) (u4 : Int) (k0 : Int) (τ : S0), (P u1 u2 u3 u4 k0 τ ↔ (rg u1 → rg u2 → rg u3 → rg u4 → rg k0 → n_m τ → f_r [43] [57, 59, 65, 66] [] σ τ → ∀ (H : Heap) (locs : List Loc) (ls : Array Slot), KP g (CX g q lb τ) H → va_D A (CX g q lb τ) → va_S A s.heap H locs → lv_has ls 6 [(0, .ref (q 7)), (1, .int (I u1)), (2, .int (I u2)), (3, .int (I u3)), (4, .int (I u4))] → W p l e ({ frames := 1, cells := 0, slots := 0, locals := 24 }) s m [.ref (q 7)].toArray below meth c H locs 0 0 (MQ below (QI g A (p_I (CX g q lb) [43] [57, 59, 65, 66] [] σ Q)) [.ref (q 7)].toArray s 0 0 A) (F0 m 51 ls [.int (I k0)]))) := ⟨_, fun _ _ _ _ _ _ => Iff.rfl⟩
  obtain ⟨P115, hP115⟩ : ∃ P : Int → Int → Int → S0 → Prop, ∀ (u1 : Int) (u2 : Int) (u4 : Int) (τ : S0), (P u1 u2 u4 τ ↔ (rg u1 → rg u2 → rg u4 → n_m τ → f_r [43] [57, 59, 65, 66] [] σ τ → ∀ (H : Heap) (locs : List Loc) (ls : Array Slot), KP g (CX g q lb τ) H → va_D A (CX g q lb τ) → va_S A s.heap H locs → lv_has ls 6 [(0, .ref (q 7)), (1, .int (I u1)), (2, .int (I u2)), (4, .int (I u4))] → W p l e ({ frames := 1, cells := 0, slots := 0, locals := 24 }) s m [.ref (q 7)].toArray below meth c H locs 0 0 (MQ below (QI g A (p_I (CX g q lb) [43] [57, 59, 65, 66] [] σ Q)) [.ref (q 7)].toArray s 0 0 A) (F0 m 115 ls []))) := ⟨_, fun _ _ _ _ => Iff.rfl⟩
  refine (fun hw => ?_) (hw P9 P51 P115 ?_ ?_ ?_)
  ·
    refine lv_aload_n hx hb dX4_fill_0 rfl (lv_at hl 0 rfl) ?_
    refine lv_iconst (v := I 0) hx hb dX4_fill_1 rfl ?_
    refine pfX4_fullCount hx hb hts hK hP hD hS hown (hts _ tw_551) dX4_fill_2 (fun H locs hP hD hS => ?_)
    have hN : n_m (s_v σ 43 0) := n_v (i := 43) hN ((by decide) : rg 0)
    have hF : f_r [43] [57, 59, 65, 66] [] σ (s_v σ 43 0) := f_v hF (by decide)
    refine lv_iconst (v := I 0) hx hb dX4_fill_5 rfl ?_
    refine lv_istore_n (lv' := [(1, .int (I 0)), (0, .ref (q 7))]) hx hb dX4_fill_6 rfl hl (by decide) rfl (fun ls hl => ?_)
    refine lv_iconst (v := I 0) hx hb dX4_fill_7 rfl ?_
    refine lv_istore_n (lv' := [(2, .int (I 0)), (1, .int (I 0)), (0, .ref (q 7))]) hx hb dX4_fill_8 rfl hl (by decide) rfl (fun ls hl => ?_)
    exact (hP9 _ _ _).mp hw (by decide) (by decide) hN hF H locs ls hP hD hS (lv_sub hl [2, 1, 0] rfl)
  ·
    intro u1 u2 τ hw
    refine (hP9 _ _ _).mpr ?_
    intro r_u1 r_u2 hN hF H locs ls hP hD hS hl
    have hB := hN
    refine lv_iload_n hx hb dX4_fill_9 rfl (lv_at hl 2 rfl) ?_
    refine lv_aload_n hx hb dX4_fill_10 rfl (lv_at hl 0 rfl) ?_
    refine gfX4_toldCount hx hb hts hK hP hown (hts _ tw_545) (x := τ.1 41) rfl dX4_fill_11 ?_
    refine bi_icmp_ge (tgt := 132) hx hb r_u2 (hB.1 41) dX4_fill_14 (by decide) (fun c1 => ?_) (fun c1 => ?_)
    ·
      replace hw := hw.1 c1
      refine lv_iload_n hx hb dX4_fill_132 rfl (lv_at hl 1 rfl) ?_
      refine lv_iconst (v := I 1) hx hb dX4_fill_133 rfl ?_
      refine bi_icmp_ne (tgt := 141) hx hb r_u1 (by decide) dX4_fill_134 (by decide) (fun c2 => ?_) (fun c2 => ?_)
      ·
        replace hw := hw.1 c2
        refine lv_iconst (v := I 0) hx hb dX4_fill_141 rfl ?_
        exact xrz hx hb hr (by decide) hlk hP hK hD hS ⟨_, _, (by decide), rfl, hN, hF, rfl, hw⟩ (Nat.le_of_ble_eq_true rfl) (Nat.le_of_ble_eq_true rfl) dX4_fill_142
      ·
        replace hw := hw.2 c2
        refine lv_iconst (v := I 1) hx hb dX4_fill_137 rfl ?_
        refine lv_goto (tgt := 142) hx hb dX4_fill_138 (by decide) ?_
        exact xrz hx hb hr (by decide) hlk hP hK hD hS ⟨_, _, (by decide), rfl, hN, hF, rfl, hw⟩ (Nat.le_of_ble_eq_true rfl) (Nat.le_of_ble_eq_true rfl) dX4_fill_142
    ·
      replace hw := hw.2 c1
      refine lv_aload_n hx hb dX4_fill_17 rfl (lv_at hl 0 rfl) ?_
      refine gfX4_told hx hb hts hK hP hown (hts _ tw_544) dX4_fill_18 ?_
      refine lv_iload_n hx hb dX4_fill_21 rfl (lv_at hl 2 rfl) ?_
      obtain ⟨c3, hw⟩ := hw
      refine ldCX4_told hx hb hK hP hN c3 dX4_fill_22 (fun x4 r_x4 e_x4 => ?_)
      replace hw := hw x4 r_x4 e_x4
      refine lv_istore_n (lv' := [(3, .int (I x4)), (0, .ref (q 7)), (1, .int (I u1)), (2, .int (I u2))]) hx hb dX4_fill_23 rfl hl (by decide) rfl (fun ls hl => ?_)
      refine lv_aload_n hx hb dX4_fill_24 rfl (lv_at hl 1 rfl) ?_
      refine gfX4_fullCount hx hb hts hK hP hown (hts _ tw_551) (x := τ.1 43) rfl dX4_fill_25 ?_
      refine lv_istore (lv' := [(4, .int (I (τ.1 43))), (3, .int (I x4)), (0, .ref (q 7)), (1, .int (I u1)), (2, .int (I u2))]) hx hb dX4_fill_28 hl (by decide) rfl (fun ls hl => ?_)
      refine lv_iload_n hx hb dX4_fill_30 rfl (lv_at hl 1 rfl) ?_
      refine bi_if_ge (tgt := 38) hx hb r_x4 dX4_fill_31 (by decide) (fun c5 => ?_) (fun c5 => ?_)
      ·
        replace hw := hw.1 c5
        refine lv_aload_n hx hb dX4_fill_38 rfl (lv_at hl 2 rfl) ?_
        refine gfX4_assertions hx hb hts hK hP hown (hts _ tw_533) dX4_fill_39 ?_
        refine lv_aload_n hx hb dX4_fill_42 rfl (lv_at hl 2 rfl) ?_
        refine gfX4_base hx hb hts hK hP hown (hts _ tw_553) (x := τ.1 44) rfl dX4_fill_43 ?_
        refine lv_iload_n hx hb dX4_fill_46 rfl (lv_at hl 1 rfl) ?_
        refine bi_iadd hx hb dX4_fill_47 ?_
        obtain ⟨c6, hw⟩ := hw
        obtain ⟨Q7, hc, hw⟩ := hw
        refine wc_i (X := CX g q lb) (va_runV (As := [.int (I (τ.1 44 + x4))]) (rest := []) ⟨hx, hb, hml, hown, hts⟩ (L_X0_childCount l g q lb hlb c6 hN hc H.size) (cwV 1 hts (TB_V tw_1610 tw_1505 tw_1506 tw_5 co_X0_childCount) rfl rfl rfl (by decide +kernel) ⟨Nat.le_of_ble_eq_true rfl, Nat.le_of_ble_eq_true rfl⟩) (preV (q0 := 3) (ci := 0) rfl xT_bl hP hK hNb hD rfl rfl xT_at) rfl rfl hl.1 rfl (lv_room (Nat.le_of_ble_eq_true rfl)) dX4_fill_48 ⟨Nat.le_of_ble_eq_true rfl, Nat.le_of_ble_eq_true rfl⟩) hP hD hS hA (fun x8 H locs r_x8 hq hP hD hS => ?_)
        replace hw := hw x8 r_x8 hq
        exact (hP51 _ _ _ _ _ _).mp hw r_u1 r_u2 r_x4 (hB.1 43) r_x8 hN hF H locs ls hP hD hS (lv_sub hl [2, 3, 4, 1, 0] rfl)
      ·
        replace hw := hw.2 c5
        refine lv_iconst (v := I 0) hx hb dX4_fill_34 rfl ?_
        refine lv_goto (tgt := 51) hx hb dX4_fill_35 (by decide) ?_
        exact (hP51 _ _ _ _ _ _).mp hw r_u1 r_u2 r_x4 (hB.1 43) (by decide) hN hF H locs ls hP hD hS (lv_sub hl [2, 3, 4, 1, 0] rfl)
  ·
    intro u1 u2 u3 u4 k0 τ hw
    refine (hP51 _ _ _ _ _ _).mpr ?_
    intro r_u1 r_u2 r_u3 r_u4 r_k0 hN hF H locs ls hP hD hS hl
    have hB := hN
    refine lv_istore (lv' := [(5, .int (I k0)), (0, .ref (q 7)), (1, .int (I u1)), (2, .int (I u2)), (3, .int (I u3)), (4, .int (I u4))]) hx hb dX4_fill_51 hl (by decide) rfl (fun ls hl => ?_)
    refine lv_iload hx hb dX4_fill_53 (lv_at hl 0 rfl) ?_
    refine lv_iload_n hx hb dX4_fill_55 rfl (lv_at hl 2 rfl) ?_
    refine bi_icmp_gt (tgt := 67) hx hb r_k0 r_u1 dX4_fill_56 (by decide) (fun c10 => ?_) (fun c10 => ?_)
    ·
      replace hw := hw.1 c10
      refine lv_iconst (v := I 0) hx hb dX4_fill_67 rfl ?_
      exact xrz hx hb hr (by decide) hlk hP hK hD hS ⟨_, _, (by decide), rfl, hN, hF, rfl, hw⟩ (Nat.le_of_ble_eq_true rfl) (Nat.le_of_ble_eq_true rfl) dX4_fill_68
    ·
      replace hw := hw.2 c10
      refine lv_aload_n hx hb dX4_fill_59 rfl (lv_at hl 1 rfl) ?_
      refine lv_iload_n hx hb dX4_fill_60 rfl (lv_at hl 4 rfl) ?_
      obtain ⟨Q11, hc, hw⟩ := hw
      refine wc_I (X := CX g q lb) (va_runV (As := [.int (I u3)]) (rest := []) ⟨hx, hb, hml, hown, hts⟩ (L_X4_fillIn l g q lb hlb r_u3 hN hc H.size) (cwV 1 hts (TB_V tw_1972 tw_1974 ts_100 tw_9 co_X4_fillIn) rfl rfl rfl (by decide +kernel) ⟨Nat.le_of_ble_eq_true rfl, Nat.le_of_ble_eq_true rfl⟩) (preV (q0 := 7) (ci := 4) rfl xT_bl hP hK hNb hD rfl rfl xT_at) rfl rfl hl.1 rfl (lv_room (Nat.le_of_ble_eq_true rfl)) dX4_fill_61 ⟨Nat.le_of_ble_eq_true rfl, Nat.le_of_ble_eq_true rfl⟩) hP hD hS hA (fun x12 τ13 H locs r_x12 hN hf hq hP hD hS => ?_)
      replace hw := hw x12 τ13 r_x12 hN hf hq
      have hF : f_r [43] [57, 59, 65, 66] [] σ τ13 := f_t hF hf (by decide) (by decide) (by decide)
      have hB := hN
      refine bi_if_ne (tgt := 69) hx hb r_x12 dX4_fill_64 (by decide) (fun c14 => ?_) (fun c14 => ?_)
      ·
        replace hw := hw.1 c14
        refine lv_iload_n hx hb dX4_fill_69 rfl (lv_at hl 2 rfl) ?_
        refine lv_iload hx hb dX4_fill_70 (lv_at hl 0 rfl) ?_
        refine bi_isub hx hb dX4_fill_72 ?_
        refine lv_istore_n (lv' := [(1, .int (I (u1 - k0))), (5, .int (I k0)), (0, .ref (q 7)), (2, .int (I u2)), (3, .int (I u3)), (4, .int (I u4))]) hx hb dX4_fill_73 rfl hl (by decide) rfl (fun ls hl => ?_)
        refine lv_iload hx hb dX4_fill_74 (lv_at hl 1 rfl) ?_
        refine bi_if_le (tgt := 115) hx hb r_k0 dX4_fill_76 (by decide) (fun c15 => ?_) (fun c15 => ?_)
        ·
          replace hw := hw.1 c15
          obtain ⟨c16, hw⟩ := hw
          exact (hP115 _ _ _ _).mp hw c16 r_u2 r_u4 hN hF H locs ls hP hD hS (lv_sub hl [2, 0, 3, 5] rfl)
        ·
          replace hw := hw.2 c15
          refine lv_aload_n hx hb dX4_fill_79 rfl (lv_at hl 2 rfl) ?_
          refine gfX4_starts hx hb hts hK hP hown (hts _ tw_552) dX4_fill_80 ?_
          refine lv_iload_n hx hb dX4_fill_83 rfl (lv_at hl 0 rfl) ?_
          obtain ⟨c17, hw⟩ := hw
          refine ldCX4_starts hx hb hK hP hN c17 dX4_fill_84 (fun x18 r_x18 e_x18 => ?_)
          replace hw := hw x18 r_x18 e_x18
          refine lv_istore (lv' := [(4, .int (I x18)), (1, .int (I (u1 - k0))), (5, .int (I k0)), (0, .ref (q 7)), (2, .int (I u2)), (3, .int (I u3))]) hx hb dX4_fill_85 hl (by decide) rfl (fun ls hl => ?_)
          refine lv_aload_n hx hb dX4_fill_87 rfl (lv_at hl 3 rfl) ?_
          refine gfX4_numbers hx hb hts hK hP hown (hts _ tw_538) dX4_fill_88 ?_
          refine lv_aload_n hx hb dX4_fill_91 rfl (lv_at hl 3 rfl) ?_
          refine gfX4_sameAs hx hb hts hK hP hown (hts _ tw_534) dX4_fill_92 ?_
          refine lv_iload_n hx hb dX4_fill_95 rfl (lv_at hl 5 rfl) ?_
          obtain ⟨c19, hw⟩ := hw
          refine ldCX4_sameAs hx hb hK hP hN c19 dX4_fill_96 (fun x20 r_x20 e_x20 => ?_)
          replace hw := hw x20 r_x20 e_x20
          refine lv_iload hx hb dX4_fill_97 (lv_at hl 0 rfl) ?_
          obtain ⟨c21, hw⟩ := hw
          refine sdCX4_numbers hx hb hK hP hD hS c21 dX4_fill_99 (fun H locs hP hD hS => ?_)
          have hN : n_m (s_a τ13 59 x20 x18) := n_a (k := 59) (j := x20) hN (r_x18 : rg x18)
          have hF : f_r [43] [57, 59, 65, 66] [] σ (s_a τ13 59 x20 x18) := f_a hF (by decide)
          refine lv_aload_n hx hb dX4_fill_100 rfl (lv_at hl 3 rfl) ?_
          refine gfX4_nextRow hx hb hts hK hP hown (hts _ tw_536) dX4_fill_101 ?_
          refine lv_aload_n hx hb dX4_fill_104 rfl (lv_at hl 3 rfl) ?_
          refine gfX4_sameAs hx hb hts hK hP hown (hts _ tw_534) dX4_fill_105 ?_
          refine lv_iload_n hx hb dX4_fill_108 rfl (lv_at hl 5 rfl) ?_
          refine ldCX4_sameAs hx hb hK hP hN c19 dX4_fill_109 (fun x22 r_x22 e_x22 => ?_)
          replace hw := hw x22 r_x22 e_x22
          refine lv_aload_n hx hb dX4_fill_110 rfl (lv_at hl 3 rfl) ?_
          refine gfX4_fullCount hx hb hts hK hP hown (hts _ tw_551) (x := τ13.1 43) rfl dX4_fill_111 ?_
          obtain ⟨c23, hw⟩ := hw
          refine sdCX4_nextRow hx hb hK hP hD hS c23 dX4_fill_114 (fun H locs hP hD hS => ?_)
          have hN : n_m (s_a (s_a τ13 59 x20 x18) 57 x22 (τ13.1 43)) := n_a (k := 57) (j := x22) hN ((hB.1 43) : rg (τ13.1 43))
          have hF : f_r [43] [57, 59, 65, 66] [] σ (s_a (s_a τ13 59 x20 x18) 57 x22 (τ13.1 43)) := f_a hF (by decide)
          exact (hP115 _ _ _ _).mp hw (rg_ix c17.1 c17.2 (by decide)) r_u2 r_x18 hN hF H locs ls hP hD hS (lv_sub hl [3, 1, 4, 0] rfl)
      ·
        replace hw := hw.2 c14
        refine lv_iconst (v := I 0) hx hb dX4_fill_67 rfl ?_
        exact xrz hx hb hr (by decide) hlk hP hK hD hS ⟨_, _, (by decide), rfl, hN, hF, rfl, hw⟩ (Nat.le_of_ble_eq_true rfl) (Nat.le_of_ble_eq_true rfl) dX4_fill_68
  ·
    intro u1 u2 u4 τ hw
    refine (hP115 _ _ _ _).mpr ?_
    intro r_u1 r_u2 r_u4 hN hF H locs ls hP hD hS hl
    have hB := hN
    refine lv_aload_n hx hb dX4_fill_115 rfl (lv_at hl 0 rfl) ?_
    refine gfX4_starts hx hb hts hK hP hown (hts _ tw_552) dX4_fill_116 ?_
    refine lv_iload_n hx hb dX4_fill_119 rfl (lv_at hl 1 rfl) ?_
    refine lv_iload hx hb dX4_fill_120 (lv_at hl 3 rfl) ?_
    obtain ⟨c24, hw⟩ := hw
    refine sdCX4_starts hx hb hK hP hD hS c24 dX4_fill_122 (fun H locs hP hD hS => ?_)
    have hN : n_m (s_a τ 66 u1 u4) := n_a (k := 66) (j := u1) hN (r_u4 : rg u4)
    have hF : f_r [43] [57, 59, 65, 66] [] σ (s_a τ 66 u1 u4) := f_a hF (by decide)
    refine lv_iinc (v := I (u1 + 1)) (lv' := [(1, .int (I (u1 + 1))), (0, .ref (q 7)), (2, .int (I u2)), (4, .int (I u4))]) hx hb dX4_fill_123 hl (k := 1) rfl (I_add _ _) (by decide) rfl (fun ls hl => ?_)
    refine lv_iinc (v := I (u2 + 1)) (lv' := [(2, .int (I (u2 + 1))), (1, .int (I (u1 + 1))), (0, .ref (q 7)), (4, .int (I u4))]) hx hb dX4_fill_126 hl (k := 2) rfl (I_add _ _) (by decide) rfl (fun ls hl => ?_)
    refine lv_goto (tgt := 9) hx hb dX4_fill_129 (by decide) ?_
    obtain ⟨c25, hw⟩ := hw
    obtain ⟨c26, hw⟩ := hw
    exact (hP9 _ _ _).mp hw c25 c26 hN hF H locs ls hP hD hS (lv_sub hl [2, 1, 0] rfl)
def W_X4_comesBack (n1 : Int) (σ : S0) (Q : Int → S0 → Prop) : Prop :=
  ∀ (P34 : Int → S0 → Prop),
  (∀ (u2 : Int) (τ : S0), ((τ.1 41 ≤ u2 → Q 1 τ) ∧ (u2 < τ.1 41 → ∃ (Q13 : Int → Prop), W_X4_statementOf u2 τ Q13 ∧ ∀ (x14 : Int), rg x14 → Q13 x14 → ((0 ≤ u2 ∧ u2 < 4000) ∧ (∀ (x17 : Int), rg x17 → x17 = τ.2.1 65 u2 → ((x14 = x17 → rg (u2 + 1) ∧ P34 (u2 + 1) τ) ∧ (¬ x14 = x17 → Q 0 τ)))))) → P34 u2 τ) →
  ∃ (Q1 : S0 → Prop), W_X4_pack n1 σ Q1 ∧ ∀ (τ3 : S0), n_m τ3 → f_r [40, 41, 42, 44] [55, 56, 57, 58, 59, 60, 61, 62, 63, 64] [] σ τ3 → Q1 τ3 → (∃ (Q4 : Int → S0 → Prop), W_X4_fill τ3 Q4 ∧ ∀ (x5 : Int) (τ6 : S0), rg x5 → n_m τ6 → f_r [43] [57, 59, 65, 66] [] τ3 τ6 → Q4 x5 τ6 → ((¬ x5 = 0 → ∃ (Q8 : S0 → Prop), W_X4_unpack n1 τ6 Q8 ∧ ∀ (τ10 : S0), n_m τ10 → f_r [41, 42, 44] [58, 62, 63, 64] [] τ6 τ10 → Q8 τ10 → ((τ10.1 41 = τ10.1 43 → P34 0 τ10) ∧ (¬ τ10.1 41 = τ10.1 43 → Q 0 τ10))) ∧ (x5 = 0 → Q 0 τ6)))
set_option maxRecDepth 100000 in
set_option maxHeartbeats 4000000 in
theorem L_X4_comesBack (l : Launch) (g : gG) (q : Nat → Nat) (lb : Nat) (hlb : lb < 2 ^ 31) {n1 : Int} {σ : S0} {Q : Int → S0 → Prop} (r_n1 : rg n1) (hN : n_m σ) (hw : W_X4_comesBack n1 σ Q) (sz : Nat) : MetI l yX4_comesBack cX4_comesBack 3 (some .boolean) { frames := 4, cells := 0, slots := 0, locals := 93 } g [.ref (q 7), .int (I n1)] (CX g q lb σ) sz xT (p_I (CX g q lb) [40, 41, 42, 43, 44] [55, 56, 57, 58, 59, 60, 61, 62, 63, 64, 65, 66] [] σ Q) 0 0 := by
  refine mkMet (Qc := fun A => QI g A (p_I (CX g q lb) [40, 41, 42, 43, 44] [55, 56, 57, 58, 59, 60, 61, 62, 63, 64, 65, 66] [] σ Q)) (by decide) (Nat.le_of_ble_eq_true rfl) ?_
  intro p e s m below meth c A H ls hx hb hr hml hown hts hlk hnm hsz hP hK hNb hD hA hAe hS hX hl
  have hl : lv_has ls 3 [(0, .ref (q 7)), (1, .int (I n1))] := hl
  have hB := hN
  have hF : f_r [40, 41, 42, 43, 44] [55, 56, 57, 58, 59, 60, 61, 62, 63, 64, 65, 66] [] σ σ := f_0
  obtain ⟨locs, hlocs⟩ : ∃ z : List Loc, z = [] := ⟨_, rfl⟩
  rw [← hlocs] at hS ⊢
  obtain ⟨P34, hP34⟩ : ∃ P : Int → S0 → Prop, ∀ (u2 : Int) (τ : S0), (P u2 τ ↔ (rg u2 → n_m τ → f_r [40, 41, 42, 43, 44] [55, 56, 57, 58, 59, 60, 61, 62, 63, 64, 65, 66] [] σ τ → ∀ (H : Heap) (locs : List Loc) (ls : Array Slot), KP g (CX g q lb τ) H → va_D A (CX g q lb τ) → va_S A s.heap H locs → lv_has ls 3 [(0, .ref (q 7)), (2, .int (I u2))] → W p l e ({ frames := 4, cells := 0, slots := 0, locals := 93 }) s m [.ref (q 7), .int (I n1)].toArray below meth c H locs 0 0 (MQ below (QI g A (p_I (CX g q lb) [40, 41, 42, 43, 44] [55, 56, 57, 58, 59, 60, 61, 62, 63, 64, 65, 66] [] σ Q)) [.ref (q 7), .int (I n1)].toArray s 0 0 A) (F0 m 34 ls []))) := ⟨_, fun _ _ => Iff.rfl⟩
  refine (fun hw => ?_) (hw P34 ?_)
  ·
    refine lv_aload_n hx hb dX4_comesBack_0 rfl (lv_at hl 0 rfl) ?_
    refine lv_iload_n hx hb dX4_comesBack_1 rfl (lv_at hl 1 rfl) ?_
    obtain ⟨Q1, hc, hw⟩ := hw
    refine wc_V (X := CX g q lb) (va_runV (As := [.int (I n1)]) (rest := []) ⟨hx, hb, hml, hown, hts⟩ (L_X4_pack l g q lb hlb r_n1 hN hc H.size) (cwV 1 hts (TB_V tw_1967 tw_1592 tw_1593 tw_9 co_X4_pack) rfl rfl rfl (by decide +kernel) ⟨Nat.le_of_ble_eq_true rfl, Nat.le_of_ble_eq_true rfl⟩) (preV (q0 := 7) (ci := 4) rfl xT_bl hP hK hNb hD rfl rfl xT_at) rfl rfl hl.1 rfl (lv_room (Nat.le_of_ble_eq_true rfl)) dX4_comesBack_2 ⟨Nat.le_of_ble_eq_true rfl, Nat.le_of_ble_eq_true rfl⟩) hP hD hS hA (fun τ3 H locs hN hf hq hP hD hS => ?_)
    replace hw := hw τ3 hN hf hq
    have hF : f_r [40, 41, 42, 43, 44] [55, 56, 57, 58, 59, 60, 61, 62, 63, 64, 65, 66] [] σ τ3 := f_t hF hf (by decide) (by decide) (by decide)
    have hB := hN
    refine lv_aload_n hx hb dX4_comesBack_5 rfl (lv_at hl 0 rfl) ?_
    obtain ⟨Q4, hc, hw⟩ := hw
    refine wc_I (X := CX g q lb) (va_runV (As := []) (rest := []) ⟨hx, hb, hml, hown, hts⟩ (L_X4_fill l g q lb hlb  hN hc H.size) (cwV 0 hts (TB_V tw_1968 tw_1970 ts_99 tw_9 co_X4_fill) rfl rfl rfl (by decide +kernel) ⟨Nat.le_of_ble_eq_true rfl, Nat.le_of_ble_eq_true rfl⟩) (preV (q0 := 7) (ci := 4) rfl xT_bl hP hK hNb hD rfl rfl xT_at) rfl rfl hl.1 rfl (lv_room (Nat.le_of_ble_eq_true rfl)) dX4_comesBack_6 ⟨Nat.le_of_ble_eq_true rfl, Nat.le_of_ble_eq_true rfl⟩) hP hD hS hA (fun x5 τ6 H locs r_x5 hN hf hq hP hD hS => ?_)
    replace hw := hw x5 τ6 r_x5 hN hf hq
    have hF : f_r [40, 41, 42, 43, 44] [55, 56, 57, 58, 59, 60, 61, 62, 63, 64, 65, 66] [] σ τ6 := f_t hF hf (by decide) (by decide) (by decide)
    have hB := hN
    refine bi_if_ne (tgt := 14) hx hb r_x5 dX4_comesBack_9 (by decide) (fun c7 => ?_) (fun c7 => ?_)
    ·
      replace hw := hw.1 c7
      refine lv_aload_n hx hb dX4_comesBack_14 rfl (lv_at hl 0 rfl) ?_
      refine lv_iload_n hx hb dX4_comesBack_15 rfl (lv_at hl 1 rfl) ?_
      obtain ⟨Q8, hc, hw⟩ := hw
      refine wc_V (X := CX g q lb) (va_runV (As := [.int (I n1)]) (rest := []) ⟨hx, hb, hml, hown, hts⟩ (L_X4_unpack l g q lb hlb r_n1 hN hc H.size) (cwV 1 hts (TB_V tw_1976 tw_1659 tw_1660 tw_9 co_X4_unpack) rfl rfl rfl (by decide +kernel) ⟨Nat.le_of_ble_eq_true rfl, Nat.le_of_ble_eq_true rfl⟩) (preV (q0 := 7) (ci := 4) rfl xT_bl hP hK hNb hD rfl rfl xT_at) rfl rfl hl.1 rfl (lv_room (Nat.le_of_ble_eq_true rfl)) dX4_comesBack_16 ⟨Nat.le_of_ble_eq_true rfl, Nat.le_of_ble_eq_true rfl⟩) hP hD hS hA (fun τ10 H locs hN hf hq hP hD hS => ?_)
      replace hw := hw τ10 hN hf hq
      have hF : f_r [40, 41, 42, 43, 44] [55, 56, 57, 58, 59, 60, 61, 62, 63, 64, 65, 66] [] σ τ10 := f_t hF hf (by decide) (by decide) (by decide)
      have hB := hN
      refine lv_aload_n hx hb dX4_comesBack_19 rfl (lv_at hl 0 rfl) ?_
      refine gfX4_toldCount hx hb hts hK hP hown (hts _ tw_545) (x := τ10.1 41) rfl dX4_comesBack_20 ?_
      refine lv_aload_n hx hb dX4_comesBack_23 rfl (lv_at hl 0 rfl) ?_
      refine gfX4_fullCount hx hb hts hK hP hown (hts _ tw_551) (x := τ10.1 43) rfl dX4_comesBack_24 ?_
      refine bi_icmp_eq (tgt := 32) hx hb (hB.1 41) (hB.1 43) dX4_comesBack_27 (by decide) (fun c11 => ?_) (fun c11 => ?_)
      ·
        replace hw := hw.1 c11
        refine lv_iconst (v := I 0) hx hb dX4_comesBack_32 rfl ?_
        refine lv_istore_n (lv' := [(2, .int (I 0)), (0, .ref (q 7)), (1, .int (I n1))]) hx hb dX4_comesBack_33 rfl hl (by decide) rfl (fun ls hl => ?_)
        exact (hP34 _ _).mp hw (by decide) hN hF H locs ls hP hD hS (lv_sub hl [1, 0] rfl)
      ·
        replace hw := hw.2 c11
        refine lv_iconst (v := I 0) hx hb dX4_comesBack_30 rfl ?_
        exact xrz hx hb hr (by decide) hlk hP hK hD hS ⟨_, _, (by decide), rfl, hN, hF, rfl, hw⟩ (Nat.le_of_ble_eq_true rfl) (Nat.le_of_ble_eq_true rfl) dX4_comesBack_31
    ·
      replace hw := hw.2 c7
      refine lv_iconst (v := I 0) hx hb dX4_comesBack_12 rfl ?_
      exact xrz hx hb hr (by decide) hlk hP hK hD hS ⟨_, _, (by decide), rfl, hN, hF, rfl, hw⟩ (Nat.le_of_ble_eq_true rfl) (Nat.le_of_ble_eq_true rfl) dX4_comesBack_13
  ·
    intro u2 τ hw
    refine (hP34 _ _).mpr ?_
    intro r_u2 hN hF H locs ls hP hD hS hl
    have hB := hN
    refine lv_iload_n hx hb dX4_comesBack_34 rfl (lv_at hl 1 rfl) ?_
    refine lv_aload_n hx hb dX4_comesBack_35 rfl (lv_at hl 0 rfl) ?_
    refine gfX4_toldCount hx hb hts hK hP hown (hts _ tw_545) (x := τ.1 41) rfl dX4_comesBack_36 ?_
    refine bi_icmp_ge (tgt := 64) hx hb r_u2 (hB.1 41) dX4_comesBack_39 (by decide) (fun c12 => ?_) (fun c12 => ?_)
    ·
      replace hw := hw.1 c12
      refine lv_iconst (v := I 1) hx hb dX4_comesBack_64 rfl ?_
      exact xrz hx hb hr (by decide) hlk hP hK hD hS ⟨_, _, (by decide), rfl, hN, hF, rfl, hw⟩ (Nat.le_of_ble_eq_true rfl) (Nat.le_of_ble_eq_true rfl) dX4_comesBack_65
    ·
      replace hw := hw.2 c12
      refine lv_aload_n hx hb dX4_comesBack_42 rfl (lv_at hl 0 rfl) ?_
      refine lv_iload_n hx hb dX4_comesBack_43 rfl (lv_at hl 1 rfl) ?_
      obtain ⟨Q13, hc, hw⟩ := hw
      refine wc_i (X := CX g q lb) (va_runV (As := [.int (I u2)]) (rest := []) ⟨hx, hb, hml, hown, hts⟩ (L_X4_statementOf l g q lb hlb r_u2 hN hc H.size) (cwV 1 hts (TB_V tw_1629 tw_1630 tw_1631 tw_9 co_X4_statementOf) rfl rfl rfl (by decide +kernel) ⟨Nat.le_of_ble_eq_true rfl, Nat.le_of_ble_eq_true rfl⟩) (preV (q0 := 7) (ci := 4) rfl xT_bl hP hK hNb hD rfl rfl xT_at) rfl rfl hl.1 rfl (lv_room (Nat.le_of_ble_eq_true rfl)) dX4_comesBack_44 ⟨Nat.le_of_ble_eq_true rfl, Nat.le_of_ble_eq_true rfl⟩) hP hD hS hA (fun x14 H locs r_x14 hq hP hD hS => ?_)
      replace hw := hw x14 r_x14 hq
      refine lv_aload_n hx hb dX4_comesBack_47 rfl (lv_at hl 0 rfl) ?_
      refine gfX4_full hx hb hts hK hP hown (hts _ tw_550) dX4_comesBack_48 ?_
      refine lv_iload_n hx hb dX4_comesBack_51 rfl (lv_at hl 1 rfl) ?_
      obtain ⟨c16, hw⟩ := hw
      refine ldCX4_full hx hb hK hP hN c16 dX4_comesBack_52 (fun x17 r_x17 e_x17 => ?_)
      replace hw := hw x17 r_x17 e_x17
      refine bi_icmp_eq (tgt := 58) hx hb r_x14 r_x17 dX4_comesBack_53 (by decide) (fun c18 => ?_) (fun c18 => ?_)
      ·
        replace hw := hw.1 c18
        refine lv_iinc (v := I (u2 + 1)) (lv' := [(2, .int (I (u2 + 1))), (0, .ref (q 7))]) hx hb dX4_comesBack_58 hl (k := 1) rfl (I_add _ _) (by decide) rfl (fun ls hl => ?_)
        refine lv_goto (tgt := 34) hx hb dX4_comesBack_61 (by decide) ?_
        obtain ⟨c19, hw⟩ := hw
        exact (hP34 _ _).mp hw c19 hN hF H locs ls hP hD hS (lv_sub hl [1, 0] rfl)
      ·
        replace hw := hw.2 c18
        refine lv_iconst (v := I 0) hx hb dX4_comesBack_56 rfl ?_
        exact xrz hx hb hr (by decide) hlk hP hK hD hS ⟨_, _, (by decide), rfl, hN, hF, rfl, hw⟩ (Nat.le_of_ble_eq_true rfl) (Nat.le_of_ble_eq_true rfl) dX4_comesBack_57
def W_X5_begin (σ : S0) (Q : S0 → Prop) : Prop :=
  Q (s_v (s_v σ 63 0) 64 0)
set_option maxRecDepth 100000 in
set_option maxHeartbeats 4000000 in
theorem L_X5_begin (l : Launch) (g : gG) (q : Nat → Nat) (lb : Nat) (hlb : lb < 2 ^ 31) {σ : S0} {Q : S0 → Prop} (hN : n_m σ) (hw : W_X5_begin σ Q) (sz : Nat) : MetV l yX5_begin cX5_begin 1 { frames := 0, cells := 0, slots := 0, locals := 0 } g [.ref (q 12)] (CX g q lb σ) sz xT (p_V (CX g q lb) [63, 64] [] [] σ Q) 0 0 := by
  refine mkMet (Qc := fun A => QV g A (p_V (CX g q lb) [63, 64] [] [] σ Q)) (by decide) (Nat.le_of_ble_eq_true rfl) ?_
  intro p e s m below meth c A H ls hx hb hr hml hown hts hlk hnm hsz hP hK hNb hD hA hAe hS hX hl
  have hl : lv_has ls 1 [(0, .ref (q 12))] := hl
  have hB := hN
  have hF : f_r [63, 64] [] [] σ σ := f_0
  obtain ⟨locs, hlocs⟩ : ∃ z : List Loc, z = [] := ⟨_, rfl⟩
  rw [← hlocs] at hS ⊢
  refine lv_aload_n hx hb dX5_begin_0 rfl (lv_at hl 0 rfl) ?_
  refine lv_iconst (v := I 0) hx hb dX5_begin_1 rfl ?_
  refine pfX5_draftLength hx hb hts hK hP hD hS hown (hts _ tw_867) dX5_begin_2 (fun H locs hP hD hS => ?_)
  have hN : n_m (s_v σ 63 0) := n_v (i := 63) hN ((by decide) : rg 0)
  have hF : f_r [63, 64] [] [] σ (s_v σ 63 0) := f_v hF (by decide)
  refine lv_aload_n hx hb dX5_begin_5 rfl (lv_at hl 0 rfl) ?_
  refine lv_iconst (v := I 0) hx hb dX5_begin_6 rfl ?_
  refine pfX5_overflow hx hb hts hK hP hD hS hown (hts _ tw_868) (by decide)  dX5_begin_7 (fun H locs hP hD hS => ?_)
  have hN : n_m (s_v (s_v σ 63 0) 64 0) := n_v (i := 64) hN ((by decide) : rg 0)
  have hF : f_r [63, 64] [] [] σ (s_v (s_v σ 63 0) 64 0) := f_v hF (by decide)
  exact xrv hx hb hr hlk hP hK hD hS ⟨_, hN, hF, rfl, hw⟩ (Nat.le_of_ble_eq_true rfl) (Nat.le_of_ble_eq_true rfl) dX5_begin_10
def W_X5_put (n1 : Int) (σ : S0) (Q : S0 → Prop) : Prop :=
  (¬ σ.1 63 = 24000 → (σ.1 67 = 0 → ∀ (x3 : Int), 0 ≤ x3 → x3 ≤ 65535 → x3 = n1 % 65536 → ((0 ≤ σ.1 63 ∧ σ.1 63 < 24000) ∧ (rg (σ.1 63 + 1) ∧ Q (s_v (s_a σ 101 (σ.1 63) x3) 63 (σ.1 63 + 1))))) ∧ (¬ σ.1 67 = 0 → ∀ (x6 : Int), 0 ≤ x6 → x6 ≤ 65535 → x6 = n1 % 65536 → ((0 ≤ σ.1 63 ∧ σ.1 63 < 24000) ∧ (rg (σ.1 63 + 1) ∧ Q (s_v (s_a σ 102 (σ.1 63) x6) 63 (σ.1 63 + 1)))))) ∧ (σ.1 63 = 24000 → Q (s_v σ 64 1))
set_option maxRecDepth 100000 in
set_option maxHeartbeats 4000000 in
theorem L_X5_put (l : Launch) (g : gG) (q : Nat → Nat) (lb : Nat) (hlb : lb < 2 ^ 31) {n1 : Int} {σ : S0} {Q : S0 → Prop} (r_n1 : rg n1) (hN : n_m σ) (hw : W_X5_put n1 σ Q) (sz : Nat) : MetV l yX5_put cX5_put 2 { frames := 0, cells := 0, slots := 0, locals := 0 } g [.ref (q 12), .int (I n1)] (CX g q lb σ) sz xT (p_V (CX g q lb) [63, 64] [101, 102] [] σ Q) 0 0 := by
  refine mkMet (Qc := fun A => QV g A (p_V (CX g q lb) [63, 64] [101, 102] [] σ Q)) (by decide) (Nat.le_of_ble_eq_true rfl) ?_
  intro p e s m below meth c A H ls hx hb hr hml hown hts hlk hnm hsz hP hK hNb hD hA hAe hS hX hl
  have hl : lv_has ls 2 [(0, .ref (q 12)), (1, .int (I n1))] := hl
  have hB := hN
  have hF : f_r [63, 64] [101, 102] [] σ σ := f_0
  obtain ⟨locs, hlocs⟩ : ∃ z : List Loc, z = [] := ⟨_, rfl⟩
  rw [← hlocs] at hS ⊢
  refine lv_aload_n hx hb dX5_put_0 rfl (lv_at hl 0 rfl) ?_
  refine gfX5_draftLength hx hb hts hK hP hown (hts _ tw_867) (x := σ.1 63) rfl dX5_put_1 ?_
  refine lv_sipush (v := I 24000) hx hb dX5_put_4 (by decide) ?_
  refine bi_icmp_ne (tgt := 16) hx hb (hB.1 63) (by decide) dX5_put_7 (by decide) (fun c1 => ?_) (fun c1 => ?_)
  ·
    replace hw := hw.1 c1
    refine lv_aload_n hx hb dX5_put_16 rfl (lv_at hl 0 rfl) ?_
    rcases Classical.em (σ.1 67 = 0) with c2 | c2
    ·
      replace hw := hw.1 c2
      refine gfX5_draft_0 hx hb hts hK hP hown (hts _ tw_866) c2 dX5_put_17 ?_
      refine lv_aload_n hx hb dX5_put_20 rfl (lv_at hl 0 rfl) ?_
      refine gfX5_draftLength hx hb hts hK hP hown (hts _ tw_867) (x := σ.1 63) rfl dX5_put_21 ?_
      refine lv_iload_n hx hb dX5_put_24 rfl (lv_at hl 1 rfl) ?_
      refine bi_i2c hx hb dX5_put_25 (fun x3 l_x3 h_x3 e_x3 => ?_)
      replace hw := hw x3 l_x3 h_x3 e_x3
      obtain ⟨c4, hw⟩ := hw
      refine sdCX5_draft hx hb hK hP hD hS c4 ⟨l_x3, h_x3⟩ dX5_put_26 (fun H locs hP hD hS => ?_)
      have hN : n_m (s_a σ 101 (σ.1 63) x3) := n_a (k := 101) (j := σ.1 63) hN ((⟨by omega, by omega⟩ : rg x3) : rg x3)
      have hF : f_r [63, 64] [101, 102] [] σ (s_a σ 101 (σ.1 63) x3) := f_a hF (by decide)
      refine lv_aload_n hx hb dX5_put_27 rfl (lv_at hl 0 rfl) ?_
      refine lv_dup hx hb dX5_put_28 rfl ?_
      refine gfX5_draftLength hx hb hts hK hP hown (hts _ tw_867) (x := σ.1 63) rfl dX5_put_29 ?_
      refine lv_iconst (v := I 1) hx hb dX5_put_32 rfl ?_
      refine bi_iadd hx hb dX5_put_33 ?_
      obtain ⟨c5, hw⟩ := hw
      refine pfX5_draftLength hx hb hts hK hP hD hS hown (hts _ tw_867) dX5_put_34 (fun H locs hP hD hS => ?_)
      have hN : n_m (s_v (s_a σ 101 (σ.1 63) x3) 63 (σ.1 63 + 1)) := n_v (i := 63) hN (c5 : rg (σ.1 63 + 1))
      have hF : f_r [63, 64] [101, 102] [] σ (s_v (s_a σ 101 (σ.1 63) x3) 63 (σ.1 63 + 1)) := f_v hF (by decide)
      exact xrv hx hb hr hlk hP hK hD hS ⟨_, hN, hF, rfl, hw⟩ (Nat.le_of_ble_eq_true rfl) (Nat.le_of_ble_eq_true rfl) dX5_put_37
    ·
      replace hw := hw.2 c2
      refine gfX5_draft_1 hx hb hts hK hP hown (hts _ tw_866) c2 dX5_put_17 ?_
      refine lv_aload_n hx hb dX5_put_20 rfl (lv_at hl 0 rfl) ?_
      refine gfX5_draftLength hx hb hts hK hP hown (hts _ tw_867) (x := σ.1 63) rfl dX5_put_21 ?_
      refine lv_iload_n hx hb dX5_put_24 rfl (lv_at hl 1 rfl) ?_
      refine bi_i2c hx hb dX5_put_25 (fun x6 l_x6 h_x6 e_x6 => ?_)
      replace hw := hw x6 l_x6 h_x6 e_x6
      obtain ⟨c7, hw⟩ := hw
      refine sdCX5_shown hx hb hK hP hD hS c7 ⟨l_x6, h_x6⟩ dX5_put_26 (fun H locs hP hD hS => ?_)
      have hN : n_m (s_a σ 102 (σ.1 63) x6) := n_a (k := 102) (j := σ.1 63) hN ((⟨by omega, by omega⟩ : rg x6) : rg x6)
      have hF : f_r [63, 64] [101, 102] [] σ (s_a σ 102 (σ.1 63) x6) := f_a hF (by decide)
      refine lv_aload_n hx hb dX5_put_27 rfl (lv_at hl 0 rfl) ?_
      refine lv_dup hx hb dX5_put_28 rfl ?_
      refine gfX5_draftLength hx hb hts hK hP hown (hts _ tw_867) (x := σ.1 63) rfl dX5_put_29 ?_
      refine lv_iconst (v := I 1) hx hb dX5_put_32 rfl ?_
      refine bi_iadd hx hb dX5_put_33 ?_
      obtain ⟨c8, hw⟩ := hw
      refine pfX5_draftLength hx hb hts hK hP hD hS hown (hts _ tw_867) dX5_put_34 (fun H locs hP hD hS => ?_)
      have hN : n_m (s_v (s_a σ 102 (σ.1 63) x6) 63 (σ.1 63 + 1)) := n_v (i := 63) hN (c8 : rg (σ.1 63 + 1))
      have hF : f_r [63, 64] [101, 102] [] σ (s_v (s_a σ 102 (σ.1 63) x6) 63 (σ.1 63 + 1)) := f_v hF (by decide)
      exact xrv hx hb hr hlk hP hK hD hS ⟨_, hN, hF, rfl, hw⟩ (Nat.le_of_ble_eq_true rfl) (Nat.le_of_ble_eq_true rfl) dX5_put_37
  ·
    replace hw := hw.2 c1
    refine lv_aload_n hx hb dX5_put_10 rfl (lv_at hl 0 rfl) ?_
    refine lv_iconst (v := I 1) hx hb dX5_put_11 rfl ?_
    refine pfX5_overflow hx hb hts hK hP hD hS hown (hts _ tw_868) (by decide)  dX5_put_12 (fun H locs hP hD hS => ?_)
    have hN : n_m (s_v σ 64 1) := n_v (i := 64) hN ((by decide) : rg 1)
    have hF : f_r [63, 64] [101, 102] [] σ (s_v σ 64 1) := f_v hF (by decide)
    exact xrv hx hb hr hlk hP hK hD hS ⟨_, hN, hF, rfl, hw⟩ (Nat.le_of_ble_eq_true rfl) (Nat.le_of_ble_eq_true rfl) dX5_put_15
def W_X5_putBlank (σ : S0) (Q : S0 → Prop) : Prop :=
  (σ.1 63 ≤ 0 → Q σ) ∧ (0 < σ.1 63 → ∃ (Q2 : S0 → Prop), W_X5_put 32 σ Q2 ∧ ∀ (τ4 : S0), n_m τ4 → f_r [63, 64] [101, 102] [] σ τ4 → Q2 τ4 → (Q τ4))
set_option maxRecDepth 100000 in
set_option maxHeartbeats 4000000 in
theorem L_X5_putBlank (l : Launch) (g : gG) (q : Nat → Nat) (lb : Nat) (hlb : lb < 2 ^ 31) {σ : S0} {Q : S0 → Prop} (hN : n_m σ) (hw : W_X5_putBlank σ Q) (sz : Nat) : MetV l yX5_putBlank cX5_putBlank 1 { frames := 1, cells := 0, slots := 0, locals := 21 } g [.ref (q 12)] (CX g q lb σ) sz xT (p_V (CX g q lb) [63, 64] [101, 102] [] σ Q) 0 0 := by
  refine mkMet (Qc := fun A => QV g A (p_V (CX g q lb) [63, 64] [101, 102] [] σ Q)) (by decide) (Nat.le_of_ble_eq_true rfl) ?_
  intro p e s m below meth c A H ls hx hb hr hml hown hts hlk hnm hsz hP hK hNb hD hA hAe hS hX hl
  have hl : lv_has ls 1 [(0, .ref (q 12))] := hl
  have hB := hN
  have hF : f_r [63, 64] [101, 102] [] σ σ := f_0
  obtain ⟨locs, hlocs⟩ : ∃ z : List Loc, z = [] := ⟨_, rfl⟩
  rw [← hlocs] at hS ⊢
  refine lv_aload_n hx hb dX5_putBlank_0 rfl (lv_at hl 0 rfl) ?_
  refine gfX5_draftLength hx hb hts hK hP hown (hts _ tw_867) (x := σ.1 63) rfl dX5_putBlank_1 ?_
  refine bi_if_le (tgt := 13) hx hb (hB.1 63) dX5_putBlank_4 (by decide) (fun c1 => ?_) (fun c1 => ?_)
  ·
    replace hw := hw.1 c1
    exact xrv hx hb hr hlk hP hK hD hS ⟨_, hN, hF, rfl, hw⟩ (Nat.le_of_ble_eq_true rfl) (Nat.le_of_ble_eq_true rfl) dX5_putBlank_13
  ·
    replace hw := hw.2 c1
    refine lv_aload_n hx hb dX5_putBlank_7 rfl (lv_at hl 0 rfl) ?_
    refine lv_bipush (v := I 32) hx hb dX5_putBlank_8 (by decide) ?_
    obtain ⟨Q2, hc, hw⟩ := hw
    refine wc_V (X := CX g q lb) (va_runV (As := [.int (I 32)]) (rest := []) ⟨hx, hb, hml, hown, hts⟩ (L_X5_put l g q lb hlb (by decide) hN hc H.size) (cwV 1 hts (TB_V tw_1548 tw_1549 tw_1550 tw_14 co_X5_put) rfl rfl rfl (by decide +kernel) ⟨Nat.le_of_ble_eq_true rfl, Nat.le_of_ble_eq_true rfl⟩) (preV (q0 := 12) (ci := 5) rfl xT_bl hP hK hNb hD rfl rfl xT_at) rfl rfl hl.1 rfl (lv_room (Nat.le_of_ble_eq_true rfl)) dX5_putBlank_10 ⟨Nat.le_of_ble_eq_true rfl, Nat.le_of_ble_eq_true rfl⟩) hP hD hS hA (fun τ4 H locs hN hf hq hP hD hS => ?_)
    replace hw := hw τ4 hN hf hq
    have hF : f_r [63, 64] [101, 102] [] σ τ4 := f_t hF hf (by decide) (by decide) (by decide)
    have hB := hN
    exact xrv hx hb hr hlk hP hK hD hS ⟨_, hN, hF, rfl, hw⟩ (Nat.le_of_ble_eq_true rfl) (Nat.le_of_ble_eq_true rfl) dX5_putBlank_13
def W_X5_putToken (n1 : Int) (σ : S0) (Q : S0 → Prop) : Prop :=
  ∃ (Q1 : S0 → Prop), W_X5_putBlank σ Q1 ∧ ∀ (τ3 : S0), n_m τ3 → f_r [63, 64] [101, 102] [] σ τ3 → Q1 τ3 → (∃ (Q4 : S0 → Prop), W_X5_put n1 τ3 Q4 ∧ ∀ (τ6 : S0), n_m τ6 → f_r [63, 64] [101, 102] [] τ3 τ6 → Q4 τ6 → (Q τ6))
set_option maxRecDepth 100000 in
set_option maxHeartbeats 4000000 in
theorem L_X5_putToken (l : Launch) (g : gG) (q : Nat → Nat) (lb : Nat) (hlb : lb < 2 ^ 31) {n1 : Int} {σ : S0} {Q : S0 → Prop} (r_n1 : rg n1) (hN : n_m σ) (hw : W_X5_putToken n1 σ Q) (sz : Nat) : MetV l yX5_putToken cX5_putToken 2 { frames := 2, cells := 0, slots := 0, locals := 41 } g [.ref (q 12), .int (I n1)] (CX g q lb σ) sz xT (p_V (CX g q lb) [63, 64] [101, 102] [] σ Q) 0 0 := by
  refine mkMet (Qc := fun A => QV g A (p_V (CX g q lb) [63, 64] [101, 102] [] σ Q)) (by decide) (Nat.le_of_ble_eq_true rfl) ?_
  intro p e s m below meth c A H ls hx hb hr hml hown hts hlk hnm hsz hP hK hNb hD hA hAe hS hX hl
  have hl : lv_has ls 2 [(0, .ref (q 12)), (1, .int (I n1))] := hl
  have hB := hN
  have hF : f_r [63, 64] [101, 102] [] σ σ := f_0
  obtain ⟨locs, hlocs⟩ : ∃ z : List Loc, z = [] := ⟨_, rfl⟩
  rw [← hlocs] at hS ⊢
  refine lv_aload_n hx hb dX5_putToken_0 rfl (lv_at hl 0 rfl) ?_
  obtain ⟨Q1, hc, hw⟩ := hw
  refine wc_V (X := CX g q lb) (va_runV (As := []) (rest := []) ⟨hx, hb, hml, hown, hts⟩ (L_X5_putBlank l g q lb hlb  hN hc H.size) (cwV 0 hts (TB_V tw_1544 tw_1545 tw_1546 tw_14 co_X5_putBlank) rfl rfl rfl (by decide +kernel) ⟨Nat.le_of_ble_eq_true rfl, Nat.le_of_ble_eq_true rfl⟩) (preV (q0 := 12) (ci := 5) rfl xT_bl hP hK hNb hD rfl rfl xT_at) rfl rfl hl.1 rfl (lv_room (Nat.le_of_ble_eq_true rfl)) dX5_putToken_1 ⟨Nat.le_of_ble_eq_true rfl, Nat.le_of_ble_eq_true rfl⟩) hP hD hS hA (fun τ3 H locs hN hf hq hP hD hS => ?_)
  replace hw := hw τ3 hN hf hq
  have hF : f_r [63, 64] [101, 102] [] σ τ3 := f_t hF hf (by decide) (by decide) (by decide)
  have hB := hN
  refine lv_aload_n hx hb dX5_putToken_4 rfl (lv_at hl 0 rfl) ?_
  refine lv_iload_n hx hb dX5_putToken_5 rfl (lv_at hl 1 rfl) ?_
  obtain ⟨Q4, hc, hw⟩ := hw
  refine wc_V (X := CX g q lb) (va_runV (As := [.int (I n1)]) (rest := []) ⟨hx, hb, hml, hown, hts⟩ (L_X5_put l g q lb hlb r_n1 hN hc H.size) (cwV 1 hts (TB_V tw_1548 tw_1549 tw_1550 tw_14 co_X5_put) rfl rfl rfl (by decide +kernel) ⟨Nat.le_of_ble_eq_true rfl, Nat.le_of_ble_eq_true rfl⟩) (preV (q0 := 12) (ci := 5) rfl xT_bl hP hK hNb hD rfl rfl xT_at) rfl rfl hl.1 rfl (lv_room (Nat.le_of_ble_eq_true rfl)) dX5_putToken_6 ⟨Nat.le_of_ble_eq_true rfl, Nat.le_of_ble_eq_true rfl⟩) hP hD hS hA (fun τ6 H locs hN hf hq hP hD hS => ?_)
  replace hw := hw τ6 hN hf hq
  have hF : f_r [63, 64] [101, 102] [] σ τ6 := f_t hF hf (by decide) (by decide) (by decide)
  have hB := hN
  exact xrv hx hb hr hlk hP hK hD hS ⟨_, hN, hF, rfl, hw⟩ (Nat.le_of_ble_eq_true rfl) (Nat.le_of_ble_eq_true rfl) dX5_putToken_9
def W_X5_putName (n1 : Int) (σ : S0) (Q : S0 → Prop) : Prop :=
  ∀ (P14 : Int → Int → S0 → Prop),
  (∀ (u1 : Int) (u2 : Int) (τ : S0), ((0 ≤ (u1 + 1) ∧ (u1 + 1) < 2501) ∧ (∀ (x7 : Int), rg x7 → x7 = τ.2.1 3 (u1 + 1) → ((x7 ≤ u2 → Q τ) ∧ (u2 < x7 → (¬ τ.1 64 = 0 → Q τ) ∧ (τ.1 64 = 0 → (0 ≤ u2 ∧ u2 < 30000) ∧ (∀ (x11 : Int), rg x11 → x11 = τ.2.1 2 u2 → (∃ (Q12 : S0 → Prop), W_X5_put x11 τ Q12 ∧ ∀ (τ14 : S0), n_m τ14 → f_r [63, 64] [101, 102] [] τ τ14 → Q12 τ14 → (rg (u2 + 1) ∧ P14 u1 (u2 + 1) τ14)))))))) → P14 u1 u2 τ) →
  ∃ (Q1 : S0 → Prop), W_X5_putBlank σ Q1 ∧ ∀ (τ3 : S0), n_m τ3 → f_r [63, 64] [101, 102] [] σ τ3 → Q1 τ3 → ((0 ≤ n1 ∧ n1 < 2501) ∧ (∀ (x5 : Int), rg x5 → x5 = τ3.2.1 3 n1 → (P14 n1 x5 τ3)))
set_option maxRecDepth 100000 in
set_option maxHeartbeats 4000000 in
theorem L_X5_putName (l : Launch) (g : gG) (q : Nat → Nat) (lb : Nat) (hlb : lb < 2 ^ 31) {n1 : Int} {σ : S0} {Q : S0 → Prop} (r_n1 : rg n1) (hN : n_m σ) (hw : W_X5_putName n1 σ Q) (sz : Nat) : MetV l yX5_putName cX5_putName 3 { frames := 2, cells := 0, slots := 0, locals := 41 } g [.ref (q 12), .int (I n1)] (CX g q lb σ) sz xT (p_V (CX g q lb) [63, 64] [101, 102] [] σ Q) 0 0 := by
  refine mkMet (Qc := fun A => QV g A (p_V (CX g q lb) [63, 64] [101, 102] [] σ Q)) (by decide) (Nat.le_of_ble_eq_true rfl) ?_
  intro p e s m below meth c A H ls hx hb hr hml hown hts hlk hnm hsz hP hK hNb hD hA hAe hS hX hl
  have hl : lv_has ls 3 [(0, .ref (q 12)), (1, .int (I n1))] := hl
  have hB := hN
  have hF : f_r [63, 64] [101, 102] [] σ σ := f_0
  obtain ⟨locs, hlocs⟩ : ∃ z : List Loc, z = [] := ⟨_, rfl⟩
  rw [← hlocs] at hS ⊢
  obtain ⟨P14, hP14⟩ : ∃ P : Int → Int → S0 → Prop, ∀ (u1 : Int) (u2 : Int) (τ : S0), (P u1 u2 τ ↔ (rg u1 → rg u2 → n_m τ → f_r [63, 64] [101, 102] [] σ τ → ∀ (H : Heap) (locs : List Loc) (ls : Array Slot), KP g (CX g q lb τ) H → va_D A (CX g q lb τ) → va_S A s.heap H locs → lv_has ls 3 [(0, .ref (q 12)), (1, .int (I u1)), (2, .int (I u2))] → W p l e ({ frames := 2, cells := 0, slots := 0, locals := 41 }) s m [.ref (q 12), .int (I n1)].toArray below meth c H locs 0 0 (MQ below (QV g A (p_V (CX g q lb) [63, 64] [101, 102] [] σ Q)) [.ref (q 12), .int (I n1)].toArray s 0 0 A) (F0 m 14 ls []))) := ⟨_, fun _ _ _ => Iff.rfl⟩
  refine (fun hw => ?_) (hw P14 ?_)
  ·
    refine lv_aload_n hx hb dX5_putName_0 rfl (lv_at hl 0 rfl) ?_
    obtain ⟨Q1, hc, hw⟩ := hw
    refine wc_V (X := CX g q lb) (va_runV (As := []) (rest := []) ⟨hx, hb, hml, hown, hts⟩ (L_X5_putBlank l g q lb hlb  hN hc H.size) (cwV 0 hts (TB_V tw_1544 tw_1545 tw_1546 tw_14 co_X5_putBlank) rfl rfl rfl (by decide +kernel) ⟨Nat.le_of_ble_eq_true rfl, Nat.le_of_ble_eq_true rfl⟩) (preV (q0 := 12) (ci := 5) rfl xT_bl hP hK hNb hD rfl rfl xT_at) rfl rfl hl.1 rfl (lv_room (Nat.le_of_ble_eq_true rfl)) dX5_putName_1 ⟨Nat.le_of_ble_eq_true rfl, Nat.le_of_ble_eq_true rfl⟩) hP hD hS hA (fun τ3 H locs hN hf hq hP hD hS => ?_)
    replace hw := hw τ3 hN hf hq
    have hF : f_r [63, 64] [101, 102] [] σ τ3 := f_t hF hf (by decide) (by decide) (by decide)
    have hB := hN
    refine lv_aload_n hx hb dX5_putName_4 rfl (lv_at hl 0 rfl) ?_
    refine gfX5_library hx hb hts hK hP hown (hts _ tw_865) dX5_putName_5 ?_
    refine gfNX3_nameAt hx hb hts hK hP hown (nb_use hNb tn_39) dX5_putName_8 ?_
    refine lv_iload_n hx hb dX5_putName_11 rfl (lv_at hl 1 rfl) ?_
    obtain ⟨c4, hw⟩ := hw
    refine ldCX3_nameAt hx hb hK hP hN c4 dX5_putName_12 (fun x5 r_x5 e_x5 => ?_)
    replace hw := hw x5 r_x5 e_x5
    refine lv_istore_n (lv' := [(2, .int (I x5)), (0, .ref (q 12)), (1, .int (I n1))]) hx hb dX5_putName_13 rfl hl (by decide) rfl (fun ls hl => ?_)
    exact (hP14 _ _ _).mp hw r_n1 r_x5 hN hF H locs ls hP hD hS (lv_sub hl [1, 2, 0] rfl)
  ·
    intro u1 u2 τ hw
    refine (hP14 _ _ _).mpr ?_
    intro r_u1 r_u2 hN hF H locs ls hP hD hS hl
    have hB := hN
    refine lv_iload_n hx hb dX5_putName_14 rfl (lv_at hl 2 rfl) ?_
    refine lv_aload_n hx hb dX5_putName_15 rfl (lv_at hl 0 rfl) ?_
    refine gfX5_library hx hb hts hK hP hown (hts _ tw_865) dX5_putName_16 ?_
    refine gfNX3_nameAt hx hb hts hK hP hown (nb_use hNb tn_39) dX5_putName_19 ?_
    refine lv_iload_n hx hb dX5_putName_22 rfl (lv_at hl 1 rfl) ?_
    refine lv_iconst (v := I 1) hx hb dX5_putName_23 rfl ?_
    refine bi_iadd hx hb dX5_putName_24 ?_
    obtain ⟨c6, hw⟩ := hw
    refine ldCX3_nameAt hx hb hK hP hN c6 dX5_putName_25 (fun x7 r_x7 e_x7 => ?_)
    replace hw := hw x7 r_x7 e_x7
    refine bi_icmp_ge (tgt := 55) hx hb r_u2 r_x7 dX5_putName_26 (by decide) (fun c8 => ?_) (fun c8 => ?_)
    ·
      replace hw := hw.1 c8
      exact xrv hx hb hr hlk hP hK hD hS ⟨_, hN, hF, rfl, hw⟩ (Nat.le_of_ble_eq_true rfl) (Nat.le_of_ble_eq_true rfl) dX5_putName_55
    ·
      replace hw := hw.2 c8
      refine lv_aload_n hx hb dX5_putName_29 rfl (lv_at hl 0 rfl) ?_
      refine gfX5_overflow hx hb hts hK hP hown (hts _ tw_868) (x := τ.1 64) rfl dX5_putName_30 ?_
      refine bi_if_ne (tgt := 55) hx hb (hB.1 64) dX5_putName_33 (by decide) (fun c9 => ?_) (fun c9 => ?_)
      ·
        replace hw := hw.1 c9
        exact xrv hx hb hr hlk hP hK hD hS ⟨_, hN, hF, rfl, hw⟩ (Nat.le_of_ble_eq_true rfl) (Nat.le_of_ble_eq_true rfl) dX5_putName_55
      ·
        replace hw := hw.2 c9
        refine lv_aload_n hx hb dX5_putName_36 rfl (lv_at hl 0 rfl) ?_
        refine lv_aload_n hx hb dX5_putName_37 rfl (lv_at hl 0 rfl) ?_
        refine gfX5_library hx hb hts hK hP hown (hts _ tw_865) dX5_putName_38 ?_
        refine gfNX3_letters hx hb hts hK hP hown (nb_use hNb tn_37) dX5_putName_41 ?_
        refine lv_iload_n hx hb dX5_putName_44 rfl (lv_at hl 2 rfl) ?_
        obtain ⟨c10, hw⟩ := hw
        refine ldCX3_letters hx hb hK hP hN c10 dX5_putName_45 (fun x11 r_x11 e_x11 => ?_)
        replace hw := hw x11 r_x11 e_x11
        obtain ⟨Q12, hc, hw⟩ := hw
        refine wc_V (X := CX g q lb) (va_runV (As := [.int (I x11)]) (rest := []) ⟨hx, hb, hml, hown, hts⟩ (L_X5_put l g q lb hlb r_x11 hN hc H.size) (cwV 1 hts (TB_V tw_1548 tw_1549 tw_1550 tw_14 co_X5_put) rfl rfl rfl (by decide +kernel) ⟨Nat.le_of_ble_eq_true rfl, Nat.le_of_ble_eq_true rfl⟩) (preV (q0 := 12) (ci := 5) rfl xT_bl hP hK hNb hD rfl rfl xT_at) rfl rfl hl.1 rfl (lv_room (Nat.le_of_ble_eq_true rfl)) dX5_putName_46 ⟨Nat.le_of_ble_eq_true rfl, Nat.le_of_ble_eq_true rfl⟩) hP hD hS hA (fun τ14 H locs hN hf hq hP hD hS => ?_)
        replace hw := hw τ14 hN hf hq
        have hF : f_r [63, 64] [101, 102] [] σ τ14 := f_t hF hf (by decide) (by decide) (by decide)
        have hB := hN
        refine lv_iinc (v := I (u2 + 1)) (lv' := [(2, .int (I (u2 + 1))), (0, .ref (q 12)), (1, .int (I u1))]) hx hb dX5_putName_49 hl (k := 2) rfl (I_add _ _) (by decide) rfl (fun ls hl => ?_)
        refine lv_goto (tgt := 14) hx hb dX5_putName_52 (by decide) ?_
        obtain ⟨c15, hw⟩ := hw
        exact (hP14 _ _ _).mp hw r_u1 c15 hN hF H locs ls hP hD hS (lv_sub hl [1, 2, 0] rfl)
def W_X5_putSymbol (n1 : Int) (σ : S0) (Q : S0 → Prop) : Prop :=
  (0 ≤ n1 ∧ n1 < 1000) ∧ (∀ (x2 : Int), rg x2 → x2 = σ.2.1 7 n1 → (∃ (Q3 : S0 → Prop), W_X5_putName x2 σ Q3 ∧ ∀ (τ5 : S0), n_m τ5 → f_r [63, 64] [101, 102] [] σ τ5 → Q3 τ5 → (Q τ5)))
set_option maxRecDepth 100000 in
set_option maxHeartbeats 4000000 in
theorem L_X5_putSymbol (l : Launch) (g : gG) (q : Nat → Nat) (lb : Nat) (hlb : lb < 2 ^ 31) {n1 : Int} {σ : S0} {Q : S0 → Prop} (r_n1 : rg n1) (hN : n_m σ) (hw : W_X5_putSymbol n1 σ Q) (sz : Nat) : MetV l yX5_putSymbol cX5_putSymbol 2 { frames := 3, cells := 0, slots := 0, locals := 63 } g [.ref (q 12), .int (I n1)] (CX g q lb σ) sz xT (p_V (CX g q lb) [63, 64] [101, 102] [] σ Q) 0 0 := by
  refine mkMet (Qc := fun A => QV g A (p_V (CX g q lb) [63, 64] [101, 102] [] σ Q)) (by decide) (Nat.le_of_ble_eq_true rfl) ?_
  intro p e s m below meth c A H ls hx hb hr hml hown hts hlk hnm hsz hP hK hNb hD hA hAe hS hX hl
  have hl : lv_has ls 2 [(0, .ref (q 12)), (1, .int (I n1))] := hl
  have hB := hN
  have hF : f_r [63, 64] [101, 102] [] σ σ := f_0
  obtain ⟨locs, hlocs⟩ : ∃ z : List Loc, z = [] := ⟨_, rfl⟩
  rw [← hlocs] at hS ⊢
  refine lv_aload_n hx hb dX5_putSymbol_0 rfl (lv_at hl 0 rfl) ?_
  refine lv_aload_n hx hb dX5_putSymbol_1 rfl (lv_at hl 0 rfl) ?_
  refine gfX5_library hx hb hts hK hP hown (hts _ tw_865) dX5_putSymbol_2 ?_
  refine gfNX3_symbolName hx hb hts hK hP hown (nb_use hNb tn_45) dX5_putSymbol_5 ?_
  refine lv_iload_n hx hb dX5_putSymbol_8 rfl (lv_at hl 1 rfl) ?_
  obtain ⟨c1, hw⟩ := hw
  refine ldCX3_symbolName hx hb hK hP hN c1 dX5_putSymbol_9 (fun x2 r_x2 e_x2 => ?_)
  replace hw := hw x2 r_x2 e_x2
  obtain ⟨Q3, hc, hw⟩ := hw
  refine wc_V (X := CX g q lb) (va_runV (As := [.int (I x2)]) (rest := []) ⟨hx, hb, hml, hown, hts⟩ (L_X5_putName l g q lb hlb r_x2 hN hc H.size) (cwV 1 hts (TB_V tw_1540 tw_1541 tw_1542 tw_14 co_X5_putName) rfl rfl rfl (by decide +kernel) ⟨Nat.le_of_ble_eq_true rfl, Nat.le_of_ble_eq_true rfl⟩) (preV (q0 := 12) (ci := 5) rfl xT_bl hP hK hNb hD rfl rfl xT_at) rfl rfl hl.1 rfl (lv_room (Nat.le_of_ble_eq_true rfl)) dX5_putSymbol_10 ⟨Nat.le_of_ble_eq_true rfl, Nat.le_of_ble_eq_true rfl⟩) hP hD hS hA (fun τ5 H locs hN hf hq hP hD hS => ?_)
  replace hw := hw τ5 hN hf hq
  have hF : f_r [63, 64] [101, 102] [] σ τ5 := f_t hF hf (by decide) (by decide) (by decide)
  have hB := hN
  exact xrv hx hb hr hlk hP hK hD hS ⟨_, hN, hF, rfl, hw⟩ (Nat.le_of_ble_eq_true rfl) (Nat.le_of_ble_eq_true rfl) dX5_putSymbol_13
def W_X5_putNumber (n1 : Int) (σ : S0) (Q : S0 → Prop) : Prop :=
  ∀ (P13 : Int → Int64 → Int → Int → S0 → Prop) (P56 : Int → Int64 → Int → Int → S0 → Prop),
  (∀ (u1 : Int) (u2 : Int64) (u4 : Int) (u5 : Int) (τ : S0), ((u5 ≤ 0 → P56 u1 u2 u4 0 τ) ∧ (0 < u5 → (20 ≤ u4 → P56 u1 u2 u4 0 τ) ∧ (u4 < 20 → rg (u5 - 1) ∧ ∀ (x6 : Int), rg x6 → (0 ≤ (u5 - 1) → x6 = (u5 - 1) % 5) → ((u5 - 1) < 0 → x6 = -((-(u5 - 1)) % 5)) → (∀ (x7 : Int), rg x7 → (0 ≤ (u5 - 1) → x7 = (u5 - 1) / 5) → ((u5 - 1) < 0 → x7 = -((-(u5 - 1)) / 5)) → (rg (u4 + 1) ∧ P13 u1 ((u2 * 5) + (j_of x6)) (u4 + 1) x7 τ))))) → P13 u1 u2 u4 u5 τ) →
  (∀ (u1 : Int) (u2 : Int64) (u4 : Int) (u5 : Int) (τ : S0), ((u4 ≤ u5 → rg (u1 - 1) ∧ ∀ (x11 : Int), rg x11 → (0 ≤ (u1 - 1) → x11 = (u1 - 1) % 20) → ((u1 - 1) < 0 → x11 = -((-(u1 - 1)) % 20)) → (rg (65 + x11) ∧ ∃ (Q13 : S0 → Prop), W_X5_put (65 + x11) τ Q13 ∧ ∀ (τ15 : S0), n_m τ15 → f_r [63, 64] [101, 102] [] τ τ15 → Q13 τ15 → (Q τ15))) ∧ (u5 < u4 → ∀ (x16 : Int), rg x16 → (rg ((u2 - u2 / 5 * 5) : Int64).toInt → x16 = ((u2 - u2 / 5 * 5) : Int64).toInt) → (rg (85 + x16) ∧ ∃ (Q18 : S0 → Prop), W_X5_put (85 + x16) τ Q18 ∧ ∀ (τ20 : S0), n_m τ20 → f_r [63, 64] [101, 102] [] τ τ20 → Q18 τ20 → (rg (u5 + 1) ∧ P56 u1 (u2 / 5) u4 (u5 + 1) τ20)))) → P56 u1 u2 u4 u5 τ) →
  rg (n1 - 1) ∧ ∀ (x2 : Int), rg x2 → (0 ≤ (n1 - 1) → x2 = (n1 - 1) / 20) → ((n1 - 1) < 0 → x2 = -((-(n1 - 1)) / 20)) → (P13 n1 0 0 x2 σ)
set_option maxRecDepth 100000 in
set_option maxHeartbeats 4000000 in
theorem L_X5_putNumber (l : Launch) (g : gG) (q : Nat → Nat) (lb : Nat) (hlb : lb < 2 ^ 31) {n1 : Int} {σ : S0} {Q : S0 → Prop} (r_n1 : rg n1) (hN : n_m σ) (hw : W_X5_putNumber n1 σ Q) (sz : Nat) : MetV l yX5_putNumber cX5_putNumber 6 { frames := 1, cells := 0, slots := 0, locals := 21 } g [.ref (q 12), .int (I n1)] (CX g q lb σ) sz xT (p_V (CX g q lb) [63, 64] [101, 102] [] σ Q) 0 0 := by
  refine mkMet (Qc := fun A => QV g A (p_V (CX g q lb) [63, 64] [101, 102] [] σ Q)) (by decide) (Nat.le_of_ble_eq_true rfl) ?_
  intro p e s m below meth c A H ls hx hb hr hml hown hts hlk hnm hsz hP hK hNb hD hA hAe hS hX hl
  have hl : lv_has ls 6 [(0, .ref (q 12)), (1, .int (I n1))] := hl
  have hB := hN
  have hF : f_r [63, 64] [101, 102] [] σ σ := f_0
  obtain ⟨locs, hlocs⟩ : ∃ z : List Loc, z = [] := ⟨_, rfl⟩
  rw [← hlocs] at hS ⊢
  obtain ⟨P13, hP13⟩ : ∃ P : Int → Int64 → Int → Int → S0 → Prop, ∀ (u1 : Int) (u2 : Int64) (u4 : Int) (u5 : Int) (τ : S0), (P u1 u2 u4 u5 τ ↔ (rg u1 → rg u4 → rg u5 → n_m τ → f_r [63, 64] [101, 102] [] σ τ → ∀ (H : Heap) (locs : List Loc) (ls : Array Slot), KP g (CX g q lb τ) H → va_D A (CX g q lb τ) → va_S A s.heap H locs → lv_has ls 6 [(0, .ref (q 12)), (1, .int (I u1)), (2, .long u2), (4, .int (I u4)), (5, .int (I u5))] → W p l e ({ frames := 1, cells := 0, slots := 0, locals := 21 }) s m [.ref (q 12), .int (I n1)].toArray below meth c H locs 0 0 (MQ below (QV g A (p_V (CX g q lb) [63, 64] [101, 102] [] σ Q)) [.ref (q 12), .int (I n1)].toArray s 0 0 A) (F0 m 13 ls []))) := ⟨_, fun _ _ _ _ _ => Iff.rfl⟩
  obtain ⟨P56, hP56⟩ : ∃ P : Int → Int64 → Int → Int → S0 → Prop, ∀ (u1 : Int) (u2 : Int64) (u4 : Int) (u5 : Int) (τ : S0), (P u1 u2 u4 u5 τ ↔ (rg u1 → rg u4 → rg u5 → n_m τ → f_r [63, 64] [101, 102] [] σ τ → ∀ (H : Heap) (locs : List Loc) (ls : Array Slot), KP g (CX g q lb τ) H → va_D A (CX g q lb τ) → va_S A s.heap H locs → lv_has ls 6 [(0, .ref (q 12)), (1, .int (I u1)), (2, .long u2), (4, .int (I u4)), (5, .int (I u5))] → W p l e ({ frames := 1, cells := 0, slots := 0, locals := 21 }) s m [.ref (q 12), .int (I n1)].toArray below meth c H locs 0 0 (MQ below (QV g A (p_V (CX g q lb) [63, 64] [101, 102] [] σ Q)) [.ref (q 12), .int (I n1)].toArray s 0 0 A) (F0 m 56 ls []))) := ⟨_, fun _ _ _ _ _ => Iff.rfl⟩
  refine (fun hw => ?_) (hw P13 P56 ?_ ?_)
  ·
    refine lv_lconst (v := 0) hx hb dX5_putNumber_0 (by decide) ?_
    refine lv_lstore_n (lv' := [(2, .long 0), (0, .ref (q 12)), (1, .int (I n1))]) hx hb dX5_putNumber_1 rfl hl (by decide) rfl (fun ls hl => ?_)
    refine lv_iconst (v := I 0) hx hb dX5_putNumber_2 rfl ?_
    refine lv_istore (lv' := [(4, .int (I 0)), (2, .long 0), (0, .ref (q 12)), (1, .int (I n1))]) hx hb dX5_putNumber_3 hl (by decide) rfl (fun ls hl => ?_)
    refine lv_iload_n hx hb dX5_putNumber_5 rfl (lv_at hl 3 rfl) ?_
    refine lv_iconst (v := I 1) hx hb dX5_putNumber_6 rfl ?_
    refine bi_isub hx hb dX5_putNumber_7 ?_
    refine lv_bipush (v := I 20) hx hb dX5_putNumber_8 (by decide) ?_
    obtain ⟨c1, hw⟩ := hw
    refine bi_idiv hx hb c1 (by decide) (by decide) dX5_putNumber_10 (fun x2 r_x2 p_x2 m_x2 => ?_)
    replace hw := hw x2 r_x2 p_x2 m_x2
    refine lv_istore (lv' := [(5, .int (I x2)), (4, .int (I 0)), (2, .long 0), (0, .ref (q 12)), (1, .int (I n1))]) hx hb dX5_putNumber_11 hl (by decide) rfl (fun ls hl => ?_)
    exact (hP13 _ _ _ _ _).mp hw r_n1 (by decide) r_x2 hN hF H locs ls hP hD hS (lv_sub hl [3, 4, 2, 1, 0] rfl)
  ·
    intro u1 u2 u4 u5 τ hw
    refine (hP13 _ _ _ _ _).mpr ?_
    intro r_u1 r_u4 r_u5 hN hF H locs ls hP hD hS hl
    have hB := hN
    refine lv_iload hx hb dX5_putNumber_13 (lv_at hl 4 rfl) ?_
    refine bi_if_le (tgt := 53) hx hb r_u5 dX5_putNumber_15 (by decide) (fun c3 => ?_) (fun c3 => ?_)
    ·
      replace hw := hw.1 c3
      refine lv_iconst (v := I 0) hx hb dX5_putNumber_53 rfl ?_
      refine lv_istore (lv' := [(5, .int (I 0)), (0, .ref (q 12)), (1, .int (I u1)), (2, .long u2), (4, .int (I u4))]) hx hb dX5_putNumber_54 hl (by decide) rfl (fun ls hl => ?_)
      exact (hP56 _ _ _ _ _).mp hw r_u1 r_u4 (by decide) hN hF H locs ls hP hD hS (lv_sub hl [1, 2, 3, 4, 0] rfl)
    ·
      replace hw := hw.2 c3
      refine lv_iload hx hb dX5_putNumber_18 (lv_at hl 3 rfl) ?_
      refine lv_bipush (v := I 20) hx hb dX5_putNumber_20 (by decide) ?_
      refine bi_icmp_ge (tgt := 53) hx hb r_u4 (by decide) dX5_putNumber_22 (by decide) (fun c4 => ?_) (fun c4 => ?_)
      ·
        replace hw := hw.1 c4
        refine lv_iconst (v := I 0) hx hb dX5_putNumber_53 rfl ?_
        refine lv_istore (lv' := [(5, .int (I 0)), (0, .ref (q 12)), (1, .int (I u1)), (2, .long u2), (4, .int (I u4))]) hx hb dX5_putNumber_54 hl (by decide) rfl (fun ls hl => ?_)
        exact (hP56 _ _ _ _ _).mp hw r_u1 r_u4 (by decide) hN hF H locs ls hP hD hS (lv_sub hl [1, 2, 3, 4, 0] rfl)
      ·
        replace hw := hw.2 c4
        refine lv_lload_n hx hb dX5_putNumber_25 rfl (lv_at hl 2 rfl) ?_
        refine lv_ldc2 (own := RX5) (v := 5) hx hb hown (hts _ tw_1650) dX5_putNumber_26 ?_
        refine lv_lmul hx hb dX5_putNumber_29 ?_
        refine lv_iload hx hb dX5_putNumber_30 (lv_at hl 4 rfl) ?_
        refine lv_iconst (v := I 1) hx hb dX5_putNumber_32 rfl ?_
        refine bi_isub hx hb dX5_putNumber_33 ?_
        refine lv_iconst (v := I 5) hx hb dX5_putNumber_34 rfl ?_
        obtain ⟨c5, hw⟩ := hw
        refine bi_irem hx hb c5 (by decide) (by decide) dX5_putNumber_35 (fun x6 r_x6 p_x6 m_x6 => ?_)
        replace hw := hw x6 r_x6 p_x6 m_x6
        refine bi_i2l hx hb r_x6 dX5_putNumber_36 ?_
        refine lv_ladd hx hb dX5_putNumber_37 ?_
        refine lv_lstore_n (lv' := [(2, .long ((u2 * 5) + (j_of x6))), (0, .ref (q 12)), (1, .int (I u1)), (4, .int (I u4)), (5, .int (I u5))]) hx hb dX5_putNumber_38 rfl hl (by decide) rfl (fun ls hl => ?_)
        refine lv_iinc (v := I (u4 + 1)) (lv' := [(4, .int (I (u4 + 1))), (2, .long ((u2 * 5) + (j_of x6))), (0, .ref (q 12)), (1, .int (I u1)), (5, .int (I u5))]) hx hb dX5_putNumber_39 hl (k := 3) rfl (I_add _ _) (by decide) rfl (fun ls hl => ?_)
        refine lv_iload hx hb dX5_putNumber_42 (lv_at hl 4 rfl) ?_
        refine lv_iconst (v := I 1) hx hb dX5_putNumber_44 rfl ?_
        refine bi_isub hx hb dX5_putNumber_45 ?_
        refine lv_iconst (v := I 5) hx hb dX5_putNumber_46 rfl ?_
        refine bi_idiv hx hb c5 (by decide) (by decide) dX5_putNumber_47 (fun x7 r_x7 p_x7 m_x7 => ?_)
        replace hw := hw x7 r_x7 p_x7 m_x7
        refine lv_istore (lv' := [(5, .int (I x7)), (4, .int (I (u4 + 1))), (2, .long ((u2 * 5) + (j_of x6))), (0, .ref (q 12)), (1, .int (I u1))]) hx hb dX5_putNumber_48 hl (by decide) rfl (fun ls hl => ?_)
        refine lv_goto (tgt := 13) hx hb dX5_putNumber_50 (by decide) ?_
        obtain ⟨c8, hw⟩ := hw
        exact (hP13 _ _ _ _ _).mp hw r_u1 c8 r_x7 hN hF H locs ls hP hD hS (lv_sub hl [3, 4, 2, 1, 0] rfl)
  ·
    intro u1 u2 u4 u5 τ hw
    refine (hP56 _ _ _ _ _).mpr ?_
    intro r_u1 r_u4 r_u5 hN hF H locs ls hP hD hS hl
    have hB := hN
    refine lv_iload hx hb dX5_putNumber_56 (lv_at hl 4 rfl) ?_
    refine lv_iload hx hb dX5_putNumber_58 (lv_at hl 3 rfl) ?_
    refine bi_icmp_ge (tgt := 88) hx hb r_u5 r_u4 dX5_putNumber_60 (by decide) (fun c9 => ?_) (fun c9 => ?_)
    ·
      replace hw := hw.1 c9
      refine lv_aload_n hx hb dX5_putNumber_88 rfl (lv_at hl 0 rfl) ?_
      refine lv_bipush (v := I 65) hx hb dX5_putNumber_89 (by decide) ?_
      refine lv_iload_n hx hb dX5_putNumber_91 rfl (lv_at hl 1 rfl) ?_
      refine lv_iconst (v := I 1) hx hb dX5_putNumber_92 rfl ?_
      refine bi_isub hx hb dX5_putNumber_93 ?_
      refine lv_bipush (v := I 20) hx hb dX5_putNumber_94 (by decide) ?_
      obtain ⟨c10, hw⟩ := hw
      refine bi_irem hx hb c10 (by decide) (by decide) dX5_putNumber_96 (fun x11 r_x11 p_x11 m_x11 => ?_)
      replace hw := hw x11 r_x11 p_x11 m_x11
      refine bi_iadd hx hb dX5_putNumber_97 ?_
      obtain ⟨c12, hw⟩ := hw
      obtain ⟨Q13, hc, hw⟩ := hw
      refine wc_V (X := CX g q lb) (va_runV (As := [.int (I (65 + x11))]) (rest := []) ⟨hx, hb, hml, hown, hts⟩ (L_X5_put l g q lb hlb c12 hN hc H.size) (cwV 1 hts (TB_V tw_1548 tw_1549 tw_1550 tw_14 co_X5_put) rfl rfl rfl (by decide +kernel) ⟨Nat.le_of_ble_eq_true rfl, Nat.le_of_ble_eq_true rfl⟩) (preV (q0 := 12) (ci := 5) rfl xT_bl hP hK hNb hD rfl rfl xT_at) rfl rfl hl.1 rfl (lv_room (Nat.le_of_ble_eq_true rfl)) dX5_putNumber_98 ⟨Nat.le_of_ble_eq_true rfl, Nat.le_of_ble_eq_true rfl⟩) hP hD hS hA (fun τ15 H locs hN hf hq hP hD hS => ?_)
      replace hw := hw τ15 hN hf hq
      have hF : f_r [63, 64] [101, 102] [] σ τ15 := f_t hF hf (by decide) (by decide) (by decide)
      have hB := hN
      exact xrv hx hb hr hlk hP hK hD hS ⟨_, hN, hF, rfl, hw⟩ (Nat.le_of_ble_eq_true rfl) (Nat.le_of_ble_eq_true rfl) dX5_putNumber_101
    ·
      replace hw := hw.2 c9
      refine lv_aload_n hx hb dX5_putNumber_63 rfl (lv_at hl 0 rfl) ?_
      refine lv_bipush (v := I 85) hx hb dX5_putNumber_64 (by decide) ?_
      refine lv_lload_n hx hb dX5_putNumber_66 rfl (lv_at hl 2 rfl) ?_
      refine lv_ldc2 (own := RX5) (v := 5) hx hb hown (hts _ tw_1650) dX5_putNumber_67 ?_
      refine lv_lrem hx hb dX5_putNumber_70 (by decide) ?_
      refine bi_l2i hx hb dX5_putNumber_71 (fun x16 r_x16 p_x16 => ?_)
      replace hw := hw x16 r_x16 p_x16
      refine bi_iadd hx hb dX5_putNumber_72 ?_
      obtain ⟨c17, hw⟩ := hw
      obtain ⟨Q18, hc, hw⟩ := hw
      refine wc_V (X := CX g q lb) (va_runV (As := [.int (I (85 + x16))]) (rest := []) ⟨hx, hb, hml, hown, hts⟩ (L_X5_put l g q lb hlb c17 hN hc H.size) (cwV 1 hts (TB_V tw_1548 tw_1549 tw_1550 tw_14 co_X5_put) rfl rfl rfl (by decide +kernel) ⟨Nat.le_of_ble_eq_true rfl, Nat.le_of_ble_eq_true rfl⟩) (preV (q0 := 12) (ci := 5) rfl xT_bl hP hK hNb hD rfl rfl xT_at) rfl rfl hl.1 rfl (lv_room (Nat.le_of_ble_eq_true rfl)) dX5_putNumber_73 ⟨Nat.le_of_ble_eq_true rfl, Nat.le_of_ble_eq_true rfl⟩) hP hD hS hA (fun τ20 H locs hN hf hq hP hD hS => ?_)
      replace hw := hw τ20 hN hf hq
      have hF : f_r [63, 64] [101, 102] [] σ τ20 := f_t hF hf (by decide) (by decide) (by decide)
      have hB := hN
      refine lv_lload_n hx hb dX5_putNumber_76 rfl (lv_at hl 2 rfl) ?_
      refine lv_ldc2 (own := RX5) (v := 5) hx hb hown (hts _ tw_1650) dX5_putNumber_77 ?_
      refine lv_ldiv hx hb dX5_putNumber_80 (by decide) ?_
      refine lv_lstore_n (lv' := [(2, .long (u2 / 5)), (0, .ref (q 12)), (1, .int (I u1)), (4, .int (I u4)), (5, .int (I u5))]) hx hb dX5_putNumber_81 rfl hl (by decide) rfl (fun ls hl => ?_)
      refine lv_iinc (v := I (u5 + 1)) (lv' := [(5, .int (I (u5 + 1))), (2, .long (u2 / 5)), (0, .ref (q 12)), (1, .int (I u1)), (4, .int (I u4))]) hx hb dX5_putNumber_82 hl (k := 4) rfl (I_add _ _) (by decide) rfl (fun ls hl => ?_)
      refine lv_goto (tgt := 56) hx hb dX5_putNumber_85 (by decide) ?_
      obtain ⟨c21, hw⟩ := hw
      exact (hP56 _ _ _ _ _).mp hw r_u1 r_u4 c21 hN hF H locs ls hP hD hS (lv_sub hl [2, 3, 1, 4, 0] rfl)
def W_X5_finish (σ : S0) (Q : Int → S0 → Prop) : Prop :=
  (σ.1 64 = 0 → (σ.1 67 = 0 → Q (σ.1 63) (s_v (s_v σ 67 1) 65 (σ.1 63))) ∧ (¬ σ.1 67 = 0 → Q (σ.1 63) (s_v (s_v σ 67 0) 65 (σ.1 63)))) ∧ (¬ σ.1 64 = 0 → Q (-2) σ)
set_option maxRecDepth 100000 in
set_option maxHeartbeats 4000000 in
theorem L_X5_finish (l : Launch) (g : gG) (q : Nat → Nat) (lb : Nat) (hlb : lb < 2 ^ 31) {σ : S0} {Q : Int → S0 → Prop} (hN : n_m σ) (hw : W_X5_finish σ Q) (sz : Nat) : MetI l yX5_finish cX5_finish 2 (some .int) { frames := 0, cells := 0, slots := 0, locals := 0 } g [.ref (q 12)] (CX g q lb σ) sz xT (p_I (CX g q lb) [65, 67] [] [] σ Q) 0 0 := by
  refine mkMet (Qc := fun A => QI g A (p_I (CX g q lb) [65, 67] [] [] σ Q)) (by decide) (Nat.le_of_ble_eq_true rfl) ?_
  intro p e s m below meth c A H ls hx hb hr hml hown hts hlk hnm hsz hP hK hNb hD hA hAe hS hX hl
  have hl : lv_has ls 2 [(0, .ref (q 12))] := hl
  have hB := hN
  have hF : f_r [65, 67] [] [] σ σ := f_0
  obtain ⟨locs, hlocs⟩ : ∃ z : List Loc, z = [] := ⟨_, rfl⟩
  rw [← hlocs] at hS ⊢
  refine lv_aload_n hx hb dX5_finish_0 rfl (lv_at hl 0 rfl) ?_
  refine gfX5_overflow hx hb hts hK hP hown (hts _ tw_868) (x := σ.1 64) rfl dX5_finish_1 ?_
  refine bi_if_eq (tgt := 10) hx hb (hB.1 64) dX5_finish_4 (by decide) (fun c1 => ?_) (fun c1 => ?_)
  ·
    replace hw := hw.1 c1
    refine lv_aload_n hx hb dX5_finish_10 rfl (lv_at hl 0 rfl) ?_
    rcases Classical.em (σ.1 67 = 0) with c2 | c2
    ·
      replace hw := hw.1 c2
      refine gfX5_shown_0 hx hb hts hK hP hown (hts _ tw_869) c2 dX5_finish_11 ?_
      refine lv_astore_n (lv' := [(1, .ref (q 124)), (0, .ref (q 12))]) hx hb dX5_finish_14 rfl hl (by decide) rfl (fun ls hl => ?_)
      refine lv_aload_n hx hb dX5_finish_15 rfl (lv_at hl 1 rfl) ?_
      refine lv_aload_n hx hb dX5_finish_16 rfl (lv_at hl 1 rfl) ?_
      refine gfX5_draft_0 hx hb hts hK hP hown (hts _ tw_866) c2 dX5_finish_17 ?_
      refine va_put (D := g.1) (ci := 5) (v := .ref (q 123)) (ty := .array .char) (C := RX5) (T := TX5) (N := 6) hx hb hts inX5 tyX5 tyX5_ok nmX5 hown hK hP hD hS 12 rfl rfl 4 (by decide) (hts _ tw_869) (fun _ h9 => h9) rfl (by decide +kernel) rfl rfl (Nat.le_of_ble_eq_true rfl) dX5_finish_20 (fun H locs hP hD hS => ?_)
      refine lv_aload_n hx hb dX5_finish_23 rfl (lv_at hl 1 rfl) ?_
      refine lv_aload_n hx hb dX5_finish_24 rfl (lv_at hl 0 rfl) ?_
      refine va_put (D := g.1) (ci := 5) (v := .ref (q 124)) (ty := .array .char) (C := RX5) (T := TX5) (N := 6) hx hb hts inX5 tyX5 tyX5_ok nmX5 hown hK hP hD hS 12 rfl rfl 1 (by decide) (hts _ tw_866) (fun _ h9 => h9) rfl (by decide +kernel) rfl rfl (Nat.le_of_ble_eq_true rfl) dX5_finish_25 (fun H locs hP hD hS => ?_)
      have hN : n_m (s_v σ 67 1) := n_v (i := 67) hN (by decide : rg 1)
      have hF : f_r [65, 67] [] [] σ (s_v σ 67 1) := f_v hF (by decide)
      have hP : KP g (CX g q lb (s_v σ 67 1)) H := hP
      have hD : va_D A (CX g q lb (s_v σ 67 1)) := hD
      refine lv_aload_n hx hb dX5_finish_28 rfl (lv_at hl 1 rfl) ?_
      refine lv_aload_n hx hb dX5_finish_29 rfl (lv_at hl 1 rfl) ?_
      refine gfX5_draftLength hx hb hts hK hP hown (hts _ tw_867) (x := σ.1 63) rfl dX5_finish_30 ?_
      refine pfX5_shownLength hx hb hts hK hP hD hS hown (hts _ tw_870) dX5_finish_33 (fun H locs hP hD hS => ?_)
      have hN : n_m (s_v (s_v σ 67 1) 65 (σ.1 63)) := n_v (i := 65) hN ((hB.1 63) : rg (σ.1 63))
      have hF : f_r [65, 67] [] [] σ (s_v (s_v σ 67 1) 65 (σ.1 63)) := f_v hF (by decide)
      refine lv_aload_n hx hb dX5_finish_36 rfl (lv_at hl 1 rfl) ?_
      refine gfX5_shownLength hx hb hts hK hP hown (hts _ tw_870) (x := σ.1 63) rfl dX5_finish_37 ?_
      exact xri hx hb hr hlk hP hK hD hS ⟨_, _, (hB.1 63), rfl, hN, hF, rfl, hw⟩ (Nat.le_of_ble_eq_true rfl) (Nat.le_of_ble_eq_true rfl) dX5_finish_40
    ·
      replace hw := hw.2 c2
      refine gfX5_shown_1 hx hb hts hK hP hown (hts _ tw_869) c2 dX5_finish_11 ?_
      refine lv_astore_n (lv' := [(1, .ref (q 123)), (0, .ref (q 12))]) hx hb dX5_finish_14 rfl hl (by decide) rfl (fun ls hl => ?_)
      refine lv_aload_n hx hb dX5_finish_15 rfl (lv_at hl 1 rfl) ?_
      refine lv_aload_n hx hb dX5_finish_16 rfl (lv_at hl 1 rfl) ?_
      refine gfX5_draft_1 hx hb hts hK hP hown (hts _ tw_866) c2 dX5_finish_17 ?_
      refine va_put (D := g.1) (ci := 5) (v := .ref (q 124)) (ty := .array .char) (C := RX5) (T := TX5) (N := 6) hx hb hts inX5 tyX5 tyX5_ok nmX5 hown hK hP hD hS 12 rfl rfl 4 (by decide) (hts _ tw_869) (fun _ h9 => h9) rfl (by decide +kernel) rfl rfl (Nat.le_of_ble_eq_true rfl) dX5_finish_20 (fun H locs hP hD hS => ?_)
      refine lv_aload_n hx hb dX5_finish_23 rfl (lv_at hl 1 rfl) ?_
      refine lv_aload_n hx hb dX5_finish_24 rfl (lv_at hl 0 rfl) ?_
      refine va_put (D := g.1) (ci := 5) (v := .ref (q 123)) (ty := .array .char) (C := RX5) (T := TX5) (N := 6) hx hb hts inX5 tyX5 tyX5_ok nmX5 hown hK hP hD hS 12 rfl rfl 1 (by decide) (hts _ tw_866) (fun _ h9 => h9) rfl (by decide +kernel) rfl rfl (Nat.le_of_ble_eq_true rfl) dX5_finish_25 (fun H locs hP hD hS => ?_)
      have hN : n_m (s_v σ 67 0) := n_v (i := 67) hN (by decide : rg 0)
      have hF : f_r [65, 67] [] [] σ (s_v σ 67 0) := f_v hF (by decide)
      have hP : KP g (CX g q lb (s_v σ 67 0)) H := hP
      have hD : va_D A (CX g q lb (s_v σ 67 0)) := hD
      refine lv_aload_n hx hb dX5_finish_28 rfl (lv_at hl 1 rfl) ?_
      refine lv_aload_n hx hb dX5_finish_29 rfl (lv_at hl 1 rfl) ?_
      refine gfX5_draftLength hx hb hts hK hP hown (hts _ tw_867) (x := σ.1 63) rfl dX5_finish_30 ?_
      refine pfX5_shownLength hx hb hts hK hP hD hS hown (hts _ tw_870) dX5_finish_33 (fun H locs hP hD hS => ?_)
      have hN : n_m (s_v (s_v σ 67 0) 65 (σ.1 63)) := n_v (i := 65) hN ((hB.1 63) : rg (σ.1 63))
      have hF : f_r [65, 67] [] [] σ (s_v (s_v σ 67 0) 65 (σ.1 63)) := f_v hF (by decide)
      refine lv_aload_n hx hb dX5_finish_36 rfl (lv_at hl 1 rfl) ?_
      refine gfX5_shownLength hx hb hts hK hP hown (hts _ tw_870) (x := σ.1 63) rfl dX5_finish_37 ?_
      exact xri hx hb hr hlk hP hK hD hS ⟨_, _, (hB.1 63), rfl, hN, hF, rfl, hw⟩ (Nat.le_of_ble_eq_true rfl) (Nat.le_of_ble_eq_true rfl) dX5_finish_40
  ·
    replace hw := hw.2 c1
    refine lv_bipush (v := I (-2)) hx hb dX5_finish_7 (by decide) ?_
    exact xri hx hb hr hlk hP hK hD hS ⟨_, _, (by decide), rfl, hN, hF, rfl, hw⟩ (Nat.le_of_ble_eq_true rfl) (Nat.le_of_ble_eq_true rfl) dX5_finish_9
def W_X5_shown (n1 : Int) (σ : S0) (Q : Int → Prop) : Prop :=
  (n1 < 0 → Q (-1)) ∧ (0 ≤ n1 → (σ.1 65 ≤ n1 → Q (-1)) ∧ (n1 < σ.1 65 → (σ.1 67 = 0 → (0 ≤ n1 ∧ n1 < 24000) ∧ (∀ (x5 : Int), rg x5 → x5 = σ.2.1 102 n1 → (Q x5))) ∧ (¬ σ.1 67 = 0 → (0 ≤ n1 ∧ n1 < 24000) ∧ (∀ (x7 : Int), rg x7 → x7 = σ.2.1 101 n1 → (Q x7)))))
set_option maxRecDepth 100000 in
set_option maxHeartbeats 4000000 in
theorem L_X5_shown (l : Launch) (g : gG) (q : Nat → Nat) (lb : Nat) (hlb : lb < 2 ^ 31) {n1 : Int} {σ : S0} {Q : Int → Prop} (r_n1 : rg n1) (hN : n_m σ) (hw : W_X5_shown n1 σ Q) (sz : Nat) : MetI l yX5_shown cX5_shown 2 (some .int) { frames := 0, cells := 0, slots := 0, locals := 0 } g [.ref (q 12), .int (I n1)] (CX g q lb σ) sz xT (p_i (CX g q lb) σ Q) 0 0 := by
  refine mkMet (Qc := fun A => QI g A (p_i (CX g q lb) σ Q)) (by decide) (Nat.le_of_ble_eq_true rfl) ?_
  intro p e s m below meth c A H ls hx hb hr hml hown hts hlk hnm hsz hP hK hNb hD hA hAe hS hX hl
  have hl : lv_has ls 2 [(0, .ref (q 12)), (1, .int (I n1))] := hl
  have hB := hN
  obtain ⟨locs, hlocs⟩ : ∃ z : List Loc, z = [] := ⟨_, rfl⟩
  rw [← hlocs] at hS ⊢
  refine lv_iload_n hx hb dX5_shown_0 rfl (lv_at hl 1 rfl) ?_
  refine bi_if_lt (tgt := 21) hx hb r_n1 dX5_shown_1 (by decide) (fun c1 => ?_) (fun c1 => ?_)
  ·
    replace hw := hw.1 c1
    refine lv_iconst (v := I (-1)) hx hb dX5_shown_21 rfl ?_
    exact xri hx hb hr hlk hP hK hD hS ⟨_, (by decide), rfl, rfl, hw⟩ (Nat.le_of_ble_eq_true rfl) (Nat.le_of_ble_eq_true rfl) dX5_shown_22
  ·
    replace hw := hw.2 c1
    refine lv_iload_n hx hb dX5_shown_4 rfl (lv_at hl 1 rfl) ?_
    refine lv_aload_n hx hb dX5_shown_5 rfl (lv_at hl 0 rfl) ?_
    refine gfX5_shownLength hx hb hts hK hP hown (hts _ tw_870) (x := σ.1 65) rfl dX5_shown_6 ?_
    refine bi_icmp_ge (tgt := 21) hx hb r_n1 (hB.1 65) dX5_shown_9 (by decide) (fun c2 => ?_) (fun c2 => ?_)
    ·
      replace hw := hw.1 c2
      refine lv_iconst (v := I (-1)) hx hb dX5_shown_21 rfl ?_
      exact xri hx hb hr hlk hP hK hD hS ⟨_, (by decide), rfl, rfl, hw⟩ (Nat.le_of_ble_eq_true rfl) (Nat.le_of_ble_eq_true rfl) dX5_shown_22
    ·
      replace hw := hw.2 c2
      refine lv_aload_n hx hb dX5_shown_12 rfl (lv_at hl 0 rfl) ?_
      rcases Classical.em (σ.1 67 = 0) with c3 | c3
      ·
        replace hw := hw.1 c3
        refine gfX5_shown_0 hx hb hts hK hP hown (hts _ tw_869) c3 dX5_shown_13 ?_
        refine lv_iload_n hx hb dX5_shown_16 rfl (lv_at hl 1 rfl) ?_
        obtain ⟨c4, hw⟩ := hw
        refine ldCX5_shown hx hb hK hP hN c4 dX5_shown_17 (fun x5 r_x5 e_x5 => ?_)
        replace hw := hw x5 r_x5 e_x5
        refine lv_goto (tgt := 22) hx hb dX5_shown_18 (by decide) ?_
        exact xri hx hb hr hlk hP hK hD hS ⟨_, r_x5, rfl, rfl, hw⟩ (Nat.le_of_ble_eq_true rfl) (Nat.le_of_ble_eq_true rfl) dX5_shown_22
      ·
        replace hw := hw.2 c3
        refine gfX5_shown_1 hx hb hts hK hP hown (hts _ tw_869) c3 dX5_shown_13 ?_
        refine lv_iload_n hx hb dX5_shown_16 rfl (lv_at hl 1 rfl) ?_
        obtain ⟨c6, hw⟩ := hw
        refine ldCX5_draft hx hb hK hP hN c6 dX5_shown_17 (fun x7 r_x7 e_x7 => ?_)
        replace hw := hw x7 r_x7 e_x7
        refine lv_goto (tgt := 22) hx hb dX5_shown_18 (by decide) ?_
        exact xri hx hb hr hlk hP hK hD hS ⟨_, r_x7, rfl, rfl, hw⟩ (Nat.le_of_ble_eq_true rfl) (Nat.le_of_ble_eq_true rfl) dX5_shown_22
def W_X6_isSame (n1 : Int) (n2 : Int) (n3 : Int) (σ : S0) (Q : Int → Prop) : Prop :=
  ∀ (P3 : Int → Int → Int → Int → Prop),
  (∀ (u1 : Int) (u2 : Int) (u3 : Int) (u4 : Int), ((u3 ≤ u4 → Q 1) ∧ (u4 < u3 → (0 ≤ (u1 + u4) ∧ (u1 + u4) < 42000) ∧ (∀ (x3 : Int), rg x3 → x3 = σ.2.1 39 (u1 + u4) → ((0 ≤ (u2 + u4) ∧ (u2 + u4) < 42000) ∧ (∀ (x5 : Int), rg x5 → x5 = σ.2.1 39 (u2 + u4) → ((x3 = x5 → rg (u4 + 1) ∧ P3 u1 u2 u3 (u4 + 1)) ∧ (¬ x3 = x5 → Q 0))))))) → P3 u1 u2 u3 u4) →
  P3 n1 n2 n3 0
set_option maxRecDepth 100000 in
set_option maxHeartbeats 4000000 in
theorem L_X6_isSame (l : Launch) (g : gG) (q : Nat → Nat) (lb : Nat) (hlb : lb < 2 ^ 31) {n1 : Int} {n2 : Int} {n3 : Int} {σ : S0} {Q : Int → Prop} (r_n1 : rg n1) (r_n2 : rg n2) (r_n3 : rg n3) (hN : n_m σ) (hw : W_X6_isSame n1 n2 n3 σ Q) (sz : Nat) : MetI l yX6_isSame cX6_isSame 5 (some .boolean) { frames := 0, cells := 0, slots := 0, locals := 0 } g [.ref (q 4), .int (I n1), .int (I n2), .int (I n3)] (CX g q lb σ) sz xT (p_i (CX g q lb) σ Q) 0 0 := by
  refine mkMet (Qc := fun A => QI g A (p_i (CX g q lb) σ Q)) (by decide) (Nat.le_of_ble_eq_true rfl) ?_
  intro p e s m below meth c A H ls hx hb hr hml hown hts hlk hnm hsz hP hK hNb hD hA hAe hS hX hl
  have hl : lv_has ls 5 [(0, .ref (q 4)), (1, .int (I n1)), (2, .int (I n2)), (3, .int (I n3))] := hl
  have hB := hN
  obtain ⟨locs, hlocs⟩ : ∃ z : List Loc, z = [] := ⟨_, rfl⟩
  rw [← hlocs] at hS ⊢
  obtain ⟨P3, hP3⟩ : ∃ P : Int → Int → Int → Int → Prop, ∀ (u1 : Int) (u2 : Int) (u3 : Int) (u4 : Int), (P u1 u2 u3 u4 ↔ (rg u1 → rg u2 → rg u3 → rg u4 → ∀ (H : Heap) (locs : List Loc) (ls : Array Slot), KP g (CX g q lb σ) H → va_D A (CX g q lb σ) → va_S A s.heap H locs → lv_has ls 5 [(0, .ref (q 4)), (1, .int (I u1)), (2, .int (I u2)), (3, .int (I u3)), (4, .int (I u4))] → W p l e ({ frames := 0, cells := 0, slots := 0, locals := 0 }) s m [.ref (q 4), .int (I n1), .int (I n2), .int (I n3)].toArray below meth c H locs 0 0 (MQ below (QI g A (p_i (CX g q lb) σ Q)) [.ref (q 4), .int (I n1), .int (I n2), .int (I n3)].toArray s 0 0 A) (F0 m 3 ls []))) := ⟨_, fun _ _ _ _ => Iff.rfl⟩
  refine (fun hw => ?_) (hw P3 ?_)
  ·
    refine lv_iconst (v := I 0) hx hb dX6_isSame_0 rfl ?_
    refine lv_istore (lv' := [(4, .int (I 0)), (0, .ref (q 4)), (1, .int (I n1)), (2, .int (I n2)), (3, .int (I n3))]) hx hb dX6_isSame_1 hl (by decide) rfl (fun ls hl => ?_)
    exact (hP3 _ _ _ _).mp hw r_n1 r_n2 r_n3 (by decide)  H locs ls hP hD hS (lv_sub hl [1, 2, 3, 4, 0] rfl)
  ·
    intro u1 u2 u3 u4 hw
    refine (hP3 _ _ _ _).mpr ?_
    intro r_u1 r_u2 r_u3 r_u4 H locs ls hP hD hS hl
    refine lv_iload hx hb dX6_isSame_3 (lv_at hl 4 rfl) ?_
    refine lv_iload_n hx hb dX6_isSame_5 rfl (lv_at hl 3 rfl) ?_
    refine bi_icmp_ge (tgt := 38) hx hb r_u4 r_u3 dX6_isSame_6 (by decide) (fun c1 => ?_) (fun c1 => ?_)
    ·
      replace hw := hw.1 c1
      refine lv_iconst (v := I 1) hx hb dX6_isSame_38 rfl ?_
      exact xrz hx hb hr (by decide) hlk hP hK hD hS ⟨_, (by decide), rfl, rfl, hw⟩ (Nat.le_of_ble_eq_true rfl) (Nat.le_of_ble_eq_true rfl) dX6_isSame_39
    ·
      replace hw := hw.2 c1
      refine lv_aload_n hx hb dX6_isSame_9 rfl (lv_at hl 0 rfl) ?_
      refine gfX6_data hx hb hts hK hP hown (hts _ tw_347) dX6_isSame_10 ?_
      refine lv_iload_n hx hb dX6_isSame_13 rfl (lv_at hl 1 rfl) ?_
      refine lv_iload hx hb dX6_isSame_14 (lv_at hl 4 rfl) ?_
      refine bi_iadd hx hb dX6_isSame_16 ?_
      obtain ⟨c2, hw⟩ := hw
      refine ldCX6_data hx hb hK hP hN c2 dX6_isSame_17 (fun x3 r_x3 e_x3 => ?_)
      replace hw := hw x3 r_x3 e_x3
      refine lv_aload_n hx hb dX6_isSame_18 rfl (lv_at hl 0 rfl) ?_
      refine gfX6_data hx hb hts hK hP hown (hts _ tw_347) dX6_isSame_19 ?_
      refine lv_iload_n hx hb dX6_isSame_22 rfl (lv_at hl 2 rfl) ?_
      refine lv_iload hx hb dX6_isSame_23 (lv_at hl 4 rfl) ?_
      refine bi_iadd hx hb dX6_isSame_25 ?_
      obtain ⟨c4, hw⟩ := hw
      refine ldCX6_data hx hb hK hP hN c4 dX6_isSame_26 (fun x5 r_x5 e_x5 => ?_)
      replace hw := hw x5 r_x5 e_x5
      refine bi_icmp_eq (tgt := 32) hx hb r_x3 r_x5 dX6_isSame_27 (by decide) (fun c6 => ?_) (fun c6 => ?_)
      ·
        replace hw := hw.1 c6
        refine lv_iinc (v := I (u4 + 1)) (lv' := [(4, .int (I (u4 + 1))), (0, .ref (q 4)), (1, .int (I u1)), (2, .int (I u2)), (3, .int (I u3))]) hx hb dX6_isSame_32 hl (k := 4) rfl (I_add _ _) (by decide) rfl (fun ls hl => ?_)
        refine lv_goto (tgt := 3) hx hb dX6_isSame_35 (by decide) ?_
        obtain ⟨c7, hw⟩ := hw
        exact (hP3 _ _ _ _).mp hw r_u1 r_u2 r_u3 c7  H locs ls hP hD hS (lv_sub hl [1, 2, 3, 4, 0] rfl)
      ·
        replace hw := hw.2 c6
        refine lv_iconst (v := I 0) hx hb dX6_isSame_30 rfl ?_
        exact xrz hx hb hr (by decide) hlk hP hK hD hS ⟨_, (by decide), rfl, rfl, hw⟩ (Nat.le_of_ble_eq_true rfl) (Nat.le_of_ble_eq_true rfl) dX6_isSame_31
def W_X6_isEssential (n1 : Int) (n2 : Int) (σ : S0) (Q : Int → Prop) : Prop :=
  ∀ (P28 : Int → Int → Int → Int → Prop) (P75 : Int → Int → Int → Int → Int → Int → Prop) (P93 : Int → Int → Int → Int → Int → Int → Int → Prop),
  (∀ (u2 : Int) (u3 : Int) (u4 : Int) (u5 : Int), ((0 ≤ (u2 + 1) ∧ (u2 + 1) < 1501) ∧ (∀ (x8 : Int), rg x8 → x8 = σ.2.1 14 (u2 + 1) → ((x8 ≤ u5 → (¬ u3 = u4 → Q 0) ∧ (u3 = u4 → Q 1)) ∧ (u5 < x8 → (0 ≤ u5 ∧ u5 < 30000) ∧ (∀ (x12 : Int), rg x12 → x12 = σ.2.1 15 u5 → (∀ (x13 : Int), rg x13 → x13 = σ.2.1 16 u5 → ((¬ x13 = (-1) → P75 u2 u3 u4 u5 x12 0) ∧ (x13 = (-1) → P75 u2 u3 u4 u5 x12 1)))))))) → P28 u2 u3 u4 u5) →
  (∀ (u2 : Int) (u3 : Int) (u4 : Int) (u5 : Int) (u6 : Int) (k0 : Int), ((k0 = 0 → (0 ≤ u6 ∧ u6 < 1000) ∧ (∀ (x17 : Int), rg x17 → x17 = σ.2.1 45 u6 → (P93 u2 u3 u4 u5 u6 k0 x17))) ∧ (¬ k0 = 0 → P93 u2 u3 u4 u5 u6 k0 1)) → P75 u2 u3 u4 u5 u6 k0) →
  (∀ (u2 : Int) (u3 : Int) (u4 : Int) (u5 : Int) (u6 : Int) (u7 : Int) (k0 : Int), (rg (u3 + k0) ∧ ((u3 + k0) ≤ u4 → (u7 = 0 → (0 ≤ u6 ∧ u6 < 1000) ∧ (∀ (x22 : Int), rg x22 → x22 = σ.2.1 44 u6 → (∃ (Q23 : Int → Prop), W_X6_isSame x22 u3 k0 σ Q23 ∧ ∀ (x24 : Int), rg x24 → Q23 x24 → ((¬ x24 = 0 → rg (u5 + 1) ∧ P28 u2 (u3 + k0) u4 (u5 + 1)) ∧ (x24 = 0 → Q 0))))) ∧ (¬ u7 = 0 → (0 ≤ u3 ∧ u3 < 42000) ∧ (∀ (x29 : Int), rg x29 → x29 = σ.2.1 39 u3 → ((x29 = u6 → rg (u5 + 1) ∧ P28 u2 (u3 + k0) u4 (u5 + 1)) ∧ (¬ x29 = u6 → Q 0))))) ∧ (u4 < (u3 + k0) → Q 0)) → P93 u2 u3 u4 u5 u6 u7 k0) →
  (0 ≤ n1 ∧ n1 < 20000) ∧ (∀ (x2 : Int), rg x2 → x2 = σ.2.1 40 n1 → (∀ (x3 : Int), rg x3 → x3 = σ.2.1 41 n1 → ((0 ≤ n2 ∧ n2 < 1501) ∧ (∀ (x5 : Int), rg x5 → x5 = σ.2.1 14 n2 → (rg (x2 + x3) ∧ P28 n2 x2 (x2 + x3) x5)))))
set_option maxRecDepth 100000 in
set_option maxHeartbeats 4000000 in
theorem L_X6_isEssential (l : Launch) (g : gG) (q : Nat → Nat) (lb : Nat) (hlb : lb < 2 ^ 31) {n1 : Int} {n2 : Int} {σ : S0} {Q : Int → Prop} (r_n1 : rg n1) (r_n2 : rg n2) (hN : n_m σ) (hw : W_X6_isEssential n1 n2 σ Q) (sz : Nat) : MetI l yX6_isEssential cX6_isEssential 9 (some .boolean) { frames := 1, cells := 0, slots := 0, locals := 24 } g [.ref (q 4), .int (I n1), .int (I n2)] (CX g q lb σ) sz xT (p_i (CX g q lb) σ Q) 0 0 := by
  refine mkMet (Qc := fun A => QI g A (p_i (CX g q lb) σ Q)) (by decide) (Nat.le_of_ble_eq_true rfl) ?_
  intro p e s m below meth c A H ls hx hb hr hml hown hts hlk hnm hsz hP hK hNb hD hA hAe hS hX hl
  have hl : lv_has ls 9 [(0, .ref (q 4)), (1, .int (I n1)), (2, .int (I n2))] := hl
  have hB := hN
  obtain ⟨locs, hlocs⟩ : ∃ z : List Loc, z = [] := ⟨_, rfl⟩
  rw [← hlocs] at hS ⊢
  obtain ⟨P28, hP28⟩ : ∃ P : Int → Int → Int → Int → Prop, ∀ (u2 : Int) (u3 : Int) (u4 : Int) (u5 : Int), (P u2 u3 u4 u5 ↔ (rg u2 → rg u3 → rg u4 → rg u5 → ∀ (H : Heap) (locs : List Loc) (ls : Array Slot), KP g (CX g q lb σ) H → va_D A (CX g q lb σ) → va_S A s.heap H locs → lv_has ls 9 [(0, .ref (q 4)), (2, .int (I u2)), (3, .int (I u3)), (4, .int (I u4)), (5, .int (I u5))] → W p l e ({ frames := 1, cells := 0, slots := 0, locals := 24 }) s m [.ref (q 4), .int (I n1), .int (I n2)].toArray below meth c H locs 0 0 (MQ below (QI g A (p_i (CX g q lb) σ Q)) [.ref (q 4), .int (I n1), .int (I n2)].toArray s 0 0 A) (F0 m 28 ls []))) := ⟨_, fun _ _ _ _ => Iff.rfl⟩
  obtain ⟨P75, hP75⟩ : ∃ P : Int → Int → Int → Int → Int → Int → Prop, ∀ (u2 : Int) (u3 : Int) (u4 : Int) (u5 : Int) (u6 : Int) (k0 : Int), (P u2 u3 u4 u5 u6 k0 ↔ (rg u2 → rg u3 → rg u4 → rg u5 → rg u6 → rg k0 → ∀ (H : Heap) (locs : List Loc) (ls : Array Slot), KP g (CX g q lb σ) H → va_D A (CX g q lb σ) → va_S A s.heap H locs → lv_has ls 9 [(0, .ref (q 4)), (2, .int (I u2)), (3, .int (I u3)), (4, .int (I u4)), (5, .int (I u5)), (6, .int (I u6))] → W p l e ({ frames := 1, cells := 0, slots := 0, locals := 24 }) s m [.ref (q 4), .int (I n1), .int (I n2)].toArray below meth c H locs 0 0 (MQ below (QI g A (p_i (CX g q lb) σ Q)) [.ref (q 4), .int (I n1), .int (I n2)].toArray s 0 0 A) (F0 m 75 ls [.int (I k0)]))) := ⟨_, fun _ _ _ _ _ _ => Iff.rfl⟩
  obtain ⟨P93, hP93⟩ : ∃ P : Int → Int → Int → Int → Int → Int → Int → Prop, ∀ (u2 : Int) (u3 : Int) (u4 : Int) (u5 : Int) (u6 : Int) (u7 : Int) (k0 : Int), (P u2 u3 u4 u5 u6 u7 k0 ↔ (rg u2 → rg u3 → rg u4 → rg u5 → rg u6 → rg u7 → rg k0 → ∀ (H : Heap) (locs : List Loc) (ls : Array Slot), KP g (CX g q lb σ) H → va_D A (CX g q lb σ) → va_S A s.heap H locs → lv_has ls 9 [(0, .ref (q 4)), (2, .int (I u2)), (3, .int (I u3)), (4, .int (I u4)), (5, .int (I u5)), (6, .int (I u6)), (7, .int (I u7))] → W p l e ({ frames := 1, cells := 0, slots := 0, locals := 24 }) s m [.ref (q 4), .int (I n1), .int (I n2)].toArray below meth c H locs 0 0 (MQ below (QI g A (p_i (CX g q lb) σ Q)) [.ref (q 4), .int (I n1), .int (I n2)].toArray s 0 0 A) (F0 m 93 ls [.int (I k0)]))) := ⟨_, fun _ _ _ _ _ _ _ => Iff.rfl⟩
  refine (fun hw => ?_) (hw P28 P75 P93 ?_ ?_ ?_)
  ·
    refine lv_aload_n hx hb dX6_isEssential_0 rfl (lv_at hl 0 rfl) ?_
    refine gfX6_at hx hb hts hK hP hown (hts _ tw_353) dX6_isEssential_1 ?_
    refine lv_iload_n hx hb dX6_isEssential_4 rfl (lv_at hl 1 rfl) ?_
    obtain ⟨c1, hw⟩ := hw
    refine ldCX6_at hx hb hK hP hN c1 dX6_isEssential_5 (fun x2 r_x2 e_x2 => ?_)
    replace hw := hw x2 r_x2 e_x2
    refine lv_istore_n (lv' := [(3, .int (I x2)), (0, .ref (q 4)), (1, .int (I n1)), (2, .int (I n2))]) hx hb dX6_isEssential_6 rfl hl (by decide) rfl (fun ls hl => ?_)
    refine lv_iload_n hx hb dX6_isEssential_7 rfl (lv_at hl 0 rfl) ?_
    refine lv_aload_n hx hb dX6_isEssential_8 rfl (lv_at hl 1 rfl) ?_
    refine gfX6_size hx hb hts hK hP hown (hts _ tw_356) dX6_isEssential_9 ?_
    refine lv_iload_n hx hb dX6_isEssential_12 rfl (lv_at hl 2 rfl) ?_
    refine ldCX6_size hx hb hK hP hN c1 dX6_isEssential_13 (fun x3 r_x3 e_x3 => ?_)
    replace hw := hw x3 r_x3 e_x3
    refine bi_iadd hx hb dX6_isEssential_14 ?_
    refine lv_istore (lv' := [(4, .int (I (x2 + x3))), (3, .int (I x2)), (0, .ref (q 4)), (1, .int (I n1)), (2, .int (I n2))]) hx hb dX6_isEssential_15 hl (by decide) rfl (fun ls hl => ?_)
    refine lv_aload_n hx hb dX6_isEssential_17 rfl (lv_at hl 2 rfl) ?_
    refine gfX6_library hx hb hts hK hP hown (hts _ tw_344) dX6_isEssential_18 ?_
    refine gfNX3_at hx hb hts hK hP hown (nb_use hNb tn_80) dX6_isEssential_21 ?_
    refine lv_iload_n hx hb dX6_isEssential_24 rfl (lv_at hl 4 rfl) ?_
    obtain ⟨c4, hw⟩ := hw
    refine ldCX3_at hx hb hK hP hN c4 dX6_isEssential_25 (fun x5 r_x5 e_x5 => ?_)
    replace hw := hw x5 r_x5 e_x5
    refine lv_istore (lv' := [(5, .int (I x5)), (4, .int (I (x2 + x3))), (3, .int (I x2)), (0, .ref (q 4)), (1, .int (I n1)), (2, .int (I n2))]) hx hb dX6_isEssential_26 hl (by decide) rfl (fun ls hl => ?_)
    obtain ⟨c6, hw⟩ := hw
    exact (hP28 _ _ _ _).mp hw r_n2 r_x2 c6 r_x5  H locs ls hP hD hS (lv_sub hl [3, 5, 2, 1, 0] rfl)
  ·
    intro u2 u3 u4 u5 hw
    refine (hP28 _ _ _ _).mpr ?_
    intro r_u2 r_u3 r_u4 r_u5 H locs ls hP hD hS hl
    refine lv_iload hx hb dX6_isEssential_28 (lv_at hl 4 rfl) ?_
    refine lv_aload_n hx hb dX6_isEssential_30 rfl (lv_at hl 0 rfl) ?_
    refine gfX6_library hx hb hts hK hP hown (hts _ tw_344) dX6_isEssential_31 ?_
    refine gfNX3_at hx hb hts hK hP hown (nb_use hNb tn_80) dX6_isEssential_34 ?_
    refine lv_iload_n hx hb dX6_isEssential_37 rfl (lv_at hl 1 rfl) ?_
    refine lv_iconst (v := I 1) hx hb dX6_isEssential_38 rfl ?_
    refine bi_iadd hx hb dX6_isEssential_39 ?_
    obtain ⟨c7, hw⟩ := hw
    refine ldCX3_at hx hb hK hP hN c7 dX6_isEssential_40 (fun x8 r_x8 e_x8 => ?_)
    replace hw := hw x8 r_x8 e_x8
    refine bi_icmp_ge (tgt := 155) hx hb r_u5 r_x8 dX6_isEssential_41 (by decide) (fun c9 => ?_) (fun c9 => ?_)
    ·
      replace hw := hw.1 c9
      refine lv_iload_n hx hb dX6_isEssential_155 rfl (lv_at hl 2 rfl) ?_
      refine lv_iload hx hb dX6_isEssential_156 (lv_at hl 3 rfl) ?_
      refine bi_icmp_ne (tgt := 165) hx hb r_u3 r_u4 dX6_isEssential_158 (by decide) (fun c10 => ?_) (fun c10 => ?_)
      ·
        replace hw := hw.1 c10
        refine lv_iconst (v := I 0) hx hb dX6_isEssential_165 rfl ?_
        exact xrz hx hb hr (by decide) hlk hP hK hD hS ⟨_, (by decide), rfl, rfl, hw⟩ (Nat.le_of_ble_eq_true rfl) (Nat.le_of_ble_eq_true rfl) dX6_isEssential_166
      ·
        replace hw := hw.2 c10
        refine lv_iconst (v := I 1) hx hb dX6_isEssential_161 rfl ?_
        refine lv_goto (tgt := 166) hx hb dX6_isEssential_162 (by decide) ?_
        exact xrz hx hb hr (by decide) hlk hP hK hD hS ⟨_, (by decide), rfl, rfl, hw⟩ (Nat.le_of_ble_eq_true rfl) (Nat.le_of_ble_eq_true rfl) dX6_isEssential_166
    ·
      replace hw := hw.2 c9
      refine lv_aload_n hx hb dX6_isEssential_44 rfl (lv_at hl 0 rfl) ?_
      refine gfX6_library hx hb hts hK hP hown (hts _ tw_344) dX6_isEssential_45 ?_
      refine gfNX3_text hx hb hts hK hP hown (nb_use hNb tn_87) dX6_isEssential_48 ?_
      refine lv_iload hx hb dX6_isEssential_51 (lv_at hl 4 rfl) ?_
      obtain ⟨c11, hw⟩ := hw
      refine ldCX3_text hx hb hK hP hN c11 dX6_isEssential_53 (fun x12 r_x12 e_x12 => ?_)
      replace hw := hw x12 r_x12 e_x12
      refine lv_istore (lv' := [(6, .int (I x12)), (0, .ref (q 4)), (2, .int (I u2)), (3, .int (I u3)), (4, .int (I u4)), (5, .int (I u5))]) hx hb dX6_isEssential_54 hl (by decide) rfl (fun ls hl => ?_)
      refine lv_aload_n hx hb dX6_isEssential_56 rfl (lv_at hl 1 rfl) ?_
      refine gfX6_library hx hb hts hK hP hown (hts _ tw_344) dX6_isEssential_57 ?_
      refine gfNX3_floats hx hb hts hK hP hown (nb_use hNb tn_95) dX6_isEssential_60 ?_
      refine lv_iload hx hb dX6_isEssential_63 (lv_at hl 5 rfl) ?_
      refine ldCX3_floats hx hb hK hP hN c11 dX6_isEssential_65 (fun x13 r_x13 e_x13 => ?_)
      replace hw := hw x13 r_x13 e_x13
      refine lv_iconst (v := I (-1)) hx hb dX6_isEssential_66 rfl ?_
      refine bi_icmp_ne (tgt := 74) hx hb r_x13 (by decide) dX6_isEssential_67 (by decide) (fun c14 => ?_) (fun c14 => ?_)
      ·
        replace hw := hw.1 c14
        refine lv_iconst (v := I 0) hx hb dX6_isEssential_74 rfl ?_
        exact (hP75 _ _ _ _ _ _).mp hw r_u2 r_u3 r_u4 r_u5 r_x12 (by decide)  H locs ls hP hD hS (lv_sub hl [1, 2, 3, 4, 5, 0] rfl)
      ·
        replace hw := hw.2 c14
        refine lv_iconst (v := I 1) hx hb dX6_isEssential_70 rfl ?_
        refine lv_goto (tgt := 75) hx hb dX6_isEssential_71 (by decide) ?_
        exact (hP75 _ _ _ _ _ _).mp hw r_u2 r_u3 r_u4 r_u5 r_x12 (by decide)  H locs ls hP hD hS (lv_sub hl [1, 2, 3, 4, 5, 0] rfl)
  ·
    intro u2 u3 u4 u5 u6 k0 hw
    refine (hP75 _ _ _ _ _ _).mpr ?_
    intro r_u2 r_u3 r_u4 r_u5 r_u6 r_k0 H locs ls hP hD hS hl
    refine lv_istore (lv' := [(7, .int (I k0)), (0, .ref (q 4)), (2, .int (I u2)), (3, .int (I u3)), (4, .int (I u4)), (5, .int (I u5)), (6, .int (I u6))]) hx hb dX6_isEssential_75 hl (by decide) rfl (fun ls hl => ?_)
    refine lv_iload hx hb dX6_isEssential_77 (lv_at hl 0 rfl) ?_
    refine bi_if_eq (tgt := 86) hx hb r_k0 dX6_isEssential_79 (by decide) (fun c15 => ?_) (fun c15 => ?_)
    ·
      replace hw := hw.1 c15
      refine lv_aload_n hx hb dX6_isEssential_86 rfl (lv_at hl 1 rfl) ?_
      refine gfX6_becomesSize hx hb hts hK hP hown (hts _ tw_366) dX6_isEssential_87 ?_
      refine lv_iload hx hb dX6_isEssential_90 (lv_at hl 6 rfl) ?_
      obtain ⟨c16, hw⟩ := hw
      refine ldCX6_becomesSize hx hb hK hP hN c16 dX6_isEssential_92 (fun x17 r_x17 e_x17 => ?_)
      replace hw := hw x17 r_x17 e_x17
      exact (hP93 _ _ _ _ _ _ _).mp hw r_u2 r_u3 r_u4 r_u5 r_u6 r_k0 r_x17  H locs ls hP hD hS (lv_sub hl [1, 2, 3, 4, 5, 6, 0] rfl)
    ·
      replace hw := hw.2 c15
      refine lv_iconst (v := I 1) hx hb dX6_isEssential_82 rfl ?_
      refine lv_goto (tgt := 93) hx hb dX6_isEssential_83 (by decide) ?_
      exact (hP93 _ _ _ _ _ _ _).mp hw r_u2 r_u3 r_u4 r_u5 r_u6 r_k0 (by decide)  H locs ls hP hD hS (lv_sub hl [1, 2, 3, 4, 5, 6, 0] rfl)
  ·
    intro u2 u3 u4 u5 u6 u7 k0 hw
    refine (hP93 _ _ _ _ _ _ _).mpr ?_
    intro r_u2 r_u3 r_u4 r_u5 r_u6 r_u7 r_k0 H locs ls hP hD hS hl
    refine lv_istore (lv' := [(8, .int (I k0)), (0, .ref (q 4)), (2, .int (I u2)), (3, .int (I u3)), (4, .int (I u4)), (5, .int (I u5)), (6, .int (I u6)), (7, .int (I u7))]) hx hb dX6_isEssential_93 hl (by decide) rfl (fun ls hl => ?_)
    refine lv_iload_n hx hb dX6_isEssential_95 rfl (lv_at hl 3 rfl) ?_
    refine lv_iload hx hb dX6_isEssential_96 (lv_at hl 0 rfl) ?_
    refine bi_iadd hx hb dX6_isEssential_98 ?_
    refine lv_iload hx hb dX6_isEssential_99 (lv_at hl 4 rfl) ?_
    obtain ⟨c18, hw⟩ := hw
    refine bi_icmp_le (tgt := 106) hx hb c18 r_u4 dX6_isEssential_101 (by decide) (fun c19 => ?_) (fun c19 => ?_)
    ·
      replace hw := hw.1 c19
      refine lv_iload hx hb dX6_isEssential_106 (lv_at hl 7 rfl) ?_
      refine bi_if_eq (tgt := 125) hx hb r_u7 dX6_isEssential_108 (by decide) (fun c20 => ?_) (fun c20 => ?_)
      ·
        replace hw := hw.1 c20
        refine lv_aload_n hx hb dX6_isEssential_125 rfl (lv_at hl 1 rfl) ?_
        refine lv_aload_n hx hb dX6_isEssential_126 rfl (lv_at hl 1 rfl) ?_
        refine gfX6_becomesAt hx hb hts hK hP hown (hts _ tw_365) dX6_isEssential_127 ?_
        refine lv_iload hx hb dX6_isEssential_130 (lv_at hl 6 rfl) ?_
        obtain ⟨c21, hw⟩ := hw
        refine ldCX6_becomesAt hx hb hK hP hN c21 dX6_isEssential_132 (fun x22 r_x22 e_x22 => ?_)
        replace hw := hw x22 r_x22 e_x22
        refine lv_iload_n hx hb dX6_isEssential_133 rfl (lv_at hl 3 rfl) ?_
        refine lv_iload hx hb dX6_isEssential_134 (lv_at hl 0 rfl) ?_
        obtain ⟨Q23, hc, hw⟩ := hw
        refine wc_i (X := CX g q lb) (va_runV (As := [.int (I x22), .int (I u3), .int (I k0)]) (rest := []) ⟨hx, hb, hml, hown, hts⟩ (L_X6_isSame l g q lb hlb r_x22 r_u3 r_k0 hN hc H.size) (cwV 3 hts (TB_V tw_1306 tw_1308 ts_46 tw_6 co_X6_isSame) rfl rfl rfl (by decide +kernel) ⟨Nat.le_of_ble_eq_true rfl, Nat.le_of_ble_eq_true rfl⟩) (preV (q0 := 4) (ci := 6) rfl xT_bl hP hK hNb hD rfl rfl xT_at) rfl rfl hl.1 rfl (lv_room (Nat.le_of_ble_eq_true rfl)) dX6_isEssential_136 ⟨Nat.le_of_ble_eq_true rfl, Nat.le_of_ble_eq_true rfl⟩) hP hD hS hA (fun x24 H locs r_x24 hq hP hD hS => ?_)
        replace hw := hw x24 r_x24 hq
        refine bi_if_ne (tgt := 144) hx hb r_x24 dX6_isEssential_139 (by decide) (fun c26 => ?_) (fun c26 => ?_)
        ·
          replace hw := hw.1 c26
          refine lv_iload_n hx hb dX6_isEssential_144 rfl (lv_at hl 3 rfl) ?_
          refine lv_iload hx hb dX6_isEssential_145 (lv_at hl 0 rfl) ?_
          refine bi_iadd hx hb dX6_isEssential_147 ?_
          refine lv_istore_n (lv' := [(3, .int (I (u3 + k0))), (8, .int (I k0)), (0, .ref (q 4)), (2, .int (I u2)), (4, .int (I u4)), (5, .int (I u5)), (6, .int (I u6)), (7, .int (I u7))]) hx hb dX6_isEssential_148 rfl hl (by decide) rfl (fun ls hl => ?_)
          refine lv_iinc (v := I (u5 + 1)) (lv' := [(5, .int (I (u5 + 1))), (3, .int (I (u3 + k0))), (8, .int (I k0)), (0, .ref (q 4)), (2, .int (I u2)), (4, .int (I u4)), (6, .int (I u6)), (7, .int (I u7))]) hx hb dX6_isEssential_149 hl (k := 5) rfl (I_add _ _) (by decide) rfl (fun ls hl => ?_)
          refine lv_goto (tgt := 28) hx hb dX6_isEssential_152 (by decide) ?_
          obtain ⟨c27, hw⟩ := hw
          exact (hP28 _ _ _ _).mp hw r_u2 c18 r_u4 c27  H locs ls hP hD hS (lv_sub hl [3, 4, 1, 5, 0] rfl)
        ·
          replace hw := hw.2 c26
          refine lv_iconst (v := I 0) hx hb dX6_isEssential_142 rfl ?_
          exact xrz hx hb hr (by decide) hlk hP hK hD hS ⟨_, (by decide), rfl, rfl, hw⟩ (Nat.le_of_ble_eq_true rfl) (Nat.le_of_ble_eq_true rfl) dX6_isEssential_143
      ·
        replace hw := hw.2 c20
        refine lv_aload_n hx hb dX6_isEssential_111 rfl (lv_at hl 1 rfl) ?_
        refine gfX6_data hx hb hts hK hP hown (hts _ tw_347) dX6_isEssential_112 ?_
        refine lv_iload_n hx hb dX6_isEssential_115 rfl (lv_at hl 3 rfl) ?_
        obtain ⟨c28, hw⟩ := hw
        refine ldCX6_data hx hb hK hP hN c28 dX6_isEssential_116 (fun x29 r_x29 e_x29 => ?_)
        replace hw := hw x29 r_x29 e_x29
        refine lv_iload hx hb dX6_isEssential_117 (lv_at hl 6 rfl) ?_
        refine bi_icmp_eq (tgt := 144) hx hb r_x29 r_u6 dX6_isEssential_119 (by decide) (fun c30 => ?_) (fun c30 => ?_)
        ·
          replace hw := hw.1 c30
          refine lv_iload_n hx hb dX6_isEssential_144 rfl (lv_at hl 3 rfl) ?_
          refine lv_iload hx hb dX6_isEssential_145 (lv_at hl 0 rfl) ?_
          refine bi_iadd hx hb dX6_isEssential_147 ?_
          refine lv_istore_n (lv' := [(3, .int (I (u3 + k0))), (8, .int (I k0)), (0, .ref (q 4)), (2, .int (I u2)), (4, .int (I u4)), (5, .int (I u5)), (6, .int (I u6)), (7, .int (I u7))]) hx hb dX6_isEssential_148 rfl hl (by decide) rfl (fun ls hl => ?_)
          refine lv_iinc (v := I (u5 + 1)) (lv' := [(5, .int (I (u5 + 1))), (3, .int (I (u3 + k0))), (8, .int (I k0)), (0, .ref (q 4)), (2, .int (I u2)), (4, .int (I u4)), (6, .int (I u6)), (7, .int (I u7))]) hx hb dX6_isEssential_149 hl (k := 5) rfl (I_add _ _) (by decide) rfl (fun ls hl => ?_)
          refine lv_goto (tgt := 28) hx hb dX6_isEssential_152 (by decide) ?_
          obtain ⟨c31, hw⟩ := hw
          exact (hP28 _ _ _ _).mp hw r_u2 c18 r_u4 c31  H locs ls hP hD hS (lv_sub hl [3, 4, 1, 5, 0] rfl)
        ·
          replace hw := hw.2 c30
          refine lv_goto (tgt := 142) hx hb dX6_isEssential_122 (by decide) ?_
          refine lv_iconst (v := I 0) hx hb dX6_isEssential_142 rfl ?_
          exact xrz hx hb hr (by decide) hlk hP hK hD hS ⟨_, (by decide), rfl, rfl, hw⟩ (Nat.le_of_ble_eq_true rfl) (Nat.le_of_ble_eq_true rfl) dX6_isEssential_143
    ·
      replace hw := hw.2 c19
      refine lv_iconst (v := I 0) hx hb dX6_isEssential_104 rfl ?_
      exact xrz hx hb hr (by decide) hlk hP hK hD hS ⟨_, (by decide), rfl, rfl, hw⟩ (Nat.le_of_ble_eq_true rfl) (Nat.le_of_ble_eq_true rfl) dX6_isEssential_105
def W_X6_bind (n1 : Int) (n2 : Int) (σ : S0) (Q : Int → S0 → Prop) : Prop :=
  ∀ (P2 : Int → Int → Int → S0 → Prop),
  (∀ (u1 : Int) (u2 : Int) (u3 : Int) (τ : S0), ((0 ≤ u1 ∧ u1 < 1500) ∧ (∀ (x2 : Int), rg x2 → x2 = τ.2.1 28 u1 → ((x2 ≤ u3 → Q 1 τ) ∧ (u3 < x2 → ∀ (x4 : Int), rg x4 → x4 = τ.2.1 27 u1 → ((0 ≤ (x4 + u3) ∧ (x4 + u3) < 90000) ∧ (∀ (x6 : Int), rg x6 → x6 = τ.2.1 29 (x4 + u3) → ((0 ≤ (u2 + u3) ∧ (u2 + u3) < 20000) ∧ (∀ (x8 : Int), rg x8 → x8 = τ.2.1 37 (u2 + u3) → ((0 ≤ x6 ∧ x6 < 1500) ∧ (∀ (x10 : Int), rg x10 → x10 = τ.2.1 13 x6 → ((¬ x10 = 1 → (0 ≤ x8 ∧ x8 < 20000) ∧ (∀ (x13 : Int), rg x13 → x13 = τ.2.1 41 x8 → ((x13 = 0 → Q 0 τ) ∧ (¬ x13 = 0 → ∀ (x15 : Int), rg x15 → x15 = τ.2.1 40 x8 → ((0 ≤ x15 ∧ x15 < 42000) ∧ (∀ (x17 : Int), rg x17 → x17 = τ.2.1 39 x15 → (∃ (Q18 : Int → Prop), W_X3_typeOf x6 τ Q18 ∧ ∀ (x19 : Int), rg x19 → Q18 x19 → ((x17 = x19 → ∃ (Q22 : Int → Prop), W_X3_variableOf x6 τ Q22 ∧ ∀ (x23 : Int), rg x23 → Q22 x23 → (∀ (x25 : Int), rg x25 → x25 = τ.2.1 40 x8 → ((0 ≤ x23 ∧ x23 < 1000) ∧ (rg (x25 + 1) ∧ ∃ (Q28 : Int → Prop), W_X3_variableOf x6 (s_a τ 44 x23 (x25 + 1)) Q28 ∧ ∀ (x29 : Int), rg x29 → Q28 x29 → (∀ (x31 : Int), rg x31 → x31 = τ.2.1 41 x8 → ((0 ≤ x29 ∧ x29 < 1000) ∧ (rg (x31 - 1) ∧ rg (u3 + 1) ∧ P2 u1 u2 (u3 + 1) (s_a (s_a τ 44 x23 (x25 + 1)) 45 x29 (x31 - 1))))))))) ∧ (¬ x17 = x19 → Q 0 τ))))))))) ∧ (x10 = 1 → ∃ (Q35 : Int → Prop), W_X6_isEssential x8 x6 τ Q35 ∧ ∀ (x36 : Int), rg x36 → Q35 x36 → ((¬ x36 = 0 → rg (u3 + 1) ∧ P2 u1 u2 (u3 + 1) τ) ∧ (x36 = 0 → Q 0 τ)))))))))))))) → P2 u1 u2 u3 τ) →
  P2 n1 n2 0 σ
set_option maxRecDepth 100000 in
set_option maxHeartbeats 4000000 in
theorem L_X6_bind (l : Launch) (g : gG) (q : Nat → Nat) (lb : Nat) (hlb : lb < 2 ^ 31) {n1 : Int} {n2 : Int} {σ : S0} {Q : Int → S0 → Prop} (r_n1 : rg n1) (r_n2 : rg n2) (hN : n_m σ) (hw : W_X6_bind n1 n2 σ Q) (sz : Nat) : MetI l yX6_bind cX6_bind 6 (some .boolean) { frames := 2, cells := 0, slots := 0, locals := 52 } g [.ref (q 4), .int (I n1), .int (I n2)] (CX g q lb σ) sz xT (p_I (CX g q lb) [] [44, 45] [] σ Q) 0 0 := by
  refine mkMet (Qc := fun A => QI g A (p_I (CX g q lb) [] [44, 45] [] σ Q)) (by decide) (Nat.le_of_ble_eq_true rfl) ?_
  intro p e s m below meth c A H ls hx hb hr hml hown hts hlk hnm hsz hP hK hNb hD hA hAe hS hX hl
  have hl : lv_has ls 6 [(0, .ref (q 4)), (1, .int (I n1)), (2, .int (I n2))] := hl
  have hB := hN
  have hF : f_r [] [44, 45] [] σ σ := f_0
  obtain ⟨locs, hlocs⟩ : ∃ z : List Loc, z = [] := ⟨_, rfl⟩
  rw [← hlocs] at hS ⊢
  obtain ⟨P2, hP2⟩ : ∃ P : Int → Int → Int → S0 → Prop, ∀ (u1 : Int) (u2 : Int) (u3 : Int) (τ : S0), (P u1 u2 u3 τ ↔ (rg u1 → rg u2 → rg u3 → n_m τ → f_r [] [44, 45] [] σ τ → ∀ (H : Heap) (locs : List Loc) (ls : Array Slot), KP g (CX g q lb τ) H → va_D A (CX g q lb τ) → va_S A s.heap H locs → lv_has ls 6 [(0, .ref (q 4)), (1, .int (I u1)), (2, .int (I u2)), (3, .int (I u3))] → W p l e ({ frames := 2, cells := 0, slots := 0, locals := 52 }) s m [.ref (q 4), .int (I n1), .int (I n2)].toArray below meth c H locs 0 0 (MQ below (QI g A (p_I (CX g q lb) [] [44, 45] [] σ Q)) [.ref (q 4), .int (I n1), .int (I n2)].toArray s 0 0 A) (F0 m 2 ls []))) := ⟨_, fun _ _ _ _ => Iff.rfl⟩
  refine (fun hw => ?_) (hw P2 ?_)
  ·
    refine lv_iconst (v := I 0) hx hb dX6_bind_0 rfl ?_
    refine lv_istore_n (lv' := [(3, .int (I 0)), (0, .ref (q 4)), (1, .int (I n1)), (2, .int (I n2))]) hx hb dX6_bind_1 rfl hl (by decide) rfl (fun ls hl => ?_)
    exact (hP2 _ _ _ _).mp hw r_n1 r_n2 (by decide) hN hF H locs ls hP hD hS (lv_sub hl [1, 2, 3, 0] rfl)
  ·
    intro u1 u2 u3 τ hw
    refine (hP2 _ _ _ _).mpr ?_
    intro r_u1 r_u2 r_u3 hN hF H locs ls hP hD hS hl
    have hB := hN
    refine lv_iload_n hx hb dX6_bind_2 rfl (lv_at hl 3 rfl) ?_
    refine lv_aload_n hx hb dX6_bind_3 rfl (lv_at hl 0 rfl) ?_
    refine gfX6_assertions hx hb hts hK hP hown (hts _ tw_345) dX6_bind_4 ?_
    refine gfNX0_frameSize hx hb hts hK hP hown (nb_use hNb tn_243) dX6_bind_7 ?_
    refine lv_iload_n hx hb dX6_bind_10 rfl (lv_at hl 1 rfl) ?_
    obtain ⟨c1, hw⟩ := hw
    refine ldCX0_frameSize hx hb hK hP hN c1 dX6_bind_11 (fun x2 r_x2 e_x2 => ?_)
    replace hw := hw x2 r_x2 e_x2
    refine bi_icmp_ge (tgt := 164) hx hb r_u3 r_x2 dX6_bind_12 (by decide) (fun c3 => ?_) (fun c3 => ?_)
    ·
      replace hw := hw.1 c3
      refine lv_iconst (v := I 1) hx hb dX6_bind_164 rfl ?_
      exact xrz hx hb hr (by decide) hlk hP hK hD hS ⟨_, _, (by decide), rfl, hN, hF, rfl, hw⟩ (Nat.le_of_ble_eq_true rfl) (Nat.le_of_ble_eq_true rfl) dX6_bind_165
    ·
      replace hw := hw.2 c3
      refine lv_aload_n hx hb dX6_bind_15 rfl (lv_at hl 0 rfl) ?_
      refine gfX6_assertions hx hb hts hK hP hown (hts _ tw_345) dX6_bind_16 ?_
      refine gfNX0_hypotheses hx hb hts hK hP hown (nb_use hNb tn_251) dX6_bind_19 ?_
      refine lv_aload_n hx hb dX6_bind_22 rfl (lv_at hl 0 rfl) ?_
      refine gfX6_assertions hx hb hts hK hP hown (hts _ tw_345) dX6_bind_23 ?_
      refine gfNX0_frameAt hx hb hts hK hP hown (nb_use hNb tn_236) dX6_bind_26 ?_
      refine lv_iload_n hx hb dX6_bind_29 rfl (lv_at hl 1 rfl) ?_
      refine ldCX0_frameAt hx hb hK hP hN c1 dX6_bind_30 (fun x4 r_x4 e_x4 => ?_)
      replace hw := hw x4 r_x4 e_x4
      refine lv_iload_n hx hb dX6_bind_31 rfl (lv_at hl 3 rfl) ?_
      refine bi_iadd hx hb dX6_bind_32 ?_
      obtain ⟨c5, hw⟩ := hw
      refine ldCX0_hypotheses hx hb hK hP hN c5 dX6_bind_33 (fun x6 r_x6 e_x6 => ?_)
      replace hw := hw x6 r_x6 e_x6
      refine lv_istore (lv' := [(4, .int (I x6)), (0, .ref (q 4)), (1, .int (I u1)), (2, .int (I u2)), (3, .int (I u3))]) hx hb dX6_bind_34 hl (by decide) rfl (fun ls hl => ?_)
      refine lv_aload_n hx hb dX6_bind_36 rfl (lv_at hl 1 rfl) ?_
      refine gfX6_assertions hx hb hts hK hP hown (hts _ tw_345) dX6_bind_37 ?_
      refine gfNX0_children hx hb hts hK hP hown (nb_use hNb tn_284) dX6_bind_40 ?_
      refine lv_iload_n hx hb dX6_bind_43 rfl (lv_at hl 3 rfl) ?_
      refine lv_iload_n hx hb dX6_bind_44 rfl (lv_at hl 4 rfl) ?_
      refine bi_iadd hx hb dX6_bind_45 ?_
      obtain ⟨c7, hw⟩ := hw
      refine ldCX0_children hx hb hK hP hN c7 dX6_bind_46 (fun x8 r_x8 e_x8 => ?_)
      replace hw := hw x8 r_x8 e_x8
      refine lv_istore (lv' := [(5, .int (I x8)), (4, .int (I x6)), (0, .ref (q 4)), (1, .int (I u1)), (2, .int (I u2)), (3, .int (I u3))]) hx hb dX6_bind_47 hl (by decide) rfl (fun ls hl => ?_)
      refine lv_aload_n hx hb dX6_bind_49 rfl (lv_at hl 2 rfl) ?_
      refine gfX6_library hx hb hts hK hP hown (hts _ tw_344) dX6_bind_50 ?_
      refine gfNX3_kind hx hb hts hK hP hown (nb_use hNb tn_70) dX6_bind_53 ?_
      refine lv_iload hx hb dX6_bind_56 (lv_at hl 1 rfl) ?_
      obtain ⟨c9, hw⟩ := hw
      refine ldCX3_kind hx hb hK hP hN c9 dX6_bind_58 (fun x10 r_x10 e_x10 => ?_)
      replace hw := hw x10 r_x10 e_x10
      refine lv_iconst (v := I 1) hx hb dX6_bind_59 rfl ?_
      refine bi_icmp_ne (tgt := 76) hx hb r_x10 (by decide) dX6_bind_60 (by decide) (fun c11 => ?_) (fun c11 => ?_)
      ·
        replace hw := hw.1 c11
        refine lv_aload_n hx hb dX6_bind_76 rfl (lv_at hl 2 rfl) ?_
        refine gfX6_size hx hb hts hK hP hown (hts _ tw_356) dX6_bind_77 ?_
        refine lv_iload hx hb dX6_bind_80 (lv_at hl 0 rfl) ?_
        obtain ⟨c12, hw⟩ := hw
        refine ldCX6_size hx hb hK hP hN c12 dX6_bind_82 (fun x13 r_x13 e_x13 => ?_)
        replace hw := hw x13 r_x13 e_x13
        refine bi_if_eq (tgt := 110) hx hb r_x13 dX6_bind_83 (by decide) (fun c14 => ?_) (fun c14 => ?_)
        ·
          replace hw := hw.1 c14
          refine lv_iconst (v := I 0) hx hb dX6_bind_110 rfl ?_
          exact xrz hx hb hr (by decide) hlk hP hK hD hS ⟨_, _, (by decide), rfl, hN, hF, rfl, hw⟩ (Nat.le_of_ble_eq_true rfl) (Nat.le_of_ble_eq_true rfl) dX6_bind_111
        ·
          replace hw := hw.2 c14
          refine lv_aload_n hx hb dX6_bind_86 rfl (lv_at hl 2 rfl) ?_
          refine gfX6_data hx hb hts hK hP hown (hts _ tw_347) dX6_bind_87 ?_
          refine lv_aload_n hx hb dX6_bind_90 rfl (lv_at hl 2 rfl) ?_
          refine gfX6_at hx hb hts hK hP hown (hts _ tw_353) dX6_bind_91 ?_
          refine lv_iload hx hb dX6_bind_94 (lv_at hl 0 rfl) ?_
          refine ldCX6_at hx hb hK hP hN c12 dX6_bind_96 (fun x15 r_x15 e_x15 => ?_)
          replace hw := hw x15 r_x15 e_x15
          obtain ⟨c16, hw⟩ := hw
          refine ldCX6_data hx hb hK hP hN c16 dX6_bind_97 (fun x17 r_x17 e_x17 => ?_)
          replace hw := hw x17 r_x17 e_x17
          refine lv_aload_n hx hb dX6_bind_98 rfl (lv_at hl 2 rfl) ?_
          refine gfX6_library hx hb hts hK hP hown (hts _ tw_344) dX6_bind_99 ?_
          refine lv_iload hx hb dX6_bind_102 (lv_at hl 1 rfl) ?_
          obtain ⟨Q18, hc, hw⟩ := hw
          refine wc_i (X := CX g q lb) (va_runV (As := [.int (I x6)]) (rest := [.int (I x17)]) ⟨hx, hb, hml, hown, hts⟩ (L_X3_typeOf l g q lb hlb r_x6 hN hc H.size) (cwV 1 hts (TB_V tw_1310 tw_1208 tw_1209 tw_2 co_X3_typeOf) rfl rfl rfl (by decide +kernel) ⟨Nat.le_of_ble_eq_true rfl, Nat.le_of_ble_eq_true rfl⟩) (preV (q0 := 1) (ci := 3) rfl xT_bl hP hK hNb hD rfl rfl xT_at) rfl rfl hl.1 rfl (lv_room (Nat.le_of_ble_eq_true rfl)) dX6_bind_104 ⟨Nat.le_of_ble_eq_true rfl, Nat.le_of_ble_eq_true rfl⟩) hP hD hS hA (fun x19 H locs r_x19 hq hP hD hS => ?_)
          replace hw := hw x19 r_x19 hq
          refine bi_icmp_eq (tgt := 112) hx hb r_x17 r_x19 dX6_bind_107 (by decide) (fun c21 => ?_) (fun c21 => ?_)
          ·
            replace hw := hw.1 c21
            refine lv_aload_n hx hb dX6_bind_112 rfl (lv_at hl 2 rfl) ?_
            refine gfX6_becomesAt hx hb hts hK hP hown (hts _ tw_365) dX6_bind_113 ?_
            refine lv_aload_n hx hb dX6_bind_116 rfl (lv_at hl 2 rfl) ?_
            refine gfX6_library hx hb hts hK hP hown (hts _ tw_344) dX6_bind_117 ?_
            refine lv_iload hx hb dX6_bind_120 (lv_at hl 1 rfl) ?_
            obtain ⟨Q22, hc, hw⟩ := hw
            refine wc_i (X := CX g q lb) (va_runV (As := [.int (I x6)]) (rest := [.ref (q 60)]) ⟨hx, hb, hml, hown, hts⟩ (L_X3_variableOf l g q lb hlb r_x6 hN hc H.size) (cwV 1 hts (TB_V tw_1311 tw_1022 tw_1023 tw_2 co_X3_variableOf) rfl rfl rfl (by decide +kernel) ⟨Nat.le_of_ble_eq_true rfl, Nat.le_of_ble_eq_true rfl⟩) (preV (q0 := 1) (ci := 3) rfl xT_bl hP hK hNb hD rfl rfl xT_at) rfl rfl hl.1 rfl (lv_room (Nat.le_of_ble_eq_true rfl)) dX6_bind_122 ⟨Nat.le_of_ble_eq_true rfl, Nat.le_of_ble_eq_true rfl⟩) hP hD hS hA (fun x23 H locs r_x23 hq hP hD hS => ?_)
            replace hw := hw x23 r_x23 hq
            refine lv_aload_n hx hb dX6_bind_125 rfl (lv_at hl 2 rfl) ?_
            refine gfX6_at hx hb hts hK hP hown (hts _ tw_353) dX6_bind_126 ?_
            refine lv_iload hx hb dX6_bind_129 (lv_at hl 0 rfl) ?_
            refine ldCX6_at hx hb hK hP hN c12 dX6_bind_131 (fun x25 r_x25 e_x25 => ?_)
            replace hw := hw x25 r_x25 e_x25
            refine lv_iconst (v := I 1) hx hb dX6_bind_132 rfl ?_
            refine bi_iadd hx hb dX6_bind_133 ?_
            obtain ⟨c26, hw⟩ := hw
            obtain ⟨c27, hw⟩ := hw
            refine sdCX6_becomesAt hx hb hK hP hD hS c26 dX6_bind_134 (fun H locs hP hD hS => ?_)
            have hN : n_m (s_a τ 44 x23 (x25 + 1)) := n_a (k := 44) (j := x23) hN (c27 : rg (x25 + 1))
            have hF : f_r [] [44, 45] [] σ (s_a τ 44 x23 (x25 + 1)) := f_a hF (by decide)
            refine lv_aload_n hx hb dX6_bind_135 rfl (lv_at hl 2 rfl) ?_
            refine gfX6_becomesSize hx hb hts hK hP hown (hts _ tw_366) dX6_bind_136 ?_
            refine lv_aload_n hx hb dX6_bind_139 rfl (lv_at hl 2 rfl) ?_
            refine gfX6_library hx hb hts hK hP hown (hts _ tw_344) dX6_bind_140 ?_
            refine lv_iload hx hb dX6_bind_143 (lv_at hl 1 rfl) ?_
            obtain ⟨Q28, hc, hw⟩ := hw
            refine wc_i (X := CX g q lb) (va_runV (As := [.int (I x6)]) (rest := [.ref (q 61)]) ⟨hx, hb, hml, hown, hts⟩ (L_X3_variableOf l g q lb hlb r_x6 hN hc H.size) (cwV 1 hts (TB_V tw_1311 tw_1022 tw_1023 tw_2 co_X3_variableOf) rfl rfl rfl (by decide +kernel) ⟨Nat.le_of_ble_eq_true rfl, Nat.le_of_ble_eq_true rfl⟩) (preV (q0 := 1) (ci := 3) rfl xT_bl hP hK hNb hD rfl rfl xT_at) rfl rfl hl.1 rfl (lv_room (Nat.le_of_ble_eq_true rfl)) dX6_bind_145 ⟨Nat.le_of_ble_eq_true rfl, Nat.le_of_ble_eq_true rfl⟩) hP hD hS hA (fun x29 H locs r_x29 hq hP hD hS => ?_)
            replace hw := hw x29 r_x29 hq
            refine lv_aload_n hx hb dX6_bind_148 rfl (lv_at hl 2 rfl) ?_
            refine gfX6_size hx hb hts hK hP hown (hts _ tw_356) dX6_bind_149 ?_
            refine lv_iload hx hb dX6_bind_152 (lv_at hl 0 rfl) ?_
            refine ldCX6_size hx hb hK hP hN c12 dX6_bind_154 (fun x31 r_x31 e_x31 => ?_)
            replace hw := hw x31 r_x31 e_x31
            refine lv_iconst (v := I 1) hx hb dX6_bind_155 rfl ?_
            refine bi_isub hx hb dX6_bind_156 ?_
            obtain ⟨c32, hw⟩ := hw
            obtain ⟨c33, hw⟩ := hw
            refine sdCX6_becomesSize hx hb hK hP hD hS c32 dX6_bind_157 (fun H locs hP hD hS => ?_)
            have hN : n_m (s_a (s_a τ 44 x23 (x25 + 1)) 45 x29 (x31 - 1)) := n_a (k := 45) (j := x29) hN (c33 : rg (x31 - 1))
            have hF : f_r [] [44, 45] [] σ (s_a (s_a τ 44 x23 (x25 + 1)) 45 x29 (x31 - 1)) := f_a hF (by decide)
            refine lv_iinc (v := I (u3 + 1)) (lv' := [(3, .int (I (u3 + 1))), (5, .int (I x8)), (4, .int (I x6)), (0, .ref (q 4)), (1, .int (I u1)), (2, .int (I u2))]) hx hb dX6_bind_158 hl (k := 5) rfl (I_add _ _) (by decide) rfl (fun ls hl => ?_)
            refine lv_goto (tgt := 2) hx hb dX6_bind_161 (by decide) ?_
            obtain ⟨c34, hw⟩ := hw
            exact (hP2 _ _ _ _).mp hw r_u1 r_u2 c34 hN hF H locs ls hP hD hS (lv_sub hl [3, 4, 5, 0] rfl)
          ·
            replace hw := hw.2 c21
            refine lv_iconst (v := I 0) hx hb dX6_bind_110 rfl ?_
            exact xrz hx hb hr (by decide) hlk hP hK hD hS ⟨_, _, (by decide), rfl, hN, hF, rfl, hw⟩ (Nat.le_of_ble_eq_true rfl) (Nat.le_of_ble_eq_true rfl) dX6_bind_111
      ·
        replace hw := hw.2 c11
        refine lv_aload_n hx hb dX6_bind_63 rfl (lv_at hl 2 rfl) ?_
        refine lv_iload hx hb dX6_bind_64 (lv_at hl 0 rfl) ?_
        refine lv_iload hx hb dX6_bind_66 (lv_at hl 1 rfl) ?_
        obtain ⟨Q35, hc, hw⟩ := hw
        refine wc_i (X := CX g q lb) (va_runV (As := [.int (I x8), .int (I x6)]) (rest := []) ⟨hx, hb, hml, hown, hts⟩ (L_X6_isEssential l g q lb hlb r_x8 r_x6 hN hc H.size) (cwV 2 hts (TB_V tw_1302 tw_1304 ts_45 tw_6 co_X6_isEssential) rfl rfl rfl (by decide +kernel) ⟨Nat.le_of_ble_eq_true rfl, Nat.le_of_ble_eq_true rfl⟩) (preV (q0 := 4) (ci := 6) rfl xT_bl hP hK hNb hD rfl rfl xT_at) rfl rfl hl.1 rfl (lv_room (Nat.le_of_ble_eq_true rfl)) dX6_bind_68 ⟨Nat.le_of_ble_eq_true rfl, Nat.le_of_ble_eq_true rfl⟩) hP hD hS hA (fun x36 H locs r_x36 hq hP hD hS => ?_)
        replace hw := hw x36 r_x36 hq
        refine bi_if_ne (tgt := 158) hx hb r_x36 dX6_bind_71 (by decide) (fun c38 => ?_) (fun c38 => ?_)
        ·
          replace hw := hw.1 c38
          refine lv_iinc (v := I (u3 + 1)) (lv' := [(3, .int (I (u3 + 1))), (5, .int (I x8)), (4, .int (I x6)), (0, .ref (q 4)), (1, .int (I u1)), (2, .int (I u2))]) hx hb dX6_bind_158 hl (k := 5) rfl (I_add _ _) (by decide) rfl (fun ls hl => ?_)
          refine lv_goto (tgt := 2) hx hb dX6_bind_161 (by decide) ?_
          obtain ⟨c39, hw⟩ := hw
          exact (hP2 _ _ _ _).mp hw r_u1 r_u2 c39 hN hF H locs ls hP hD hS (lv_sub hl [3, 4, 5, 0] rfl)
        ·
          replace hw := hw.2 c38
          refine lv_iconst (v := I 0) hx hb dX6_bind_74 rfl ?_
          exact xrz hx hb hr (by decide) hlk hP hK hD hS ⟨_, _, (by decide), rfl, hN, hF, rfl, hw⟩ (Nat.le_of_ble_eq_true rfl) (Nat.le_of_ble_eq_true rfl) dX6_bind_75
def W_X6_gather_q63 (n1 : Int) (σ : S0) (Q : Int → S0 → Prop) : Prop :=
  ∀ (P20 : Int → Int → Int → S0 → Prop),
  (∀ (u1 : Int) (u3 : Int) (u4 : Int) (τ : S0), ((0 ≤ u1 ∧ u1 < 1000) ∧ (∀ (x5 : Int), rg x5 → x5 = τ.2.1 44 u1 → (∀ (x6 : Int), rg x6 → x6 = τ.2.1 45 u1 → (rg (x5 + x6) ∧ ((x5 + x6) ≤ u4 → Q u3 τ) ∧ (u4 < (x5 + x6) → (0 ≤ u4 ∧ u4 < 42000) ∧ (∀ (x10 : Int), rg x10 → x10 = τ.2.1 39 u4 → ((0 ≤ x10 ∧ x10 < 1000) ∧ (∀ (x12 : Int), rg x12 → x12 = τ.2.1 8 x10 → ((x12 = 0 → rg (u4 + 1) ∧ P20 u1 u3 (u4 + 1) τ) ∧ (¬ x12 = 0 → ∀ (x15 : Int), rg x15 → x15 = τ.2.1 46 x10 → ((x15 = τ.1 20 → rg (u4 + 1) ∧ P20 u1 u3 (u4 + 1) τ) ∧ (¬ x15 = τ.1 20 → (0 ≤ u3 ∧ u3 < 1000) ∧ (rg (u3 + 1) ∧ rg (u4 + 1) ∧ P20 u1 (u3 + 1) (u4 + 1) (s_a (s_a τ 46 x10 (τ.1 20)) 47 u3 x10)))))))))))))) → P20 u1 u3 u4 τ) →
  ∀ (x1 : Int), rg x1 → ((0 ≤ n1 ∧ n1 < 1000) ∧ (∀ (x3 : Int), rg x3 → x3 = σ.2.1 44 n1 → (P20 n1 0 x3 (s_v σ 20 x1))))
set_option maxRecDepth 100000 in
set_option maxHeartbeats 4000000 in
theorem L_X6_gather_q63 (l : Launch) (g : gG) (q : Nat → Nat) (lb : Nat) (hlb : lb < 2 ^ 31) {n1 : Int} {σ : S0} {Q : Int → S0 → Prop} (r_n1 : rg n1) (hN : n_m σ) (hw : W_X6_gather_q63 n1 σ Q) (sz : Nat) : MetI l yX6_gather cX6_gather 6 (some .int) { frames := 0, cells := 0, slots := 0, locals := 0 } g [.ref (q 4), .int (I n1), .ref (q 63)] (CX g q lb σ) sz xT (p_I (CX g q lb) [20] [46, 47] [] σ Q) 0 0 := by
  refine mkMet (Qc := fun A => QI g A (p_I (CX g q lb) [20] [46, 47] [] σ Q)) (by decide) (Nat.le_of_ble_eq_true rfl) ?_
  intro p e s m below meth c A H ls hx hb hr hml hown hts hlk hnm hsz hP hK hNb hD hA hAe hS hX hl
  have hl : lv_has ls 6 [(0, .ref (q 4)), (1, .int (I n1)), (2, .ref (q 63))] := hl
  have hB := hN
  have hF : f_r [20] [46, 47] [] σ σ := f_0
  obtain ⟨locs, hlocs⟩ : ∃ z : List Loc, z = [] := ⟨_, rfl⟩
  rw [← hlocs] at hS ⊢
  obtain ⟨P20, hP20⟩ : ∃ P : Int → Int → Int → S0 → Prop, ∀ (u1 : Int) (u3 : Int) (u4 : Int) (τ : S0), (P u1 u3 u4 τ ↔ (rg u1 → rg u3 → rg u4 → n_m τ → f_r [20] [46, 47] [] σ τ → ∀ (H : Heap) (locs : List Loc) (ls : Array Slot), KP g (CX g q lb τ) H → va_D A (CX g q lb τ) → va_S A s.heap H locs → lv_has ls 6 [(0, .ref (q 4)), (1, .int (I u1)), (2, .ref (q 63)), (3, .int (I u3)), (4, .int (I u4))] → W p l e ({ frames := 0, cells := 0, slots := 0, locals := 0 }) s m [.ref (q 4), .int (I n1), .ref (q 63)].toArray below meth c H locs 0 0 (MQ below (QI g A (p_I (CX g q lb) [20] [46, 47] [] σ Q)) [.ref (q 4), .int (I n1), .ref (q 63)].toArray s 0 0 A) (F0 m 20 ls []))) := ⟨_, fun _ _ _ _ => Iff.rfl⟩
  refine (fun hw => ?_) (hw P20 ?_)
  ·
    refine lv_aload_n hx hb dX6_gather_0 rfl (lv_at hl 0 rfl) ?_
    refine lv_dup hx hb dX6_gather_1 rfl ?_
    refine gfX6_turn hx hb hts hK hP hown (hts _ tw_368) (x := σ.1 20) rfl dX6_gather_2 ?_
    refine lv_iconst (v := I 1) hx hb dX6_gather_5 rfl ?_
    refine bi_iadd hx hb dX6_gather_6 ?_
    refine bi_hav (fun x1 r_x1 => ?_)
    replace hw := hw x1 r_x1
    refine pfX6_turn hx hb hts hK hP hD hS hown (hts _ tw_368) dX6_gather_7 (fun H locs hP hD hS => ?_)
    have hN : n_m (s_v σ 20 x1) := n_v (i := 20) hN (r_x1 : rg x1)
    have hF : f_r [20] [46, 47] [] σ (s_v σ 20 x1) := f_v hF (by decide)
    refine lv_iconst (v := I 0) hx hb dX6_gather_10 rfl ?_
    refine lv_istore_n (lv' := [(3, .int (I 0)), (0, .ref (q 4)), (1, .int (I n1)), (2, .ref (q 63))]) hx hb dX6_gather_11 rfl hl (by decide) rfl (fun ls hl => ?_)
    refine lv_aload_n hx hb dX6_gather_12 rfl (lv_at hl 1 rfl) ?_
    refine gfX6_becomesAt hx hb hts hK hP hown (hts _ tw_365) dX6_gather_13 ?_
    refine lv_iload_n hx hb dX6_gather_16 rfl (lv_at hl 2 rfl) ?_
    obtain ⟨c2, hw⟩ := hw
    refine ldCX6_becomesAt hx hb hK hP hN c2 dX6_gather_17 (fun x3 r_x3 e_x3 => ?_)
    replace hw := hw x3 r_x3 e_x3
    refine lv_istore (lv' := [(4, .int (I x3)), (3, .int (I 0)), (0, .ref (q 4)), (1, .int (I n1)), (2, .ref (q 63))]) hx hb dX6_gather_18 hl (by decide) rfl (fun ls hl => ?_)
    exact (hP20 _ _ _ _).mp hw r_n1 (by decide) r_x3 hN hF H locs ls hP hD hS (lv_sub hl [2, 3, 4, 1, 0] rfl)
  ·
    intro u1 u3 u4 τ hw
    refine (hP20 _ _ _ _).mpr ?_
    intro r_u1 r_u3 r_u4 hN hF H locs ls hP hD hS hl
    have hB := hN
    refine lv_iload hx hb dX6_gather_20 (lv_at hl 4 rfl) ?_
    refine lv_aload_n hx hb dX6_gather_22 rfl (lv_at hl 0 rfl) ?_
    refine gfX6_becomesAt hx hb hts hK hP hown (hts _ tw_365) dX6_gather_23 ?_
    refine lv_iload_n hx hb dX6_gather_26 rfl (lv_at hl 1 rfl) ?_
    obtain ⟨c4, hw⟩ := hw
    refine ldCX6_becomesAt hx hb hK hP hN c4 dX6_gather_27 (fun x5 r_x5 e_x5 => ?_)
    replace hw := hw x5 r_x5 e_x5
    refine lv_aload_n hx hb dX6_gather_28 rfl (lv_at hl 0 rfl) ?_
    refine gfX6_becomesSize hx hb hts hK hP hown (hts _ tw_366) dX6_gather_29 ?_
    refine lv_iload_n hx hb dX6_gather_32 rfl (lv_at hl 1 rfl) ?_
    refine ldCX6_becomesSize hx hb hK hP hN c4 dX6_gather_33 (fun x6 r_x6 e_x6 => ?_)
    replace hw := hw x6 r_x6 e_x6
    refine bi_iadd hx hb dX6_gather_34 ?_
    obtain ⟨c7, hw⟩ := hw
    refine bi_icmp_ge (tgt := 99) hx hb r_u4 c7 dX6_gather_35 (by decide) (fun c8 => ?_) (fun c8 => ?_)
    ·
      replace hw := hw.1 c8
      refine lv_iload_n hx hb dX6_gather_99 rfl (lv_at hl 3 rfl) ?_
      exact xri hx hb hr hlk hP hK hD hS ⟨_, _, r_u3, rfl, hN, hF, rfl, hw⟩ (Nat.le_of_ble_eq_true rfl) (Nat.le_of_ble_eq_true rfl) dX6_gather_100
    ·
      replace hw := hw.2 c8
      refine lv_aload_n hx hb dX6_gather_38 rfl (lv_at hl 0 rfl) ?_
      refine gfX6_data hx hb hts hK hP hown (hts _ tw_347) dX6_gather_39 ?_
      refine lv_iload hx hb dX6_gather_42 (lv_at hl 4 rfl) ?_
      obtain ⟨c9, hw⟩ := hw
      refine ldCX6_data hx hb hK hP hN c9 dX6_gather_44 (fun x10 r_x10 e_x10 => ?_)
      replace hw := hw x10 r_x10 e_x10
      refine lv_istore (lv' := [(5, .int (I x10)), (0, .ref (q 4)), (1, .int (I u1)), (2, .ref (q 63)), (3, .int (I u3)), (4, .int (I u4))]) hx hb dX6_gather_45 hl (by decide) rfl (fun ls hl => ?_)
      refine lv_aload_n hx hb dX6_gather_47 rfl (lv_at hl 1 rfl) ?_
      refine gfX6_library hx hb hts hK hP hown (hts _ tw_344) dX6_gather_48 ?_
      refine gfNX3_variable hx hb hts hK hP hown (nb_use hNb tn_48) dX6_gather_51 ?_
      refine lv_iload hx hb dX6_gather_54 (lv_at hl 0 rfl) ?_
      obtain ⟨c11, hw⟩ := hw
      refine ldCX3_variable hx hb hK hP hN c11 dX6_gather_56 (fun x12 r_x12 e_x12 => ?_)
      replace hw := hw x12 r_x12 e_x12
      refine bi_if_eq (tgt := 93) hx hb r_x12 dX6_gather_57 (by decide) (fun c13 => ?_) (fun c13 => ?_)
      ·
        replace hw := hw.1 c13
        refine lv_iinc (v := I (u4 + 1)) (lv' := [(4, .int (I (u4 + 1))), (5, .int (I x10)), (0, .ref (q 4)), (1, .int (I u1)), (2, .ref (q 63)), (3, .int (I u3))]) hx hb dX6_gather_93 hl (k := 5) rfl (I_add _ _) (by decide) rfl (fun ls hl => ?_)
        refine lv_goto (tgt := 20) hx hb dX6_gather_96 (by decide) ?_
        obtain ⟨c14, hw⟩ := hw
        exact (hP20 _ _ _ _).mp hw r_u1 r_u3 c14 hN hF H locs ls hP hD hS (lv_sub hl [2, 3, 4, 5, 0] rfl)
      ·
        replace hw := hw.2 c13
        refine lv_aload_n hx hb dX6_gather_60 rfl (lv_at hl 1 rfl) ?_
        refine gfX6_met hx hb hts hK hP hown (hts _ tw_367) dX6_gather_61 ?_
        refine lv_iload hx hb dX6_gather_64 (lv_at hl 0 rfl) ?_
        refine ldCX6_met hx hb hK hP hN c11 dX6_gather_66 (fun x15 r_x15 e_x15 => ?_)
        replace hw := hw x15 r_x15 e_x15
        refine lv_aload_n hx hb dX6_gather_67 rfl (lv_at hl 1 rfl) ?_
        refine gfX6_turn hx hb hts hK hP hown (hts _ tw_368) (x := τ.1 20) rfl dX6_gather_68 ?_
        refine bi_icmp_eq (tgt := 93) hx hb r_x15 (hB.1 20) dX6_gather_71 (by decide) (fun c16 => ?_) (fun c16 => ?_)
        ·
          replace hw := hw.1 c16
          refine lv_iinc (v := I (u4 + 1)) (lv' := [(4, .int (I (u4 + 1))), (5, .int (I x10)), (0, .ref (q 4)), (1, .int (I u1)), (2, .ref (q 63)), (3, .int (I u3))]) hx hb dX6_gather_93 hl (k := 5) rfl (I_add _ _) (by decide) rfl (fun ls hl => ?_)
          refine lv_goto (tgt := 20) hx hb dX6_gather_96 (by decide) ?_
          obtain ⟨c17, hw⟩ := hw
          exact (hP20 _ _ _ _).mp hw r_u1 r_u3 c17 hN hF H locs ls hP hD hS (lv_sub hl [2, 3, 4, 5, 0] rfl)
        ·
          replace hw := hw.2 c16
          refine lv_aload_n hx hb dX6_gather_74 rfl (lv_at hl 1 rfl) ?_
          refine gfX6_met hx hb hts hK hP hown (hts _ tw_367) dX6_gather_75 ?_
          refine lv_iload hx hb dX6_gather_78 (lv_at hl 0 rfl) ?_
          refine lv_aload_n hx hb dX6_gather_80 rfl (lv_at hl 1 rfl) ?_
          refine gfX6_turn hx hb hts hK hP hown (hts _ tw_368) (x := τ.1 20) rfl dX6_gather_81 ?_
          refine sdCX6_met hx hb hK hP hD hS c11 dX6_gather_84 (fun H locs hP hD hS => ?_)
          have hN : n_m (s_a τ 46 x10 (τ.1 20)) := n_a (k := 46) (j := x10) hN ((hB.1 20) : rg (τ.1 20))
          have hF : f_r [20] [46, 47] [] σ (s_a τ 46 x10 (τ.1 20)) := f_a hF (by decide)
          refine lv_aload_n hx hb dX6_gather_85 rfl (lv_at hl 3 rfl) ?_
          refine lv_iload_n hx hb dX6_gather_86 rfl (lv_at hl 4 rfl) ?_
          refine lv_iload hx hb dX6_gather_87 (lv_at hl 0 rfl) ?_
          obtain ⟨c18, hw⟩ := hw
          refine sdCX6_variablesX hx hb hK hP hD hS c18 dX6_gather_89 (fun H locs hP hD hS => ?_)
          have hN : n_m (s_a (s_a τ 46 x10 (τ.1 20)) 47 u3 x10) := n_a (k := 47) (j := u3) hN (r_x10 : rg x10)
          have hF : f_r [20] [46, 47] [] σ (s_a (s_a τ 46 x10 (τ.1 20)) 47 u3 x10) := f_a hF (by decide)
          refine lv_iinc (v := I (u3 + 1)) (lv' := [(3, .int (I (u3 + 1))), (5, .int (I x10)), (0, .ref (q 4)), (1, .int (I u1)), (2, .ref (q 63)), (4, .int (I u4))]) hx hb dX6_gather_90 hl (k := 4) rfl (I_add _ _) (by decide) rfl (fun ls hl => ?_)
          refine lv_iinc (v := I (u4 + 1)) (lv' := [(4, .int (I (u4 + 1))), (3, .int (I (u3 + 1))), (5, .int (I x10)), (0, .ref (q 4)), (1, .int (I u1)), (2, .ref (q 63))]) hx hb dX6_gather_93 hl (k := 5) rfl (I_add _ _) (by decide) rfl (fun ls hl => ?_)
          refine lv_goto (tgt := 20) hx hb dX6_gather_96 (by decide) ?_
          obtain ⟨c19, hw⟩ := hw
          obtain ⟨c20, hw⟩ := hw
          exact (hP20 _ _ _ _).mp hw r_u1 c19 c20 hN hF H locs ls hP hD hS (lv_sub hl [3, 4, 5, 1, 0] rfl)
def W_X6_gather_q64 (n1 : Int) (σ : S0) (Q : Int → S0 → Prop) : Prop :=
  ∀ (P20 : Int → Int → Int → S0 → Prop),
  (∀ (u1 : Int) (u3 : Int) (u4 : Int) (τ : S0), ((0 ≤ u1 ∧ u1 < 1000) ∧ (∀ (x5 : Int), rg x5 → x5 = τ.2.1 44 u1 → (∀ (x6 : Int), rg x6 → x6 = τ.2.1 45 u1 → (rg (x5 + x6) ∧ ((x5 + x6) ≤ u4 → Q u3 τ) ∧ (u4 < (x5 + x6) → (0 ≤ u4 ∧ u4 < 42000) ∧ (∀ (x10 : Int), rg x10 → x10 = τ.2.1 39 u4 → ((0 ≤ x10 ∧ x10 < 1000) ∧ (∀ (x12 : Int), rg x12 → x12 = τ.2.1 8 x10 → ((x12 = 0 → rg (u4 + 1) ∧ P20 u1 u3 (u4 + 1) τ) ∧ (¬ x12 = 0 → ∀ (x15 : Int), rg x15 → x15 = τ.2.1 46 x10 → ((x15 = τ.1 20 → rg (u4 + 1) ∧ P20 u1 u3 (u4 + 1) τ) ∧ (¬ x15 = τ.1 20 → (0 ≤ u3 ∧ u3 < 1000) ∧ (rg (u3 + 1) ∧ rg (u4 + 1) ∧ P20 u1 (u3 + 1) (u4 + 1) (s_a (s_a τ 46 x10 (τ.1 20)) 48 u3 x10)))))))))))))) → P20 u1 u3 u4 τ) →
  ∀ (x1 : Int), rg x1 → ((0 ≤ n1 ∧ n1 < 1000) ∧ (∀ (x3 : Int), rg x3 → x3 = σ.2.1 44 n1 → (P20 n1 0 x3 (s_v σ 20 x1))))
set_option maxRecDepth 100000 in
set_option maxHeartbeats 4000000 in
theorem L_X6_gather_q64 (l : Launch) (g : gG) (q : Nat → Nat) (lb : Nat) (hlb : lb < 2 ^ 31) {n1 : Int} {σ : S0} {Q : Int → S0 → Prop} (r_n1 : rg n1) (hN : n_m σ) (hw : W_X6_gather_q64 n1 σ Q) (sz : Nat) : MetI l yX6_gather cX6_gather 6 (some .int) { frames := 0, cells := 0, slots := 0, locals := 0 } g [.ref (q 4), .int (I n1), .ref (q 64)] (CX g q lb σ) sz xT (p_I (CX g q lb) [20] [46, 48] [] σ Q) 0 0 := by
  refine mkMet (Qc := fun A => QI g A (p_I (CX g q lb) [20] [46, 48] [] σ Q)) (by decide) (Nat.le_of_ble_eq_true rfl) ?_
  intro p e s m below meth c A H ls hx hb hr hml hown hts hlk hnm hsz hP hK hNb hD hA hAe hS hX hl
  have hl : lv_has ls 6 [(0, .ref (q 4)), (1, .int (I n1)), (2, .ref (q 64))] := hl
  have hB := hN
  have hF : f_r [20] [46, 48] [] σ σ := f_0
  obtain ⟨locs, hlocs⟩ : ∃ z : List Loc, z = [] := ⟨_, rfl⟩
  rw [← hlocs] at hS ⊢
  obtain ⟨P20, hP20⟩ : ∃ P : Int → Int → Int → S0 → Prop, ∀ (u1 : Int) (u3 : Int) (u4 : Int) (τ : S0), (P u1 u3 u4 τ ↔ (rg u1 → rg u3 → rg u4 → n_m τ → f_r [20] [46, 48] [] σ τ → ∀ (H : Heap) (locs : List Loc) (ls : Array Slot), KP g (CX g q lb τ) H → va_D A (CX g q lb τ) → va_S A s.heap H locs → lv_has ls 6 [(0, .ref (q 4)), (1, .int (I u1)), (2, .ref (q 64)), (3, .int (I u3)), (4, .int (I u4))] → W p l e ({ frames := 0, cells := 0, slots := 0, locals := 0 }) s m [.ref (q 4), .int (I n1), .ref (q 64)].toArray below meth c H locs 0 0 (MQ below (QI g A (p_I (CX g q lb) [20] [46, 48] [] σ Q)) [.ref (q 4), .int (I n1), .ref (q 64)].toArray s 0 0 A) (F0 m 20 ls []))) := ⟨_, fun _ _ _ _ => Iff.rfl⟩
  refine (fun hw => ?_) (hw P20 ?_)
  ·
    refine lv_aload_n hx hb dX6_gather_0 rfl (lv_at hl 0 rfl) ?_
    refine lv_dup hx hb dX6_gather_1 rfl ?_
    refine gfX6_turn hx hb hts hK hP hown (hts _ tw_368) (x := σ.1 20) rfl dX6_gather_2 ?_
    refine lv_iconst (v := I 1) hx hb dX6_gather_5 rfl ?_
    refine bi_iadd hx hb dX6_gather_6 ?_
    refine bi_hav (fun x1 r_x1 => ?_)
    replace hw := hw x1 r_x1
    refine pfX6_turn hx hb hts hK hP hD hS hown (hts _ tw_368) dX6_gather_7 (fun H locs hP hD hS => ?_)
    have hN : n_m (s_v σ 20 x1) := n_v (i := 20) hN (r_x1 : rg x1)
    have hF : f_r [20] [46, 48] [] σ (s_v σ 20 x1) := f_v hF (by decide)
    refine lv_iconst (v := I 0) hx hb dX6_gather_10 rfl ?_
    refine lv_istore_n (lv' := [(3, .int (I 0)), (0, .ref (q 4)), (1, .int (I n1)), (2, .ref (q 64))]) hx hb dX6_gather_11 rfl hl (by decide) rfl (fun ls hl => ?_)
    refine lv_aload_n hx hb dX6_gather_12 rfl (lv_at hl 1 rfl) ?_
    refine gfX6_becomesAt hx hb hts hK hP hown (hts _ tw_365) dX6_gather_13 ?_
    refine lv_iload_n hx hb dX6_gather_16 rfl (lv_at hl 2 rfl) ?_
    obtain ⟨c2, hw⟩ := hw
    refine ldCX6_becomesAt hx hb hK hP hN c2 dX6_gather_17 (fun x3 r_x3 e_x3 => ?_)
    replace hw := hw x3 r_x3 e_x3
    refine lv_istore (lv' := [(4, .int (I x3)), (3, .int (I 0)), (0, .ref (q 4)), (1, .int (I n1)), (2, .ref (q 64))]) hx hb dX6_gather_18 hl (by decide) rfl (fun ls hl => ?_)
    exact (hP20 _ _ _ _).mp hw r_n1 (by decide) r_x3 hN hF H locs ls hP hD hS (lv_sub hl [2, 3, 4, 1, 0] rfl)
  ·
    intro u1 u3 u4 τ hw
    refine (hP20 _ _ _ _).mpr ?_
    intro r_u1 r_u3 r_u4 hN hF H locs ls hP hD hS hl
    have hB := hN
    refine lv_iload hx hb dX6_gather_20 (lv_at hl 4 rfl) ?_
    refine lv_aload_n hx hb dX6_gather_22 rfl (lv_at hl 0 rfl) ?_
    refine gfX6_becomesAt hx hb hts hK hP hown (hts _ tw_365) dX6_gather_23 ?_
    refine lv_iload_n hx hb dX6_gather_26 rfl (lv_at hl 1 rfl) ?_
    obtain ⟨c4, hw⟩ := hw
    refine ldCX6_becomesAt hx hb hK hP hN c4 dX6_gather_27 (fun x5 r_x5 e_x5 => ?_)
    replace hw := hw x5 r_x5 e_x5
    refine lv_aload_n hx hb dX6_gather_28 rfl (lv_at hl 0 rfl) ?_
    refine gfX6_becomesSize hx hb hts hK hP hown (hts _ tw_366) dX6_gather_29 ?_
    refine lv_iload_n hx hb dX6_gather_32 rfl (lv_at hl 1 rfl) ?_
    refine ldCX6_becomesSize hx hb hK hP hN c4 dX6_gather_33 (fun x6 r_x6 e_x6 => ?_)
    replace hw := hw x6 r_x6 e_x6
    refine bi_iadd hx hb dX6_gather_34 ?_
    obtain ⟨c7, hw⟩ := hw
    refine bi_icmp_ge (tgt := 99) hx hb r_u4 c7 dX6_gather_35 (by decide) (fun c8 => ?_) (fun c8 => ?_)
    ·
      replace hw := hw.1 c8
      refine lv_iload_n hx hb dX6_gather_99 rfl (lv_at hl 3 rfl) ?_
      exact xri hx hb hr hlk hP hK hD hS ⟨_, _, r_u3, rfl, hN, hF, rfl, hw⟩ (Nat.le_of_ble_eq_true rfl) (Nat.le_of_ble_eq_true rfl) dX6_gather_100
    ·
      replace hw := hw.2 c8
      refine lv_aload_n hx hb dX6_gather_38 rfl (lv_at hl 0 rfl) ?_
      refine gfX6_data hx hb hts hK hP hown (hts _ tw_347) dX6_gather_39 ?_
      refine lv_iload hx hb dX6_gather_42 (lv_at hl 4 rfl) ?_
      obtain ⟨c9, hw⟩ := hw
      refine ldCX6_data hx hb hK hP hN c9 dX6_gather_44 (fun x10 r_x10 e_x10 => ?_)
      replace hw := hw x10 r_x10 e_x10
      refine lv_istore (lv' := [(5, .int (I x10)), (0, .ref (q 4)), (1, .int (I u1)), (2, .ref (q 64)), (3, .int (I u3)), (4, .int (I u4))]) hx hb dX6_gather_45 hl (by decide) rfl (fun ls hl => ?_)
      refine lv_aload_n hx hb dX6_gather_47 rfl (lv_at hl 1 rfl) ?_
      refine gfX6_library hx hb hts hK hP hown (hts _ tw_344) dX6_gather_48 ?_
      refine gfNX3_variable hx hb hts hK hP hown (nb_use hNb tn_48) dX6_gather_51 ?_
      refine lv_iload hx hb dX6_gather_54 (lv_at hl 0 rfl) ?_
      obtain ⟨c11, hw⟩ := hw
      refine ldCX3_variable hx hb hK hP hN c11 dX6_gather_56 (fun x12 r_x12 e_x12 => ?_)
      replace hw := hw x12 r_x12 e_x12
      refine bi_if_eq (tgt := 93) hx hb r_x12 dX6_gather_57 (by decide) (fun c13 => ?_) (fun c13 => ?_)
      ·
        replace hw := hw.1 c13
        refine lv_iinc (v := I (u4 + 1)) (lv' := [(4, .int (I (u4 + 1))), (5, .int (I x10)), (0, .ref (q 4)), (1, .int (I u1)), (2, .ref (q 64)), (3, .int (I u3))]) hx hb dX6_gather_93 hl (k := 5) rfl (I_add _ _) (by decide) rfl (fun ls hl => ?_)
        refine lv_goto (tgt := 20) hx hb dX6_gather_96 (by decide) ?_
        obtain ⟨c14, hw⟩ := hw
        exact (hP20 _ _ _ _).mp hw r_u1 r_u3 c14 hN hF H locs ls hP hD hS (lv_sub hl [2, 3, 4, 5, 0] rfl)
      ·
        replace hw := hw.2 c13
        refine lv_aload_n hx hb dX6_gather_60 rfl (lv_at hl 1 rfl) ?_
        refine gfX6_met hx hb hts hK hP hown (hts _ tw_367) dX6_gather_61 ?_
        refine lv_iload hx hb dX6_gather_64 (lv_at hl 0 rfl) ?_
        refine ldCX6_met hx hb hK hP hN c11 dX6_gather_66 (fun x15 r_x15 e_x15 => ?_)
        replace hw := hw x15 r_x15 e_x15
        refine lv_aload_n hx hb dX6_gather_67 rfl (lv_at hl 1 rfl) ?_
        refine gfX6_turn hx hb hts hK hP hown (hts _ tw_368) (x := τ.1 20) rfl dX6_gather_68 ?_
        refine bi_icmp_eq (tgt := 93) hx hb r_x15 (hB.1 20) dX6_gather_71 (by decide) (fun c16 => ?_) (fun c16 => ?_)
        ·
          replace hw := hw.1 c16
          refine lv_iinc (v := I (u4 + 1)) (lv' := [(4, .int (I (u4 + 1))), (5, .int (I x10)), (0, .ref (q 4)), (1, .int (I u1)), (2, .ref (q 64)), (3, .int (I u3))]) hx hb dX6_gather_93 hl (k := 5) rfl (I_add _ _) (by decide) rfl (fun ls hl => ?_)
          refine lv_goto (tgt := 20) hx hb dX6_gather_96 (by decide) ?_
          obtain ⟨c17, hw⟩ := hw
          exact (hP20 _ _ _ _).mp hw r_u1 r_u3 c17 hN hF H locs ls hP hD hS (lv_sub hl [2, 3, 4, 5, 0] rfl)
        ·
          replace hw := hw.2 c16
          refine lv_aload_n hx hb dX6_gather_74 rfl (lv_at hl 1 rfl) ?_
          refine gfX6_met hx hb hts hK hP hown (hts _ tw_367) dX6_gather_75 ?_
          refine lv_iload hx hb dX6_gather_78 (lv_at hl 0 rfl) ?_
          refine lv_aload_n hx hb dX6_gather_80 rfl (lv_at hl 1 rfl) ?_
          refine gfX6_turn hx hb hts hK hP hown (hts _ tw_368) (x := τ.1 20) rfl dX6_gather_81 ?_
          refine sdCX6_met hx hb hK hP hD hS c11 dX6_gather_84 (fun H locs hP hD hS => ?_)
          have hN : n_m (s_a τ 46 x10 (τ.1 20)) := n_a (k := 46) (j := x10) hN ((hB.1 20) : rg (τ.1 20))
          have hF : f_r [20] [46, 48] [] σ (s_a τ 46 x10 (τ.1 20)) := f_a hF (by decide)
          refine lv_aload_n hx hb dX6_gather_85 rfl (lv_at hl 3 rfl) ?_
          refine lv_iload_n hx hb dX6_gather_86 rfl (lv_at hl 4 rfl) ?_
          refine lv_iload hx hb dX6_gather_87 (lv_at hl 0 rfl) ?_
          obtain ⟨c18, hw⟩ := hw
          refine sdCX6_variablesY hx hb hK hP hD hS c18 dX6_gather_89 (fun H locs hP hD hS => ?_)
          have hN : n_m (s_a (s_a τ 46 x10 (τ.1 20)) 48 u3 x10) := n_a (k := 48) (j := u3) hN (r_x10 : rg x10)
          have hF : f_r [20] [46, 48] [] σ (s_a (s_a τ 46 x10 (τ.1 20)) 48 u3 x10) := f_a hF (by decide)
          refine lv_iinc (v := I (u3 + 1)) (lv' := [(3, .int (I (u3 + 1))), (5, .int (I x10)), (0, .ref (q 4)), (1, .int (I u1)), (2, .ref (q 64)), (4, .int (I u4))]) hx hb dX6_gather_90 hl (k := 4) rfl (I_add _ _) (by decide) rfl (fun ls hl => ?_)
          refine lv_iinc (v := I (u4 + 1)) (lv' := [(4, .int (I (u4 + 1))), (3, .int (I (u3 + 1))), (5, .int (I x10)), (0, .ref (q 4)), (1, .int (I u1)), (2, .ref (q 64))]) hx hb dX6_gather_93 hl (k := 5) rfl (I_add _ _) (by decide) rfl (fun ls hl => ?_)
          refine lv_goto (tgt := 20) hx hb dX6_gather_96 (by decide) ?_
          obtain ⟨c19, hw⟩ := hw
          obtain ⟨c20, hw⟩ := hw
          exact (hP20 _ _ _ _).mp hw r_u1 c19 c20 hN hF H locs ls hP hD hS (lv_sub hl [3, 4, 5, 1, 0] rfl)
def W_X9_areApart (n1 : Int) (n2 : Int) (σ : S0) (Q : Int → Prop) : Prop :=
  (0 ≤ n2 ∧ n2 ≤ 2147483647) ∧ ((0 ≤ ((n1 * 16) + (n2 / 64)) ∧ ((n1 * 16) + (n2 / 64)) < 16000) ∧ (∀ (x3 : Int64), x3 = σ.2.2 0 ((n1 * 16) + (n2 / 64)) → ((((j_ushr x3 (n2 % 64)) &&& 1) = 0 → Q 0) ∧ (¬ ((j_ushr x3 (n2 % 64)) &&& 1) = 0 → Q 1))))
set_option maxRecDepth 100000 in
set_option maxHeartbeats 4000000 in
theorem L_X9_areApart (l : Launch) (g : gG) (q : Nat → Nat) (lb : Nat) (hlb : lb < 2 ^ 31) {n1 : Int} {n2 : Int} {σ : S0} {Q : Int → Prop} (r_n1 : rg n1) (r_n2 : rg n2) (hN : n_m σ) (hw : W_X9_areApart n1 n2 σ Q) (sz : Nat) : MetI l yX9_areApart cX9_areApart 3 (some .boolean) { frames := 0, cells := 0, slots := 0, locals := 0 } g [.ref (q 2), .int (I n1), .int (I n2)] (CX g q lb σ) sz xT (p_i (CX g q lb) σ Q) 0 0 := by
  refine mkMet (Qc := fun A => QI g A (p_i (CX g q lb) σ Q)) (by decide) (Nat.le_of_ble_eq_true rfl) ?_
  intro p e s m below meth c A H ls hx hb hr hml hown hts hlk hnm hsz hP hK hNb hD hA hAe hS hX hl
  have hl : lv_has ls 3 [(0, .ref (q 2)), (1, .int (I n1)), (2, .int (I n2))] := hl
  have hB := hN
  obtain ⟨locs, hlocs⟩ : ∃ z : List Loc, z = [] := ⟨_, rfl⟩
  rw [← hlocs] at hS ⊢
  refine lv_aload_n hx hb dX9_areApart_0 rfl (lv_at hl 0 rfl) ?_
  refine gfX9_apartBits hx hb hts hK hP hown (hts _ tw_184) dX9_areApart_1 ?_
  refine lv_iload_n hx hb dX9_areApart_4 rfl (lv_at hl 1 rfl) ?_
  refine lv_bipush (v := I 16) hx hb dX9_areApart_5 (by decide) ?_
  refine bi_imul hx hb dX9_areApart_7 ?_
  refine lv_iload_n hx hb dX9_areApart_8 rfl (lv_at hl 2 rfl) ?_
  refine lv_bipush (v := I 6) hx hb dX9_areApart_9 (by decide) ?_
  obtain ⟨c1, hw⟩ := hw
  refine bi_ishr hx hb c1.1 c1.2 6 64 (by decide) (by decide) dX9_areApart_11 ?_
  refine bi_iadd hx hb dX9_areApart_12 ?_
  obtain ⟨c2, hw⟩ := hw
  refine ldCX9_apartBits hx hb hK hP hN c2 dX9_areApart_13 (fun x3 e_x3 => ?_)
  replace hw := hw x3 e_x3
  refine lv_iload_n hx hb dX9_areApart_14 rfl (lv_at hl 2 rfl) ?_
  refine lv_bipush (v := I 63) hx hb dX9_areApart_15 (by decide) ?_
  refine bi_iandm hx hb 63 6 64 (by decide) (by decide) (by omega) dX9_areApart_17 ?_
  refine bi_lushr hx hb dX9_areApart_18 ?_
  refine lv_lconst (v := 1) hx hb dX9_areApart_19 (by decide) ?_
  refine lv_land hx hb dX9_areApart_20 ?_
  refine lv_lconst (v := 0) hx hb dX9_areApart_21 (by decide) ?_
  refine bi_lcmp_eq (tgt := 30) hx hb dX9_areApart_22 dX9_areApart_23 (by decide) (fun c4 => ?_) (fun c4 => ?_)
  ·
    replace hw := hw.1 c4
    refine lv_iconst (v := I 0) hx hb dX9_areApart_30 rfl ?_
    exact xrz hx hb hr (by decide) hlk hP hK hD hS ⟨_, (by decide), rfl, rfl, hw⟩ (Nat.le_of_ble_eq_true rfl) (Nat.le_of_ble_eq_true rfl) dX9_areApart_31
  ·
    replace hw := hw.2 c4
    refine lv_iconst (v := I 1) hx hb dX9_areApart_26 rfl ?_
    refine lv_goto (tgt := 31) hx hb dX9_areApart_27 (by decide) ?_
    exact xrz hx hb hr (by decide) hlk hP hK hD hS ⟨_, (by decide), rfl, rfl, hw⟩ (Nat.le_of_ble_eq_true rfl) (Nat.le_of_ble_eq_true rfl) dX9_areApart_31
def W_X6_areApart (n1 : Int) (n2 : Int) (σ : S0) (Q : Int → Prop) : Prop :=
  ∀ (P2 : Int → Int → Int → Prop) (P10 : Int → Int → Int → Int → Prop),
  (∀ (u1 : Int) (u2 : Int) (u3 : Int), ((u1 ≤ u3 → Q 1) ∧ (u3 < u1 → P10 u1 u2 u3 0)) → P2 u1 u2 u3) →
  (∀ (u1 : Int) (u2 : Int) (u3 : Int) (u4 : Int), ((u2 ≤ u4 → rg (u3 + 1) ∧ P2 u1 u2 (u3 + 1)) ∧ (u4 < u2 → (0 ≤ u3 ∧ u3 < 1000) ∧ (∀ (x5 : Int), rg x5 → x5 = σ.2.1 47 u3 → ((0 ≤ u4 ∧ u4 < 1000) ∧ (∀ (x7 : Int), rg x7 → x7 = σ.2.1 48 u4 → (∃ (Q8 : Int → Prop), W_X9_areApart x5 x7 σ Q8 ∧ ∀ (x9 : Int), rg x9 → Q8 x9 → ((¬ x9 = 0 → rg (u4 + 1) ∧ P10 u1 u2 u3 (u4 + 1)) ∧ (x9 = 0 → Q 0)))))))) → P10 u1 u2 u3 u4) →
  P2 n1 n2 0
set_option maxRecDepth 100000 in
set_option maxHeartbeats 4000000 in
theorem L_X6_areApart (l : Launch) (g : gG) (q : Nat → Nat) (lb : Nat) (hlb : lb < 2 ^ 31) {n1 : Int} {n2 : Int} {σ : S0} {Q : Int → Prop} (r_n1 : rg n1) (r_n2 : rg n2) (hN : n_m σ) (hw : W_X6_areApart n1 n2 σ Q) (sz : Nat) : MetI l yX6_areApart cX6_areApart 5 (some .boolean) { frames := 1, cells := 0, slots := 0, locals := 22 } g [.ref (q 4), .int (I n1), .int (I n2)] (CX g q lb σ) sz xT (p_i (CX g q lb) σ Q) 0 0 := by
  refine mkMet (Qc := fun A => QI g A (p_i (CX g q lb) σ Q)) (by decide) (Nat.le_of_ble_eq_true rfl) ?_
  intro p e s m below meth c A H ls hx hb hr hml hown hts hlk hnm hsz hP hK hNb hD hA hAe hS hX hl
  have hl : lv_has ls 5 [(0, .ref (q 4)), (1, .int (I n1)), (2, .int (I n2))] := hl
  have hB := hN
  obtain ⟨locs, hlocs⟩ : ∃ z : List Loc, z = [] := ⟨_, rfl⟩
  rw [← hlocs] at hS ⊢
  obtain ⟨P2, hP2⟩ : ∃ P : Int → Int → Int → Prop, ∀ (u1 : Int) (u2 : Int) (u3 : Int), (P u1 u2 u3 ↔ (rg u1 → rg u2 → rg u3 → ∀ (H : Heap) (locs : List Loc) (ls : Array Slot), KP g (CX g q lb σ) H → va_D A (CX g q lb σ) → va_S A s.heap H locs → lv_has ls 5 [(0, .ref (q 4)), (1, .int (I u1)), (2, .int (I u2)), (3, .int (I u3))] → W p l e ({ frames := 1, cells := 0, slots := 0, locals := 22 }) s m [.ref (q 4), .int (I n1), .int (I n2)].toArray below meth c H locs 0 0 (MQ below (QI g A (p_i (CX g q lb) σ Q)) [.ref (q 4), .int (I n1), .int (I n2)].toArray s 0 0 A) (F0 m 2 ls []))) := ⟨_, fun _ _ _ => Iff.rfl⟩
  obtain ⟨P10, hP10⟩ : ∃ P : Int → Int → Int → Int → Prop, ∀ (u1 : Int) (u2 : Int) (u3 : Int) (u4 : Int), (P u1 u2 u3 u4 ↔ (rg u1 → rg u2 → rg u3 → rg u4 → ∀ (H : Heap) (locs : List Loc) (ls : Array Slot), KP g (CX g q lb σ) H → va_D A (CX g q lb σ) → va_S A s.heap H locs → lv_has ls 5 [(0, .ref (q 4)), (1, .int (I u1)), (2, .int (I u2)), (3, .int (I u3)), (4, .int (I u4))] → W p l e ({ frames := 1, cells := 0, slots := 0, locals := 22 }) s m [.ref (q 4), .int (I n1), .int (I n2)].toArray below meth c H locs 0 0 (MQ below (QI g A (p_i (CX g q lb) σ Q)) [.ref (q 4), .int (I n1), .int (I n2)].toArray s 0 0 A) (F0 m 10 ls []))) := ⟨_, fun _ _ _ _ => Iff.rfl⟩
  refine (fun hw => ?_) (hw P2 P10 ?_ ?_)
  ·
    refine lv_iconst (v := I 0) hx hb dX6_areApart_0 rfl ?_
    refine lv_istore_n (lv' := [(3, .int (I 0)), (0, .ref (q 4)), (1, .int (I n1)), (2, .int (I n2))]) hx hb dX6_areApart_1 rfl hl (by decide) rfl (fun ls hl => ?_)
    exact (hP2 _ _ _).mp hw r_n1 r_n2 (by decide)  H locs ls hP hD hS (lv_sub hl [1, 2, 3, 0] rfl)
  ·
    intro u1 u2 u3 hw
    refine (hP2 _ _ _).mpr ?_
    intro r_u1 r_u2 r_u3 H locs ls hP hD hS hl
    refine lv_iload_n hx hb dX6_areApart_2 rfl (lv_at hl 3 rfl) ?_
    refine lv_iload_n hx hb dX6_areApart_3 rfl (lv_at hl 1 rfl) ?_
    refine bi_icmp_ge (tgt := 53) hx hb r_u3 r_u1 dX6_areApart_4 (by decide) (fun c1 => ?_) (fun c1 => ?_)
    ·
      replace hw := hw.1 c1
      refine lv_iconst (v := I 1) hx hb dX6_areApart_53 rfl ?_
      exact xrz hx hb hr (by decide) hlk hP hK hD hS ⟨_, (by decide), rfl, rfl, hw⟩ (Nat.le_of_ble_eq_true rfl) (Nat.le_of_ble_eq_true rfl) dX6_areApart_54
    ·
      replace hw := hw.2 c1
      refine lv_iconst (v := I 0) hx hb dX6_areApart_7 rfl ?_
      refine lv_istore (lv' := [(4, .int (I 0)), (0, .ref (q 4)), (1, .int (I u1)), (2, .int (I u2)), (3, .int (I u3))]) hx hb dX6_areApart_8 hl (by decide) rfl (fun ls hl => ?_)
      exact (hP10 _ _ _ _).mp hw r_u1 r_u2 r_u3 (by decide)  H locs ls hP hD hS (lv_sub hl [1, 2, 3, 4, 0] rfl)
  ·
    intro u1 u2 u3 u4 hw
    refine (hP10 _ _ _ _).mpr ?_
    intro r_u1 r_u2 r_u3 r_u4 H locs ls hP hD hS hl
    refine lv_iload hx hb dX6_areApart_10 (lv_at hl 4 rfl) ?_
    refine lv_iload_n hx hb dX6_areApart_12 rfl (lv_at hl 2 rfl) ?_
    refine bi_icmp_ge (tgt := 47) hx hb r_u4 r_u2 dX6_areApart_13 (by decide) (fun c2 => ?_) (fun c2 => ?_)
    ·
      replace hw := hw.1 c2
      refine lv_iinc (v := I (u3 + 1)) (lv' := [(3, .int (I (u3 + 1))), (0, .ref (q 4)), (1, .int (I u1)), (2, .int (I u2)), (4, .int (I u4))]) hx hb dX6_areApart_47 hl (k := 3) rfl (I_add _ _) (by decide) rfl (fun ls hl => ?_)
      refine lv_goto (tgt := 2) hx hb dX6_areApart_50 (by decide) ?_
      obtain ⟨c3, hw⟩ := hw
      exact (hP2 _ _ _).mp hw r_u1 r_u2 c3  H locs ls hP hD hS (lv_sub hl [1, 2, 3, 0] rfl)
    ·
      replace hw := hw.2 c2
      refine lv_aload_n hx hb dX6_areApart_16 rfl (lv_at hl 0 rfl) ?_
      refine gfX6_scopes hx hb hts hK hP hown (hts _ tw_346) dX6_areApart_17 ?_
      refine lv_aload_n hx hb dX6_areApart_20 rfl (lv_at hl 0 rfl) ?_
      refine gfX6_variablesX hx hb hts hK hP hown (hts _ tw_369) dX6_areApart_21 ?_
      refine lv_iload_n hx hb dX6_areApart_24 rfl (lv_at hl 3 rfl) ?_
      obtain ⟨c4, hw⟩ := hw
      refine ldCX6_variablesX hx hb hK hP hN c4 dX6_areApart_25 (fun x5 r_x5 e_x5 => ?_)
      replace hw := hw x5 r_x5 e_x5
      refine lv_aload_n hx hb dX6_areApart_26 rfl (lv_at hl 0 rfl) ?_
      refine gfX6_variablesY hx hb hts hK hP hown (hts _ tw_370) dX6_areApart_27 ?_
      refine lv_iload hx hb dX6_areApart_30 (lv_at hl 4 rfl) ?_
      obtain ⟨c6, hw⟩ := hw
      refine ldCX6_variablesY hx hb hK hP hN c6 dX6_areApart_32 (fun x7 r_x7 e_x7 => ?_)
      replace hw := hw x7 r_x7 e_x7
      obtain ⟨Q8, hc, hw⟩ := hw
      refine wc_i (X := CX g q lb) (va_runV (As := [.int (I x5), .int (I x7)]) (rest := []) ⟨hx, hb, hml, hown, hts⟩ (L_X9_areApart l g q lb hlb r_x5 r_x7 hN hc H.size) (cwV 2 hts (TB_V tw_1332 tw_1180 tw_1181 tw_3 co_X9_areApart) rfl rfl rfl (by decide +kernel) ⟨Nat.le_of_ble_eq_true rfl, Nat.le_of_ble_eq_true rfl⟩) (preV (q0 := 2) (ci := 9) rfl xT_bl hP hK hNb hD rfl rfl xT_at) rfl rfl hl.1 rfl (lv_room (Nat.le_of_ble_eq_true rfl)) dX6_areApart_33 ⟨Nat.le_of_ble_eq_true rfl, Nat.le_of_ble_eq_true rfl⟩) hP hD hS hA (fun x9 H locs r_x9 hq hP hD hS => ?_)
      replace hw := hw x9 r_x9 hq
      refine bi_if_ne (tgt := 41) hx hb r_x9 dX6_areApart_36 (by decide) (fun c11 => ?_) (fun c11 => ?_)
      ·
        replace hw := hw.1 c11
        refine lv_iinc (v := I (u4 + 1)) (lv' := [(4, .int (I (u4 + 1))), (0, .ref (q 4)), (1, .int (I u1)), (2, .int (I u2)), (3, .int (I u3))]) hx hb dX6_areApart_41 hl (k := 4) rfl (I_add _ _) (by decide) rfl (fun ls hl => ?_)
        refine lv_goto (tgt := 10) hx hb dX6_areApart_44 (by decide) ?_
        obtain ⟨c12, hw⟩ := hw
        exact (hP10 _ _ _ _).mp hw r_u1 r_u2 r_u3 c12  H locs ls hP hD hS (lv_sub hl [1, 2, 3, 4, 0] rfl)
      ·
        replace hw := hw.2 c11
        refine lv_iconst (v := I 0) hx hb dX6_areApart_39 rfl ?_
        exact xrz hx hb hr (by decide) hlk hP hK hD hS ⟨_, (by decide), rfl, rfl, hw⟩ (Nat.le_of_ble_eq_true rfl) (Nat.le_of_ble_eq_true rfl) dX6_areApart_40
def W_X6_keepsApart (n1 : Int) (σ : S0) (Q : Int → S0 → Prop) : Prop :=
  ∀ (P10 : Int → Int → S0 → Prop),
  (∀ (u1 : Int) (u2 : Int) (τ : S0), ((0 ≤ u1 ∧ u1 < 1500) ∧ (∀ (x4 : Int), rg x4 → x4 = τ.2.1 30 u1 → (∀ (x5 : Int), rg x5 → x5 = τ.2.1 31 u1 → (rg (x4 + x5) ∧ ((x4 + x5) ≤ u2 → Q 1 τ) ∧ (u2 < (x4 + x5) → ∃ (Q8 : Int → Prop), W_X0_firstOf u2 τ Q8 ∧ ∀ (x9 : Int), rg x9 → Q8 x9 → (∃ (Q11 : Int → S0 → Prop), W_X6_gather_q63 x9 τ Q11 ∧ ∀ (x12 : Int) (τ13 : S0), rg x12 → n_m τ13 → f_r [20] [46, 47] [] τ τ13 → Q11 x12 τ13 → (∃ (Q14 : Int → Prop), W_X0_secondOf u2 τ13 Q14 ∧ ∀ (x15 : Int), rg x15 → Q14 x15 → (∃ (Q17 : Int → S0 → Prop), W_X6_gather_q64 x15 τ13 Q17 ∧ ∀ (x18 : Int) (τ19 : S0), rg x18 → n_m τ19 → f_r [20] [46, 48] [] τ13 τ19 → Q17 x18 τ19 → (∃ (Q20 : Int → Prop), W_X6_areApart x12 x18 τ19 Q20 ∧ ∀ (x21 : Int), rg x21 → Q20 x21 → ((¬ x21 = 0 → rg (u2 + 1) ∧ P10 u1 (u2 + 1) τ19) ∧ (x21 = 0 → Q 0 τ19))))))))))) → P10 u1 u2 τ) →
  (0 ≤ n1 ∧ n1 < 1500) ∧ (∀ (x2 : Int), rg x2 → x2 = σ.2.1 30 n1 → (P10 n1 x2 σ))
set_option maxRecDepth 100000 in
set_option maxHeartbeats 4000000 in
theorem L_X6_keepsApart (l : Launch) (g : gG) (q : Nat → Nat) (lb : Nat) (hlb : lb < 2 ^ 31) {n1 : Int} {σ : S0} {Q : Int → S0 → Prop} (r_n1 : rg n1) (hN : n_m σ) (hw : W_X6_keepsApart n1 σ Q) (sz : Nat) : MetI l yX6_keepsApart cX6_keepsApart 5 (some .boolean) { frames := 2, cells := 0, slots := 0, locals := 46 } g [.ref (q 4), .int (I n1)] (CX g q lb σ) sz xT (p_I (CX g q lb) [20] [46, 47, 48] [] σ Q) 0 0 := by
  refine mkMet (Qc := fun A => QI g A (p_I (CX g q lb) [20] [46, 47, 48] [] σ Q)) (by decide) (Nat.le_of_ble_eq_true rfl) ?_
  intro p e s m below meth c A H ls hx hb hr hml hown hts hlk hnm hsz hP hK hNb hD hA hAe hS hX hl
  have hl : lv_has ls 5 [(0, .ref (q 4)), (1, .int (I n1))] := hl
  have hB := hN
  have hF : f_r [20] [46, 47, 48] [] σ σ := f_0
  obtain ⟨locs, hlocs⟩ : ∃ z : List Loc, z = [] := ⟨_, rfl⟩
  rw [← hlocs] at hS ⊢
  obtain ⟨P10, hP10⟩ : ∃ P : Int → Int → S0 → Prop, ∀ (u1 : Int) (u2 : Int) (τ : S0), (P u1 u2 τ ↔ (rg u1 → rg u2 → n_m τ → f_r [20] [46, 47, 48] [] σ τ → ∀ (H : Heap) (locs : List Loc) (ls : Array Slot), KP g (CX g q lb τ) H → va_D A (CX g q lb τ) → va_S A s.heap H locs → lv_has ls 5 [(0, .ref (q 4)), (1, .int (I u1)), (2, .int (I u2))] → W p l e ({ frames := 2, cells := 0, slots := 0, locals := 46 }) s m [.ref (q 4), .int (I n1)].toArray below meth c H locs 0 0 (MQ below (QI g A (p_I (CX g q lb) [20] [46, 47, 48] [] σ Q)) [.ref (q 4), .int (I n1)].toArray s 0 0 A) (F0 m 10 ls []))) := ⟨_, fun _ _ _ => Iff.rfl⟩
  refine (fun hw => ?_) (hw P10 ?_)
  ·
    refine lv_aload_n hx hb dX6_keepsApart_0 rfl (lv_at hl 0 rfl) ?_
    refine gfX6_assertions hx hb hts hK hP hown (hts _ tw_345) dX6_keepsApart_1 ?_
    refine gfNX0_pairAt hx hb hts hK hP hown (nb_use hNb tn_258) dX6_keepsApart_4 ?_
    refine lv_iload_n hx hb dX6_keepsApart_7 rfl (lv_at hl 1 rfl) ?_
    obtain ⟨c1, hw⟩ := hw
    refine ldCX0_pairAt hx hb hK hP hN c1 dX6_keepsApart_8 (fun x2 r_x2 e_x2 => ?_)
    replace hw := hw x2 r_x2 e_x2
    refine lv_istore_n (lv' := [(2, .int (I x2)), (0, .ref (q 4)), (1, .int (I n1))]) hx hb dX6_keepsApart_9 rfl hl (by decide) rfl (fun ls hl => ?_)
    exact (hP10 _ _ _).mp hw r_n1 r_x2 hN hF H locs ls hP hD hS (lv_sub hl [1, 2, 0] rfl)
  ·
    intro u1 u2 τ hw
    refine (hP10 _ _ _).mpr ?_
    intro r_u1 r_u2 hN hF H locs ls hP hD hS hl
    have hB := hN
    refine lv_iload_n hx hb dX6_keepsApart_10 rfl (lv_at hl 2 rfl) ?_
    refine lv_aload_n hx hb dX6_keepsApart_11 rfl (lv_at hl 0 rfl) ?_
    refine gfX6_assertions hx hb hts hK hP hown (hts _ tw_345) dX6_keepsApart_12 ?_
    refine gfNX0_pairAt hx hb hts hK hP hown (nb_use hNb tn_258) dX6_keepsApart_15 ?_
    refine lv_iload_n hx hb dX6_keepsApart_18 rfl (lv_at hl 1 rfl) ?_
    obtain ⟨c3, hw⟩ := hw
    refine ldCX0_pairAt hx hb hK hP hN c3 dX6_keepsApart_19 (fun x4 r_x4 e_x4 => ?_)
    replace hw := hw x4 r_x4 e_x4
    refine lv_aload_n hx hb dX6_keepsApart_20 rfl (lv_at hl 0 rfl) ?_
    refine gfX6_assertions hx hb hts hK hP hown (hts _ tw_345) dX6_keepsApart_21 ?_
    refine gfNX0_pairSize hx hb hts hK hP hown (nb_use hNb tn_260) dX6_keepsApart_24 ?_
    refine lv_iload_n hx hb dX6_keepsApart_27 rfl (lv_at hl 1 rfl) ?_
    refine ldCX0_pairSize hx hb hK hP hN c3 dX6_keepsApart_28 (fun x5 r_x5 e_x5 => ?_)
    replace hw := hw x5 r_x5 e_x5
    refine bi_iadd hx hb dX6_keepsApart_29 ?_
    obtain ⟨c6, hw⟩ := hw
    refine bi_icmp_ge (tgt := 86) hx hb r_u2 c6 dX6_keepsApart_30 (by decide) (fun c7 => ?_) (fun c7 => ?_)
    ·
      replace hw := hw.1 c7
      refine lv_iconst (v := I 1) hx hb dX6_keepsApart_86 rfl ?_
      exact xrz hx hb hr (by decide) hlk hP hK hD hS ⟨_, _, (by decide), rfl, hN, hF, rfl, hw⟩ (Nat.le_of_ble_eq_true rfl) (Nat.le_of_ble_eq_true rfl) dX6_keepsApart_87
    ·
      replace hw := hw.2 c7
      refine lv_aload_n hx hb dX6_keepsApart_33 rfl (lv_at hl 0 rfl) ?_
      refine lv_aload_n hx hb dX6_keepsApart_34 rfl (lv_at hl 0 rfl) ?_
      refine gfX6_assertions hx hb hts hK hP hown (hts _ tw_345) dX6_keepsApart_35 ?_
      refine lv_iload_n hx hb dX6_keepsApart_38 rfl (lv_at hl 2 rfl) ?_
      obtain ⟨Q8, hc, hw⟩ := hw
      refine wc_i (X := CX g q lb) (va_runV (As := [.int (I u2)]) (rest := [.ref (q 4)]) ⟨hx, hb, hml, hown, hts⟩ (L_X0_firstOf l g q lb hlb r_u2 hN hc H.size) (cwV 1 hts (TB_V tw_1316 tw_1317 tw_1318 tw_5 co_X0_firstOf) rfl rfl rfl (by decide +kernel) ⟨Nat.le_of_ble_eq_true rfl, Nat.le_of_ble_eq_true rfl⟩) (preV (q0 := 3) (ci := 0) rfl xT_bl hP hK hNb hD rfl rfl xT_at) rfl rfl hl.1 rfl (lv_room (Nat.le_of_ble_eq_true rfl)) dX6_keepsApart_39 ⟨Nat.le_of_ble_eq_true rfl, Nat.le_of_ble_eq_true rfl⟩) hP hD hS hA (fun x9 H locs r_x9 hq hP hD hS => ?_)
      replace hw := hw x9 r_x9 hq
      refine lv_aload_n hx hb dX6_keepsApart_42 rfl (lv_at hl 0 rfl) ?_
      refine gfX6_variablesX hx hb hts hK hP hown (hts _ tw_369) dX6_keepsApart_43 ?_
      obtain ⟨Q11, hc, hw⟩ := hw
      refine wc_I (X := CX g q lb) (va_runV (As := [.int (I x9), .ref (q 63)]) (rest := []) ⟨hx, hb, hml, hown, hts⟩ (L_X6_gather_q63 l g q lb hlb r_x9 hN hc H.size) (cwV 2 hts (TB_V tw_1320 tw_1322 ts_47 tw_6 co_X6_gather) rfl rfl rfl (by decide +kernel) ⟨Nat.le_of_ble_eq_true rfl, Nat.le_of_ble_eq_true rfl⟩) (preV (q0 := 4) (ci := 6) rfl xT_bl hP hK hNb hD rfl rfl xT_at) rfl rfl hl.1 rfl (lv_room (Nat.le_of_ble_eq_true rfl)) dX6_keepsApart_46 ⟨Nat.le_of_ble_eq_true rfl, Nat.le_of_ble_eq_true rfl⟩) hP hD hS hA (fun x12 τ13 H locs r_x12 hN hf hq hP hD hS => ?_)
      replace hw := hw x12 τ13 r_x12 hN hf hq
      have hF : f_r [20] [46, 47, 48] [] σ τ13 := f_t hF hf (by decide) (by decide) (by decide)
      have hB := hN
      refine lv_istore_n (lv' := [(3, .int (I x12)), (0, .ref (q 4)), (1, .int (I u1)), (2, .int (I u2))]) hx hb dX6_keepsApart_49 rfl hl (by decide) rfl (fun ls hl => ?_)
      refine lv_aload_n hx hb dX6_keepsApart_50 rfl (lv_at hl 1 rfl) ?_
      refine lv_aload_n hx hb dX6_keepsApart_51 rfl (lv_at hl 1 rfl) ?_
      refine gfX6_assertions hx hb hts hK hP hown (hts _ tw_345) dX6_keepsApart_52 ?_
      refine lv_iload_n hx hb dX6_keepsApart_55 rfl (lv_at hl 3 rfl) ?_
      obtain ⟨Q14, hc, hw⟩ := hw
      refine wc_i (X := CX g q lb) (va_runV (As := [.int (I u2)]) (rest := [.ref (q 4)]) ⟨hx, hb, hml, hown, hts⟩ (L_X0_secondOf l g q lb hlb r_u2 hN hc H.size) (cwV 1 hts (TB_V tw_1324 tw_1325 tw_1326 tw_5 co_X0_secondOf) rfl rfl rfl (by decide +kernel) ⟨Nat.le_of_ble_eq_true rfl, Nat.le_of_ble_eq_true rfl⟩) (preV (q0 := 3) (ci := 0) rfl xT_bl hP hK hNb hD rfl rfl xT_at) rfl rfl hl.1 rfl (lv_room (Nat.le_of_ble_eq_true rfl)) dX6_keepsApart_56 ⟨Nat.le_of_ble_eq_true rfl, Nat.le_of_ble_eq_true rfl⟩) hP hD hS hA (fun x15 H locs r_x15 hq hP hD hS => ?_)
      replace hw := hw x15 r_x15 hq
      refine lv_aload_n hx hb dX6_keepsApart_59 rfl (lv_at hl 1 rfl) ?_
      refine gfX6_variablesY hx hb hts hK hP hown (hts _ tw_370) dX6_keepsApart_60 ?_
      obtain ⟨Q17, hc, hw⟩ := hw
      refine wc_I (X := CX g q lb) (va_runV (As := [.int (I x15), .ref (q 64)]) (rest := []) ⟨hx, hb, hml, hown, hts⟩ (L_X6_gather_q64 l g q lb hlb r_x15 hN hc H.size) (cwV 2 hts (TB_V tw_1320 tw_1322 ts_47 tw_6 co_X6_gather) rfl rfl rfl (by decide +kernel) ⟨Nat.le_of_ble_eq_true rfl, Nat.le_of_ble_eq_true rfl⟩) (preV (q0 := 4) (ci := 6) rfl xT_bl hP hK hNb hD rfl rfl xT_at) rfl rfl hl.1 rfl (lv_room (Nat.le_of_ble_eq_true rfl)) dX6_keepsApart_63 ⟨Nat.le_of_ble_eq_true rfl, Nat.le_of_ble_eq_true rfl⟩) hP hD hS hA (fun x18 τ19 H locs r_x18 hN hf hq hP hD hS => ?_)
      replace hw := hw x18 τ19 r_x18 hN hf hq
      have hF : f_r [20] [46, 47, 48] [] σ τ19 := f_t hF hf (by decide) (by decide) (by decide)
      have hB := hN
      refine lv_istore (lv' := [(4, .int (I x18)), (3, .int (I x12)), (0, .ref (q 4)), (1, .int (I u1)), (2, .int (I u2))]) hx hb dX6_keepsApart_66 hl (by decide) rfl (fun ls hl => ?_)
      refine lv_aload_n hx hb dX6_keepsApart_68 rfl (lv_at hl 2 rfl) ?_
      refine lv_iload_n hx hb dX6_keepsApart_69 rfl (lv_at hl 1 rfl) ?_
      refine lv_iload hx hb dX6_keepsApart_70 (lv_at hl 0 rfl) ?_
      obtain ⟨Q20, hc, hw⟩ := hw
      refine wc_i (X := CX g q lb) (va_runV (As := [.int (I x12), .int (I x18)]) (rest := []) ⟨hx, hb, hml, hown, hts⟩ (L_X6_areApart l g q lb hlb r_x12 r_x18 hN hc H.size) (cwV 2 hts (TB_V tw_1328 tw_1330 ts_48 tw_6 co_X6_areApart) rfl rfl rfl (by decide +kernel) ⟨Nat.le_of_ble_eq_true rfl, Nat.le_of_ble_eq_true rfl⟩) (preV (q0 := 4) (ci := 6) rfl xT_bl hP hK hNb hD rfl rfl xT_at) rfl rfl hl.1 rfl (lv_room (Nat.le_of_ble_eq_true rfl)) dX6_keepsApart_72 ⟨Nat.le_of_ble_eq_true rfl, Nat.le_of_ble_eq_true rfl⟩) hP hD hS hA (fun x21 H locs r_x21 hq hP hD hS => ?_)
      replace hw := hw x21 r_x21 hq
      refine bi_if_ne (tgt := 80) hx hb r_x21 dX6_keepsApart_75 (by decide) (fun c23 => ?_) (fun c23 => ?_)
      ·
        replace hw := hw.1 c23
        refine lv_iinc (v := I (u2 + 1)) (lv' := [(2, .int (I (u2 + 1))), (4, .int (I x18)), (3, .int (I x12)), (0, .ref (q 4)), (1, .int (I u1))]) hx hb dX6_keepsApart_80 hl (k := 4) rfl (I_add _ _) (by decide) rfl (fun ls hl => ?_)
        refine lv_goto (tgt := 10) hx hb dX6_keepsApart_83 (by decide) ?_
        obtain ⟨c24, hw⟩ := hw
        exact (hP10 _ _ _).mp hw r_u1 c24 hN hF H locs ls hP hD hS (lv_sub hl [3, 4, 0] rfl)
      ·
        replace hw := hw.2 c23
        refine lv_iconst (v := I 0) hx hb dX6_keepsApart_78 rfl ?_
        exact xrz hx hb hr (by decide) hlk hP hK hD hS ⟨_, _, (by decide), rfl, hN, hF, rfl, hw⟩ (Nat.le_of_ble_eq_true rfl) (Nat.le_of_ble_eq_true rfl) dX6_keepsApart_79
def W_X6_build (n1 : Int) (σ : S0) (Q : Int → S0 → Prop) : Prop :=
  ∀ (P12 : Int → Int → Int → S0 → Prop) (P91 : Int → Int → S0 → Prop),
  (∀ (u1 : Int) (u2 : Int) (u3 : Int) (τ : S0), ((0 ≤ (u1 + 1) ∧ (u1 + 1) < 1501) ∧ (∀ (x4 : Int), rg x4 → x4 = τ.2.1 14 (u1 + 1) → ((x4 ≤ u3 → (u2 ≤ 1000 → (0 ≤ u1 ∧ u1 < 1501) ∧ (∀ (x8 : Int), rg x8 → x8 = τ.2.1 14 u1 → (P91 u1 x8 (s_v τ 19 0)))) ∧ (1000 < u2 → Q 0 τ)) ∧ (u3 < x4 → (0 ≤ u3 ∧ u3 < 30000) ∧ (∀ (x10 : Int), rg x10 → x10 = τ.2.1 16 u3 → ((¬ x10 = (-1) → ∀ (x12 : Int), rg x12 → x12 = τ.2.1 15 u3 → ((0 ≤ x12 ∧ x12 < 1000) ∧ (∀ (x14 : Int), rg x14 → x14 = τ.2.1 45 x12 → (rg (u2 + x14) ∧ rg (u3 + 1) ∧ P12 u1 (u2 + x14) (u3 + 1) τ)))) ∧ (x10 = (-1) → rg (u2 + 1) ∧ rg (u3 + 1) ∧ P12 u1 (u2 + 1) (u3 + 1) τ))))))) → P12 u1 u2 u3 τ) →
  (∀ (u1 : Int) (u3 : Int) (τ : S0), ((0 ≤ (u1 + 1) ∧ (u1 + 1) < 1501) ∧ (∀ (x20 : Int), rg x20 → x20 = τ.2.1 14 (u1 + 1) → ((x20 ≤ u3 → Q 1 τ) ∧ (u3 < x20 → (0 ≤ u3 ∧ u3 < 30000) ∧ (∀ (x23 : Int), rg x23 → x23 = τ.2.1 15 u3 → (∀ (x24 : Int), rg x24 → x24 = τ.2.1 16 u3 → ((¬ x24 = (-1) → (0 ≤ x23 ∧ x23 < 1000) ∧ (∀ (x27 : Int), rg x27 → x27 = τ.2.1 44 x23 → (∀ (x28 : Int), rg x28 → x28 = τ.2.1 45 x23 → (((0 : Int) ≤ x27 ∧ (0 : Int) ≤ τ.1 19 ∧ (0 : Int) ≤ x28 ∧ x27 + x28 ≤ 42000 ∧ τ.1 19 + x28 ≤ 1000) ∧ (∀ (x30 : Int), rg x30 → x30 = τ.2.1 45 x23 → (rg (τ.1 19 + x30) ∧ rg (u3 + 1) ∧ P91 u1 (u3 + 1) (s_v (s_f τ 43 (c_py (τ.2.1 39) (τ.2.1 43) x27 (τ.1 19) x28)) 19 (τ.1 19 + x30)))))))) ∧ (x24 = (-1) → (0 ≤ τ.1 19 ∧ τ.1 19 < 1000) ∧ (rg (τ.1 19 + 1) ∧ rg (u3 + 1) ∧ P91 u1 (u3 + 1) (s_v (s_a τ 43 (τ.1 19) x23) 19 (τ.1 19 + 1))))))))))) → P91 u1 u3 τ) →
  (0 ≤ n1 ∧ n1 < 1501) ∧ (∀ (x2 : Int), rg x2 → x2 = σ.2.1 14 n1 → (P12 n1 0 x2 σ))
set_option maxRecDepth 100000 in
set_option maxHeartbeats 4000000 in
theorem L_X6_build (l : Launch) (g : gG) (q : Nat → Nat) (lb : Nat) (hlb : lb < 2 ^ 31) {n1 : Int} {σ : S0} {Q : Int → S0 → Prop} (r_n1 : rg n1) (hN : n_m σ) (hw : W_X6_build n1 σ Q) (sz : Nat) : MetI l yX6_build cX6_build 5 (some .boolean) { frames := 1, cells := 0, slots := 0, locals := 75 } g [.ref (q 4), .int (I n1)] (CX g q lb σ) sz xT (p_I (CX g q lb) [19] [43] [] σ Q) 0 0 := by
  refine mkMet (Qc := fun A => QI g A (p_I (CX g q lb) [19] [43] [] σ Q)) (by decide) (Nat.le_of_ble_eq_true rfl) ?_
  intro p e s m below meth c A H ls hx hb hr hml hown hts hlk hnm hsz hP hK hNb hD hA hAe hS hX hl
  have hl : lv_has ls 5 [(0, .ref (q 4)), (1, .int (I n1))] := hl
  have hB := hN
  have hF : f_r [19] [43] [] σ σ := f_0
  obtain ⟨locs, hlocs⟩ : ∃ z : List Loc, z = [] := ⟨_, rfl⟩
  rw [← hlocs] at hS ⊢
  obtain ⟨P12, hP12⟩ : ∃ P : Int → Int → Int → S0 → Prop, ∀ (u1 : Int) (u2 : Int) (u3 : Int) (τ : S0), (P u1 u2 u3 τ ↔ (rg u1 → rg u2 → rg u3 → n_m τ → f_r [19] [43] [] σ τ → ∀ (H : Heap) (locs : List Loc) (ls : Array Slot), KP g (CX g q lb τ) H → va_D A (CX g q lb τ) → va_S A s.heap H locs → lv_has ls 5 [(0, .ref (q 4)), (1, .int (I u1)), (2, .int (I u2)), (3, .int (I u3))] → W p l e ({ frames := 1, cells := 0, slots := 0, locals := 75 }) s m [.ref (q 4), .int (I n1)].toArray below meth c H locs 0 0 (MQ below (QI g A (p_I (CX g q lb) [19] [43] [] σ Q)) [.ref (q 4), .int (I n1)].toArray s 0 0 A) (F0 m 12 ls []))) := ⟨_, fun _ _ _ _ => Iff.rfl⟩
  obtain ⟨P91, hP91⟩ : ∃ P : Int → Int → S0 → Prop, ∀ (u1 : Int) (u3 : Int) (τ : S0), (P u1 u3 τ ↔ (rg u1 → rg u3 → n_m τ → f_r [19] [43] [] σ τ → ∀ (H : Heap) (locs : List Loc) (ls : Array Slot), KP g (CX g q lb τ) H → va_D A (CX g q lb τ) → va_S A s.heap H locs → lv_has ls 5 [(0, .ref (q 4)), (1, .int (I u1)), (3, .int (I u3))] → W p l e ({ frames := 1, cells := 0, slots := 0, locals := 75 }) s m [.ref (q 4), .int (I n1)].toArray below meth c H locs 0 0 (MQ below (QI g A (p_I (CX g q lb) [19] [43] [] σ Q)) [.ref (q 4), .int (I n1)].toArray s 0 0 A) (F0 m 91 ls []))) := ⟨_, fun _ _ _ => Iff.rfl⟩
  refine (fun hw => ?_) (hw P12 P91 ?_ ?_)
  ·
    refine lv_iconst (v := I 0) hx hb dX6_build_0 rfl ?_
    refine lv_istore_n (lv' := [(2, .int (I 0)), (0, .ref (q 4)), (1, .int (I n1))]) hx hb dX6_build_1 rfl hl (by decide) rfl (fun ls hl => ?_)
    refine lv_aload_n hx hb dX6_build_2 rfl (lv_at hl 1 rfl) ?_
    refine gfX6_library hx hb hts hK hP hown (hts _ tw_344) dX6_build_3 ?_
    refine gfNX3_at hx hb hts hK hP hown (nb_use hNb tn_80) dX6_build_6 ?_
    refine lv_iload_n hx hb dX6_build_9 rfl (lv_at hl 2 rfl) ?_
    obtain ⟨c1, hw⟩ := hw
    refine ldCX3_at hx hb hK hP hN c1 dX6_build_10 (fun x2 r_x2 e_x2 => ?_)
    replace hw := hw x2 r_x2 e_x2
    refine lv_istore_n (lv' := [(3, .int (I x2)), (2, .int (I 0)), (0, .ref (q 4)), (1, .int (I n1))]) hx hb dX6_build_11 rfl hl (by decide) rfl (fun ls hl => ?_)
    exact (hP12 _ _ _ _).mp hw r_n1 (by decide) r_x2 hN hF H locs ls hP hD hS (lv_sub hl [2, 3, 1, 0] rfl)
  ·
    intro u1 u2 u3 τ hw
    refine (hP12 _ _ _ _).mpr ?_
    intro r_u1 r_u2 r_u3 hN hF H locs ls hP hD hS hl
    have hB := hN
    refine lv_iload_n hx hb dX6_build_12 rfl (lv_at hl 3 rfl) ?_
    refine lv_aload_n hx hb dX6_build_13 rfl (lv_at hl 0 rfl) ?_
    refine gfX6_library hx hb hts hK hP hown (hts _ tw_344) dX6_build_14 ?_
    refine gfNX3_at hx hb hts hK hP hown (nb_use hNb tn_80) dX6_build_17 ?_
    refine lv_iload_n hx hb dX6_build_20 rfl (lv_at hl 1 rfl) ?_
    refine lv_iconst (v := I 1) hx hb dX6_build_21 rfl ?_
    refine bi_iadd hx hb dX6_build_22 ?_
    obtain ⟨c3, hw⟩ := hw
    refine ldCX3_at hx hb hK hP hN c3 dX6_build_23 (fun x4 r_x4 e_x4 => ?_)
    replace hw := hw x4 r_x4 e_x4
    refine bi_icmp_ge (tgt := 67) hx hb r_u3 r_x4 dX6_build_24 (by decide) (fun c5 => ?_) (fun c5 => ?_)
    ·
      replace hw := hw.1 c5
      refine lv_iload_n hx hb dX6_build_67 rfl (lv_at hl 2 rfl) ?_
      refine lv_sipush (v := I 1000) hx hb dX6_build_68 (by decide) ?_
      refine bi_icmp_le (tgt := 76) hx hb r_u2 (by decide) dX6_build_71 (by decide) (fun c6 => ?_) (fun c6 => ?_)
      ·
        replace hw := hw.1 c6
        refine lv_aload_n hx hb dX6_build_76 rfl (lv_at hl 0 rfl) ?_
        refine lv_iconst (v := I 0) hx hb dX6_build_77 rfl ?_
        refine pfX6_builtSize hx hb hts hK hP hD hS hown (hts _ tw_363) dX6_build_78 (fun H locs hP hD hS => ?_)
        have hN : n_m (s_v τ 19 0) := n_v (i := 19) hN ((by decide) : rg 0)
        have hF : f_r [19] [43] [] σ (s_v τ 19 0) := f_v hF (by decide)
        refine lv_aload_n hx hb dX6_build_81 rfl (lv_at hl 0 rfl) ?_
        refine gfX6_library hx hb hts hK hP hown (hts _ tw_344) dX6_build_82 ?_
        refine gfNX3_at hx hb hts hK hP hown (nb_use hNb tn_80) dX6_build_85 ?_
        refine lv_iload_n hx hb dX6_build_88 rfl (lv_at hl 1 rfl) ?_
        obtain ⟨c7, hw⟩ := hw
        refine ldCX3_at hx hb hK hP hN c7 dX6_build_89 (fun x8 r_x8 e_x8 => ?_)
        replace hw := hw x8 r_x8 e_x8
        refine lv_istore_n (lv' := [(3, .int (I x8)), (0, .ref (q 4)), (1, .int (I u1)), (2, .int (I u2))]) hx hb dX6_build_90 rfl hl (by decide) rfl (fun ls hl => ?_)
        exact (hP91 _ _ _).mp hw r_u1 r_x8 hN hF H locs ls hP hD hS (lv_sub hl [1, 2, 0] rfl)
      ·
        replace hw := hw.2 c6
        refine lv_iconst (v := I 0) hx hb dX6_build_74 rfl ?_
        exact xrz hx hb hr (by decide) hlk hP hK hD hS ⟨_, _, (by decide), rfl, hN, hF, rfl, hw⟩ (Nat.le_of_ble_eq_true rfl) (Nat.le_of_ble_eq_true rfl) dX6_build_75
    ·
      replace hw := hw.2 c5
      refine lv_iload_n hx hb dX6_build_27 rfl (lv_at hl 2 rfl) ?_
      refine lv_aload_n hx hb dX6_build_28 rfl (lv_at hl 0 rfl) ?_
      refine gfX6_library hx hb hts hK hP hown (hts _ tw_344) dX6_build_29 ?_
      refine gfNX3_floats hx hb hts hK hP hown (nb_use hNb tn_95) dX6_build_32 ?_
      refine lv_iload_n hx hb dX6_build_35 rfl (lv_at hl 3 rfl) ?_
      obtain ⟨c9, hw⟩ := hw
      refine ldCX3_floats hx hb hK hP hN c9 dX6_build_36 (fun x10 r_x10 e_x10 => ?_)
      replace hw := hw x10 r_x10 e_x10
      refine lv_iconst (v := I (-1)) hx hb dX6_build_37 rfl ?_
      refine bi_icmp_ne (tgt := 45) hx hb r_x10 (by decide) dX6_build_38 (by decide) (fun c11 => ?_) (fun c11 => ?_)
      ·
        replace hw := hw.1 c11
        refine lv_aload_n hx hb dX6_build_45 rfl (lv_at hl 0 rfl) ?_
        refine gfX6_becomesSize hx hb hts hK hP hown (hts _ tw_366) dX6_build_46 ?_
        refine lv_aload_n hx hb dX6_build_49 rfl (lv_at hl 0 rfl) ?_
        refine gfX6_library hx hb hts hK hP hown (hts _ tw_344) dX6_build_50 ?_
        refine gfNX3_text hx hb hts hK hP hown (nb_use hNb tn_87) dX6_build_53 ?_
        refine lv_iload_n hx hb dX6_build_56 rfl (lv_at hl 3 rfl) ?_
        refine ldCX3_text hx hb hK hP hN c9 dX6_build_57 (fun x12 r_x12 e_x12 => ?_)
        replace hw := hw x12 r_x12 e_x12
        obtain ⟨c13, hw⟩ := hw
        refine ldCX6_becomesSize hx hb hK hP hN c13 dX6_build_58 (fun x14 r_x14 e_x14 => ?_)
        replace hw := hw x14 r_x14 e_x14
        refine bi_iadd hx hb dX6_build_59 ?_
        refine lv_istore_n (lv' := [(2, .int (I (u2 + x14))), (0, .ref (q 4)), (1, .int (I u1)), (3, .int (I u3))]) hx hb dX6_build_60 rfl hl (by decide) rfl (fun ls hl => ?_)
        refine lv_iinc (v := I (u3 + 1)) (lv' := [(3, .int (I (u3 + 1))), (2, .int (I (u2 + x14))), (0, .ref (q 4)), (1, .int (I u1))]) hx hb dX6_build_61 hl (k := 3) rfl (I_add _ _) (by decide) rfl (fun ls hl => ?_)
        refine lv_goto (tgt := 12) hx hb dX6_build_64 (by decide) ?_
        obtain ⟨c15, hw⟩ := hw
        obtain ⟨c16, hw⟩ := hw
        exact (hP12 _ _ _ _).mp hw r_u1 c15 c16 hN hF H locs ls hP hD hS (lv_sub hl [2, 3, 1, 0] rfl)
      ·
        replace hw := hw.2 c11
        refine lv_iconst (v := I 1) hx hb dX6_build_41 rfl ?_
        refine lv_goto (tgt := 59) hx hb dX6_build_42 (by decide) ?_
        refine bi_iadd hx hb dX6_build_59 ?_
        refine lv_istore_n (lv' := [(2, .int (I (u2 + 1))), (0, .ref (q 4)), (1, .int (I u1)), (3, .int (I u3))]) hx hb dX6_build_60 rfl hl (by decide) rfl (fun ls hl => ?_)
        refine lv_iinc (v := I (u3 + 1)) (lv' := [(3, .int (I (u3 + 1))), (2, .int (I (u2 + 1))), (0, .ref (q 4)), (1, .int (I u1))]) hx hb dX6_build_61 hl (k := 3) rfl (I_add _ _) (by decide) rfl (fun ls hl => ?_)
        refine lv_goto (tgt := 12) hx hb dX6_build_64 (by decide) ?_
        obtain ⟨c17, hw⟩ := hw
        obtain ⟨c18, hw⟩ := hw
        exact (hP12 _ _ _ _).mp hw r_u1 c17 c18 hN hF H locs ls hP hD hS (lv_sub hl [2, 3, 1, 0] rfl)
  ·
    intro u1 u3 τ hw
    refine (hP91 _ _ _).mpr ?_
    intro r_u1 r_u3 hN hF H locs ls hP hD hS hl
    have hB := hN
    refine lv_iload_n hx hb dX6_build_91 rfl (lv_at hl 2 rfl) ?_
    refine lv_aload_n hx hb dX6_build_92 rfl (lv_at hl 0 rfl) ?_
    refine gfX6_library hx hb hts hK hP hown (hts _ tw_344) dX6_build_93 ?_
    refine gfNX3_at hx hb hts hK hP hown (nb_use hNb tn_80) dX6_build_96 ?_
    refine lv_iload_n hx hb dX6_build_99 rfl (lv_at hl 1 rfl) ?_
    refine lv_iconst (v := I 1) hx hb dX6_build_100 rfl ?_
    refine bi_iadd hx hb dX6_build_101 ?_
    obtain ⟨c19, hw⟩ := hw
    refine ldCX3_at hx hb hK hP hN c19 dX6_build_102 (fun x20 r_x20 e_x20 => ?_)
    replace hw := hw x20 r_x20 e_x20
    refine bi_icmp_ge (tgt := 205) hx hb r_u3 r_x20 dX6_build_103 (by decide) (fun c21 => ?_) (fun c21 => ?_)
    ·
      replace hw := hw.1 c21
      refine lv_iconst (v := I 1) hx hb dX6_build_205 rfl ?_
      exact xrz hx hb hr (by decide) hlk hP hK hD hS ⟨_, _, (by decide), rfl, hN, hF, rfl, hw⟩ (Nat.le_of_ble_eq_true rfl) (Nat.le_of_ble_eq_true rfl) dX6_build_206
    ·
      replace hw := hw.2 c21
      refine lv_aload_n hx hb dX6_build_106 rfl (lv_at hl 0 rfl) ?_
      refine gfX6_library hx hb hts hK hP hown (hts _ tw_344) dX6_build_107 ?_
      refine gfNX3_text hx hb hts hK hP hown (nb_use hNb tn_87) dX6_build_110 ?_
      refine lv_iload_n hx hb dX6_build_113 rfl (lv_at hl 2 rfl) ?_
      obtain ⟨c22, hw⟩ := hw
      refine ldCX3_text hx hb hK hP hN c22 dX6_build_114 (fun x23 r_x23 e_x23 => ?_)
      replace hw := hw x23 r_x23 e_x23
      refine lv_istore (lv' := [(4, .int (I x23)), (0, .ref (q 4)), (1, .int (I u1)), (3, .int (I u3))]) hx hb dX6_build_115 hl (by decide) rfl (fun ls hl => ?_)
      refine lv_aload_n hx hb dX6_build_117 rfl (lv_at hl 1 rfl) ?_
      refine gfX6_library hx hb hts hK hP hown (hts _ tw_344) dX6_build_118 ?_
      refine gfNX3_floats hx hb hts hK hP hown (nb_use hNb tn_95) dX6_build_121 ?_
      refine lv_iload_n hx hb dX6_build_124 rfl (lv_at hl 3 rfl) ?_
      refine ldCX3_floats hx hb hK hP hN c22 dX6_build_125 (fun x24 r_x24 e_x24 => ?_)
      replace hw := hw x24 r_x24 e_x24
      refine lv_iconst (v := I (-1)) hx hb dX6_build_126 rfl ?_
      refine bi_icmp_ne (tgt := 154) hx hb r_x24 (by decide) dX6_build_127 (by decide) (fun c25 => ?_) (fun c25 => ?_)
      ·
        replace hw := hw.1 c25
        refine lv_aload_n hx hb dX6_build_154 rfl (lv_at hl 1 rfl) ?_
        refine gfX6_data hx hb hts hK hP hown (hts _ tw_347) dX6_build_155 ?_
        refine lv_aload_n hx hb dX6_build_158 rfl (lv_at hl 1 rfl) ?_
        refine gfX6_becomesAt hx hb hts hK hP hown (hts _ tw_365) dX6_build_159 ?_
        refine lv_iload hx hb dX6_build_162 (lv_at hl 0 rfl) ?_
        obtain ⟨c26, hw⟩ := hw
        refine ldCX6_becomesAt hx hb hK hP hN c26 dX6_build_164 (fun x27 r_x27 e_x27 => ?_)
        replace hw := hw x27 r_x27 e_x27
        refine lv_aload_n hx hb dX6_build_165 rfl (lv_at hl 1 rfl) ?_
        refine gfX6_built hx hb hts hK hP hown (hts _ tw_361) dX6_build_166 ?_
        refine lv_aload_n hx hb dX6_build_169 rfl (lv_at hl 1 rfl) ?_
        refine gfX6_builtSize hx hb hts hK hP hown (hts _ tw_363) (x := τ.1 19) rfl dX6_build_170 ?_
        refine lv_aload_n hx hb dX6_build_173 rfl (lv_at hl 1 rfl) ?_
        refine gfX6_becomesSize hx hb hts hK hP hown (hts _ tw_366) dX6_build_174 ?_
        refine lv_iload hx hb dX6_build_177 (lv_at hl 0 rfl) ?_
        refine ldCX6_becomesSize hx hb hK hP hN c26 dX6_build_179 (fun x28 r_x28 e_x28 => ?_)
        replace hw := hw x28 r_x28 e_x28
        obtain ⟨c29, hw⟩ := hw
        refine wr_cpy hx hb (by rw [hml]; exact hl.1.symm) hown (hts _ tw_1295) (hts _ tw_1297) (hts _ tw_1296) (hts _ tw_17) hK hP hD hS 55 59 (f := (τ.2.1 39)) (h := (τ.2.1 43)) rfl rfl r_x27 (hB.1 19) r_x28 c29.1 c29.2.1 c29.2.2.1 c29.2.2.2.1 c29.2.2.2.2 (Nat.le_of_ble_eq_true rfl) (by decide) dX6_build_180 (ws' := CX g q lb (s_f τ 43 (c_py (τ.2.1 39) (τ.2.1 43) x27 (τ.1 19) x28))) (Csa43 _) (fun H locs hP hD hS => ?_)
        have hN : n_m (s_f τ 43 (c_py (τ.2.1 39) (τ.2.1 43) x27 (τ.1 19) x28)) := n_f (k := 43) (f := (c_py (τ.2.1 39) (τ.2.1 43) x27 (τ.1 19) x28)) hN (n_cpy (hN.2 39) (hN.2 43) _ _ _)
        have hF : f_r [19] [43] [] σ (s_f τ 43 (c_py (τ.2.1 39) (τ.2.1 43) x27 (τ.1 19) x28)) := f_f hF (by decide)
        refine lv_aload_n hx hb dX6_build_183 rfl (lv_at hl 1 rfl) ?_
        refine lv_dup hx hb dX6_build_184 rfl ?_
        refine gfX6_builtSize hx hb hts hK hP hown (hts _ tw_363) (x := τ.1 19) rfl dX6_build_185 ?_
        refine lv_aload_n hx hb dX6_build_188 rfl (lv_at hl 1 rfl) ?_
        refine gfX6_becomesSize hx hb hts hK hP hown (hts _ tw_366) dX6_build_189 ?_
        refine lv_iload hx hb dX6_build_192 (lv_at hl 0 rfl) ?_
        refine ldCX6_becomesSize hx hb hK hP hN c26 dX6_build_194 (fun x30 r_x30 e_x30 => ?_)
        replace hw := hw x30 r_x30 e_x30
        refine bi_iadd hx hb dX6_build_195 ?_
        obtain ⟨c31, hw⟩ := hw
        refine pfX6_builtSize hx hb hts hK hP hD hS hown (hts _ tw_363) dX6_build_196 (fun H locs hP hD hS => ?_)
        have hN : n_m (s_v (s_f τ 43 (c_py (τ.2.1 39) (τ.2.1 43) x27 (τ.1 19) x28)) 19 (τ.1 19 + x30)) := n_v (i := 19) hN (c31 : rg (τ.1 19 + x30))
        have hF : f_r [19] [43] [] σ (s_v (s_f τ 43 (c_py (τ.2.1 39) (τ.2.1 43) x27 (τ.1 19) x28)) 19 (τ.1 19 + x30)) := f_v hF (by decide)
        refine lv_iinc (v := I (u3 + 1)) (lv' := [(3, .int (I (u3 + 1))), (4, .int (I x23)), (0, .ref (q 4)), (1, .int (I u1))]) hx hb dX6_build_199 hl (k := 3) rfl (I_add _ _) (by decide) rfl (fun ls hl => ?_)
        refine lv_goto (tgt := 91) hx hb dX6_build_202 (by decide) ?_
        obtain ⟨c32, hw⟩ := hw
        exact (hP91 _ _ _).mp hw r_u1 c32 hN hF H locs ls hP hD hS (lv_sub hl [2, 3, 0] rfl)
      ·
        replace hw := hw.2 c25
        refine lv_aload_n hx hb dX6_build_130 rfl (lv_at hl 1 rfl) ?_
        refine gfX6_built hx hb hts hK hP hown (hts _ tw_361) dX6_build_131 ?_
        refine lv_aload_n hx hb dX6_build_134 rfl (lv_at hl 1 rfl) ?_
        refine gfX6_builtSize hx hb hts hK hP hown (hts _ tw_363) (x := τ.1 19) rfl dX6_build_135 ?_
        refine lv_iload hx hb dX6_build_138 (lv_at hl 0 rfl) ?_
        obtain ⟨c33, hw⟩ := hw
        refine sdCX6_built hx hb hK hP hD hS c33 dX6_build_140 (fun H locs hP hD hS => ?_)
        have hN : n_m (s_a τ 43 (τ.1 19) x23) := n_a (k := 43) (j := τ.1 19) hN (r_x23 : rg x23)
        have hF : f_r [19] [43] [] σ (s_a τ 43 (τ.1 19) x23) := f_a hF (by decide)
        refine lv_aload_n hx hb dX6_build_141 rfl (lv_at hl 1 rfl) ?_
        refine lv_dup hx hb dX6_build_142 rfl ?_
        refine gfX6_builtSize hx hb hts hK hP hown (hts _ tw_363) (x := τ.1 19) rfl dX6_build_143 ?_
        refine lv_iconst (v := I 1) hx hb dX6_build_146 rfl ?_
        refine bi_iadd hx hb dX6_build_147 ?_
        obtain ⟨c34, hw⟩ := hw
        refine pfX6_builtSize hx hb hts hK hP hD hS hown (hts _ tw_363) dX6_build_148 (fun H locs hP hD hS => ?_)
        have hN : n_m (s_v (s_a τ 43 (τ.1 19) x23) 19 (τ.1 19 + 1)) := n_v (i := 19) hN (c34 : rg (τ.1 19 + 1))
        have hF : f_r [19] [43] [] σ (s_v (s_a τ 43 (τ.1 19) x23) 19 (τ.1 19 + 1)) := f_v hF (by decide)
        refine lv_goto (tgt := 199) hx hb dX6_build_151 (by decide) ?_
        refine lv_iinc (v := I (u3 + 1)) (lv' := [(3, .int (I (u3 + 1))), (4, .int (I x23)), (0, .ref (q 4)), (1, .int (I u1))]) hx hb dX6_build_199 hl (k := 3) rfl (I_add _ _) (by decide) rfl (fun ls hl => ?_)
        refine lv_goto (tgt := 91) hx hb dX6_build_202 (by decide) ?_
        obtain ⟨c35, hw⟩ := hw
        exact (hP91 _ _ _).mp hw r_u1 c35 hN hF H locs ls hP hD hS (lv_sub hl [2, 3, 0] rfl)
def W_X6_buildHypothesis (n1 : Int) (σ : S0) (Q : S0 → Prop) : Prop :=
  ∃ (Q1 : Int → Prop), W_X3_lengthOf n1 σ Q1 ∧ ∀ (x2 : Int), rg x2 → Q1 x2 → ((0 ≤ n1 ∧ n1 < 1501) ∧ (∀ (x5 : Int), rg x5 → x5 = σ.2.1 14 n1 → (((0 : Int) ≤ x5 ∧ (0 : Int) ≤ 0 ∧ (0 : Int) ≤ x2 ∧ x5 + x2 ≤ 30000 ∧ 0 + x2 ≤ 1000) ∧ (Q (s_f (s_v σ 19 x2) 43 (c_py (σ.2.1 15) (σ.2.1 43) x5 0 x2))))))
set_option maxRecDepth 100000 in
set_option maxHeartbeats 4000000 in
theorem L_X6_buildHypothesis (l : Launch) (g : gG) (q : Nat → Nat) (lb : Nat) (hlb : lb < 2 ^ 31) {n1 : Int} {σ : S0} {Q : S0 → Prop} (r_n1 : rg n1) (hN : n_m σ) (hw : W_X6_buildHypothesis n1 σ Q) (sz : Nat) : MetV l yX6_buildHypothesis cX6_buildHypothesis 2 { frames := 1, cells := 0, slots := 0, locals := 75 } g [.ref (q 4), .int (I n1)] (CX g q lb σ) sz xT (p_V (CX g q lb) [19] [43] [] σ Q) 0 0 := by
  refine mkMet (Qc := fun A => QV g A (p_V (CX g q lb) [19] [43] [] σ Q)) (by decide) (Nat.le_of_ble_eq_true rfl) ?_
  intro p e s m below meth c A H ls hx hb hr hml hown hts hlk hnm hsz hP hK hNb hD hA hAe hS hX hl
  have hl : lv_has ls 2 [(0, .ref (q 4)), (1, .int (I n1))] := hl
  have hB := hN
  have hF : f_r [19] [43] [] σ σ := f_0
  obtain ⟨locs, hlocs⟩ : ∃ z : List Loc, z = [] := ⟨_, rfl⟩
  rw [← hlocs] at hS ⊢
  refine lv_aload_n hx hb dX6_buildHypothesis_0 rfl (lv_at hl 0 rfl) ?_
  refine lv_aload_n hx hb dX6_buildHypothesis_1 rfl (lv_at hl 0 rfl) ?_
  refine gfX6_library hx hb hts hK hP hown (hts _ tw_344) dX6_buildHypothesis_2 ?_
  refine lv_iload_n hx hb dX6_buildHypothesis_5 rfl (lv_at hl 1 rfl) ?_
  obtain ⟨Q1, hc, hw⟩ := hw
  refine wc_i (X := CX g q lb) (va_runV (As := [.int (I n1)]) (rest := [.ref (q 4)]) ⟨hx, hb, hml, hown, hts⟩ (L_X3_lengthOf l g q lb hlb r_n1 hN hc H.size) (cwV 1 hts (TB_V tw_1291 tw_1292 tw_1293 tw_2 co_X3_lengthOf) rfl rfl rfl (by decide +kernel) ⟨Nat.le_of_ble_eq_true rfl, Nat.le_of_ble_eq_true rfl⟩) (preV (q0 := 1) (ci := 3) rfl xT_bl hP hK hNb hD rfl rfl xT_at) rfl rfl hl.1 rfl (lv_room (Nat.le_of_ble_eq_true rfl)) dX6_buildHypothesis_6 ⟨Nat.le_of_ble_eq_true rfl, Nat.le_of_ble_eq_true rfl⟩) hP hD hS hA (fun x2 H locs r_x2 hq hP hD hS => ?_)
  replace hw := hw x2 r_x2 hq
  refine pfX6_builtSize hx hb hts hK hP hD hS hown (hts _ tw_363) dX6_buildHypothesis_9 (fun H locs hP hD hS => ?_)
  have hN : n_m (s_v σ 19 x2) := n_v (i := 19) hN (r_x2 : rg x2)
  have hF : f_r [19] [43] [] σ (s_v σ 19 x2) := f_v hF (by decide)
  refine lv_aload_n hx hb dX6_buildHypothesis_12 rfl (lv_at hl 0 rfl) ?_
  refine gfX6_library hx hb hts hK hP hown (hts _ tw_344) dX6_buildHypothesis_13 ?_
  refine gfNX3_text hx hb hts hK hP hown (nb_use hNb tn_87) dX6_buildHypothesis_16 ?_
  refine lv_aload_n hx hb dX6_buildHypothesis_19 rfl (lv_at hl 0 rfl) ?_
  refine gfX6_library hx hb hts hK hP hown (hts _ tw_344) dX6_buildHypothesis_20 ?_
  refine gfNX3_at hx hb hts hK hP hown (nb_use hNb tn_80) dX6_buildHypothesis_23 ?_
  refine lv_iload_n hx hb dX6_buildHypothesis_26 rfl (lv_at hl 1 rfl) ?_
  obtain ⟨c4, hw⟩ := hw
  refine ldCX3_at hx hb hK hP hN c4 dX6_buildHypothesis_27 (fun x5 r_x5 e_x5 => ?_)
  replace hw := hw x5 r_x5 e_x5
  refine lv_aload_n hx hb dX6_buildHypothesis_28 rfl (lv_at hl 0 rfl) ?_
  refine gfX6_built hx hb hts hK hP hown (hts _ tw_361) dX6_buildHypothesis_29 ?_
  refine lv_iconst (v := I 0) hx hb dX6_buildHypothesis_32 rfl ?_
  refine lv_aload_n hx hb dX6_buildHypothesis_33 rfl (lv_at hl 0 rfl) ?_
  refine gfX6_builtSize hx hb hts hK hP hown (hts _ tw_363) (x := x2) rfl dX6_buildHypothesis_34 ?_
  obtain ⟨c6, hw⟩ := hw
  refine wr_cpy hx hb (by rw [hml]; exact hl.1.symm) hown (hts _ tw_1295) (hts _ tw_1297) (hts _ tw_1296) (hts _ tw_17) hK hP hD hS 28 59 (f := (σ.2.1 15)) (h := (σ.2.1 43)) rfl rfl r_x5 (by decide) r_x2 c6.1 c6.2.1 c6.2.2.1 c6.2.2.2.1 c6.2.2.2.2 (Nat.le_of_ble_eq_true rfl) (by decide) dX6_buildHypothesis_37 (ws' := CX g q lb (s_f (s_v σ 19 x2) 43 (c_py (σ.2.1 15) (σ.2.1 43) x5 0 x2))) (Csa43 _) (fun H locs hP hD hS => ?_)
  have hN : n_m (s_f (s_v σ 19 x2) 43 (c_py (σ.2.1 15) (σ.2.1 43) x5 0 x2)) := n_f (k := 43) (f := (c_py (σ.2.1 15) (σ.2.1 43) x5 0 x2)) hN (n_cpy (hN.2 15) (hN.2 43) _ _ _)
  have hF : f_r [19] [43] [] σ (s_f (s_v σ 19 x2) 43 (c_py (σ.2.1 15) (σ.2.1 43) x5 0 x2)) := f_f hF (by decide)
  exact xrv hx hb hr hlk hP hK hD hS ⟨_, hN, hF, rfl, hw⟩ (Nat.le_of_ble_eq_true rfl) (Nat.le_of_ble_eq_true rfl) dX6_buildHypothesis_40
def W_X6_drop (n1 : Int) (n2 : Int) (σ : S0) (Q : S0 → Prop) : Prop :=
  ∀ (P2 : Int → Int → Int → S0 → Prop),
  (∀ (u1 : Int) (u2 : Int) (u3 : Int) (τ : S0), (rg (u1 + u2) ∧ ((u1 + u2) ≤ u3 → Q τ) ∧ (u3 < (u1 + u2) → (0 ≤ u3 ∧ u3 < 20000) ∧ (∀ (x4 : Int), rg x4 → x4 = τ.2.1 37 u3 → ((0 ≤ x4 ∧ x4 < 20000) ∧ (∀ (x6 : Int), rg x6 → x6 = τ.2.1 42 x4 → ((2 ≤ x6 → rg (u3 + 1) ∧ P2 u1 u2 (u3 + 1) τ) ∧ (x6 < 2 → ∀ (x9 : Int), rg x9 → x9 = τ.2.1 41 x4 → (rg (τ.1 17 - x9) ∧ rg (u3 + 1) ∧ P2 u1 u2 (u3 + 1) (s_v τ 17 (τ.1 17 - x9)))))))))) → P2 u1 u2 u3 τ) →
  P2 n1 n2 n1 σ
set_option maxRecDepth 100000 in
set_option maxHeartbeats 4000000 in
theorem L_X6_drop (l : Launch) (g : gG) (q : Nat → Nat) (lb : Nat) (hlb : lb < 2 ^ 31) {n1 : Int} {n2 : Int} {σ : S0} {Q : S0 → Prop} (r_n1 : rg n1) (r_n2 : rg n2) (hN : n_m σ) (hw : W_X6_drop n1 n2 σ Q) (sz : Nat) : MetV l yX6_drop cX6_drop 5 { frames := 0, cells := 0, slots := 0, locals := 0 } g [.ref (q 4), .int (I n1), .int (I n2)] (CX g q lb σ) sz xT (p_V (CX g q lb) [17] [] [] σ Q) 0 0 := by
  refine mkMet (Qc := fun A => QV g A (p_V (CX g q lb) [17] [] [] σ Q)) (by decide) (Nat.le_of_ble_eq_true rfl) ?_
  intro p e s m below meth c A H ls hx hb hr hml hown hts hlk hnm hsz hP hK hNb hD hA hAe hS hX hl
  have hl : lv_has ls 5 [(0, .ref (q 4)), (1, .int (I n1)), (2, .int (I n2))] := hl
  have hB := hN
  have hF : f_r [17] [] [] σ σ := f_0
  obtain ⟨locs, hlocs⟩ : ∃ z : List Loc, z = [] := ⟨_, rfl⟩
  rw [← hlocs] at hS ⊢
  obtain ⟨P2, hP2⟩ : ∃ P : Int → Int → Int → S0 → Prop, ∀ (u1 : Int) (u2 : Int) (u3 : Int) (τ : S0), (P u1 u2 u3 τ ↔ (rg u1 → rg u2 → rg u3 → n_m τ → f_r [17] [] [] σ τ → ∀ (H : Heap) (locs : List Loc) (ls : Array Slot), KP g (CX g q lb τ) H → va_D A (CX g q lb τ) → va_S A s.heap H locs → lv_has ls 5 [(0, .ref (q 4)), (1, .int (I u1)), (2, .int (I u2)), (3, .int (I u3))] → W p l e ({ frames := 0, cells := 0, slots := 0, locals := 0 }) s m [.ref (q 4), .int (I n1), .int (I n2)].toArray below meth c H locs 0 0 (MQ below (QV g A (p_V (CX g q lb) [17] [] [] σ Q)) [.ref (q 4), .int (I n1), .int (I n2)].toArray s 0 0 A) (F0 m 2 ls []))) := ⟨_, fun _ _ _ _ => Iff.rfl⟩
  refine (fun hw => ?_) (hw P2 ?_)
  ·
    refine lv_iload_n hx hb dX6_drop_0 rfl (lv_at hl 1 rfl) ?_
    refine lv_istore_n (lv' := [(3, .int (I n1)), (0, .ref (q 4)), (1, .int (I n1)), (2, .int (I n2))]) hx hb dX6_drop_1 rfl hl (by decide) rfl (fun ls hl => ?_)
    exact (hP2 _ _ _ _).mp hw r_n1 r_n2 r_n1 hN hF H locs ls hP hD hS (lv_sub hl [1, 2, 3, 0] rfl)
  ·
    intro u1 u2 u3 τ hw
    refine (hP2 _ _ _ _).mpr ?_
    intro r_u1 r_u2 r_u3 hN hF H locs ls hP hD hS hl
    have hB := hN
    refine lv_iload_n hx hb dX6_drop_2 rfl (lv_at hl 3 rfl) ?_
    refine lv_iload_n hx hb dX6_drop_3 rfl (lv_at hl 1 rfl) ?_
    refine lv_iload_n hx hb dX6_drop_4 rfl (lv_at hl 2 rfl) ?_
    refine bi_iadd hx hb dX6_drop_5 ?_
    obtain ⟨c1, hw⟩ := hw
    refine bi_icmp_ge (tgt := 53) hx hb r_u3 c1 dX6_drop_6 (by decide) (fun c2 => ?_) (fun c2 => ?_)
    ·
      replace hw := hw.1 c2
      exact xrv hx hb hr hlk hP hK hD hS ⟨_, hN, hF, rfl, hw⟩ (Nat.le_of_ble_eq_true rfl) (Nat.le_of_ble_eq_true rfl) dX6_drop_53
    ·
      replace hw := hw.2 c2
      refine lv_aload_n hx hb dX6_drop_9 rfl (lv_at hl 0 rfl) ?_
      refine gfX6_assertions hx hb hts hK hP hown (hts _ tw_345) dX6_drop_10 ?_
      refine gfNX0_children hx hb hts hK hP hown (nb_use hNb tn_284) dX6_drop_13 ?_
      refine lv_iload_n hx hb dX6_drop_16 rfl (lv_at hl 3 rfl) ?_
      obtain ⟨c3, hw⟩ := hw
      refine ldCX0_children hx hb hK hP hN c3 dX6_drop_17 (fun x4 r_x4 e_x4 => ?_)
      replace hw := hw x4 r_x4 e_x4
      refine lv_istore (lv' := [(4, .int (I x4)), (0, .ref (q 4)), (1, .int (I u1)), (2, .int (I u2)), (3, .int (I u3))]) hx hb dX6_drop_18 hl (by decide) rfl (fun ls hl => ?_)
      refine lv_aload_n hx hb dX6_drop_20 rfl (lv_at hl 1 rfl) ?_
      refine gfX6_uses hx hb hts hK hP hown (hts _ tw_360) dX6_drop_21 ?_
      refine lv_iload hx hb dX6_drop_24 (lv_at hl 0 rfl) ?_
      obtain ⟨c5, hw⟩ := hw
      refine ldCX6_uses hx hb hK hP hN c5 dX6_drop_26 (fun x6 r_x6 e_x6 => ?_)
      replace hw := hw x6 r_x6 e_x6
      refine lv_iconst (v := I 2) hx hb dX6_drop_27 rfl ?_
      refine bi_icmp_ge (tgt := 47) hx hb r_x6 (by decide) dX6_drop_28 (by decide) (fun c7 => ?_) (fun c7 => ?_)
      ·
        replace hw := hw.1 c7
        refine lv_iinc (v := I (u3 + 1)) (lv' := [(3, .int (I (u3 + 1))), (4, .int (I x4)), (0, .ref (q 4)), (1, .int (I u1)), (2, .int (I u2))]) hx hb dX6_drop_47 hl (k := 4) rfl (I_add _ _) (by decide) rfl (fun ls hl => ?_)
        refine lv_goto (tgt := 2) hx hb dX6_drop_50 (by decide) ?_
        obtain ⟨c8, hw⟩ := hw
        exact (hP2 _ _ _ _).mp hw r_u1 r_u2 c8 hN hF H locs ls hP hD hS (lv_sub hl [2, 3, 4, 0] rfl)
      ·
        replace hw := hw.2 c7
        refine lv_aload_n hx hb dX6_drop_31 rfl (lv_at hl 1 rfl) ?_
        refine lv_dup hx hb dX6_drop_32 rfl ?_
        refine gfX6_low hx hb hts hK hP hown (hts _ tw_350) (x := τ.1 17) rfl dX6_drop_33 ?_
        refine lv_aload_n hx hb dX6_drop_36 rfl (lv_at hl 1 rfl) ?_
        refine gfX6_size hx hb hts hK hP hown (hts _ tw_356) dX6_drop_37 ?_
        refine lv_iload hx hb dX6_drop_40 (lv_at hl 0 rfl) ?_
        refine ldCX6_size hx hb hK hP hN c5 dX6_drop_42 (fun x9 r_x9 e_x9 => ?_)
        replace hw := hw x9 r_x9 e_x9
        refine bi_isub hx hb dX6_drop_43 ?_
        obtain ⟨c10, hw⟩ := hw
        refine pfX6_low hx hb hts hK hP hD hS hown (hts _ tw_350) dX6_drop_44 (fun H locs hP hD hS => ?_)
        have hN : n_m (s_v τ 17 (τ.1 17 - x9)) := n_v (i := 17) hN (c10 : rg (τ.1 17 - x9))
        have hF : f_r [17] [] [] σ (s_v τ 17 (τ.1 17 - x9)) := f_v hF (by decide)
        refine lv_iinc (v := I (u3 + 1)) (lv' := [(3, .int (I (u3 + 1))), (4, .int (I x4)), (0, .ref (q 4)), (1, .int (I u1)), (2, .int (I u2))]) hx hb dX6_drop_47 hl (k := 4) rfl (I_add _ _) (by decide) rfl (fun ls hl => ?_)
        refine lv_goto (tgt := 2) hx hb dX6_drop_50 (by decide) ?_
        obtain ⟨c11, hw⟩ := hw
        exact (hP2 _ _ _ _).mp hw r_u1 r_u2 c11 hN hF H locs ls hP hD hS (lv_sub hl [2, 3, 4, 0] rfl)
def W_X6_isStatement (n1 : Int) (n2 : Int) (σ : S0) (Q : Int → Prop) : Prop :=
  ∀ (P21 : Int → Int → Int → Prop),
  (∀ (u1 : Int) (u2 : Int) (u3 : Int), ((0 ≤ u1 ∧ u1 < 20000) ∧ (∀ (x8 : Int), rg x8 → x8 = σ.2.1 41 u1 → ((x8 ≤ u3 → Q 1) ∧ (u3 < x8 → ∀ (x10 : Int), rg x10 → x10 = σ.2.1 40 u1 → ((0 ≤ (x10 + u3) ∧ (x10 + u3) < 42000) ∧ (∀ (x12 : Int), rg x12 → x12 = σ.2.1 39 (x10 + u3) → ((0 ≤ u2 ∧ u2 < 1501) ∧ (∀ (x14 : Int), rg x14 → x14 = σ.2.1 14 u2 → ((0 ≤ (x14 + u3) ∧ (x14 + u3) < 30000) ∧ (∀ (x16 : Int), rg x16 → x16 = σ.2.1 15 (x14 + u3) → ((x12 = x16 → rg (u3 + 1) ∧ P21 u1 u2 (u3 + 1)) ∧ (¬ x12 = x16 → Q 0)))))))))))) → P21 u1 u2 u3) →
  (0 ≤ n1 ∧ n1 < 20000) ∧ (∀ (x2 : Int), rg x2 → x2 = σ.2.1 41 n1 → (∃ (Q3 : Int → Prop), W_X3_lengthOf n2 σ Q3 ∧ ∀ (x4 : Int), rg x4 → Q3 x4 → ((x2 = x4 → P21 n1 n2 0) ∧ (¬ x2 = x4 → Q 0))))
set_option maxRecDepth 100000 in
set_option maxHeartbeats 4000000 in
theorem L_X6_isStatement (l : Launch) (g : gG) (q : Nat → Nat) (lb : Nat) (hlb : lb < 2 ^ 31) {n1 : Int} {n2 : Int} {σ : S0} {Q : Int → Prop} (r_n1 : rg n1) (r_n2 : rg n2) (hN : n_m σ) (hw : W_X6_isStatement n1 n2 σ Q) (sz : Nat) : MetI l yX6_isStatement cX6_isStatement 4 (some .boolean) { frames := 1, cells := 0, slots := 0, locals := 21 } g [.ref (q 4), .int (I n1), .int (I n2)] (CX g q lb σ) sz xT (p_i (CX g q lb) σ Q) 0 0 := by
  refine mkMet (Qc := fun A => QI g A (p_i (CX g q lb) σ Q)) (by decide) (Nat.le_of_ble_eq_true rfl) ?_
  intro p e s m below meth c A H ls hx hb hr hml hown hts hlk hnm hsz hP hK hNb hD hA hAe hS hX hl
  have hl : lv_has ls 4 [(0, .ref (q 4)), (1, .int (I n1)), (2, .int (I n2))] := hl
  have hB := hN
  obtain ⟨locs, hlocs⟩ : ∃ z : List Loc, z = [] := ⟨_, rfl⟩
  rw [← hlocs] at hS ⊢
  obtain ⟨P21, hP21⟩ : ∃ P : Int → Int → Int → Prop, ∀ (u1 : Int) (u2 : Int) (u3 : Int), (P u1 u2 u3 ↔ (rg u1 → rg u2 → rg u3 → ∀ (H : Heap) (locs : List Loc) (ls : Array Slot), KP g (CX g q lb σ) H → va_D A (CX g q lb σ) → va_S A s.heap H locs → lv_has ls 4 [(0, .ref (q 4)), (1, .int (I u1)), (2, .int (I u2)), (3, .int (I u3))] → W p l e ({ frames := 1, cells := 0, slots := 0, locals := 21 }) s m [.ref (q 4), .int (I n1), .int (I n2)].toArray below meth c H locs 0 0 (MQ below (QI g A (p_i (CX g q lb) σ Q)) [.ref (q 4), .int (I n1), .int (I n2)].toArray s 0 0 A) (F0 m 21 ls []))) := ⟨_, fun _ _ _ => Iff.rfl⟩
  refine (fun hw => ?_) (hw P21 ?_)
  ·
    refine lv_aload_n hx hb dX6_isStatement_0 rfl (lv_at hl 0 rfl) ?_
    refine gfX6_size hx hb hts hK hP hown (hts _ tw_356) dX6_isStatement_1 ?_
    refine lv_iload_n hx hb dX6_isStatement_4 rfl (lv_at hl 1 rfl) ?_
    obtain ⟨c1, hw⟩ := hw
    refine ldCX6_size hx hb hK hP hN c1 dX6_isStatement_5 (fun x2 r_x2 e_x2 => ?_)
    replace hw := hw x2 r_x2 e_x2
    refine lv_aload_n hx hb dX6_isStatement_6 rfl (lv_at hl 0 rfl) ?_
    refine gfX6_library hx hb hts hK hP hown (hts _ tw_344) dX6_isStatement_7 ?_
    refine lv_iload_n hx hb dX6_isStatement_10 rfl (lv_at hl 2 rfl) ?_
    obtain ⟨Q3, hc, hw⟩ := hw
    refine wc_i (X := CX g q lb) (va_runV (As := [.int (I n2)]) (rest := [.int (I x2)]) ⟨hx, hb, hml, hown, hts⟩ (L_X3_lengthOf l g q lb hlb r_n2 hN hc H.size) (cwV 1 hts (TB_V tw_1291 tw_1292 tw_1293 tw_2 co_X3_lengthOf) rfl rfl rfl (by decide +kernel) ⟨Nat.le_of_ble_eq_true rfl, Nat.le_of_ble_eq_true rfl⟩) (preV (q0 := 1) (ci := 3) rfl xT_bl hP hK hNb hD rfl rfl xT_at) rfl rfl hl.1 rfl (lv_room (Nat.le_of_ble_eq_true rfl)) dX6_isStatement_11 ⟨Nat.le_of_ble_eq_true rfl, Nat.le_of_ble_eq_true rfl⟩) hP hD hS hA (fun x4 H locs r_x4 hq hP hD hS => ?_)
    replace hw := hw x4 r_x4 hq
    refine bi_icmp_eq (tgt := 19) hx hb r_x2 r_x4 dX6_isStatement_14 (by decide) (fun c6 => ?_) (fun c6 => ?_)
    ·
      replace hw := hw.1 c6
      refine lv_iconst (v := I 0) hx hb dX6_isStatement_19 rfl ?_
      refine lv_istore_n (lv' := [(3, .int (I 0)), (0, .ref (q 4)), (1, .int (I n1)), (2, .int (I n2))]) hx hb dX6_isStatement_20 rfl hl (by decide) rfl (fun ls hl => ?_)
      exact (hP21 _ _ _).mp hw r_n1 r_n2 (by decide)  H locs ls hP hD hS (lv_sub hl [1, 2, 3, 0] rfl)
    ·
      replace hw := hw.2 c6
      refine lv_iconst (v := I 0) hx hb dX6_isStatement_17 rfl ?_
      exact xrz hx hb hr (by decide) hlk hP hK hD hS ⟨_, (by decide), rfl, rfl, hw⟩ (Nat.le_of_ble_eq_true rfl) (Nat.le_of_ble_eq_true rfl) dX6_isStatement_18
  ·
    intro u1 u2 u3 hw
    refine (hP21 _ _ _).mpr ?_
    intro r_u1 r_u2 r_u3 H locs ls hP hD hS hl
    refine lv_iload_n hx hb dX6_isStatement_21 rfl (lv_at hl 3 rfl) ?_
    refine lv_aload_n hx hb dX6_isStatement_22 rfl (lv_at hl 0 rfl) ?_
    refine gfX6_size hx hb hts hK hP hown (hts _ tw_356) dX6_isStatement_23 ?_
    refine lv_iload_n hx hb dX6_isStatement_26 rfl (lv_at hl 1 rfl) ?_
    obtain ⟨c7, hw⟩ := hw
    refine ldCX6_size hx hb hK hP hN c7 dX6_isStatement_27 (fun x8 r_x8 e_x8 => ?_)
    replace hw := hw x8 r_x8 e_x8
    refine bi_icmp_ge (tgt := 74) hx hb r_u3 r_x8 dX6_isStatement_28 (by decide) (fun c9 => ?_) (fun c9 => ?_)
    ·
      replace hw := hw.1 c9
      refine lv_iconst (v := I 1) hx hb dX6_isStatement_74 rfl ?_
      exact xrz hx hb hr (by decide) hlk hP hK hD hS ⟨_, (by decide), rfl, rfl, hw⟩ (Nat.le_of_ble_eq_true rfl) (Nat.le_of_ble_eq_true rfl) dX6_isStatement_75
    ·
      replace hw := hw.2 c9
      refine lv_aload_n hx hb dX6_isStatement_31 rfl (lv_at hl 0 rfl) ?_
      refine gfX6_data hx hb hts hK hP hown (hts _ tw_347) dX6_isStatement_32 ?_
      refine lv_aload_n hx hb dX6_isStatement_35 rfl (lv_at hl 0 rfl) ?_
      refine gfX6_at hx hb hts hK hP hown (hts _ tw_353) dX6_isStatement_36 ?_
      refine lv_iload_n hx hb dX6_isStatement_39 rfl (lv_at hl 1 rfl) ?_
      refine ldCX6_at hx hb hK hP hN c7 dX6_isStatement_40 (fun x10 r_x10 e_x10 => ?_)
      replace hw := hw x10 r_x10 e_x10
      refine lv_iload_n hx hb dX6_isStatement_41 rfl (lv_at hl 3 rfl) ?_
      refine bi_iadd hx hb dX6_isStatement_42 ?_
      obtain ⟨c11, hw⟩ := hw
      refine ldCX6_data hx hb hK hP hN c11 dX6_isStatement_43 (fun x12 r_x12 e_x12 => ?_)
      replace hw := hw x12 r_x12 e_x12
      refine lv_aload_n hx hb dX6_isStatement_44 rfl (lv_at hl 0 rfl) ?_
      refine gfX6_library hx hb hts hK hP hown (hts _ tw_344) dX6_isStatement_45 ?_
      refine gfNX3_text hx hb hts hK hP hown (nb_use hNb tn_87) dX6_isStatement_48 ?_
      refine lv_aload_n hx hb dX6_isStatement_51 rfl (lv_at hl 0 rfl) ?_
      refine gfX6_library hx hb hts hK hP hown (hts _ tw_344) dX6_isStatement_52 ?_
      refine gfNX3_at hx hb hts hK hP hown (nb_use hNb tn_80) dX6_isStatement_55 ?_
      refine lv_iload_n hx hb dX6_isStatement_58 rfl (lv_at hl 2 rfl) ?_
      obtain ⟨c13, hw⟩ := hw
      refine ldCX3_at hx hb hK hP hN c13 dX6_isStatement_59 (fun x14 r_x14 e_x14 => ?_)
      replace hw := hw x14 r_x14 e_x14
      refine lv_iload_n hx hb dX6_isStatement_60 rfl (lv_at hl 3 rfl) ?_
      refine bi_iadd hx hb dX6_isStatement_61 ?_
      obtain ⟨c15, hw⟩ := hw
      refine ldCX3_text hx hb hK hP hN c15 dX6_isStatement_62 (fun x16 r_x16 e_x16 => ?_)
      replace hw := hw x16 r_x16 e_x16
      refine bi_icmp_eq (tgt := 68) hx hb r_x12 r_x16 dX6_isStatement_63 (by decide) (fun c17 => ?_) (fun c17 => ?_)
      ·
        replace hw := hw.1 c17
        refine lv_iinc (v := I (u3 + 1)) (lv' := [(3, .int (I (u3 + 1))), (0, .ref (q 4)), (1, .int (I u1)), (2, .int (I u2))]) hx hb dX6_isStatement_68 hl (k := 3) rfl (I_add _ _) (by decide) rfl (fun ls hl => ?_)
        refine lv_goto (tgt := 21) hx hb dX6_isStatement_71 (by decide) ?_
        obtain ⟨c18, hw⟩ := hw
        exact (hP21 _ _ _).mp hw r_u1 r_u2 c18  H locs ls hP hD hS (lv_sub hl [1, 2, 3, 0] rfl)
      ·
        replace hw := hw.2 c17
        refine lv_iconst (v := I 0) hx hb dX6_isStatement_66 rfl ?_
        exact xrz hx hb hr (by decide) hlk hP hK hD hS ⟨_, (by decide), rfl, rfl, hw⟩ (Nat.le_of_ble_eq_true rfl) (Nat.le_of_ble_eq_true rfl) dX6_isStatement_67
def W_J7_fill_fda19_q58 (n1 : Int) (n2 : Int) (n3 : Int) (σ : S0) (Q : S0 → Prop) : Prop :=
  ∀ (P10 : Int → Int → Int → S0 → Prop),
  (∀ (u2 : Int) (u3 : Int) (u4 : Int) (τ : S0), ((u2 ≤ u4 → Q τ) ∧ (u4 < u2 → (0 ≤ u4 ∧ u4 < 20000) ∧ (rg (u4 + 1) ∧ P10 u2 u3 (u4 + 1) (s_a τ 42 u4 u3)))) → P10 u2 u3 u4 τ) →
  ∃ (Q1 : S0 → Prop), W_J7_rangeCheck_23922 20000 n1 n2 σ Q1 ∧ ∀ (τ3 : S0), n_m τ3 → f_r [] [] [] σ τ3 → Q1 τ3 → (P10 n2 n3 n1 τ3)
set_option maxRecDepth 100000 in
set_option maxHeartbeats 4000000 in
theorem L_J7_fill_fda19_q58 (l : Launch) (g : gG) (q : Nat → Nat) (lb : Nat) (hlb : lb < 2 ^ 31) {n1 : Int} {n2 : Int} {n3 : Int} {σ : S0} {Q : S0 → Prop} (r_n1 : rg n1) (r_n2 : rg n2) (r_n3 : rg n3) (hN : n_m σ) (hw : W_J7_fill_fda19_q58 n1 n2 n3 σ Q) (sz : Nat) : MetV l yJ7_fill_fda19 cJ7_fill_fda19 5 { frames := 1, cells := 0, slots := 0, locals := 22 } g [.ref (q 58), .int (I n1), .int (I n2), .int (I n3)] (CX g q lb σ) sz xT (p_V (CX g q lb) [] [42] [] σ Q) 0 0 := by
  refine mkMet (Qc := fun A => QV g A (p_V (CX g q lb) [] [42] [] σ Q)) (by decide) (Nat.le_of_ble_eq_true rfl) ?_
  intro p e s m below meth c A H ls hx hb hr hml hown hts hlk hnm hsz hP hK hNb hD hA hAe hS hX hl
  have hl : lv_has ls 5 [(0, .ref (q 58)), (1, .int (I n1)), (2, .int (I n2)), (3, .int (I n3))] := hl
  have hB := hN
  have hF : f_r [] [42] [] σ σ := f_0
  obtain ⟨locs, hlocs⟩ : ∃ z : List Loc, z = [] := ⟨_, rfl⟩
  rw [← hlocs] at hS ⊢
  obtain ⟨P10, hP10⟩ : ∃ P : Int → Int → Int → S0 → Prop, ∀ (u2 : Int) (u3 : Int) (u4 : Int) (τ : S0), (P u2 u3 u4 τ ↔ (rg u2 → rg u3 → rg u4 → n_m τ → f_r [] [42] [] σ τ → ∀ (H : Heap) (locs : List Loc) (ls : Array Slot), KP g (CX g q lb τ) H → va_D A (CX g q lb τ) → va_S A s.heap H locs → lv_has ls 5 [(0, .ref (q 58)), (2, .int (I u2)), (3, .int (I u3)), (4, .int (I u4))] → W p l e ({ frames := 1, cells := 0, slots := 0, locals := 22 }) s m [.ref (q 58), .int (I n1), .int (I n2), .int (I n3)].toArray below meth c H locs 0 0 (MQ below (QV g A (p_V (CX g q lb) [] [42] [] σ Q)) [.ref (q 58), .int (I n1), .int (I n2), .int (I n3)].toArray s 0 0 A) (F0 m 10 ls []))) := ⟨_, fun _ _ _ _ => Iff.rfl⟩
  refine (fun hw => ?_) (hw P10 ?_)
  ·
    refine lv_aload_n hx hb dJ7_fill_fda19_0 rfl (lv_at hl 0 rfl) ?_
    refine va_alen hx hb hK hP 58 0 rfl rfl (v := I 20000) rfl dJ7_fill_fda19_1 ?_
    refine lv_iload_n hx hb dJ7_fill_fda19_2 rfl (lv_at hl 1 rfl) ?_
    refine lv_iload_n hx hb dJ7_fill_fda19_3 rfl (lv_at hl 2 rfl) ?_
    obtain ⟨Q1, hc, hw⟩ := hw
    refine wc_V (X := CX g q lb) (va_runS (As := [.int (I 20000), .int (I n1), .int (I n2)]) (rest := []) ⟨hx, hb, hml, hown, hts⟩ (L_J7_rangeCheck_23922 l g q lb hlb (by decide) r_n1 r_n2 hN hc H.size) (cwS 3 hts (TB_S tw_1573 tw_1574 tw_4 co_J7_rangeCheck_23922) rfl rfl rfl (by decide +kernel) ⟨Nat.le_of_ble_eq_true rfl, Nat.le_of_ble_eq_true rfl⟩) (preS xT_bl hP hK hNb hD xT_at) rfl rfl hl.1 rfl (lv_room (Nat.le_of_ble_eq_true rfl)) dJ7_fill_fda19_4 ⟨Nat.le_of_ble_eq_true rfl, Nat.le_of_ble_eq_true rfl⟩) hP hD hS hA (fun τ3 H locs hN hf hq hP hD hS => ?_)
    replace hw := hw τ3 hN hf hq
    have hF : f_r [] [42] [] σ τ3 := f_t hF hf (by decide) (by decide) (by decide)
    have hB := hN
    refine lv_iload_n hx hb dJ7_fill_fda19_7 rfl (lv_at hl 1 rfl) ?_
    refine lv_istore (lv' := [(4, .int (I n1)), (0, .ref (q 58)), (1, .int (I n1)), (2, .int (I n2)), (3, .int (I n3))]) hx hb dJ7_fill_fda19_8 hl (by decide) rfl (fun ls hl => ?_)
    exact (hP10 _ _ _ _).mp hw r_n2 r_n3 r_n1 hN hF H locs ls hP hD hS (lv_sub hl [1, 3, 4, 0] rfl)
  ·
    intro u2 u3 u4 τ hw
    refine (hP10 _ _ _ _).mpr ?_
    intro r_u2 r_u3 r_u4 hN hF H locs ls hP hD hS hl
    have hB := hN
    refine lv_iload hx hb dJ7_fill_fda19_10 (lv_at hl 3 rfl) ?_
    refine lv_iload_n hx hb dJ7_fill_fda19_12 rfl (lv_at hl 1 rfl) ?_
    refine bi_icmp_ge (tgt := 27) hx hb r_u4 r_u2 dJ7_fill_fda19_13 (by decide) (fun c4 => ?_) (fun c4 => ?_)
    ·
      replace hw := hw.1 c4
      exact xrv hx hb hr hlk hP hK hD hS ⟨_, hN, hF, rfl, hw⟩ (Nat.le_of_ble_eq_true rfl) (Nat.le_of_ble_eq_true rfl) dJ7_fill_fda19_27
    ·
      replace hw := hw.2 c4
      refine lv_aload_n hx hb dJ7_fill_fda19_16 rfl (lv_at hl 0 rfl) ?_
      refine lv_iload hx hb dJ7_fill_fda19_17 (lv_at hl 3 rfl) ?_
      refine lv_iload_n hx hb dJ7_fill_fda19_19 rfl (lv_at hl 2 rfl) ?_
      obtain ⟨c5, hw⟩ := hw
      refine sdCX6_uses hx hb hK hP hD hS c5 dJ7_fill_fda19_20 (fun H locs hP hD hS => ?_)
      have hN : n_m (s_a τ 42 u4 u3) := n_a (k := 42) (j := u4) hN (r_u3 : rg u3)
      have hF : f_r [] [42] [] σ (s_a τ 42 u4 u3) := f_a hF (by decide)
      refine lv_iinc (v := I (u4 + 1)) (lv' := [(4, .int (I (u4 + 1))), (0, .ref (q 58)), (2, .int (I u2)), (3, .int (I u3))]) hx hb dJ7_fill_fda19_21 hl (k := 3) rfl (I_add _ _) (by decide) rfl (fun ls hl => ?_)
      refine lv_goto (tgt := 10) hx hb dJ7_fill_fda19_24 (by decide) ?_
      obtain ⟨c6, hw⟩ := hw
      exact (hP10 _ _ _ _).mp hw r_u2 r_u3 c6 hN hF H locs ls hP hD hS (lv_sub hl [1, 2, 3, 0] rfl)
def W_X6_goAgain (n1 : Int) (n2 : Int) (σ : S0) (Q : Int → S0 → Prop) : Prop :=
  ∀ (P51 : Int → Int → Int → Int → S0 → Prop) (P94 : Int → Int → Int → S0 → Prop) (P173 : Int → Int → Int → Int → S0 → Prop) (P209 : Int → Int → Int → Int → Int → S0 → Prop),
  (∀ (u2 : Int) (u3 : Int) (u4 : Int) (u5 : Int) (τ : S0), ((0 ≤ u4 ∧ u4 < 20001) ∧ (∀ (x15 : Int), rg x15 → x15 = τ.2.1 36 u4 → ((x15 ≤ u5 → P94 u2 u3 0 τ) ∧ (u5 < x15 → (0 ≤ u5 ∧ u5 < 20000) ∧ (∀ (x18 : Int), rg x18 → x18 = τ.2.1 37 u5 → ((0 ≤ x18 ∧ x18 < 20000) ∧ (∀ (x20 : Int), rg x20 → x20 = τ.2.1 42 x18 → (rg (x20 + 1) ∧ rg (u5 + 1) ∧ P51 u2 u3 u4 (u5 + 1) (s_a τ 42 x18 (x20 + 1)))))))))) → P51 u2 u3 u4 u5 τ) →
  (∀ (u2 : Int) (u3 : Int) (u5 : Int) (τ : S0), ((u2 < u5 → Q 1 τ) ∧ (u5 ≤ u2 → (0 ≤ (u3 + u5) ∧ (u3 + u5) < 20000) ∧ (∀ (x25 : Int), rg x25 → x25 = τ.2.1 35 (u3 + u5) → ((0 ≤ (u3 + u5) ∧ (u3 + u5) < 20001) ∧ (∀ (x27 : Int), rg x27 → x27 = τ.2.1 36 (u3 + u5) → ((0 ≤ x25 ∧ x25 < 1500) ∧ (∀ (x29 : Int), rg x29 → x29 = τ.2.1 13 x25 → ((2 ≤ x29 → ∃ (Q31 : Int → S0 → Prop), W_X6_bind x25 x27 τ Q31 ∧ ∀ (x32 : Int) (τ33 : S0), rg x32 → n_m τ33 → f_r [] [44, 45] [] τ τ33 → Q31 x32 τ33 → ((x32 = 0 → Q 0 τ33) ∧ (¬ x32 = 0 → ∃ (Q35 : Int → S0 → Prop), W_X6_build x25 τ33 Q35 ∧ ∀ (x36 : Int) (τ37 : S0), rg x36 → n_m τ37 → f_r [19] [43] [] τ33 τ37 → Q35 x36 τ37 → ((¬ x36 = 0 → P173 u2 u3 u5 x27 τ37) ∧ (x36 = 0 → Q 0 τ37))))) ∧ (x29 < 2 → ∃ (Q39 : S0 → Prop), W_X6_buildHypothesis x25 τ Q39 ∧ ∀ (τ41 : S0), n_m τ41 → f_r [19] [43] [] τ τ41 → Q39 τ41 → (P173 u2 u3 u5 x27 τ41)))))))))) → P94 u2 u3 u5 τ) →
  (∀ (u2 : Int) (u3 : Int) (u5 : Int) (u7 : Int) (τ : S0), (rg (u3 + u5) ∧ ∃ (Q43 : Int → Prop), W_X0_childCount (u3 + u5) τ Q43 ∧ ∀ (x44 : Int), rg x44 → Q43 x44 → (∃ (Q46 : S0 → Prop), W_X6_drop u7 x44 τ Q46 ∧ ∀ (τ48 : S0), n_m τ48 → f_r [17] [] [] τ τ48 → Q46 τ48 → ((0 ≤ u5 ∧ u5 < 20000) ∧ (∀ (x50 : Int), rg x50 → x50 = τ48.2.1 42 u5 → ((x50 ≤ 1 → P209 u2 u3 u5 u5 0 τ48) ∧ (1 < x50 → P209 u2 u3 u5 u5 1 τ48)))))) → P173 u2 u3 u5 u7 τ) →
  (∀ (u2 : Int) (u3 : Int) (u5 : Int) (k1 : Int) (k2 : Int) (τ : S0), (∃ (Q52 : Int → S0 → Prop), W_X6_put k1 k2 τ Q52 ∧ ∀ (x53 : Int) (τ54 : S0), rg x53 → n_m τ54 → f_r [17, 18] [39, 40, 41, 42] [] τ τ54 → Q52 x53 τ54 → ((¬ x53 = 0 → rg (u5 + 1) ∧ P94 u2 u3 (u5 + 1) τ54) ∧ (x53 = 0 → Q 0 τ54))) → P209 u2 u3 u5 k1 k2 τ) →
  ∃ (Q1 : S0 → Prop), W_X6_clear σ Q1 ∧ ∀ (τ3 : S0), n_m τ3 → f_r [17, 18] [] [] σ τ3 → Q1 τ3 → ((0 ≤ n1 ∧ n1 < 1500) ∧ (∀ (x5 : Int), rg x5 → x5 = τ3.2.1 33 n1 → (∀ (x6 : Int), rg x6 → x6 = τ3.2.1 34 n1 → (rg ((x5 + x6) - x5) ∧ ∃ (Q8 : S0 → Prop), W_J7_fill_fda19_q58 0 ((x5 + x6) - x5) 0 τ3 Q8 ∧ ∀ (τ10 : S0), n_m τ10 → f_r [] [42] [] τ3 τ10 → Q8 τ10 → ((0 ≤ x5 ∧ x5 < 20001) ∧ (∀ (x12 : Int), rg x12 → x12 = τ10.2.1 36 x5 → (rg (x5 + x6) ∧ P51 n2 x5 (x5 + x6) x12 τ10)))))))
set_option maxRecDepth 100000 in
set_option maxHeartbeats 4000000 in
theorem L_X6_goAgain (l : Launch) (g : gG) (q : Nat → Nat) (lb : Nat) (hlb : lb < 2 ^ 31) {n1 : Int} {n2 : Int} {σ : S0} {Q : Int → S0 → Prop} (r_n1 : rg n1) (r_n2 : rg n2) (hN : n_m σ) (hw : W_X6_goAgain n1 n2 σ Q) (sz : Nat) : MetI l yX6_goAgain cX6_goAgain 8 (some .boolean) { frames := 3, cells := 0, slots := 0, locals := 99 } g [.ref (q 4), .int (I n1), .int (I n2)] (CX g q lb σ) sz xT (p_I (CX g q lb) [17, 18, 19] [39, 40, 41, 42, 43, 44, 45] [] σ Q) 0 0 := by
  refine mkMet (Qc := fun A => QI g A (p_I (CX g q lb) [17, 18, 19] [39, 40, 41, 42, 43, 44, 45] [] σ Q)) (by decide) (Nat.le_of_ble_eq_true rfl) ?_
  intro p e s m below meth c A H ls hx hb hr hml hown hts hlk hnm hsz hP hK hNb hD hA hAe hS hX hl
  have hl : lv_has ls 8 [(0, .ref (q 4)), (1, .int (I n1)), (2, .int (I n2))] := hl
  have hB := hN
  have hF : f_r [17, 18, 19] [39, 40, 41, 42, 43, 44, 45] [] σ σ := f_0
  obtain ⟨locs, hlocs⟩ : ∃ z : List Loc, z = [] := ⟨_, rfl⟩
  rw [← hlocs] at hS ⊢
  obtain ⟨P51, hP51⟩ : ∃ P : Int → Int → Int → Int → S0 → Prop, ∀ (u2 : Int) (u3 : Int) (u4 : Int) (u5 : Int) (τ : S0), (P u2 u3 u4 u5 τ ↔ (rg u2 → rg u3 → rg u4 → rg u5 → n_m τ → f_r [17, 18, 19] [39, 40, 41, 42, 43, 44, 45] [] σ τ → ∀ (H : Heap) (locs : List Loc) (ls : Array Slot), KP g (CX g q lb τ) H → va_D A (CX g q lb τ) → va_S A s.heap H locs → lv_has ls 8 [(0, .ref (q 4)), (2, .int (I u2)), (3, .int (I u3)), (4, .int (I u4)), (5, .int (I u5))] → W p l e ({ frames := 3, cells := 0, slots := 0, locals := 99 }) s m [.ref (q 4), .int (I n1), .int (I n2)].toArray below meth c H locs 0 0 (MQ below (QI g A (p_I (CX g q lb) [17, 18, 19] [39, 40, 41, 42, 43, 44, 45] [] σ Q)) [.ref (q 4), .int (I n1), .int (I n2)].toArray s 0 0 A) (F0 m 51 ls []))) := ⟨_, fun _ _ _ _ _ => Iff.rfl⟩
  obtain ⟨P94, hP94⟩ : ∃ P : Int → Int → Int → S0 → Prop, ∀ (u2 : Int) (u3 : Int) (u5 : Int) (τ : S0), (P u2 u3 u5 τ ↔ (rg u2 → rg u3 → rg u5 → n_m τ → f_r [17, 18, 19] [39, 40, 41, 42, 43, 44, 45] [] σ τ → ∀ (H : Heap) (locs : List Loc) (ls : Array Slot), KP g (CX g q lb τ) H → va_D A (CX g q lb τ) → va_S A s.heap H locs → lv_has ls 8 [(0, .ref (q 4)), (2, .int (I u2)), (3, .int (I u3)), (5, .int (I u5))] → W p l e ({ frames := 3, cells := 0, slots := 0, locals := 99 }) s m [.ref (q 4), .int (I n1), .int (I n2)].toArray below meth c H locs 0 0 (MQ below (QI g A (p_I (CX g q lb) [17, 18, 19] [39, 40, 41, 42, 43, 44, 45] [] σ Q)) [.ref (q 4), .int (I n1), .int (I n2)].toArray s 0 0 A) (F0 m 94 ls []))) := ⟨_, fun _ _ _ _ => Iff.rfl⟩
  obtain ⟨P173, hP173⟩ : ∃ P : Int → Int → Int → Int → S0 → Prop, ∀ (u2 : Int) (u3 : Int) (u5 : Int) (u7 : Int) (τ : S0), (P u2 u3 u5 u7 τ ↔ (rg u2 → rg u3 → rg u5 → rg u7 → n_m τ → f_r [17, 18, 19] [39, 40, 41, 42, 43, 44, 45] [] σ τ → ∀ (H : Heap) (locs : List Loc) (ls : Array Slot), KP g (CX g q lb τ) H → va_D A (CX g q lb τ) → va_S A s.heap H locs → lv_has ls 8 [(0, .ref (q 4)), (2, .int (I u2)), (3, .int (I u3)), (5, .int (I u5)), (7, .int (I u7))] → W p l e ({ frames := 3, cells := 0, slots := 0, locals := 99 }) s m [.ref (q 4), .int (I n1), .int (I n2)].toArray below meth c H locs 0 0 (MQ below (QI g A (p_I (CX g q lb) [17, 18, 19] [39, 40, 41, 42, 43, 44, 45] [] σ Q)) [.ref (q 4), .int (I n1), .int (I n2)].toArray s 0 0 A) (F0 m 173 ls []))) := ⟨_, fun _ _ _ _ _ => Iff.rfl⟩
  obtain ⟨P209, hP209⟩ : ∃ P : Int → Int → Int → Int → Int → S0 → Prop, ∀ (u2 : Int) (u3 : Int) (u5 : Int) (k1 : Int) (k2 : Int) (τ : S0), (P u2 u3 u5 k1 k2 τ ↔ (rg u2 → rg u3 → rg u5 → rg k1 → rg k2 → n_m τ → f_r [17, 18, 19] [39, 40, 41, 42, 43, 44, 45] [] σ τ → ∀ (H : Heap) (locs : List Loc) (ls : Array Slot), KP g (CX g q lb τ) H → va_D A (CX g q lb τ) → va_S A s.heap H locs → lv_has ls 8 [(0, .ref (q 4)), (2, .int (I u2)), (3, .int (I u3)), (5, .int (I u5))] → W p l e ({ frames := 3, cells := 0, slots := 0, locals := 99 }) s m [.ref (q 4), .int (I n1), .int (I n2)].toArray below meth c H locs 0 0 (MQ below (QI g A (p_I (CX g q lb) [17, 18, 19] [39, 40, 41, 42, 43, 44, 45] [] σ Q)) [.ref (q 4), .int (I n1), .int (I n2)].toArray s 0 0 A) (F0 m 209 ls [.int (I k2), .int (I k1), .ref (q 4)]))) := ⟨_, fun _ _ _ _ _ _ => Iff.rfl⟩
  refine (fun hw => ?_) (hw P51 P94 P173 P209 ?_ ?_ ?_ ?_)
  ·
    refine lv_aload_n hx hb dX6_goAgain_0 rfl (lv_at hl 0 rfl) ?_
    obtain ⟨Q1, hc, hw⟩ := hw
    refine wc_V (X := CX g q lb) (va_runV (As := []) (rest := []) ⟨hx, hb, hml, hown, hts⟩ (L_X6_clear l g q lb hlb  hN hc H.size) (cwV 0 hts (TB_V tw_1569 tw_1274 tw_1275 tw_6 co_X6_clear) rfl rfl rfl (by decide +kernel) ⟨Nat.le_of_ble_eq_true rfl, Nat.le_of_ble_eq_true rfl⟩) (preV (q0 := 4) (ci := 6) rfl xT_bl hP hK hNb hD rfl rfl xT_at) rfl rfl hl.1 rfl (lv_room (Nat.le_of_ble_eq_true rfl)) dX6_goAgain_1 ⟨Nat.le_of_ble_eq_true rfl, Nat.le_of_ble_eq_true rfl⟩) hP hD hS hA (fun τ3 H locs hN hf hq hP hD hS => ?_)
    replace hw := hw τ3 hN hf hq
    have hF : f_r [17, 18, 19] [39, 40, 41, 42, 43, 44, 45] [] σ τ3 := f_t hF hf (by decide) (by decide) (by decide)
    have hB := hN
    refine lv_aload_n hx hb dX6_goAgain_4 rfl (lv_at hl 0 rfl) ?_
    refine gfX6_assertions hx hb hts hK hP hown (hts _ tw_345) dX6_goAgain_5 ?_
    refine gfNX0_rowAt hx hb hts hK hP hown (nb_use hNb tn_267) dX6_goAgain_8 ?_
    refine lv_iload_n hx hb dX6_goAgain_11 rfl (lv_at hl 1 rfl) ?_
    obtain ⟨c4, hw⟩ := hw
    refine ldCX0_rowAt hx hb hK hP hN c4 dX6_goAgain_12 (fun x5 r_x5 e_x5 => ?_)
    replace hw := hw x5 r_x5 e_x5
    refine lv_istore_n (lv' := [(3, .int (I x5)), (0, .ref (q 4)), (1, .int (I n1)), (2, .int (I n2))]) hx hb dX6_goAgain_13 rfl hl (by decide) rfl (fun ls hl => ?_)
    refine lv_iload_n hx hb dX6_goAgain_14 rfl (lv_at hl 0 rfl) ?_
    refine lv_aload_n hx hb dX6_goAgain_15 rfl (lv_at hl 1 rfl) ?_
    refine gfX6_assertions hx hb hts hK hP hown (hts _ tw_345) dX6_goAgain_16 ?_
    refine gfNX0_rowCount hx hb hts hK hP hown (nb_use hNb tn_271) dX6_goAgain_19 ?_
    refine lv_iload_n hx hb dX6_goAgain_22 rfl (lv_at hl 2 rfl) ?_
    refine ldCX0_rowCount hx hb hK hP hN c4 dX6_goAgain_23 (fun x6 r_x6 e_x6 => ?_)
    replace hw := hw x6 r_x6 e_x6
    refine bi_iadd hx hb dX6_goAgain_24 ?_
    refine lv_istore (lv' := [(4, .int (I (x5 + x6))), (3, .int (I x5)), (0, .ref (q 4)), (1, .int (I n1)), (2, .int (I n2))]) hx hb dX6_goAgain_25 hl (by decide) rfl (fun ls hl => ?_)
    refine lv_aload_n hx hb dX6_goAgain_27 rfl (lv_at hl 2 rfl) ?_
    refine gfX6_uses hx hb hts hK hP hown (hts _ tw_360) dX6_goAgain_28 ?_
    refine lv_iconst (v := I 0) hx hb dX6_goAgain_31 rfl ?_
    refine lv_iload hx hb dX6_goAgain_32 (lv_at hl 0 rfl) ?_
    refine lv_iload_n hx hb dX6_goAgain_34 rfl (lv_at hl 1 rfl) ?_
    refine bi_isub hx hb dX6_goAgain_35 ?_
    refine lv_iconst (v := I 0) hx hb dX6_goAgain_36 rfl ?_
    obtain ⟨c7, hw⟩ := hw
    obtain ⟨Q8, hc, hw⟩ := hw
    refine wc_V (X := CX g q lb) (va_runS (As := [.ref (q 58), .int (I 0), .int (I ((x5 + x6) - x5)), .int (I 0)]) (rest := []) ⟨hx, hb, hml, hown, hts⟩ (L_J7_fill_fda19_q58 l g q lb hlb (by decide) c7 (by decide) hN hc H.size) (va_cwS 4 hts (TB_vS tw_1570 tw_1571 tw_4 co_J7_fill_fda19) rfl rfl rfl (by decide +kernel) ⟨Nat.le_of_ble_eq_true rfl, Nat.le_of_ble_eq_true rfl⟩) (preS xT_bl hP hK hNb hD xT_at) rfl rfl hl.1 rfl (lv_room (Nat.le_of_ble_eq_true rfl)) dX6_goAgain_37 ⟨Nat.le_of_ble_eq_true rfl, Nat.le_of_ble_eq_true rfl⟩) hP hD hS hA (fun τ10 H locs hN hf hq hP hD hS => ?_)
    replace hw := hw τ10 hN hf hq
    have hF : f_r [17, 18, 19] [39, 40, 41, 42, 43, 44, 45] [] σ τ10 := f_t hF hf (by decide) (by decide) (by decide)
    have hB := hN
    refine lv_aload_n hx hb dX6_goAgain_40 rfl (lv_at hl 2 rfl) ?_
    refine gfX6_assertions hx hb hts hK hP hown (hts _ tw_345) dX6_goAgain_41 ?_
    refine gfNX0_childAt hx hb hts hK hP hown (nb_use hNb tn_280) dX6_goAgain_44 ?_
    refine lv_iload_n hx hb dX6_goAgain_47 rfl (lv_at hl 1 rfl) ?_
    obtain ⟨c11, hw⟩ := hw
    refine ldCX0_childAt hx hb hK hP hN c11 dX6_goAgain_48 (fun x12 r_x12 e_x12 => ?_)
    replace hw := hw x12 r_x12 e_x12
    refine lv_istore (lv' := [(5, .int (I x12)), (4, .int (I (x5 + x6))), (3, .int (I x5)), (0, .ref (q 4)), (1, .int (I n1)), (2, .int (I n2))]) hx hb dX6_goAgain_49 hl (by decide) rfl (fun ls hl => ?_)
    obtain ⟨c13, hw⟩ := hw
    exact (hP51 _ _ _ _ _).mp hw r_n2 r_x5 c13 r_x12 hN hF H locs ls hP hD hS (lv_sub hl [3, 5, 2, 1, 0] rfl)
  ·
    intro u2 u3 u4 u5 τ hw
    refine (hP51 _ _ _ _ _).mpr ?_
    intro r_u2 r_u3 r_u4 r_u5 hN hF H locs ls hP hD hS hl
    have hB := hN
    refine lv_iload hx hb dX6_goAgain_51 (lv_at hl 4 rfl) ?_
    refine lv_aload_n hx hb dX6_goAgain_53 rfl (lv_at hl 0 rfl) ?_
    refine gfX6_assertions hx hb hts hK hP hown (hts _ tw_345) dX6_goAgain_54 ?_
    refine gfNX0_childAt hx hb hts hK hP hown (nb_use hNb tn_280) dX6_goAgain_57 ?_
    refine lv_iload hx hb dX6_goAgain_60 (lv_at hl 3 rfl) ?_
    obtain ⟨c14, hw⟩ := hw
    refine ldCX0_childAt hx hb hK hP hN c14 dX6_goAgain_62 (fun x15 r_x15 e_x15 => ?_)
    replace hw := hw x15 r_x15 e_x15
    refine bi_icmp_ge (tgt := 91) hx hb r_u5 r_x15 dX6_goAgain_63 (by decide) (fun c16 => ?_) (fun c16 => ?_)
    ·
      replace hw := hw.1 c16
      refine lv_iconst (v := I 0) hx hb dX6_goAgain_91 rfl ?_
      refine lv_istore (lv' := [(5, .int (I 0)), (0, .ref (q 4)), (2, .int (I u2)), (3, .int (I u3)), (4, .int (I u4))]) hx hb dX6_goAgain_92 hl (by decide) rfl (fun ls hl => ?_)
      exact (hP94 _ _ _ _).mp hw r_u2 r_u3 (by decide) hN hF H locs ls hP hD hS (lv_sub hl [1, 2, 3, 0] rfl)
    ·
      replace hw := hw.2 c16
      refine lv_aload_n hx hb dX6_goAgain_66 rfl (lv_at hl 0 rfl) ?_
      refine gfX6_uses hx hb hts hK hP hown (hts _ tw_360) dX6_goAgain_67 ?_
      refine lv_aload_n hx hb dX6_goAgain_70 rfl (lv_at hl 0 rfl) ?_
      refine gfX6_assertions hx hb hts hK hP hown (hts _ tw_345) dX6_goAgain_71 ?_
      refine gfNX0_children hx hb hts hK hP hown (nb_use hNb tn_284) dX6_goAgain_74 ?_
      refine lv_iload hx hb dX6_goAgain_77 (lv_at hl 4 rfl) ?_
      obtain ⟨c17, hw⟩ := hw
      refine ldCX0_children hx hb hK hP hN c17 dX6_goAgain_79 (fun x18 r_x18 e_x18 => ?_)
      replace hw := hw x18 r_x18 e_x18
      refine lv_dup2_11 hx hb dX6_goAgain_80 rfl rfl ?_
      obtain ⟨c19, hw⟩ := hw
      refine ldCX6_uses hx hb hK hP hN c19 dX6_goAgain_81 (fun x20 r_x20 e_x20 => ?_)
      replace hw := hw x20 r_x20 e_x20
      refine lv_iconst (v := I 1) hx hb dX6_goAgain_82 rfl ?_
      refine bi_iadd hx hb dX6_goAgain_83 ?_
      obtain ⟨c21, hw⟩ := hw
      refine sdCX6_uses hx hb hK hP hD hS c19 dX6_goAgain_84 (fun H locs hP hD hS => ?_)
      have hN : n_m (s_a τ 42 x18 (x20 + 1)) := n_a (k := 42) (j := x18) hN (c21 : rg (x20 + 1))
      have hF : f_r [17, 18, 19] [39, 40, 41, 42, 43, 44, 45] [] σ (s_a τ 42 x18 (x20 + 1)) := f_a hF (by decide)
      refine lv_iinc (v := I (u5 + 1)) (lv' := [(5, .int (I (u5 + 1))), (0, .ref (q 4)), (2, .int (I u2)), (3, .int (I u3)), (4, .int (I u4))]) hx hb dX6_goAgain_85 hl (k := 4) rfl (I_add _ _) (by decide) rfl (fun ls hl => ?_)
      refine lv_goto (tgt := 51) hx hb dX6_goAgain_88 (by decide) ?_
      obtain ⟨c22, hw⟩ := hw
      exact (hP51 _ _ _ _ _).mp hw r_u2 r_u3 r_u4 c22 hN hF H locs ls hP hD hS (lv_sub hl [1, 2, 3, 4, 0] rfl)
  ·
    intro u2 u3 u5 τ hw
    refine (hP94 _ _ _ _).mpr ?_
    intro r_u2 r_u3 r_u5 hN hF H locs ls hP hD hS hl
    have hB := hN
    refine lv_iload hx hb dX6_goAgain_94 (lv_at hl 3 rfl) ?_
    refine lv_iload_n hx hb dX6_goAgain_96 rfl (lv_at hl 1 rfl) ?_
    refine bi_icmp_gt (tgt := 223) hx hb r_u5 r_u2 dX6_goAgain_97 (by decide) (fun c23 => ?_) (fun c23 => ?_)
    ·
      replace hw := hw.1 c23
      refine lv_iconst (v := I 1) hx hb dX6_goAgain_223 rfl ?_
      exact xrz hx hb hr (by decide) hlk hP hK hD hS ⟨_, _, (by decide), rfl, hN, hF, rfl, hw⟩ (Nat.le_of_ble_eq_true rfl) (Nat.le_of_ble_eq_true rfl) dX6_goAgain_224
    ·
      replace hw := hw.2 c23
      refine lv_aload_n hx hb dX6_goAgain_100 rfl (lv_at hl 0 rfl) ?_
      refine gfX6_assertions hx hb hts hK hP hown (hts _ tw_345) dX6_goAgain_101 ?_
      refine gfNX0_rowStatement hx hb hts hK hP hown (nb_use hNb tn_275) dX6_goAgain_104 ?_
      refine lv_iload_n hx hb dX6_goAgain_107 rfl (lv_at hl 2 rfl) ?_
      refine lv_iload hx hb dX6_goAgain_108 (lv_at hl 3 rfl) ?_
      refine bi_iadd hx hb dX6_goAgain_110 ?_
      obtain ⟨c24, hw⟩ := hw
      refine ldCX0_rowStatement hx hb hK hP hN c24 dX6_goAgain_111 (fun x25 r_x25 e_x25 => ?_)
      replace hw := hw x25 r_x25 e_x25
      refine lv_istore (lv' := [(6, .int (I x25)), (0, .ref (q 4)), (2, .int (I u2)), (3, .int (I u3)), (5, .int (I u5))]) hx hb dX6_goAgain_112 hl (by decide) rfl (fun ls hl => ?_)
      refine lv_aload_n hx hb dX6_goAgain_114 rfl (lv_at hl 1 rfl) ?_
      refine gfX6_assertions hx hb hts hK hP hown (hts _ tw_345) dX6_goAgain_115 ?_
      refine gfNX0_childAt hx hb hts hK hP hown (nb_use hNb tn_280) dX6_goAgain_118 ?_
      refine lv_iload_n hx hb dX6_goAgain_121 rfl (lv_at hl 3 rfl) ?_
      refine lv_iload hx hb dX6_goAgain_122 (lv_at hl 4 rfl) ?_
      refine bi_iadd hx hb dX6_goAgain_124 ?_
      obtain ⟨c26, hw⟩ := hw
      refine ldCX0_childAt hx hb hK hP hN c26 dX6_goAgain_125 (fun x27 r_x27 e_x27 => ?_)
      replace hw := hw x27 r_x27 e_x27
      refine lv_istore (lv' := [(7, .int (I x27)), (6, .int (I x25)), (0, .ref (q 4)), (2, .int (I u2)), (3, .int (I u3)), (5, .int (I u5))]) hx hb dX6_goAgain_126 hl (by decide) rfl (fun ls hl => ?_)
      refine lv_aload_n hx hb dX6_goAgain_128 rfl (lv_at hl 2 rfl) ?_
      refine gfX6_library hx hb hts hK hP hown (hts _ tw_344) dX6_goAgain_129 ?_
      refine gfNX3_kind hx hb hts hK hP hown (nb_use hNb tn_70) dX6_goAgain_132 ?_
      refine lv_iload hx hb dX6_goAgain_135 (lv_at hl 1 rfl) ?_
      obtain ⟨c28, hw⟩ := hw
      refine ldCX3_kind hx hb hK hP hN c28 dX6_goAgain_137 (fun x29 r_x29 e_x29 => ?_)
      replace hw := hw x29 r_x29 e_x29
      refine lv_iconst (v := I 2) hx hb dX6_goAgain_138 rfl ?_
      refine bi_icmp_ge (tgt := 151) hx hb r_x29 (by decide) dX6_goAgain_139 (by decide) (fun c30 => ?_) (fun c30 => ?_)
      ·
        replace hw := hw.1 c30
        refine lv_aload_n hx hb dX6_goAgain_151 rfl (lv_at hl 2 rfl) ?_
        refine lv_iload hx hb dX6_goAgain_152 (lv_at hl 1 rfl) ?_
        refine lv_iload hx hb dX6_goAgain_154 (lv_at hl 0 rfl) ?_
        obtain ⟨Q31, hc, hw⟩ := hw
        refine wc_I (X := CX g q lb) (va_runV (As := [.int (I x25), .int (I x27)]) (rest := []) ⟨hx, hb, hml, hown, hts⟩ (L_X6_bind l g q lb hlb r_x25 r_x27 hN hc H.size) (cwV 2 hts (TB_V tw_1577 tw_1299 tw_1300 tw_6 co_X6_bind) rfl rfl rfl (by decide +kernel) ⟨Nat.le_of_ble_eq_true rfl, Nat.le_of_ble_eq_true rfl⟩) (preV (q0 := 4) (ci := 6) rfl xT_bl hP hK hNb hD rfl rfl xT_at) rfl rfl hl.1 rfl (lv_room (Nat.le_of_ble_eq_true rfl)) dX6_goAgain_156 ⟨Nat.le_of_ble_eq_true rfl, Nat.le_of_ble_eq_true rfl⟩) hP hD hS hA (fun x32 τ33 H locs r_x32 hN hf hq hP hD hS => ?_)
        replace hw := hw x32 τ33 r_x32 hN hf hq
        have hF : f_r [17, 18, 19] [39, 40, 41, 42, 43, 44, 45] [] σ τ33 := f_t hF hf (by decide) (by decide) (by decide)
        have hB := hN
        refine bi_if_eq (tgt := 171) hx hb r_x32 dX6_goAgain_159 (by decide) (fun c34 => ?_) (fun c34 => ?_)
        ·
          replace hw := hw.1 c34
          refine lv_iconst (v := I 0) hx hb dX6_goAgain_171 rfl ?_
          exact xrz hx hb hr (by decide) hlk hP hK hD hS ⟨_, _, (by decide), rfl, hN, hF, rfl, hw⟩ (Nat.le_of_ble_eq_true rfl) (Nat.le_of_ble_eq_true rfl) dX6_goAgain_172
        ·
          replace hw := hw.2 c34
          refine lv_aload_n hx hb dX6_goAgain_162 rfl (lv_at hl 2 rfl) ?_
          refine lv_iload hx hb dX6_goAgain_163 (lv_at hl 1 rfl) ?_
          obtain ⟨Q35, hc, hw⟩ := hw
          refine wc_I (X := CX g q lb) (va_runV (As := [.int (I x25)]) (rest := []) ⟨hx, hb, hml, hown, hts⟩ (L_X6_build l g q lb hlb r_x25 hN hc H.size) (cwV 1 hts (TB_V tw_1578 tw_1334 tw_1335 tw_6 co_X6_build) rfl rfl rfl (by decide +kernel) ⟨Nat.le_of_ble_eq_true rfl, Nat.le_of_ble_eq_true rfl⟩) (preV (q0 := 4) (ci := 6) rfl xT_bl hP hK hNb hD rfl rfl xT_at) rfl rfl hl.1 rfl (lv_room (Nat.le_of_ble_eq_true rfl)) dX6_goAgain_165 ⟨Nat.le_of_ble_eq_true rfl, Nat.le_of_ble_eq_true rfl⟩) hP hD hS hA (fun x36 τ37 H locs r_x36 hN hf hq hP hD hS => ?_)
          replace hw := hw x36 τ37 r_x36 hN hf hq
          have hF : f_r [17, 18, 19] [39, 40, 41, 42, 43, 44, 45] [] σ τ37 := f_t hF hf (by decide) (by decide) (by decide)
          have hB := hN
          refine bi_if_ne (tgt := 173) hx hb r_x36 dX6_goAgain_168 (by decide) (fun c38 => ?_) (fun c38 => ?_)
          ·
            replace hw := hw.1 c38
            exact (hP173 _ _ _ _ _).mp hw r_u2 r_u3 r_u5 r_x27 hN hF H locs ls hP hD hS (lv_sub hl [2, 3, 4, 5, 0] rfl)
          ·
            replace hw := hw.2 c38
            refine lv_iconst (v := I 0) hx hb dX6_goAgain_171 rfl ?_
            exact xrz hx hb hr (by decide) hlk hP hK hD hS ⟨_, _, (by decide), rfl, hN, hF, rfl, hw⟩ (Nat.le_of_ble_eq_true rfl) (Nat.le_of_ble_eq_true rfl) dX6_goAgain_172
      ·
        replace hw := hw.2 c30
        refine lv_aload_n hx hb dX6_goAgain_142 rfl (lv_at hl 2 rfl) ?_
        refine lv_iload hx hb dX6_goAgain_143 (lv_at hl 1 rfl) ?_
        obtain ⟨Q39, hc, hw⟩ := hw
        refine wc_V (X := CX g q lb) (va_runV (As := [.int (I x25)]) (rest := []) ⟨hx, hb, hml, hown, hts⟩ (L_X6_buildHypothesis l g q lb hlb r_x25 hN hc H.size) (cwV 1 hts (TB_V tw_1576 tw_1288 tw_1289 tw_6 co_X6_buildHypothesis) rfl rfl rfl (by decide +kernel) ⟨Nat.le_of_ble_eq_true rfl, Nat.le_of_ble_eq_true rfl⟩) (preV (q0 := 4) (ci := 6) rfl xT_bl hP hK hNb hD rfl rfl xT_at) rfl rfl hl.1 rfl (lv_room (Nat.le_of_ble_eq_true rfl)) dX6_goAgain_145 ⟨Nat.le_of_ble_eq_true rfl, Nat.le_of_ble_eq_true rfl⟩) hP hD hS hA (fun τ41 H locs hN hf hq hP hD hS => ?_)
        replace hw := hw τ41 hN hf hq
        have hF : f_r [17, 18, 19] [39, 40, 41, 42, 43, 44, 45] [] σ τ41 := f_t hF hf (by decide) (by decide) (by decide)
        have hB := hN
        refine lv_goto (tgt := 173) hx hb dX6_goAgain_148 (by decide) ?_
        exact (hP173 _ _ _ _ _).mp hw r_u2 r_u3 r_u5 r_x27 hN hF H locs ls hP hD hS (lv_sub hl [2, 3, 4, 5, 0] rfl)
  ·
    intro u2 u3 u5 u7 τ hw
    refine (hP173 _ _ _ _ _).mpr ?_
    intro r_u2 r_u3 r_u5 r_u7 hN hF H locs ls hP hD hS hl
    have hB := hN
    refine lv_aload_n hx hb dX6_goAgain_173 rfl (lv_at hl 0 rfl) ?_
    refine lv_iload hx hb dX6_goAgain_174 (lv_at hl 4 rfl) ?_
    refine lv_aload_n hx hb dX6_goAgain_176 rfl (lv_at hl 0 rfl) ?_
    refine gfX6_assertions hx hb hts hK hP hown (hts _ tw_345) dX6_goAgain_177 ?_
    refine lv_iload_n hx hb dX6_goAgain_180 rfl (lv_at hl 2 rfl) ?_
    refine lv_iload hx hb dX6_goAgain_181 (lv_at hl 3 rfl) ?_
    refine bi_iadd hx hb dX6_goAgain_183 ?_
    obtain ⟨c42, hw⟩ := hw
    obtain ⟨Q43, hc, hw⟩ := hw
    refine wc_i (X := CX g q lb) (va_runV (As := [.int (I (u3 + u5))]) (rest := [.int (I u7), .ref (q 4)]) ⟨hx, hb, hml, hown, hts⟩ (L_X0_childCount l g q lb hlb c42 hN hc H.size) (cwV 1 hts (TB_V tw_1579 tw_1505 tw_1506 tw_5 co_X0_childCount) rfl rfl rfl (by decide +kernel) ⟨Nat.le_of_ble_eq_true rfl, Nat.le_of_ble_eq_true rfl⟩) (preV (q0 := 3) (ci := 0) rfl xT_bl hP hK hNb hD rfl rfl xT_at) rfl rfl hl.1 rfl (lv_room (Nat.le_of_ble_eq_true rfl)) dX6_goAgain_184 ⟨Nat.le_of_ble_eq_true rfl, Nat.le_of_ble_eq_true rfl⟩) hP hD hS hA (fun x44 H locs r_x44 hq hP hD hS => ?_)
    replace hw := hw x44 r_x44 hq
    obtain ⟨Q46, hc, hw⟩ := hw
    refine wc_V (X := CX g q lb) (va_runV (As := [.int (I u7), .int (I x44)]) (rest := []) ⟨hx, hb, hml, hown, hts⟩ (L_X6_drop l g q lb hlb r_u7 r_x44 hN hc H.size) (cwV 2 hts (TB_V tw_1580 tw_1338 tw_1339 tw_6 co_X6_drop) rfl rfl rfl (by decide +kernel) ⟨Nat.le_of_ble_eq_true rfl, Nat.le_of_ble_eq_true rfl⟩) (preV (q0 := 4) (ci := 6) rfl xT_bl hP hK hNb hD rfl rfl xT_at) rfl rfl hl.1 rfl (lv_room (Nat.le_of_ble_eq_true rfl)) dX6_goAgain_187 ⟨Nat.le_of_ble_eq_true rfl, Nat.le_of_ble_eq_true rfl⟩) hP hD hS hA (fun τ48 H locs hN hf hq hP hD hS => ?_)
    replace hw := hw τ48 hN hf hq
    have hF : f_r [17, 18, 19] [39, 40, 41, 42, 43, 44, 45] [] σ τ48 := f_t hF hf (by decide) (by decide) (by decide)
    have hB := hN
    refine lv_aload_n hx hb dX6_goAgain_190 rfl (lv_at hl 0 rfl) ?_
    refine lv_iload hx hb dX6_goAgain_191 (lv_at hl 3 rfl) ?_
    refine lv_aload_n hx hb dX6_goAgain_193 rfl (lv_at hl 0 rfl) ?_
    refine gfX6_uses hx hb hts hK hP hown (hts _ tw_360) dX6_goAgain_194 ?_
    refine lv_iload hx hb dX6_goAgain_197 (lv_at hl 3 rfl) ?_
    obtain ⟨c49, hw⟩ := hw
    refine ldCX6_uses hx hb hK hP hN c49 dX6_goAgain_199 (fun x50 r_x50 e_x50 => ?_)
    replace hw := hw x50 r_x50 e_x50
    refine lv_iconst (v := I 1) hx hb dX6_goAgain_200 rfl ?_
    refine bi_icmp_le (tgt := 208) hx hb r_x50 (by decide) dX6_goAgain_201 (by decide) (fun c51 => ?_) (fun c51 => ?_)
    ·
      replace hw := hw.1 c51
      refine lv_iconst (v := I 0) hx hb dX6_goAgain_208 rfl ?_
      exact (hP209 _ _ _ _ _ _).mp hw r_u2 r_u3 r_u5 r_u5 (by decide) hN hF H locs ls hP hD hS (lv_sub hl [0, 1, 2, 3] rfl)
    ·
      replace hw := hw.2 c51
      refine lv_iconst (v := I 1) hx hb dX6_goAgain_204 rfl ?_
      refine lv_goto (tgt := 209) hx hb dX6_goAgain_205 (by decide) ?_
      exact (hP209 _ _ _ _ _ _).mp hw r_u2 r_u3 r_u5 r_u5 (by decide) hN hF H locs ls hP hD hS (lv_sub hl [0, 1, 2, 3] rfl)
  ·
    intro u2 u3 u5 k1 k2 τ hw
    refine (hP209 _ _ _ _ _ _).mpr ?_
    intro r_u2 r_u3 r_u5 r_k1 r_k2 hN hF H locs ls hP hD hS hl
    have hB := hN
    obtain ⟨Q52, hc, hw⟩ := hw
    refine wc_I (X := CX g q lb) (va_runV (As := [.int (I k1), .int (I k2)]) (rest := []) ⟨hx, hb, hml, hown, hts⟩ (L_X6_put l g q lb hlb r_k1 r_k2 hN hc H.size) (cwV 2 hts (TB_V tw_1581 tw_1346 tw_1347 tw_6 co_X6_put) rfl rfl rfl (by decide +kernel) ⟨Nat.le_of_ble_eq_true rfl, Nat.le_of_ble_eq_true rfl⟩) (preV (q0 := 4) (ci := 6) rfl xT_bl hP hK hNb hD rfl rfl xT_at) rfl rfl hl.1 rfl (lv_room (Nat.le_of_ble_eq_true rfl)) dX6_goAgain_209 ⟨Nat.le_of_ble_eq_true rfl, Nat.le_of_ble_eq_true rfl⟩) hP hD hS hA (fun x53 τ54 H locs r_x53 hN hf hq hP hD hS => ?_)
    replace hw := hw x53 τ54 r_x53 hN hf hq
    have hF : f_r [17, 18, 19] [39, 40, 41, 42, 43, 44, 45] [] σ τ54 := f_t hF hf (by decide) (by decide) (by decide)
    have hB := hN
    refine bi_if_ne (tgt := 217) hx hb r_x53 dX6_goAgain_212 (by decide) (fun c55 => ?_) (fun c55 => ?_)
    ·
      replace hw := hw.1 c55
      refine lv_iinc (v := I (u5 + 1)) (lv' := [(5, .int (I (u5 + 1))), (0, .ref (q 4)), (2, .int (I u2)), (3, .int (I u3))]) hx hb dX6_goAgain_217 hl (k := 3) rfl (I_add _ _) (by decide) rfl (fun ls hl => ?_)
      refine lv_goto (tgt := 94) hx hb dX6_goAgain_220 (by decide) ?_
      obtain ⟨c56, hw⟩ := hw
      exact (hP94 _ _ _ _).mp hw r_u2 r_u3 c56 hN hF H locs ls hP hD hS (lv_sub hl [1, 2, 3, 0] rfl)
    ·
      replace hw := hw.2 c55
      refine lv_iconst (v := I 0) hx hb dX6_goAgain_215 rfl ?_
      exact xrz hx hb hr (by decide) hlk hP hK hD hS ⟨_, _, (by decide), rfl, hN, hF, rfl, hw⟩ (Nat.le_of_ble_eq_true rfl) (Nat.le_of_ble_eq_true rfl) dX6_goAgain_216
