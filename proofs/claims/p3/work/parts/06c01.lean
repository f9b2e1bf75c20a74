-- methods told as propositions, and tied to the machine
def W_X11_cell (n0 : Int) (n1 : Int) (n2 : Int) (σ : S0) (Q : Int → Prop) : Prop :=
  rg ((((n0 * 60) + n1) * 60) + n2) ∧ Q ((((n0 * 60) + n1) * 60) + n2)
set_option maxRecDepth 100000 in
set_option maxHeartbeats 4000000 in
theorem L_X11_cell (l : Launch) (g : gG) (q : Nat → Nat) (lb : Nat) (hlb : lb < 2 ^ 31) {n0 : Int} {n1 : Int} {n2 : Int} {σ : S0} {Q : Int → Prop} (r_n0 : rg n0) (r_n1 : rg n1) (r_n2 : rg n2) (hN : n_m σ) (hw : W_X11_cell n0 n1 n2 σ Q) (sz : Nat) : MetI l yX11_cell cX11_cell 3 (some .int) { frames := 0, cells := 0, slots := 0, locals := 0 } g [.int (I n0), .int (I n1), .int (I n2)] (CX g q lb σ) sz xT (p_i (CX g q lb) σ Q) 0 0 := by
  refine mkMet (Qc := fun A => QI g A (p_i (CX g q lb) σ Q)) (by decide) (Nat.le_of_ble_eq_true rfl) ?_
  intro p e s m below meth c A H ls hx hb hr hml hown hts hlk hnm hsz hP hK hNb hD hA hAe hS hX hl
  have hl : lv_has ls 3 [(0, .int (I n0)), (1, .int (I n1)), (2, .int (I n2))] := hl
  have hB := hN
  obtain ⟨locs, hlocs⟩ : ∃ z : List Loc, z = [] := ⟨_, rfl⟩
  rw [← hlocs] at hS ⊢
  refine lv_iload_n hx hb dX11_cell_0 rfl (lv_at hl 0 rfl) ?_
  refine lv_bipush (v := I 60) hx hb dX11_cell_1 (by decide) ?_
  refine bi_imul hx hb dX11_cell_3 ?_
  refine lv_iload_n hx hb dX11_cell_4 rfl (lv_at hl 1 rfl) ?_
  refine bi_iadd hx hb dX11_cell_5 ?_
  refine lv_bipush (v := I 60) hx hb dX11_cell_6 (by decide) ?_
  refine bi_imul hx hb dX11_cell_8 ?_
  refine lv_iload_n hx hb dX11_cell_9 rfl (lv_at hl 2 rfl) ?_
  refine bi_iadd hx hb dX11_cell_10 ?_
  obtain ⟨c1, hw⟩ := hw
  exact xri hx hb hr hlk hP hK hD hS ⟨_, c1, rfl, rfl, hw⟩ (Nat.le_of_ble_eq_true rfl) (Nat.le_of_ble_eq_true rfl) dX11_cell_11
def W_X11_sortOf (n1 : Int) (σ : S0) (Q : Int → Prop) : Prop :=
  (0 ≤ n1 ∧ n1 < 30000) ∧ (∀ (x2 : Int), rg x2 → x2 = σ.2.1 16 n1 → ((0 ≤ x2 ∧ x2 < 1501) ∧ (∀ (x4 : Int), rg x4 → x4 = σ.2.1 14 x2 → ((0 ≤ x4 ∧ x4 < 30000) ∧ (∀ (x6 : Int), rg x6 → x6 = σ.2.1 15 x4 → ((0 ≤ x6 ∧ x6 < 1000) ∧ (∀ (x8 : Int), rg x8 → x8 = σ.2.1 10 x6 → (Q x8))))))))
set_option maxRecDepth 100000 in
set_option maxHeartbeats 4000000 in
theorem L_X11_sortOf (l : Launch) (g : gG) (q : Nat → Nat) (lb : Nat) (hlb : lb < 2 ^ 31) {n1 : Int} {σ : S0} {Q : Int → Prop} (r_n1 : rg n1) (hN : n_m σ) (hw : W_X11_sortOf n1 σ Q) (sz : Nat) : MetI l yX11_sortOf cX11_sortOf 3 (some .int) { frames := 0, cells := 0, slots := 0, locals := 0 } g [.ref (q 10), .int (I n1)] (CX g q lb σ) sz xT (p_i (CX g q lb) σ Q) 0 0 := by
  refine mkMet (Qc := fun A => QI g A (p_i (CX g q lb) σ Q)) (by decide) (Nat.le_of_ble_eq_true rfl) ?_
  intro p e s m below meth c A H ls hx hb hr hml hown hts hlk hnm hsz hP hK hNb hD hA hAe hS hX hl
  have hl : lv_has ls 3 [(0, .ref (q 10)), (1, .int (I n1))] := hl
  have hB := hN
  obtain ⟨locs, hlocs⟩ : ∃ z : List Loc, z = [] := ⟨_, rfl⟩
  rw [← hlocs] at hS ⊢
  refine lv_aload_n hx hb dX11_sortOf_0 rfl (lv_at hl 0 rfl) ?_
  refine gfX11_library hx hb hts hK hP hown (hts _ tw_737) dX11_sortOf_1 ?_
  refine gfNX3_floats hx hb hts hK hP hown (nb_use hNb tn_97) dX11_sortOf_4 ?_
  refine lv_iload_n hx hb dX11_sortOf_7 rfl (lv_at hl 1 rfl) ?_
  obtain ⟨c1, hw⟩ := hw
  refine ldCX3_floats hx hb hK hP hN c1 dX11_sortOf_8 (fun x2 r_x2 e_x2 => ?_)
  replace hw := hw x2 r_x2 e_x2
  refine lv_istore_n (lv' := [(2, .int (I x2)), (0, .ref (q 10)), (1, .int (I n1))]) hx hb dX11_sortOf_9 rfl hl (by decide) rfl (fun ls hl => ?_)
  refine lv_aload_n hx hb dX11_sortOf_10 rfl (lv_at hl 1 rfl) ?_
  refine gfX11_library hx hb hts hK hP hown (hts _ tw_737) dX11_sortOf_11 ?_
  refine gfNX3_rank hx hb hts hK hP hown (nb_use hNb tn_56) dX11_sortOf_14 ?_
  refine lv_aload_n hx hb dX11_sortOf_17 rfl (lv_at hl 1 rfl) ?_
  refine gfX11_library hx hb hts hK hP hown (hts _ tw_737) dX11_sortOf_18 ?_
  refine gfNX3_text hx hb hts hK hP hown (nb_use hNb tn_88) dX11_sortOf_21 ?_
  refine lv_aload_n hx hb dX11_sortOf_24 rfl (lv_at hl 1 rfl) ?_
  refine gfX11_library hx hb hts hK hP hown (hts _ tw_737) dX11_sortOf_25 ?_
  refine gfNX3_at hx hb hts hK hP hown (nb_use hNb tn_79) dX11_sortOf_28 ?_
  refine lv_iload_n hx hb dX11_sortOf_31 rfl (lv_at hl 0 rfl) ?_
  obtain ⟨c3, hw⟩ := hw
  refine ldCX3_at hx hb hK hP hN c3 dX11_sortOf_32 (fun x4 r_x4 e_x4 => ?_)
  replace hw := hw x4 r_x4 e_x4
  obtain ⟨c5, hw⟩ := hw
  refine ldCX3_text hx hb hK hP hN c5 dX11_sortOf_33 (fun x6 r_x6 e_x6 => ?_)
  replace hw := hw x6 r_x6 e_x6
  obtain ⟨c7, hw⟩ := hw
  refine ldCX3_rank hx hb hK hP hN c7 dX11_sortOf_34 (fun x8 r_x8 e_x8 => ?_)
  replace hw := hw x8 r_x8 e_x8
  exact xri hx hb hr hlk hP hK hD hS ⟨_, r_x8, rfl, rfl, hw⟩ (Nat.le_of_ble_eq_true rfl) (Nat.le_of_ble_eq_true rfl) dX11_sortOf_35
def W_X11_startsOf (n1 : Int) (n2 : Int64) (n4 : Int) (n5 : Int) (σ : S0) (Q : Int64 → Prop) : Prop :=
  ∀ (P52 : Int64 → Int → Int → Int64 → Int → Prop),
  (∀ (u2 : Int64) (u5 : Int) (u6 : Int) (u7 : Int64) (u9 : Int), ((u5 ≤ u9 → Q u7) ∧ (u9 < u5 → (0 ≤ (u6 + u9) ∧ (u6 + u9) < 6000) ∧ (∀ (x13 : Int64), x13 = σ.2.2 4 (u6 + u9) → (((x13 &&& u2) = 0 → rg (u9 + 1) ∧ P52 u2 u5 u6 u7 (u9 + 1)) ∧ (¬ (x13 &&& u2) = 0 → rg (u9 + 1) ∧ P52 u2 u5 u6 (u7 ||| (j_shl 1 u9)) (u9 + 1)))))) → P52 u2 u5 u6 u7 u9) →
  (0 ≤ n1 ∧ n1 < 30000) ∧ (∀ (x2 : Int), rg x2 → x2 = σ.2.1 16 n1 → ((¬ x2 = (-1) → ∃ (Q4 : Int → Prop), W_X11_sortOf n1 σ Q4 ∧ ∀ (x5 : Int), rg x5 → Q4 x5 → (rg (x5 * 60) ∧ P52 n2 n5 (x5 * 60) 0 n4)) ∧ (x2 = (-1) → ∀ (x8 : Int), rg x8 → x8 = σ.2.1 15 n1 → ((0 ≤ x8 ∧ x8 < 1000) ∧ (∀ (x10 : Int64), x10 = σ.2.2 3 x8 → (Q (x10 &&& (j_ushr n2 1))))))))
set_option maxRecDepth 100000 in
set_option maxHeartbeats 4000000 in
theorem L_X11_startsOf (l : Launch) (g : gG) (q : Nat → Nat) (lb : Nat) (hlb : lb < 2 ^ 31) {n1 : Int} {n2 : Int64} {n4 : Int} {n5 : Int} {σ : S0} {Q : Int64 → Prop} (r_n1 : rg n1) (r_n4 : rg n4) (r_n5 : rg n5) (hN : n_m σ) (hw : W_X11_startsOf n1 n2 n4 n5 σ Q) (sz : Nat) : MetL l yX11_startsOf cX11_startsOf 10 (some .long) { frames := 1, cells := 0, slots := 0, locals := 22 } g [.ref (q 10), .int (I n1), .long n2, .int (I n4), .int (I n5)] (CX g q lb σ) sz xT (p_l (CX g q lb) σ Q) 0 0 := by
  refine mkMet (Qc := fun A => QL g A (p_l (CX g q lb) σ Q)) (by decide) (Nat.le_of_ble_eq_true rfl) ?_
  intro p e s m below meth c A H ls hx hb hr hml hown hts hlk hnm hsz hP hK hNb hD hA hAe hS hX hl
  have hl : lv_has ls 10 [(0, .ref (q 10)), (1, .int (I n1)), (2, .long n2), (4, .int (I n4)), (5, .int (I n5))] := hl
  have hB := hN
  obtain ⟨locs, hlocs⟩ : ∃ z : List Loc, z = [] := ⟨_, rfl⟩
  rw [← hlocs] at hS ⊢
  obtain ⟨P52, hP52⟩ : ∃ P : Int64 → Int → Int → Int64 → Int → Prop, ∀ (u2 : Int64) (u5 : Int) (u6 : Int) (u7 : Int64) (u9 : Int), (P u2 u5 u6 u7 u9 ↔ (rg u5 → rg u6 → rg u9 → ∀ (H : Heap) (locs : List Loc) (ls : Array Slot), KP g (CX g q lb σ) H → va_D A (CX g q lb σ) → va_S A s.heap H locs → lv_has ls 10 [(0, .ref (q 10)), (2, .long u2), (5, .int (I u5)), (6, .int (I u6)), (7, .long u7), (9, .int (I u9))] → W p l e ({ frames := 1, cells := 0, slots := 0, locals := 22 }) s m [.ref (q 10), .int (I n1), .long n2, .int (I n4), .int (I n5)].toArray below meth c H locs 0 0 (MQ below (QL g A (p_l (CX g q lb) σ Q)) [.ref (q 10), .int (I n1), .long n2, .int (I n4), .int (I n5)].toArray s 0 0 A) (F0 m 52 ls []))) := ⟨_, fun _ _ _ _ _ => Iff.rfl⟩
  refine (fun hw => ?_) (hw P52 ?_)
  ·
    refine lv_aload_n hx hb dX11_startsOf_0 rfl (lv_at hl 0 rfl) ?_
    refine gfX11_library hx hb hts hK hP hown (hts _ tw_737) dX11_startsOf_1 ?_
    refine gfNX3_floats hx hb hts hK hP hown (nb_use hNb tn_97) dX11_startsOf_4 ?_
    refine lv_iload_n hx hb dX11_startsOf_7 rfl (lv_at hl 1 rfl) ?_
    obtain ⟨c1, hw⟩ := hw
    refine ldCX3_floats hx hb hK hP hN c1 dX11_startsOf_8 (fun x2 r_x2 e_x2 => ?_)
    replace hw := hw x2 r_x2 e_x2
    refine lv_iconst (v := I (-1)) hx hb dX11_startsOf_9 rfl ?_
    refine bi_icmp_ne (tgt := 35) hx hb r_x2 (by decide) dX11_startsOf_10 (by decide) (fun c3 => ?_) (fun c3 => ?_)
    ·
      replace hw := hw.1 c3
      refine lv_aload_n hx hb dX11_startsOf_35 rfl (lv_at hl 0 rfl) ?_
      refine lv_iload_n hx hb dX11_startsOf_36 rfl (lv_at hl 1 rfl) ?_
      obtain ⟨Q4, hc, hw⟩ := hw
      refine wc_i (X := CX g q lb) (va_runV (As := [.int (I n1)]) (rest := []) ⟨hx, hb, hml, hown, hts⟩ (L_X11_sortOf l g q lb hlb r_n1 hN hc H.size) (cwV 1 hts (TB_V tw_1785 tw_1787 ts_82 tw_12 co_X11_sortOf) rfl rfl rfl (by decide +kernel) ⟨Nat.le_of_ble_eq_true rfl, Nat.le_of_ble_eq_true rfl⟩) (preV (q0 := 10) (ci := 11) rfl xT_bl hP hK hNb hD rfl rfl xT_at) rfl rfl hl.1 rfl (lv_room (Nat.le_of_ble_eq_true rfl)) dX11_startsOf_37 ⟨Nat.le_of_ble_eq_true rfl, Nat.le_of_ble_eq_true rfl⟩) hP hD hS hA (fun x5 H locs r_x5 hq hP hD hS => ?_)
      replace hw := hw x5 r_x5 hq
      refine lv_bipush (v := I 60) hx hb dX11_startsOf_40 (by decide) ?_
      refine bi_imul hx hb dX11_startsOf_42 ?_
      refine lv_istore (lv' := [(6, .int (I (x5 * 60))), (0, .ref (q 10)), (1, .int (I n1)), (2, .long n2), (4, .int (I n4)), (5, .int (I n5))]) hx hb dX11_startsOf_43 hl (by decide) rfl (fun ls hl => ?_)
      refine lv_lconst (v := 0) hx hb dX11_startsOf_45 (by decide) ?_
      refine lv_lstore (lv' := [(7, .long 0), (6, .int (I (x5 * 60))), (0, .ref (q 10)), (1, .int (I n1)), (2, .long n2), (4, .int (I n4)), (5, .int (I n5))]) hx hb dX11_startsOf_46 hl (by decide) rfl (fun ls hl => ?_)
      refine lv_iload hx hb dX11_startsOf_48 (lv_at hl 5 rfl) ?_
      refine lv_istore (lv' := [(9, .int (I n4)), (7, .long 0), (6, .int (I (x5 * 60))), (0, .ref (q 10)), (1, .int (I n1)), (2, .long n2), (4, .int (I n4)), (5, .int (I n5))]) hx hb dX11_startsOf_50 hl (by decide) rfl (fun ls hl => ?_)
      obtain ⟨c7, hw⟩ := hw
      exact (hP52 _ _ _ _ _).mp hw r_n5 c7 r_n4  H locs ls hP hD hS (lv_sub hl [3, 5, 7, 2, 1, 0] rfl)
    ·
      replace hw := hw.2 c3
      refine lv_aload_n hx hb dX11_startsOf_13 rfl (lv_at hl 0 rfl) ?_
      refine gfX11_chart hx hb hts hK hP hown (hts _ tw_739) dX11_startsOf_14 ?_
      refine gfNX1_where hx hb hts hK hP hown (nb_use hNb tn_682) dX11_startsOf_17 ?_
      refine lv_aload_n hx hb dX11_startsOf_20 rfl (lv_at hl 0 rfl) ?_
      refine gfX11_library hx hb hts hK hP hown (hts _ tw_737) dX11_startsOf_21 ?_
      refine gfNX3_text hx hb hts hK hP hown (nb_use hNb tn_88) dX11_startsOf_24 ?_
      refine lv_iload_n hx hb dX11_startsOf_27 rfl (lv_at hl 1 rfl) ?_
      refine ldCX3_text hx hb hK hP hN c1 dX11_startsOf_28 (fun x8 r_x8 e_x8 => ?_)
      replace hw := hw x8 r_x8 e_x8
      obtain ⟨c9, hw⟩ := hw
      refine ldCX1_where hx hb hK hP hN c9 dX11_startsOf_29 (fun x10 e_x10 => ?_)
      replace hw := hw x10 e_x10
      refine lv_lload_n hx hb dX11_startsOf_30 rfl (lv_at hl 2 rfl) ?_
      refine lv_iconst (v := I 1) hx hb dX11_startsOf_31 rfl ?_
      refine bi_lushr hx hb dX11_startsOf_32 ?_
      refine lv_land hx hb dX11_startsOf_33 ?_
      exact xrl hx hb hr hlk hP hK hD hS ⟨rfl, hw⟩ (Nat.le_of_ble_eq_true rfl) (Nat.le_of_ble_eq_true rfl) dX11_startsOf_34
  ·
    intro u2 u5 u6 u7 u9 hw
    refine (hP52 _ _ _ _ _).mpr ?_
    intro r_u5 r_u6 r_u9 H locs ls hP hD hS hl
    refine lv_iload hx hb dX11_startsOf_52 (lv_at hl 5 rfl) ?_
    refine lv_iload hx hb dX11_startsOf_54 (lv_at hl 2 rfl) ?_
    refine bi_icmp_ge (tgt := 94) hx hb r_u9 r_u5 dX11_startsOf_56 (by decide) (fun c11 => ?_) (fun c11 => ?_)
    ·
      replace hw := hw.1 c11
      refine lv_lload hx hb dX11_startsOf_94 (lv_at hl 4 rfl) ?_
      exact xrl hx hb hr hlk hP hK hD hS ⟨rfl, hw⟩ (Nat.le_of_ble_eq_true rfl) (Nat.le_of_ble_eq_true rfl) dX11_startsOf_96
    ·
      replace hw := hw.2 c11
      refine lv_aload_n hx hb dX11_startsOf_59 rfl (lv_at hl 0 rfl) ?_
      refine gfX11_chart hx hb hts hK hP hown (hts _ tw_739) dX11_startsOf_60 ?_
      refine gfNX1_has hx hb hts hK hP hown (nb_use hNb tn_684) dX11_startsOf_63 ?_
      refine lv_iload hx hb dX11_startsOf_66 (lv_at hl 3 rfl) ?_
      refine lv_iload hx hb dX11_startsOf_68 (lv_at hl 5 rfl) ?_
      refine bi_iadd hx hb dX11_startsOf_70 ?_
      obtain ⟨c12, hw⟩ := hw
      refine ldCX1_has hx hb hK hP hN c12 dX11_startsOf_71 (fun x13 e_x13 => ?_)
      replace hw := hw x13 e_x13
      refine lv_lload_n hx hb dX11_startsOf_72 rfl (lv_at hl 1 rfl) ?_
      refine lv_land hx hb dX11_startsOf_73 ?_
      refine lv_lconst (v := 0) hx hb dX11_startsOf_74 (by decide) ?_
      refine bi_lcmp_eq (tgt := 88) hx hb dX11_startsOf_75 dX11_startsOf_76 (by decide) (fun c14 => ?_) (fun c14 => ?_)
      ·
        replace hw := hw.1 c14
        refine lv_iinc (v := I (u9 + 1)) (lv' := [(9, .int (I (u9 + 1))), (0, .ref (q 10)), (2, .long u2), (5, .int (I u5)), (6, .int (I u6)), (7, .long u7)]) hx hb dX11_startsOf_88 hl (k := 5) rfl (I_add _ _) (by decide) rfl (fun ls hl => ?_)
        refine lv_goto (tgt := 52) hx hb dX11_startsOf_91 (by decide) ?_
        obtain ⟨c15, hw⟩ := hw
        exact (hP52 _ _ _ _ _).mp hw r_u5 r_u6 c15  H locs ls hP hD hS (lv_sub hl [1, 2, 3, 4, 5, 0] rfl)
      ·
        replace hw := hw.2 c14
        refine lv_lload hx hb dX11_startsOf_79 (lv_at hl 4 rfl) ?_
        refine lv_lconst (v := 1) hx hb dX11_startsOf_81 (by decide) ?_
        refine lv_iload hx hb dX11_startsOf_82 (lv_at hl 5 rfl) ?_
        refine bi_lshl hx hb dX11_startsOf_84 ?_
        refine lv_lor hx hb dX11_startsOf_85 ?_
        refine lv_lstore (lv' := [(7, .long (u7 ||| (j_shl 1 u9))), (0, .ref (q 10)), (2, .long u2), (5, .int (I u5)), (6, .int (I u6)), (9, .int (I u9))]) hx hb dX11_startsOf_86 hl (by decide) rfl (fun ls hl => ?_)
        refine lv_iinc (v := I (u9 + 1)) (lv' := [(9, .int (I (u9 + 1))), (7, .long (u7 ||| (j_shl 1 u9))), (0, .ref (q 10)), (2, .long u2), (5, .int (I u5)), (6, .int (I u6))]) hx hb dX11_startsOf_88 hl (k := 5) rfl (I_add _ _) (by decide) rfl (fun ls hl => ?_)
        refine lv_goto (tgt := 52) hx hb dX11_startsOf_91 (by decide) ?_
        obtain ⟨c16, hw⟩ := hw
        exact (hP52 _ _ _ _ _).mp hw r_u5 r_u6 c16  H locs ls hP hD hS (lv_sub hl [2, 3, 4, 5, 1, 0] rfl)
def W_J6_numberOfTrailingZeros_0f7a4 (n0 : Int) (σ : S0) (Q : Int → Prop) : Prop :=
  ∀ (P34 : Int → Int → Prop) (P49 : Int → Int → Prop) (P62 : Int → Int → Prop),
  (∀ (u0 : Int) (u1 : Int), ((u0 ≤ 256 → P49 u0 u1) ∧ (256 < u0 → ∀ (x7 : Int), rg x7 → x7 = h_u u0 8 → (rg (u1 + 8) ∧ P49 x7 (u1 + 8)))) → P34 u0 u1) →
  (∀ (u0 : Int) (u1 : Int), ((u0 ≤ 16 → P62 u0 u1) ∧ (16 < u0 → ∀ (x10 : Int), rg x10 → x10 = h_u u0 4 → (rg (u1 + 4) ∧ P62 x10 (u1 + 4)))) → P49 u0 u1) →
  (∀ (u0 : Int) (u1 : Int), ((u0 ≤ 4 → ∀ (x13 : Int), rg x13 → x13 = h_u u0 1 → (rg (u1 + x13) ∧ Q (u1 + x13))) ∧ (4 < u0 → ∀ (x15 : Int), rg x15 → x15 = h_u u0 2 → (∀ (x16 : Int), rg x16 → x16 = h_u x15 1 → (rg ((u1 + 2) + x16) ∧ Q ((u1 + 2) + x16))))) → P62 u0 u1) →
  ∀ (x1 : Int), rg x1 → x1 = h_a (-1 - n0) (n0 - 1) → ((0 < x1 → (x1 ≤ 65536 → P34 x1 1) ∧ (65536 < x1 → ∀ (x4 : Int), rg x4 → x4 = h_u x1 16 → (P34 x4 17))) ∧ (x1 ≤ 0 → ∀ (x5 : Int), rg x5 → x5 = h_a x1 32 → (Q x5)))
set_option maxRecDepth 100000 in
set_option maxHeartbeats 4000000 in
theorem L_J6_numberOfTrailingZeros_0f7a4 (l : Launch) (g : gG) (q : Nat → Nat) (lb : Nat) (hlb : lb < 2 ^ 31) {n0 : Int} {σ : S0} {Q : Int → Prop} (r_n0 : rg n0) (hN : n_m σ) (hw : W_J6_numberOfTrailingZeros_0f7a4 n0 σ Q) (sz : Nat) : MetI l yJ6_numberOfTrailingZeros_0f7a4 cJ6_numberOfTrailingZeros_0f7a4 2 (some .int) { frames := 0, cells := 0, slots := 0, locals := 0 } g [.int (I n0)] (CX g q lb σ) sz xT (p_i (CX g q lb) σ Q) 0 0 := by
  refine mkMet (Qc := fun A => QI g A (p_i (CX g q lb) σ Q)) (by decide) (Nat.le_of_ble_eq_true rfl) ?_
  intro p e s m below meth c A H ls hx hb hr hml hown hts hlk hnm hsz hP hK hNb hD hA hAe hS hX hl
  have hl : lv_has ls 2 [(0, .int (I n0))] := hl
  have hB := hN
  obtain ⟨locs, hlocs⟩ : ∃ z : List Loc, z = [] := ⟨_, rfl⟩
  rw [← hlocs] at hS ⊢
  obtain ⟨P34, hP34⟩ : ∃ P : Int → Int → Prop, ∀ (u0 : Int) (u1 : Int), (P u0 u1 ↔ (rg u0 → rg u1 → ∀ (H : Heap) (locs : List Loc) (ls : Array Slot), KP g (CX g q lb σ) H → va_D A (CX g q lb σ) → va_S A s.heap H locs → lv_has ls 2 [(0, .int (I u0)), (1, .int (I u1))] → W p l e ({ frames := 0, cells := 0, slots := 0, locals := 0 }) s m [.int (I n0)].toArray below meth c H locs 0 0 (MQ below (QI g A (p_i (CX g q lb) σ Q)) [.int (I n0)].toArray s 0 0 A) (F0 m 34 ls []))) := ⟨_, fun _ _ => Iff.rfl⟩
  obtain ⟨P49, hP49⟩ : ∃ P : Int → Int → Prop, ∀ (u0 : Int) (u1 : Int), (P u0 u1 ↔ (rg u0 → rg u1 → ∀ (H : Heap) (locs : List Loc) (ls : Array Slot), KP g (CX g q lb σ) H → va_D A (CX g q lb σ) → va_S A s.heap H locs → lv_has ls 2 [(0, .int (I u0)), (1, .int (I u1))] → W p l e ({ frames := 0, cells := 0, slots := 0, locals := 0 }) s m [.int (I n0)].toArray below meth c H locs 0 0 (MQ below (QI g A (p_i (CX g q lb) σ Q)) [.int (I n0)].toArray s 0 0 A) (F0 m 49 ls []))) := ⟨_, fun _ _ => Iff.rfl⟩
  obtain ⟨P62, hP62⟩ : ∃ P : Int → Int → Prop, ∀ (u0 : Int) (u1 : Int), (P u0 u1 ↔ (rg u0 → rg u1 → ∀ (H : Heap) (locs : List Loc) (ls : Array Slot), KP g (CX g q lb σ) H → va_D A (CX g q lb σ) → va_S A s.heap H locs → lv_has ls 2 [(0, .int (I u0)), (1, .int (I u1))] → W p l e ({ frames := 0, cells := 0, slots := 0, locals := 0 }) s m [.int (I n0)].toArray below meth c H locs 0 0 (MQ below (QI g A (p_i (CX g q lb) σ Q)) [.int (I n0)].toArray s 0 0 A) (F0 m 62 ls []))) := ⟨_, fun _ _ => Iff.rfl⟩
  refine (fun hw => ?_) (hw P34 P49 P62 ?_ ?_ ?_)
  ·
    refine lv_iload_n hx hb dJ6_numberOfTrailingZeros_0f7a4_0 rfl (lv_at hl 0 rfl) ?_
    refine lv_iconst (v := I (-1)) hx hb dJ6_numberOfTrailingZeros_0f7a4_1 rfl ?_
    refine bi_inot hx hb dJ6_numberOfTrailingZeros_0f7a4_2 ?_
    refine lv_iload_n hx hb dJ6_numberOfTrailingZeros_0f7a4_3 rfl (lv_at hl 0 rfl) ?_
    refine lv_iconst (v := I 1) hx hb dJ6_numberOfTrailingZeros_0f7a4_4 rfl ?_
    refine bi_isub hx hb dJ6_numberOfTrailingZeros_0f7a4_5 ?_
    refine lv_iand hx hb dJ6_numberOfTrailingZeros_0f7a4_6 ?_
    refine bi_hve (fun x1 r_x1 e_x1 => ?_)
    replace hw := hw x1 r_x1 e_x1
    refine lv_istore_n (lv' := [(0, .int (I x1))]) hx hb dJ6_numberOfTrailingZeros_0f7a4_7 rfl hl (by decide) rfl (fun ls hl => ?_)
    refine lv_iload_n hx hb dJ6_numberOfTrailingZeros_0f7a4_8 rfl (lv_at hl 0 rfl) ?_
    refine bi_if_gt (tgt := 17) hx hb r_x1 dJ6_numberOfTrailingZeros_0f7a4_9 (by decide) (fun c2 => ?_) (fun c2 => ?_)
    ·
      replace hw := hw.1 c2
      refine lv_iconst (v := I 1) hx hb dJ6_numberOfTrailingZeros_0f7a4_17 rfl ?_
      refine lv_istore_n (lv' := [(1, .int (I 1)), (0, .int (I x1))]) hx hb dJ6_numberOfTrailingZeros_0f7a4_18 rfl hl (by decide) rfl (fun ls hl => ?_)
      refine lv_iload_n hx hb dJ6_numberOfTrailingZeros_0f7a4_19 rfl (lv_at hl 1 rfl) ?_
      refine lv_ldcw (own := RJ6) (v := 65536) hx hb hown (hts _ tw_1795) dJ6_numberOfTrailingZeros_0f7a4_20 ?_
      refine xtop (y := I 65536) (by decide) ?_
      refine bi_icmp_le (tgt := 34) hx hb r_x1 (by decide) dJ6_numberOfTrailingZeros_0f7a4_23 (by decide) (fun c3 => ?_) (fun c3 => ?_)
      ·
        replace hw := hw.1 c3
        exact (hP34 _ _).mp hw r_x1 (by decide)  H locs ls hP hD hS (lv_sub hl [1, 0] rfl)
      ·
        replace hw := hw.2 c3
        refine lv_iinc (v := I 17) (lv' := [(1, .int (I 17)), (0, .int (I x1))]) hx hb dJ6_numberOfTrailingZeros_0f7a4_26 hl (k := 0) rfl (by decide) (by decide) rfl (fun ls hl => ?_)
        refine lv_iload_n hx hb dJ6_numberOfTrailingZeros_0f7a4_29 rfl (lv_at hl 1 rfl) ?_
        refine lv_bipush (v := I 16) hx hb dJ6_numberOfTrailingZeros_0f7a4_30 (by decide) ?_
        refine lv_iushr (v := _) hx hb dJ6_numberOfTrailingZeros_0f7a4_32 rfl ?_
        refine bi_hve (fun x4 r_x4 e_x4 => ?_)
        replace hw := hw x4 r_x4 e_x4
        refine lv_istore_n (lv' := [(0, .int (I x4)), (1, .int (I 17))]) hx hb dJ6_numberOfTrailingZeros_0f7a4_33 rfl hl (by decide) rfl (fun ls hl => ?_)
        exact (hP34 _ _).mp hw r_x4 (by decide)  H locs ls hP hD hS (lv_sub hl [0, 1] rfl)
    ·
      replace hw := hw.2 c2
      refine lv_iload_n hx hb dJ6_numberOfTrailingZeros_0f7a4_12 rfl (lv_at hl 0 rfl) ?_
      refine lv_bipush (v := I 32) hx hb dJ6_numberOfTrailingZeros_0f7a4_13 (by decide) ?_
      refine lv_iand hx hb dJ6_numberOfTrailingZeros_0f7a4_15 ?_
      refine bi_hve (fun x5 r_x5 e_x5 => ?_)
      replace hw := hw x5 r_x5 e_x5
      exact xri hx hb hr hlk hP hK hD hS ⟨_, r_x5, rfl, rfl, hw⟩ (Nat.le_of_ble_eq_true rfl) (Nat.le_of_ble_eq_true rfl) dJ6_numberOfTrailingZeros_0f7a4_16
  ·
    intro u0 u1 hw
    refine (hP34 _ _).mpr ?_
    intro r_u0 r_u1 H locs ls hP hD hS hl
    refine lv_iload_n hx hb dJ6_numberOfTrailingZeros_0f7a4_34 rfl (lv_at hl 0 rfl) ?_
    refine lv_sipush (v := I 256) hx hb dJ6_numberOfTrailingZeros_0f7a4_35 (by decide) ?_
    refine bi_icmp_le (tgt := 49) hx hb r_u0 (by decide) dJ6_numberOfTrailingZeros_0f7a4_38 (by decide) (fun c6 => ?_) (fun c6 => ?_)
    ·
      replace hw := hw.1 c6
      exact (hP49 _ _).mp hw r_u0 r_u1  H locs ls hP hD hS (lv_sub hl [0, 1] rfl)
    ·
      replace hw := hw.2 c6
      refine lv_iinc (v := I (u1 + 8)) (lv' := [(1, .int (I (u1 + 8))), (0, .int (I u0))]) hx hb dJ6_numberOfTrailingZeros_0f7a4_41 hl (k := 1) rfl (I_add _ _) (by decide) rfl (fun ls hl => ?_)
      refine lv_iload_n hx hb dJ6_numberOfTrailingZeros_0f7a4_44 rfl (lv_at hl 1 rfl) ?_
      refine lv_bipush (v := I 8) hx hb dJ6_numberOfTrailingZeros_0f7a4_45 (by decide) ?_
      refine lv_iushr (v := _) hx hb dJ6_numberOfTrailingZeros_0f7a4_47 rfl ?_
      refine bi_hve (fun x7 r_x7 e_x7 => ?_)
      replace hw := hw x7 r_x7 e_x7
      refine lv_istore_n (lv' := [(0, .int (I x7)), (1, .int (I (u1 + 8)))]) hx hb dJ6_numberOfTrailingZeros_0f7a4_48 rfl hl (by decide) rfl (fun ls hl => ?_)
      obtain ⟨c8, hw⟩ := hw
      exact (hP49 _ _).mp hw r_x7 c8  H locs ls hP hD hS (lv_sub hl [0, 1] rfl)
  ·
    intro u0 u1 hw
    refine (hP49 _ _).mpr ?_
    intro r_u0 r_u1 H locs ls hP hD hS hl
    refine lv_iload_n hx hb dJ6_numberOfTrailingZeros_0f7a4_49 rfl (lv_at hl 0 rfl) ?_
    refine lv_bipush (v := I 16) hx hb dJ6_numberOfTrailingZeros_0f7a4_50 (by decide) ?_
    refine bi_icmp_le (tgt := 62) hx hb r_u0 (by decide) dJ6_numberOfTrailingZeros_0f7a4_52 (by decide) (fun c9 => ?_) (fun c9 => ?_)
    ·
      replace hw := hw.1 c9
      exact (hP62 _ _).mp hw r_u0 r_u1  H locs ls hP hD hS (lv_sub hl [0, 1] rfl)
    ·
      replace hw := hw.2 c9
      refine lv_iinc (v := I (u1 + 4)) (lv' := [(1, .int (I (u1 + 4))), (0, .int (I u0))]) hx hb dJ6_numberOfTrailingZeros_0f7a4_55 hl (k := 1) rfl (I_add _ _) (by decide) rfl (fun ls hl => ?_)
      refine lv_iload_n hx hb dJ6_numberOfTrailingZeros_0f7a4_58 rfl (lv_at hl 1 rfl) ?_
      refine lv_iconst (v := I 4) hx hb dJ6_numberOfTrailingZeros_0f7a4_59 rfl ?_
      refine lv_iushr (v := _) hx hb dJ6_numberOfTrailingZeros_0f7a4_60 rfl ?_
      refine bi_hve (fun x10 r_x10 e_x10 => ?_)
      replace hw := hw x10 r_x10 e_x10
      refine lv_istore_n (lv' := [(0, .int (I x10)), (1, .int (I (u1 + 4)))]) hx hb dJ6_numberOfTrailingZeros_0f7a4_61 rfl hl (by decide) rfl (fun ls hl => ?_)
      obtain ⟨c11, hw⟩ := hw
      exact (hP62 _ _).mp hw r_x10 c11  H locs ls hP hD hS (lv_sub hl [0, 1] rfl)
  ·
    intro u0 u1 hw
    refine (hP62 _ _).mpr ?_
    intro r_u0 r_u1 H locs ls hP hD hS hl
    refine lv_iload_n hx hb dJ6_numberOfTrailingZeros_0f7a4_62 rfl (lv_at hl 0 rfl) ?_
    refine lv_iconst (v := I 4) hx hb dJ6_numberOfTrailingZeros_0f7a4_63 rfl ?_
    refine bi_icmp_le (tgt := 74) hx hb r_u0 (by decide) dJ6_numberOfTrailingZeros_0f7a4_64 (by decide) (fun c12 => ?_) (fun c12 => ?_)
    ·
      replace hw := hw.1 c12
      refine lv_iload_n hx hb dJ6_numberOfTrailingZeros_0f7a4_74 rfl (lv_at hl 1 rfl) ?_
      refine lv_iload_n hx hb dJ6_numberOfTrailingZeros_0f7a4_75 rfl (lv_at hl 0 rfl) ?_
      refine lv_iconst (v := I 1) hx hb dJ6_numberOfTrailingZeros_0f7a4_76 rfl ?_
      refine lv_iushr (v := _) hx hb dJ6_numberOfTrailingZeros_0f7a4_77 rfl ?_
      refine bi_hve (fun x13 r_x13 e_x13 => ?_)
      replace hw := hw x13 r_x13 e_x13
      refine bi_iadd hx hb dJ6_numberOfTrailingZeros_0f7a4_78 ?_
      obtain ⟨c14, hw⟩ := hw
      exact xri hx hb hr hlk hP hK hD hS ⟨_, c14, rfl, rfl, hw⟩ (Nat.le_of_ble_eq_true rfl) (Nat.le_of_ble_eq_true rfl) dJ6_numberOfTrailingZeros_0f7a4_79
    ·
      replace hw := hw.2 c12
      refine lv_iinc (v := I (u1 + 2)) (lv' := [(1, .int (I (u1 + 2))), (0, .int (I u0))]) hx hb dJ6_numberOfTrailingZeros_0f7a4_67 hl (k := 1) rfl (I_add _ _) (by decide) rfl (fun ls hl => ?_)
      refine lv_iload_n hx hb dJ6_numberOfTrailingZeros_0f7a4_70 rfl (lv_at hl 1 rfl) ?_
      refine lv_iconst (v := I 2) hx hb dJ6_numberOfTrailingZeros_0f7a4_71 rfl ?_
      refine lv_iushr (v := _) hx hb dJ6_numberOfTrailingZeros_0f7a4_72 rfl ?_
      refine bi_hve (fun x15 r_x15 e_x15 => ?_)
      replace hw := hw x15 r_x15 e_x15
      refine lv_istore_n (lv' := [(0, .int (I x15)), (1, .int (I (u1 + 2)))]) hx hb dJ6_numberOfTrailingZeros_0f7a4_73 rfl hl (by decide) rfl (fun ls hl => ?_)
      refine lv_iload_n hx hb dJ6_numberOfTrailingZeros_0f7a4_74 rfl (lv_at hl 1 rfl) ?_
      refine lv_iload_n hx hb dJ6_numberOfTrailingZeros_0f7a4_75 rfl (lv_at hl 0 rfl) ?_
      refine lv_iconst (v := I 1) hx hb dJ6_numberOfTrailingZeros_0f7a4_76 rfl ?_
      refine lv_iushr (v := _) hx hb dJ6_numberOfTrailingZeros_0f7a4_77 rfl ?_
      refine bi_hve (fun x16 r_x16 e_x16 => ?_)
      replace hw := hw x16 r_x16 e_x16
      refine bi_iadd hx hb dJ6_numberOfTrailingZeros_0f7a4_78 ?_
      obtain ⟨c17, hw⟩ := hw
      exact xri hx hb hr hlk hP hK hD hS ⟨_, c17, rfl, rfl, hw⟩ (Nat.le_of_ble_eq_true rfl) (Nat.le_of_ble_eq_true rfl) dJ6_numberOfTrailingZeros_0f7a4_79
def W_J13_numberOfTrailingZeros_95d88 (n0 : Int64) (σ : S0) (Q : Int → Prop) : Prop :=
  ∀ (x1 : Int), rg x1 → x1 = h_l2 (n0 : Int64) → ((¬ x1 = 0 → ∃ (Q3 : Int → Prop), W_J6_numberOfTrailingZeros_0f7a4 x1 σ Q3 ∧ ∀ (x4 : Int), rg x4 → Q3 x4 → (Q x4)) ∧ (x1 = 0 → ∀ (x6 : Int), rg x6 → x6 = h_l2 ((j_ushr n0 32) : Int64) → (∃ (Q7 : Int → Prop), W_J6_numberOfTrailingZeros_0f7a4 x6 σ Q7 ∧ ∀ (x8 : Int), rg x8 → Q7 x8 → (rg (32 + x8) ∧ Q (32 + x8)))))
set_option maxRecDepth 100000 in
set_option maxHeartbeats 4000000 in
theorem L_J13_numberOfTrailingZeros_95d88 (l : Launch) (g : gG) (q : Nat → Nat) (lb : Nat) (hlb : lb < 2 ^ 31) {n0 : Int64} {σ : S0} {Q : Int → Prop} (hN : n_m σ) (hw : W_J13_numberOfTrailingZeros_95d88 n0 σ Q) (sz : Nat) : MetI l yJ13_numberOfTrailingZeros_95d88 cJ13_numberOfTrailingZeros_95d88 3 (some .int) { frames := 1, cells := 0, slots := 0, locals := 21 } g [.long n0] (CX g q lb σ) sz xT (p_i (CX g q lb) σ Q) 0 0 := by
  refine mkMet (Qc := fun A => QI g A (p_i (CX g q lb) σ Q)) (by decide) (Nat.le_of_ble_eq_true rfl) ?_
  intro p e s m below meth c A H ls hx hb hr hml hown hts hlk hnm hsz hP hK hNb hD hA hAe hS hX hl
  have hl : lv_has ls 3 [(0, .long n0)] := hl
  have hB := hN
  obtain ⟨locs, hlocs⟩ : ∃ z : List Loc, z = [] := ⟨_, rfl⟩
  rw [← hlocs] at hS ⊢
  refine lv_lload_n hx hb dJ13_numberOfTrailingZeros_95d88_0 rfl (lv_at hl 0 rfl) ?_
  refine lv_l2i (v := (n0 : Int64).toInt32) hx hb dJ13_numberOfTrailingZeros_95d88_1 rfl ?_
  refine bi_hve (fun x1 r_x1 e_x1 => ?_)
  replace hw := hw x1 r_x1 e_x1
  refine lv_istore_n (lv' := [(2, .int (I x1)), (0, .long n0)]) hx hb dJ13_numberOfTrailingZeros_95d88_2 rfl hl (by decide) rfl (fun ls hl => ?_)
  refine lv_iload_n hx hb dJ13_numberOfTrailingZeros_95d88_3 rfl (lv_at hl 0 rfl) ?_
  refine bi_if_ne (tgt := 21) hx hb r_x1 dJ13_numberOfTrailingZeros_95d88_4 (by decide) (fun c2 => ?_) (fun c2 => ?_)
  ·
    replace hw := hw.1 c2
    refine lv_iload_n hx hb dJ13_numberOfTrailingZeros_95d88_21 rfl (lv_at hl 0 rfl) ?_
    obtain ⟨Q3, hc, hw⟩ := hw
    refine wc_i (X := CX g q lb) (va_runS (As := [.int (I x1)]) (rest := []) ⟨hx, hb, hml, hown, hts⟩ (L_J6_numberOfTrailingZeros_0f7a4 l g q lb hlb r_x1 hN hc H.size) (va_cwS 1 hts (TB_vS tw_1792 tw_1793 tw_20 co_J6_numberOfTrailingZeros_0f7a4) rfl rfl rfl (by decide +kernel) ⟨Nat.le_of_ble_eq_true rfl, Nat.le_of_ble_eq_true rfl⟩) (preS xT_bl hP hK hNb hD xT_at) rfl rfl hl.1 rfl (lv_room (Nat.le_of_ble_eq_true rfl)) dJ13_numberOfTrailingZeros_95d88_22 ⟨Nat.le_of_ble_eq_true rfl, Nat.le_of_ble_eq_true rfl⟩) hP hD hS hA (fun x4 H locs r_x4 hq hP hD hS => ?_)
    replace hw := hw x4 r_x4 hq
    exact xri hx hb hr hlk hP hK hD hS ⟨_, r_x4, rfl, rfl, hw⟩ (Nat.le_of_ble_eq_true rfl) (Nat.le_of_ble_eq_true rfl) dJ13_numberOfTrailingZeros_95d88_25
  ·
    replace hw := hw.2 c2
    refine lv_bipush (v := I 32) hx hb dJ13_numberOfTrailingZeros_95d88_7 (by decide) ?_
    refine lv_lload_n hx hb dJ13_numberOfTrailingZeros_95d88_9 rfl (lv_at hl 1 rfl) ?_
    refine lv_bipush (v := I 32) hx hb dJ13_numberOfTrailingZeros_95d88_10 (by decide) ?_
    refine bi_lushr hx hb dJ13_numberOfTrailingZeros_95d88_12 ?_
    refine lv_l2i (v := ((j_ushr n0 32) : Int64).toInt32) hx hb dJ13_numberOfTrailingZeros_95d88_13 rfl ?_
    refine bi_hve (fun x6 r_x6 e_x6 => ?_)
    replace hw := hw x6 r_x6 e_x6
    obtain ⟨Q7, hc, hw⟩ := hw
    refine wc_i (X := CX g q lb) (va_runS (As := [.int (I x6)]) (rest := [.int (I 32)]) ⟨hx, hb, hml, hown, hts⟩ (L_J6_numberOfTrailingZeros_0f7a4 l g q lb hlb r_x6 hN hc H.size) (va_cwS 1 hts (TB_vS tw_1792 tw_1793 tw_20 co_J6_numberOfTrailingZeros_0f7a4) rfl rfl rfl (by decide +kernel) ⟨Nat.le_of_ble_eq_true rfl, Nat.le_of_ble_eq_true rfl⟩) (preS xT_bl hP hK hNb hD xT_at) rfl rfl hl.1 rfl (lv_room (Nat.le_of_ble_eq_true rfl)) dJ13_numberOfTrailingZeros_95d88_14 ⟨Nat.le_of_ble_eq_true rfl, Nat.le_of_ble_eq_true rfl⟩) hP hD hS hA (fun x8 H locs r_x8 hq hP hD hS => ?_)
    replace hw := hw x8 r_x8 hq
    refine bi_iadd hx hb dJ13_numberOfTrailingZeros_95d88_17 ?_
    refine lv_goto (tgt := 25) hx hb dJ13_numberOfTrailingZeros_95d88_18 (by decide) ?_
    obtain ⟨c10, hw⟩ := hw
    exact xri hx hb hr hlk hP hK hD hS ⟨_, c10, rfl, rfl, hw⟩ (Nat.le_of_ble_eq_true rfl) (Nat.le_of_ble_eq_true rfl) dJ13_numberOfTrailingZeros_95d88_25
def W_X11_part (n1 : Int) (n2 : Int) (n3 : Int) (σ : S0) (Q : S0 → Prop) : Prop :=
  ∀ (P41 : Int → Int → Int → Int → Int → S0 → Prop) (P85 : Int → Int → Int → Int → Int → S0 → Prop) (P194 : Int → Int → Int → Int → Int → S0 → Prop),
  (∀ (u2 : Int) (u3 : Int) (u4 : Int) (u5 : Int) (u6 : Int) (τ : S0), ((u6 ≤ 0 → P85 u3 u4 u5 u2 0 τ) ∧ (0 < u6 → (0 ≤ (u6 + 1) ∧ (u6 + 1) < 61) ∧ (∀ (x11 : Int64), x11 = τ.2.2 8 (u6 + 1) → (rg (u4 + u6) ∧ ∃ (Q13 : Int64 → Prop), W_X11_startsOf (u4 + u6) x11 u2 u3 τ Q13 ∧ ∀ (x14 : Int64), Q13 x14 → ((0 ≤ u6 ∧ u6 < 61) ∧ (rg (u6 + (-1)) ∧ P41 u2 u3 u4 u5 (u6 + (-1)) (s_b τ 8 u6 x14))))))) → P41 u2 u3 u4 u5 u6 τ) →
  (∀ (u3 : Int) (u4 : Int) (u5 : Int) (u6 : Int) (u7 : Int) (τ : S0), ((u5 ≤ u7 → Q τ) ∧ (u7 < u5 → (0 ≤ (u4 + u7) ∧ (u4 + u7) < 30000) ∧ (∀ (x20 : Int), rg x20 → x20 = τ.2.1 15 (u4 + u7) → (∀ (x21 : Int), rg x21 → x21 = τ.2.1 16 (u4 + u7) → ((x21 = (-1) → rg (u6 + 1) ∧ P194 u3 u4 u5 u7 (u6 + 1) τ) ∧ (¬ x21 = (-1) → ∃ (Q24 : Int → Prop), W_X11_sortOf (u4 + u7) τ Q24 ∧ ∀ (x25 : Int), rg x25 → Q24 x25 → ((0 ≤ ((x25 * 60) + u6) ∧ ((x25 * 60) + u6) < 6000) ∧ (∀ (x28 : Int64), x28 = τ.2.2 4 ((x25 * 60) + u6) → ((0 ≤ (u7 + 1) ∧ (u7 + 1) < 61) ∧ (∀ (x30 : Int64), x30 = τ.2.2 8 (u7 + 1) → (∃ (Q31 : Int → Prop), W_J13_numberOfTrailingZeros_95d88 (x28 &&& x30) τ Q31 ∧ ∀ (x32 : Int), rg x32 → Q31 x32 → (∀ (x34 : Int), rg x34 → x34 ≤ x32 → x34 ≤ u3 → (x34 = x32 ∨ x34 = u3) → ((0 ≤ x20 ∧ x20 < 1000) ∧ (P194 u3 u4 u5 u7 x34 (s_a (s_a τ 89 x20 u6) 90 x20 x34))))))))))))))) → P85 u3 u4 u5 u6 u7 τ) →
  (∀ (u3 : Int) (u4 : Int) (u5 : Int) (u7 : Int) (u8 : Int) (τ : S0), (∀ (x36 : Int), rg x36 → x36 ≤ u8 → x36 ≤ u3 → (x36 = u8 ∨ x36 = u3) → (rg (u7 + 1) ∧ P85 u3 u4 u5 x36 (u7 + 1) τ)) → P194 u3 u4 u5 u7 u8 τ) →
  (0 ≤ n1 ∧ n1 < 1501) ∧ (∀ (x2 : Int), rg x2 → x2 = σ.2.1 14 n1 → (∃ (Q3 : Int → Prop), W_X3_lengthOf n1 σ Q3 ∧ ∀ (x4 : Int), rg x4 → Q3 x4 → ((0 ≤ (x4 - 1) ∧ (x4 - 1) < 61) ∧ (rg (x2 + 1) ∧ rg ((x4 - 1) - 1) ∧ P41 n2 n3 (x2 + 1) (x4 - 1) ((x4 - 1) - 1) (s_b σ 8 (x4 - 1) (j_shl 1 n3))))))
set_option maxRecDepth 100000 in
set_option maxHeartbeats 4000000 in
theorem L_X11_part (l : Launch) (g : gG) (q : Nat → Nat) (lb : Nat) (hlb : lb < 2 ^ 31) {n1 : Int} {n2 : Int} {n3 : Int} {σ : S0} {Q : S0 → Prop} (r_n1 : rg n1) (r_n2 : rg n2) (r_n3 : rg n3) (hN : n_m σ) (hw : W_X11_part n1 n2 n3 σ Q) (sz : Nat) : MetV l yX11_part cX11_part 12 { frames := 2, cells := 0, slots := 0, locals := 51 } g [.ref (q 10), .int (I n1), .int (I n2), .int (I n3)] (CX g q lb σ) sz xT (p_V (CX g q lb) [] [89, 90] [8] σ Q) 0 0 := by
  refine mkMet (Qc := fun A => QV g A (p_V (CX g q lb) [] [89, 90] [8] σ Q)) (by decide) (Nat.le_of_ble_eq_true rfl) ?_
  intro p e s m below meth c A H ls hx hb hr hml hown hts hlk hnm hsz hP hK hNb hD hA hAe hS hX hl
  have hl : lv_has ls 12 [(0, .ref (q 10)), (1, .int (I n1)), (2, .int (I n2)), (3, .int (I n3))] := hl
  have hB := hN
  have hF : f_r [] [89, 90] [8] σ σ := f_0
  obtain ⟨locs, hlocs⟩ : ∃ z : List Loc, z = [] := ⟨_, rfl⟩
  rw [← hlocs] at hS ⊢
  obtain ⟨P41, hP41⟩ : ∃ P : Int → Int → Int → Int → Int → S0 → Prop, ∀ (u2 : Int) (u3 : Int) (u4 : Int) (u5 : Int) (u6 : Int) (τ : S0), (P u2 u3 u4 u5 u6 τ ↔ (rg u2 → rg u3 → rg u4 → rg u5 → rg u6 → n_m τ → f_r [] [89, 90] [8] σ τ → ∀ (H : Heap) (locs : List Loc) (ls : Array Slot), KP g (CX g q lb τ) H → va_D A (CX g q lb τ) → va_S A s.heap H locs → lv_has ls 12 [(0, .ref (q 10)), (2, .int (I u2)), (3, .int (I u3)), (4, .int (I u4)), (5, .int (I u5)), (6, .int (I u6))] → W p l e ({ frames := 2, cells := 0, slots := 0, locals := 51 }) s m [.ref (q 10), .int (I n1), .int (I n2), .int (I n3)].toArray below meth c H locs 0 0 (MQ below (QV g A (p_V (CX g q lb) [] [89, 90] [8] σ Q)) [.ref (q 10), .int (I n1), .int (I n2), .int (I n3)].toArray s 0 0 A) (F0 m 41 ls []))) := ⟨_, fun _ _ _ _ _ _ => Iff.rfl⟩
  obtain ⟨P85, hP85⟩ : ∃ P : Int → Int → Int → Int → Int → S0 → Prop, ∀ (u3 : Int) (u4 : Int) (u5 : Int) (u6 : Int) (u7 : Int) (τ : S0), (P u3 u4 u5 u6 u7 τ ↔ (rg u3 → rg u4 → rg u5 → rg u6 → rg u7 → n_m τ → f_r [] [89, 90] [8] σ τ → ∀ (H : Heap) (locs : List Loc) (ls : Array Slot), KP g (CX g q lb τ) H → va_D A (CX g q lb τ) → va_S A s.heap H locs → lv_has ls 12 [(0, .ref (q 10)), (3, .int (I u3)), (4, .int (I u4)), (5, .int (I u5)), (6, .int (I u6)), (7, .int (I u7))] → W p l e ({ frames := 2, cells := 0, slots := 0, locals := 51 }) s m [.ref (q 10), .int (I n1), .int (I n2), .int (I n3)].toArray below meth c H locs 0 0 (MQ below (QV g A (p_V (CX g q lb) [] [89, 90] [8] σ Q)) [.ref (q 10), .int (I n1), .int (I n2), .int (I n3)].toArray s 0 0 A) (F0 m 85 ls []))) := ⟨_, fun _ _ _ _ _ _ => Iff.rfl⟩
  obtain ⟨P194, hP194⟩ : ∃ P : Int → Int → Int → Int → Int → S0 → Prop, ∀ (u3 : Int) (u4 : Int) (u5 : Int) (u7 : Int) (u8 : Int) (τ : S0), (P u3 u4 u5 u7 u8 τ ↔ (rg u3 → rg u4 → rg u5 → rg u7 → rg u8 → n_m τ → f_r [] [89, 90] [8] σ τ → ∀ (H : Heap) (locs : List Loc) (ls : Array Slot), KP g (CX g q lb τ) H → va_D A (CX g q lb τ) → va_S A s.heap H locs → lv_has ls 12 [(0, .ref (q 10)), (3, .int (I u3)), (4, .int (I u4)), (5, .int (I u5)), (7, .int (I u7)), (8, .int (I u8))] → W p l e ({ frames := 2, cells := 0, slots := 0, locals := 51 }) s m [.ref (q 10), .int (I n1), .int (I n2), .int (I n3)].toArray below meth c H locs 0 0 (MQ below (QV g A (p_V (CX g q lb) [] [89, 90] [8] σ Q)) [.ref (q 10), .int (I n1), .int (I n2), .int (I n3)].toArray s 0 0 A) (F0 m 194 ls []))) := ⟨_, fun _ _ _ _ _ _ => Iff.rfl⟩
  refine (fun hw => ?_) (hw P41 P85 P194 ?_ ?_ ?_)
  ·
    refine lv_aload_n hx hb dX11_part_0 rfl (lv_at hl 0 rfl) ?_
    refine gfX11_library hx hb hts hK hP hown (hts _ tw_737) dX11_part_1 ?_
    refine gfNX3_at hx hb hts hK hP hown (nb_use hNb tn_79) dX11_part_4 ?_
    refine lv_iload_n hx hb dX11_part_7 rfl (lv_at hl 1 rfl) ?_
    obtain ⟨c1, hw⟩ := hw
    refine ldCX3_at hx hb hK hP hN c1 dX11_part_8 (fun x2 r_x2 e_x2 => ?_)
    replace hw := hw x2 r_x2 e_x2
    refine lv_iconst (v := I 1) hx hb dX11_part_9 rfl ?_
    refine bi_iadd hx hb dX11_part_10 ?_
    refine lv_istore (lv' := [(4, .int (I (x2 + 1))), (0, .ref (q 10)), (1, .int (I n1)), (2, .int (I n2)), (3, .int (I n3))]) hx hb dX11_part_11 hl (by decide) rfl (fun ls hl => ?_)
    refine lv_aload_n hx hb dX11_part_13 rfl (lv_at hl 1 rfl) ?_
    refine gfX11_library hx hb hts hK hP hown (hts _ tw_737) dX11_part_14 ?_
    refine lv_iload_n hx hb dX11_part_17 rfl (lv_at hl 2 rfl) ?_
    obtain ⟨Q3, hc, hw⟩ := hw
    refine wc_i (X := CX g q lb) (va_runV (As := [.int (I n1)]) (rest := []) ⟨hx, hb, hml, hown, hts⟩ (L_X3_lengthOf l g q lb hlb r_n1 hN hc H.size) (cwV 1 hts (TB_V tw_1780 tw_1292 tw_1293 tw_2 co_X3_lengthOf) rfl rfl rfl (by decide +kernel) ⟨Nat.le_of_ble_eq_true rfl, Nat.le_of_ble_eq_true rfl⟩) (preV (q0 := 1) (ci := 3) rfl xT_bl hP hK hNb hD rfl rfl xT_at) rfl rfl hl.1 rfl (lv_room (Nat.le_of_ble_eq_true rfl)) dX11_part_18 ⟨Nat.le_of_ble_eq_true rfl, Nat.le_of_ble_eq_true rfl⟩) hP hD hS hA (fun x4 H locs r_x4 hq hP hD hS => ?_)
    replace hw := hw x4 r_x4 hq
    refine lv_iconst (v := I 1) hx hb dX11_part_21 rfl ?_
    refine bi_isub hx hb dX11_part_22 ?_
    refine lv_istore (lv' := [(5, .int (I (x4 - 1))), (4, .int (I (x2 + 1))), (0, .ref (q 10)), (1, .int (I n1)), (2, .int (I n2)), (3, .int (I n3))]) hx hb dX11_part_23 hl (by decide) rfl (fun ls hl => ?_)
    refine lv_aload_n hx hb dX11_part_25 rfl (lv_at hl 2 rfl) ?_
    refine gfX11_fits hx hb hts hK hP hown (hts _ tw_751) dX11_part_26 ?_
    refine lv_iload hx hb dX11_part_29 (lv_at hl 0 rfl) ?_
    refine lv_lconst (v := 1) hx hb dX11_part_31 (by decide) ?_
    refine lv_iload_n hx hb dX11_part_32 rfl (lv_at hl 5 rfl) ?_
    refine bi_lshl hx hb dX11_part_33 ?_
    obtain ⟨c6, hw⟩ := hw
    refine sdCX11_fits hx hb hK hP hD hS c6 dX11_part_34 (fun H locs hP hD hS => ?_)
    have hN : n_m (s_b σ 8 (x4 - 1) (j_shl 1 n3)) := n_b (k := 8) (j := (x4 - 1)) (x := (j_shl 1 n3)) hN
    have hF : f_r [] [89, 90] [8] σ (s_b σ 8 (x4 - 1) (j_shl 1 n3)) := f_b hF (by decide)
    refine lv_iload hx hb dX11_part_35 (lv_at hl 0 rfl) ?_
    refine lv_iconst (v := I 1) hx hb dX11_part_37 rfl ?_
    refine bi_isub hx hb dX11_part_38 ?_
    refine lv_istore (lv' := [(6, .int (I ((x4 - 1) - 1))), (5, .int (I (x4 - 1))), (4, .int (I (x2 + 1))), (0, .ref (q 10)), (1, .int (I n1)), (2, .int (I n2)), (3, .int (I n3))]) hx hb dX11_part_39 hl (by decide) rfl (fun ls hl => ?_)
    obtain ⟨c7, hw⟩ := hw
    obtain ⟨c8, hw⟩ := hw
    exact (hP41 _ _ _ _ _ _).mp hw r_n2 r_n3 c7 (rg_ix c6.1 c6.2 (by decide)) c8 hN hF H locs ls hP hD hS (lv_sub hl [3, 5, 6, 2, 1, 0] rfl)
  ·
    intro u2 u3 u4 u5 u6 τ hw
    refine (hP41 _ _ _ _ _ _).mpr ?_
    intro r_u2 r_u3 r_u4 r_u5 r_u6 hN hF H locs ls hP hD hS hl
    have hB := hN
    refine lv_iload hx hb dX11_part_41 (lv_at hl 5 rfl) ?_
    refine bi_if_le (tgt := 79) hx hb r_u6 dX11_part_43 (by decide) (fun c9 => ?_) (fun c9 => ?_)
    ·
      replace hw := hw.1 c9
      refine lv_iload_n hx hb dX11_part_79 rfl (lv_at hl 1 rfl) ?_
      refine lv_istore (lv' := [(6, .int (I u2)), (0, .ref (q 10)), (2, .int (I u2)), (3, .int (I u3)), (4, .int (I u4)), (5, .int (I u5))]) hx hb dX11_part_80 hl (by decide) rfl (fun ls hl => ?_)
      refine lv_iconst (v := I 0) hx hb dX11_part_82 rfl ?_
      refine lv_istore (lv' := [(7, .int (I 0)), (6, .int (I u2)), (0, .ref (q 10)), (2, .int (I u2)), (3, .int (I u3)), (4, .int (I u4)), (5, .int (I u5))]) hx hb dX11_part_83 hl (by decide) rfl (fun ls hl => ?_)
      exact (hP85 _ _ _ _ _ _).mp hw r_u3 r_u4 r_u5 r_u2 (by decide) hN hF H locs ls hP hD hS (lv_sub hl [2, 4, 5, 6, 1, 0] rfl)
    ·
      replace hw := hw.2 c9
      refine lv_aload_n hx hb dX11_part_46 rfl (lv_at hl 0 rfl) ?_
      refine gfX11_fits hx hb hts hK hP hown (hts _ tw_751) dX11_part_47 ?_
      refine lv_iload hx hb dX11_part_50 (lv_at hl 5 rfl) ?_
      refine lv_aload_n hx hb dX11_part_52 rfl (lv_at hl 0 rfl) ?_
      refine lv_iload hx hb dX11_part_53 (lv_at hl 3 rfl) ?_
      refine lv_iload hx hb dX11_part_55 (lv_at hl 5 rfl) ?_
      refine bi_iadd hx hb dX11_part_57 ?_
      refine lv_aload_n hx hb dX11_part_58 rfl (lv_at hl 0 rfl) ?_
      refine gfX11_fits hx hb hts hK hP hown (hts _ tw_751) dX11_part_59 ?_
      refine lv_iload hx hb dX11_part_62 (lv_at hl 5 rfl) ?_
      refine lv_iconst (v := I 1) hx hb dX11_part_64 rfl ?_
      refine bi_iadd hx hb dX11_part_65 ?_
      obtain ⟨c10, hw⟩ := hw
      refine ldCX11_fits hx hb hK hP hN c10 dX11_part_66 (fun x11 e_x11 => ?_)
      replace hw := hw x11 e_x11
      refine lv_iload_n hx hb dX11_part_67 rfl (lv_at hl 1 rfl) ?_
      refine lv_iload_n hx hb dX11_part_68 rfl (lv_at hl 2 rfl) ?_
      obtain ⟨c12, hw⟩ := hw
      obtain ⟨Q13, hc, hw⟩ := hw
      refine wc_l (X := CX g q lb) (va_runV (As := [.int (I (u4 + u6)), .long x11, .int (I u2), .int (I u3)]) (rest := [.int (I u6), .ref (q 110)]) ⟨hx, hb, hml, hown, hts⟩ (L_X11_startsOf l g q lb hlb c12 r_u2 r_u3 hN hc H.size) (cwV 4 hts (TB_V tw_1781 tw_1783 ts_81 tw_12 co_X11_startsOf) rfl rfl rfl (by decide +kernel) ⟨Nat.le_of_ble_eq_true rfl, Nat.le_of_ble_eq_true rfl⟩) (preV (q0 := 10) (ci := 11) rfl xT_bl hP hK hNb hD rfl rfl xT_at) rfl rfl hl.1 rfl (lv_room (Nat.le_of_ble_eq_true rfl)) dX11_part_69 ⟨Nat.le_of_ble_eq_true rfl, Nat.le_of_ble_eq_true rfl⟩) hP hD hS hA (fun x14 H locs hq hP hD hS => ?_)
      replace hw := hw x14 hq
      obtain ⟨c16, hw⟩ := hw
      refine sdCX11_fits hx hb hK hP hD hS c16 dX11_part_72 (fun H locs hP hD hS => ?_)
      have hN : n_m (s_b τ 8 u6 x14) := n_b (k := 8) (j := u6) (x := x14) hN
      have hF : f_r [] [89, 90] [8] σ (s_b τ 8 u6 x14) := f_b hF (by decide)
      refine lv_iinc (v := I (u6 + (-1))) (lv' := [(6, .int (I (u6 + (-1)))), (0, .ref (q 10)), (2, .int (I u2)), (3, .int (I u3)), (4, .int (I u4)), (5, .int (I u5))]) hx hb dX11_part_73 hl (k := 5) rfl (I_add _ _) (by decide) rfl (fun ls hl => ?_)
      refine lv_goto (tgt := 41) hx hb dX11_part_76 (by decide) ?_
      obtain ⟨c17, hw⟩ := hw
      exact (hP41 _ _ _ _ _ _).mp hw r_u2 r_u3 r_u4 r_u5 c17 hN hF H locs ls hP hD hS (lv_sub hl [1, 2, 3, 4, 5, 0] rfl)
  ·
    intro u3 u4 u5 u6 u7 τ hw
    refine (hP85 _ _ _ _ _ _).mpr ?_
    intro r_u3 r_u4 r_u5 r_u6 r_u7 hN hF H locs ls hP hD hS hl
    have hB := hN
    refine lv_iload hx hb dX11_part_85 (lv_at hl 5 rfl) ?_
    refine lv_iload hx hb dX11_part_87 (lv_at hl 3 rfl) ?_
    refine bi_icmp_ge (tgt := 208) hx hb r_u7 r_u5 dX11_part_89 (by decide) (fun c18 => ?_) (fun c18 => ?_)
    ·
      replace hw := hw.1 c18
      exact xrv hx hb hr hlk hP hK hD hS ⟨_, hN, hF, rfl, hw⟩ (Nat.le_of_ble_eq_true rfl) (Nat.le_of_ble_eq_true rfl) dX11_part_208
    ·
      replace hw := hw.2 c18
      refine lv_iload hx hb dX11_part_92 (lv_at hl 4 rfl) ?_
      refine lv_iconst (v := I 1) hx hb dX11_part_94 rfl ?_
      refine bi_iadd hx hb dX11_part_95 ?_
      refine lv_istore (lv' := [(8, .int (I (u6 + 1))), (0, .ref (q 10)), (3, .int (I u3)), (4, .int (I u4)), (5, .int (I u5)), (6, .int (I u6)), (7, .int (I u7))]) hx hb dX11_part_96 hl (by decide) rfl (fun ls hl => ?_)
      refine lv_aload_n hx hb dX11_part_98 rfl (lv_at hl 1 rfl) ?_
      refine gfX11_library hx hb hts hK hP hown (hts _ tw_737) dX11_part_99 ?_
      refine gfNX3_text hx hb hts hK hP hown (nb_use hNb tn_88) dX11_part_102 ?_
      refine lv_iload hx hb dX11_part_105 (lv_at hl 3 rfl) ?_
      refine lv_iload hx hb dX11_part_107 (lv_at hl 6 rfl) ?_
      refine bi_iadd hx hb dX11_part_109 ?_
      obtain ⟨c19, hw⟩ := hw
      refine ldCX3_text hx hb hK hP hN c19 dX11_part_110 (fun x20 r_x20 e_x20 => ?_)
      replace hw := hw x20 r_x20 e_x20
      refine lv_istore (lv' := [(9, .int (I x20)), (8, .int (I (u6 + 1))), (0, .ref (q 10)), (3, .int (I u3)), (4, .int (I u4)), (5, .int (I u5)), (6, .int (I u6)), (7, .int (I u7))]) hx hb dX11_part_111 hl (by decide) rfl (fun ls hl => ?_)
      refine lv_aload_n hx hb dX11_part_113 rfl (lv_at hl 2 rfl) ?_
      refine gfX11_library hx hb hts hK hP hown (hts _ tw_737) dX11_part_114 ?_
      refine gfNX3_floats hx hb hts hK hP hown (nb_use hNb tn_97) dX11_part_117 ?_
      refine lv_iload hx hb dX11_part_120 (lv_at hl 4 rfl) ?_
      refine lv_iload hx hb dX11_part_122 (lv_at hl 7 rfl) ?_
      refine bi_iadd hx hb dX11_part_124 ?_
      refine ldCX3_floats hx hb hK hP hN c19 dX11_part_125 (fun x21 r_x21 e_x21 => ?_)
      replace hw := hw x21 r_x21 e_x21
      refine lv_iconst (v := I (-1)) hx hb dX11_part_126 rfl ?_
      refine bi_icmp_eq (tgt := 194) hx hb r_x21 (by decide) dX11_part_127 (by decide) (fun c22 => ?_) (fun c22 => ?_)
      ·
        replace hw := hw.1 c22
        obtain ⟨c23, hw⟩ := hw
        exact (hP194 _ _ _ _ _ _).mp hw r_u3 r_u4 r_u5 r_u7 c23 hN hF H locs ls hP hD hS (lv_sub hl [2, 3, 4, 5, 7, 1] rfl)
      ·
        replace hw := hw.2 c22
        refine lv_aload_n hx hb dX11_part_130 rfl (lv_at hl 2 rfl) ?_
        refine gfX11_chart hx hb hts hK hP hown (hts _ tw_739) dX11_part_131 ?_
        refine gfNX1_has hx hb hts hK hP hown (nb_use hNb tn_684) dX11_part_134 ?_
        refine lv_aload_n hx hb dX11_part_137 rfl (lv_at hl 2 rfl) ?_
        refine lv_iload hx hb dX11_part_138 (lv_at hl 4 rfl) ?_
        refine lv_iload hx hb dX11_part_140 (lv_at hl 7 rfl) ?_
        refine bi_iadd hx hb dX11_part_142 ?_
        obtain ⟨Q24, hc, hw⟩ := hw
        refine wc_i (X := CX g q lb) (va_runV (As := [.int (I (u4 + u7))]) (rest := [.ref (q 96)]) ⟨hx, hb, hml, hown, hts⟩ (L_X11_sortOf l g q lb hlb (rg_ix c19.1 c19.2 (by decide)) hN hc H.size) (cwV 1 hts (TB_V tw_1785 tw_1787 ts_82 tw_12 co_X11_sortOf) rfl rfl rfl (by decide +kernel) ⟨Nat.le_of_ble_eq_true rfl, Nat.le_of_ble_eq_true rfl⟩) (preV (q0 := 10) (ci := 11) rfl xT_bl hP hK hNb hD rfl rfl xT_at) rfl rfl hl.1 rfl (lv_room (Nat.le_of_ble_eq_true rfl)) dX11_part_143 ⟨Nat.le_of_ble_eq_true rfl, Nat.le_of_ble_eq_true rfl⟩) hP hD hS hA (fun x25 H locs r_x25 hq hP hD hS => ?_)
        replace hw := hw x25 r_x25 hq
        refine lv_bipush (v := I 60) hx hb dX11_part_146 (by decide) ?_
        refine bi_imul hx hb dX11_part_148 ?_
        refine lv_iload hx hb dX11_part_149 (lv_at hl 6 rfl) ?_
        refine bi_iadd hx hb dX11_part_151 ?_
        obtain ⟨c27, hw⟩ := hw
        refine ldCX1_has hx hb hK hP hN c27 dX11_part_152 (fun x28 e_x28 => ?_)
        replace hw := hw x28 e_x28
        refine lv_aload_n hx hb dX11_part_153 rfl (lv_at hl 2 rfl) ?_
        refine gfX11_fits hx hb hts hK hP hown (hts _ tw_751) dX11_part_154 ?_
        refine lv_iload hx hb dX11_part_157 (lv_at hl 7 rfl) ?_
        refine lv_iconst (v := I 1) hx hb dX11_part_159 rfl ?_
        refine bi_iadd hx hb dX11_part_160 ?_
        obtain ⟨c29, hw⟩ := hw
        refine ldCX11_fits hx hb hK hP hN c29 dX11_part_161 (fun x30 e_x30 => ?_)
        replace hw := hw x30 e_x30
        refine lv_land hx hb dX11_part_162 ?_
        refine lv_lstore (lv' := [(10, .long (x28 &&& x30)), (9, .int (I x20)), (8, .int (I (u6 + 1))), (0, .ref (q 10)), (3, .int (I u3)), (4, .int (I u4)), (5, .int (I u5)), (6, .int (I u6)), (7, .int (I u7))]) hx hb dX11_part_163 hl (by decide) rfl (fun ls hl => ?_)
        refine lv_lload hx hb dX11_part_165 (lv_at hl 0 rfl) ?_
        obtain ⟨Q31, hc, hw⟩ := hw
        refine wc_i (X := CX g q lb) (va_runS (As := [.long (x28 &&& x30)]) (rest := []) ⟨hx, hb, hml, hown, hts⟩ (L_J13_numberOfTrailingZeros_95d88 l g q lb hlb  hN hc H.size) (va_cwS 1 hts (TB_vS tw_1789 tw_1790 tw_19 co_J13_numberOfTrailingZeros_95d88) rfl rfl rfl (by decide +kernel) ⟨Nat.le_of_ble_eq_true rfl, Nat.le_of_ble_eq_true rfl⟩) (preS xT_bl hP hK hNb hD xT_at) rfl rfl hl.1 rfl (lv_room (Nat.le_of_ble_eq_true rfl)) dX11_part_167 ⟨Nat.le_of_ble_eq_true rfl, Nat.le_of_ble_eq_true rfl⟩) hP hD hS hA (fun x32 H locs r_x32 hq hP hD hS => ?_)
        replace hw := hw x32 r_x32 hq
        refine lv_iload_n hx hb dX11_part_170 rfl (lv_at hl 4 rfl) ?_
        refine bi_mmin hx hb (by rw [hml]; exact hl.1.symm) hown (hts _ tw_1796) (hts _ tw_1712) (hts _ tw_16) (hts _ tw_1713) (Nat.le_of_ble_eq_true rfl) (Nat.le_of_ble_eq_true rfl) (Nat.le_of_ble_eq_true rfl) (Nat.le_of_ble_eq_true rfl) r_x32 r_u3 dX11_part_171 (fun x34 r_x34 p_x34 m_x34 o_x34 => ?_)
        replace hw := hw x34 r_x34 p_x34 m_x34 o_x34
        refine lv_istore (lv' := [(8, .int (I x34)), (10, .long (x28 &&& x30)), (9, .int (I x20)), (0, .ref (q 10)), (3, .int (I u3)), (4, .int (I u4)), (5, .int (I u5)), (6, .int (I u6)), (7, .int (I u7))]) hx hb dX11_part_174 hl (by decide) rfl (fun ls hl => ?_)
        refine lv_aload_n hx hb dX11_part_176 rfl (lv_at hl 3 rfl) ?_
        refine gfX11_spanFrom hx hb hts hK hP hown (hts _ tw_752) dX11_part_177 ?_
        refine lv_iload hx hb dX11_part_180 (lv_at hl 2 rfl) ?_
        refine lv_iload hx hb dX11_part_182 (lv_at hl 7 rfl) ?_
        obtain ⟨c35, hw⟩ := hw
        refine sdCX11_spanFrom hx hb hK hP hD hS c35 dX11_part_184 (fun H locs hP hD hS => ?_)
        have hN : n_m (s_a τ 89 x20 u6) := n_a (k := 89) (j := x20) hN (r_u6 : rg u6)
        have hF : f_r [] [89, 90] [8] σ (s_a τ 89 x20 u6) := f_a hF (by decide)
        refine lv_aload_n hx hb dX11_part_185 rfl (lv_at hl 3 rfl) ?_
        refine gfX11_spanTo hx hb hts hK hP hown (hts _ tw_754) dX11_part_186 ?_
        refine lv_iload hx hb dX11_part_189 (lv_at hl 2 rfl) ?_
        refine lv_iload hx hb dX11_part_191 (lv_at hl 0 rfl) ?_
        refine sdCX11_spanTo hx hb hK hP hD hS c35 dX11_part_193 (fun H locs hP hD hS => ?_)
        have hN : n_m (s_a (s_a τ 89 x20 u6) 90 x20 x34) := n_a (k := 90) (j := x20) hN (r_x34 : rg x34)
        have hF : f_r [] [89, 90] [8] σ (s_a (s_a τ 89 x20 u6) 90 x20 x34) := f_a hF (by decide)
        exact (hP194 _ _ _ _ _ _).mp hw r_u3 r_u4 r_u5 r_u7 r_x34 hN hF H locs ls hP hD hS (lv_sub hl [3, 4, 5, 6, 8, 0] rfl)
  ·
    intro u3 u4 u5 u7 u8 τ hw
    refine (hP194 _ _ _ _ _ _).mpr ?_
    intro r_u3 r_u4 r_u5 r_u7 r_u8 hN hF H locs ls hP hD hS hl
    have hB := hN
    refine lv_iload hx hb dX11_part_194 (lv_at hl 5 rfl) ?_
    refine lv_iload_n hx hb dX11_part_196 rfl (lv_at hl 1 rfl) ?_
    refine bi_mmin hx hb (by rw [hml]; exact hl.1.symm) hown (hts _ tw_1796) (hts _ tw_1712) (hts _ tw_16) (hts _ tw_1713) (Nat.le_of_ble_eq_true rfl) (Nat.le_of_ble_eq_true rfl) (Nat.le_of_ble_eq_true rfl) (Nat.le_of_ble_eq_true rfl) r_u8 r_u3 dX11_part_197 (fun x36 r_x36 p_x36 m_x36 o_x36 => ?_)
    replace hw := hw x36 r_x36 p_x36 m_x36 o_x36
    refine lv_istore (lv' := [(6, .int (I x36)), (0, .ref (q 10)), (3, .int (I u3)), (4, .int (I u4)), (5, .int (I u5)), (7, .int (I u7)), (8, .int (I u8))]) hx hb dX11_part_200 hl (by decide) rfl (fun ls hl => ?_)
    refine lv_iinc (v := I (u7 + 1)) (lv' := [(7, .int (I (u7 + 1))), (6, .int (I x36)), (0, .ref (q 10)), (3, .int (I u3)), (4, .int (I u4)), (5, .int (I u5)), (8, .int (I u8))]) hx hb dX11_part_202 hl (k := 5) rfl (I_add _ _) (by decide) rfl (fun ls hl => ?_)
    refine lv_goto (tgt := 85) hx hb dX11_part_205 (by decide) ?_
    obtain ⟨c37, hw⟩ := hw
    exact (hP85 _ _ _ _ _ _).mp hw r_u3 r_u4 r_u5 r_x36 c37 hN hF H locs ls hP hD hS (lv_sub hl [2, 3, 4, 5, 1, 0] rfl)
def W_X11_grow (σ : S0) (Q : S0 → Prop) : Prop :=
  ∀ (P36 : Int → Int → S0 → Prop) (P185 : Int → Int → Int → Int → Int → S0 → Prop),
  (∀ (u1 : Int) (u2 : Int) (τ : S0), ((12000 ≤ u2 → Q τ) ∧ (u2 < 12000 → (u1 ≤ 0 → Q τ) ∧ (0 < u1 → (0 ≤ (u1 + (-1)) ∧ (u1 + (-1)) < 120) ∧ (∀ (x7 : Int), rg x7 → x7 = τ.2.1 88 (u1 + (-1)) → (∀ (x8 : Int), rg x8 → (0 ≤ x7 → x8 = x7 / 3600) → (x7 < 0 → x8 = -((-x7) / 3600)) → (∀ (x9 : Int), rg x9 → x9 = τ.2.1 88 (u1 + (-1)) → (∀ (x10 : Int), rg x10 → (0 ≤ x9 → x10 = x9 / 60) → (x9 < 0 → x10 = -((-x9) / 60)) → (∀ (x11 : Int), rg x11 → (0 ≤ x10 → x11 = x10 % 60) → (x10 < 0 → x11 = -((-x10) % 60)) → (∀ (x12 : Int), rg x12 → x12 = τ.2.1 88 (u1 + (-1)) → (∀ (x13 : Int), rg x13 → (0 ≤ x12 → x13 = x12 % 60) → (x12 < 0 → x13 = -((-x12) % 60)) → (∃ (Q14 : Int → Prop), W_X1_ruleOf x8 x11 x13 τ Q14 ∧ ∀ (x15 : Int), rg x15 → Q14 x15 → ((0 ≤ τ.1 54 ∧ τ.1 54 < 12000) ∧ (rg (τ.1 54 + 1) ∧ (0 ≤ x15 ∧ x15 < 1500) ∧ (∀ (x20 : Int), rg x20 → x20 = τ.2.1 13 x15 → ((¬ x20 = 0 → ∃ (Q22 : S0 → Prop), W_X11_part x15 x11 x13 (s_v (s_a (s_a (s_a τ 84 (τ.1 54) x15) 85 (τ.1 54) x11) 86 (τ.1 54) x13) 54 (τ.1 54 + 1)) Q22 ∧ ∀ (τ24 : S0), n_m τ24 → f_r [] [89, 90] [8] (s_v (s_a (s_a (s_a τ 84 (τ.1 54) x15) 85 (τ.1 54) x11) 86 (τ.1 54) x13) 54 (τ.1 54 + 1)) τ24 → Q22 τ24 → (∀ (x25 : Int), rg x25 → x25 = τ24.2.1 27 x15 → (P185 (u1 + (-1)) u2 x15 x25 x25 τ24))) ∧ (x20 = 0 → rg (u2 + 1) ∧ P36 (u1 + (-1)) (u2 + 1) (s_v (s_a (s_a (s_a τ 84 (τ.1 54) x15) 85 (τ.1 54) x11) 86 (τ.1 54) x13) 54 (τ.1 54 + 1)))))))))))))))))) → P36 u1 u2 τ) →
  (∀ (u1 : Int) (u2 : Int) (u6 : Int) (u7 : Int) (u8 : Int) (τ : S0), ((0 ≤ u6 ∧ u6 < 1500) ∧ (∀ (x28 : Int), rg x28 → x28 = τ.2.1 28 u6 → (rg (u7 + x28) ∧ ((u7 + x28) ≤ u8 → rg (u2 + 1) ∧ P36 u1 (u2 + 1) τ) ∧ (u8 < (u7 + x28) → (120 ≤ u1 → rg (u2 + 1) ∧ P36 u1 (u2 + 1) τ) ∧ (u1 < 120 → (0 ≤ u8 ∧ u8 < 90000) ∧ (∀ (x35 : Int), rg x35 → x35 = τ.2.1 29 u8 → (∃ (Q36 : Int → Prop), W_X3_variableOf x35 τ Q36 ∧ ∀ (x37 : Int), rg x37 → Q36 x37 → (∃ (Q39 : Int → Prop), W_X3_typeOf x35 τ Q39 ∧ ∀ (x40 : Int), rg x40 → Q39 x40 → ((0 ≤ x40 ∧ x40 < 1000) ∧ (∀ (x43 : Int), rg x43 → x43 = τ.2.1 10 x40 → ((0 ≤ x37 ∧ x37 < 1000) ∧ (∀ (x45 : Int), rg x45 → x45 = τ.2.1 89 x37 → (∀ (x46 : Int), rg x46 → x46 = τ.2.1 90 x37 → (∃ (Q47 : Int → Prop), W_X11_cell x43 x45 x46 τ Q47 ∧ ∀ (x48 : Int), rg x48 → Q47 x48 → ((0 ≤ u1 ∧ u1 < 120) ∧ (rg (u1 + 1) ∧ rg (u8 + 1) ∧ P185 (u1 + 1) u2 u6 u7 (u8 + 1) (s_a τ 88 u1 x48))))))))))))))))) → P185 u1 u2 u6 u7 u8 τ) →
  ∃ (Q1 : Int → Prop), W_X11_cell (σ.1 52) 0 (σ.1 50) (s_v σ 54 0) Q1 ∧ ∀ (x2 : Int), rg x2 → Q1 x2 → (P36 1 0 (s_a (s_v σ 54 0) 88 0 x2))
set_option maxRecDepth 100000 in
set_option maxHeartbeats 4000000 in
theorem L_X11_grow (l : Launch) (g : gG) (q : Nat → Nat) (lb : Nat) (hlb : lb < 2 ^ 31) {σ : S0} {Q : S0 → Prop} (hN : n_m σ) (hw : W_X11_grow σ Q) (sz : Nat) : MetV l yX11_grow cX11_grow 11 { frames := 3, cells := 0, slots := 0, locals := 82 } g [.ref (q 10)] (CX g q lb σ) sz xT (p_V (CX g q lb) [54] [84, 85, 86, 88, 89, 90] [8] σ Q) 0 0 := by
  refine mkMet (Qc := fun A => QV g A (p_V (CX g q lb) [54] [84, 85, 86, 88, 89, 90] [8] σ Q)) (by decide) (Nat.le_of_ble_eq_true rfl) ?_
  intro p e s m below meth c A H ls hx hb hr hml hown hts hlk hnm hsz hP hK hNb hD hA hAe hS hX hl
  have hl : lv_has ls 11 [(0, .ref (q 10))] := hl
  have hB := hN
  have hF : f_r [54] [84, 85, 86, 88, 89, 90] [8] σ σ := f_0
  obtain ⟨locs, hlocs⟩ : ∃ z : List Loc, z = [] := ⟨_, rfl⟩
  rw [← hlocs] at hS ⊢
  obtain ⟨P36, hP36⟩ : ∃ P : Int → Int → S0 → Prop, ∀ (u1 : Int) (u2 : Int) (τ : S0), (P u1 u2 τ ↔ (rg u1 → rg u2 → n_m τ → f_r [54] [84, 85, 86, 88, 89, 90] [8] σ τ → ∀ (H : Heap) (locs : List Loc) (ls : Array Slot), KP g (CX g q lb τ) H → va_D A (CX g q lb τ) → va_S A s.heap H locs → lv_has ls 11 [(0, .ref (q 10)), (1, .int (I u1)), (2, .int (I u2))] → W p l e ({ frames := 3, cells := 0, slots := 0, locals := 82 }) s m [.ref (q 10)].toArray below meth c H locs 0 0 (MQ below (QV g A (p_V (CX g q lb) [54] [84, 85, 86, 88, 89, 90] [8] σ Q)) [.ref (q 10)].toArray s 0 0 A) (F0 m 36 ls []))) := ⟨_, fun _ _ _ => Iff.rfl⟩
  obtain ⟨P185, hP185⟩ : ∃ P : Int → Int → Int → Int → Int → S0 → Prop, ∀ (u1 : Int) (u2 : Int) (u6 : Int) (u7 : Int) (u8 : Int) (τ : S0), (P u1 u2 u6 u7 u8 τ ↔ (rg u1 → rg u2 → rg u6 → rg u7 → rg u8 → n_m τ → f_r [54] [84, 85, 86, 88, 89, 90] [8] σ τ → ∀ (H : Heap) (locs : List Loc) (ls : Array Slot), KP g (CX g q lb τ) H → va_D A (CX g q lb τ) → va_S A s.heap H locs → lv_has ls 11 [(0, .ref (q 10)), (1, .int (I u1)), (2, .int (I u2)), (6, .int (I u6)), (7, .int (I u7)), (8, .int (I u8))] → W p l e ({ frames := 3, cells := 0, slots := 0, locals := 82 }) s m [.ref (q 10)].toArray below meth c H locs 0 0 (MQ below (QV g A (p_V (CX g q lb) [54] [84, 85, 86, 88, 89, 90] [8] σ Q)) [.ref (q 10)].toArray s 0 0 A) (F0 m 185 ls []))) := ⟨_, fun _ _ _ _ _ _ => Iff.rfl⟩
  refine (fun hw => ?_) (hw P36 P185 ?_ ?_)
  ·
    refine lv_aload_n hx hb dX11_grow_0 rfl (lv_at hl 0 rfl) ?_
    refine lv_iconst (v := I 0) hx hb dX11_grow_1 rfl ?_
    refine pfX11_size hx hb hts hK hP hD hS hown (hts _ tw_745) dX11_grow_2 (fun H locs hP hD hS => ?_)
    have hN : n_m (s_v σ 54 0) := n_v (i := 54) hN ((by decide) : rg 0)
    have hF : f_r [54] [84, 85, 86, 88, 89, 90] [8] σ (s_v σ 54 0) := f_v hF (by decide)
    refine lv_iconst (v := I 0) hx hb dX11_grow_5 rfl ?_
    refine lv_istore_n (lv' := [(1, .int (I 0)), (0, .ref (q 10))]) hx hb dX11_grow_6 rfl hl (by decide) rfl (fun ls hl => ?_)
    refine lv_aload_n hx hb dX11_grow_7 rfl (lv_at hl 1 rfl) ?_
    refine gfX11_cells hx hb hts hK hP hown (hts _ tw_750) dX11_grow_8 ?_
    refine lv_iload_n hx hb dX11_grow_11 rfl (lv_at hl 0 rfl) ?_
    refine lv_aload_n hx hb dX11_grow_12 rfl (lv_at hl 1 rfl) ?_
    refine gfX11_chart hx hb hts hK hP hown (hts _ tw_739) dX11_grow_13 ?_
    refine gfNX1_goal hx hb hts hK hP hown (nb_use hNb tn_679) (x := σ.1 52) rfl dX11_grow_16 ?_
    refine lv_iconst (v := I 0) hx hb dX11_grow_19 rfl ?_
    refine lv_aload_n hx hb dX11_grow_20 rfl (lv_at hl 1 rfl) ?_
    refine gfX11_chart hx hb hts hK hP hown (hts _ tw_739) dX11_grow_21 ?_
    refine gfNX1_length hx hb hts hK hP hown (nb_use hNb tn_677) (x := σ.1 50) rfl dX11_grow_24 ?_
    obtain ⟨Q1, hc, hw⟩ := hw
    refine wc_i (X := CX g q lb) (va_runS (As := [.int (I (σ.1 52)), .int (I 0), .int (I (σ.1 50))]) (rest := [.int (I 0), .ref (q 109)]) ⟨hx, hb, hml, hown, hts⟩ (L_X11_cell l g q lb hlb (hB.1 52) (by decide) (hB.1 50) hN hc H.size) (cwS 3 hts (TB_S tw_1769 tw_1770 tw_12 co_X11_cell) rfl rfl rfl (by decide +kernel) ⟨Nat.le_of_ble_eq_true rfl, Nat.le_of_ble_eq_true rfl⟩) (preS xT_bl hP hK hNb hD xT_at) rfl rfl hl.1 rfl (lv_room (Nat.le_of_ble_eq_true rfl)) dX11_grow_27 ⟨Nat.le_of_ble_eq_true rfl, Nat.le_of_ble_eq_true rfl⟩) hP hD hS hA (fun x2 H locs r_x2 hq hP hD hS => ?_)
    replace hw := hw x2 r_x2 hq
    refine sdCX11_cells hx hb hK hP hD hS (by decide) dX11_grow_30 (fun H locs hP hD hS => ?_)
    have hN : n_m (s_a (s_v σ 54 0) 88 0 x2) := n_a (k := 88) (j := 0) hN (r_x2 : rg x2)
    have hF : f_r [54] [84, 85, 86, 88, 89, 90] [8] σ (s_a (s_v σ 54 0) 88 0 x2) := f_a hF (by decide)
    refine lv_iinc (v := I 1) (lv' := [(1, .int (I 1)), (0, .ref (q 10))]) hx hb dX11_grow_31 hl (k := 0) rfl (by decide) (by decide) rfl (fun ls hl => ?_)
    refine lv_iconst (v := I 0) hx hb dX11_grow_34 rfl ?_
    refine lv_istore_n (lv' := [(2, .int (I 0)), (1, .int (I 1)), (0, .ref (q 10))]) hx hb dX11_grow_35 rfl hl (by decide) rfl (fun ls hl => ?_)
    exact (hP36 _ _ _).mp hw (by decide) (by decide) hN hF H locs ls hP hD hS (lv_sub hl [2, 1, 0] rfl)
  ·
    intro u1 u2 τ hw
    refine (hP36 _ _ _).mpr ?_
    intro r_u1 r_u2 hN hF H locs ls hP hD hS hl
    have hB := hN
    refine lv_iload_n hx hb dX11_grow_36 rfl (lv_at hl 2 rfl) ?_
    refine lv_sipush (v := I 12000) hx hb dX11_grow_37 (by decide) ?_
    refine bi_icmp_ge (tgt := 287) hx hb r_u2 (by decide) dX11_grow_40 (by decide) (fun c4 => ?_) (fun c4 => ?_)
    ·
      replace hw := hw.1 c4
      exact xrv hx hb hr hlk hP hK hD hS ⟨_, hN, hF, rfl, hw⟩ (Nat.le_of_ble_eq_true rfl) (Nat.le_of_ble_eq_true rfl) dX11_grow_287
    ·
      replace hw := hw.2 c4
      refine lv_iload_n hx hb dX11_grow_43 rfl (lv_at hl 1 rfl) ?_
      refine bi_if_le (tgt := 287) hx hb r_u1 dX11_grow_44 (by decide) (fun c5 => ?_) (fun c5 => ?_)
      ·
        replace hw := hw.1 c5
        exact xrv hx hb hr hlk hP hK hD hS ⟨_, hN, hF, rfl, hw⟩ (Nat.le_of_ble_eq_true rfl) (Nat.le_of_ble_eq_true rfl) dX11_grow_287
      ·
        replace hw := hw.2 c5
        refine lv_iinc (v := I (u1 + (-1))) (lv' := [(1, .int (I (u1 + (-1)))), (0, .ref (q 10)), (2, .int (I u2))]) hx hb dX11_grow_47 hl (k := 1) rfl (I_add _ _) (by decide) rfl (fun ls hl => ?_)
        refine lv_aload_n hx hb dX11_grow_50 rfl (lv_at hl 1 rfl) ?_
        refine gfX11_cells hx hb hts hK hP hown (hts _ tw_750) dX11_grow_51 ?_
        refine lv_iload_n hx hb dX11_grow_54 rfl (lv_at hl 0 rfl) ?_
        obtain ⟨c6, hw⟩ := hw
        refine ldCX11_cells hx hb hK hP hN c6 dX11_grow_55 (fun x7 r_x7 e_x7 => ?_)
        replace hw := hw x7 r_x7 e_x7
        refine lv_sipush (v := I 3600) hx hb dX11_grow_56 (by decide) ?_
        refine bi_idiv hx hb r_x7 (by decide) (by decide) dX11_grow_59 (fun x8 r_x8 p_x8 m_x8 => ?_)
        replace hw := hw x8 r_x8 p_x8 m_x8
        refine lv_istore_n (lv' := [(3, .int (I x8)), (1, .int (I (u1 + (-1)))), (0, .ref (q 10)), (2, .int (I u2))]) hx hb dX11_grow_60 rfl hl (by decide) rfl (fun ls hl => ?_)
        refine lv_aload_n hx hb dX11_grow_61 rfl (lv_at hl 2 rfl) ?_
        refine gfX11_cells hx hb hts hK hP hown (hts _ tw_750) dX11_grow_62 ?_
        refine lv_iload_n hx hb dX11_grow_65 rfl (lv_at hl 1 rfl) ?_
        refine ldCX11_cells hx hb hK hP hN c6 dX11_grow_66 (fun x9 r_x9 e_x9 => ?_)
        replace hw := hw x9 r_x9 e_x9
        refine lv_bipush (v := I 60) hx hb dX11_grow_67 (by decide) ?_
        refine bi_idiv hx hb r_x9 (by decide) (by decide) dX11_grow_69 (fun x10 r_x10 p_x10 m_x10 => ?_)
        replace hw := hw x10 r_x10 p_x10 m_x10
        refine lv_bipush (v := I 60) hx hb dX11_grow_70 (by decide) ?_
        refine bi_irem hx hb r_x10 (by decide) (by decide) dX11_grow_72 (fun x11 r_x11 p_x11 m_x11 => ?_)
        replace hw := hw x11 r_x11 p_x11 m_x11
        refine lv_istore (lv' := [(4, .int (I x11)), (3, .int (I x8)), (1, .int (I (u1 + (-1)))), (0, .ref (q 10)), (2, .int (I u2))]) hx hb dX11_grow_73 hl (by decide) rfl (fun ls hl => ?_)
        refine lv_aload_n hx hb dX11_grow_75 rfl (lv_at hl 3 rfl) ?_
        refine gfX11_cells hx hb hts hK hP hown (hts _ tw_750) dX11_grow_76 ?_
        refine lv_iload_n hx hb dX11_grow_79 rfl (lv_at hl 2 rfl) ?_
        refine ldCX11_cells hx hb hK hP hN c6 dX11_grow_80 (fun x12 r_x12 e_x12 => ?_)
        replace hw := hw x12 r_x12 e_x12
        refine lv_bipush (v := I 60) hx hb dX11_grow_81 (by decide) ?_
        refine bi_irem hx hb r_x12 (by decide) (by decide) dX11_grow_83 (fun x13 r_x13 p_x13 m_x13 => ?_)
        replace hw := hw x13 r_x13 p_x13 m_x13
        refine lv_istore (lv' := [(5, .int (I x13)), (4, .int (I x11)), (3, .int (I x8)), (1, .int (I (u1 + (-1)))), (0, .ref (q 10)), (2, .int (I u2))]) hx hb dX11_grow_84 hl (by decide) rfl (fun ls hl => ?_)
        refine lv_aload_n hx hb dX11_grow_86 rfl (lv_at hl 4 rfl) ?_
        refine gfX11_chart hx hb hts hK hP hown (hts _ tw_739) dX11_grow_87 ?_
        refine lv_iload_n hx hb dX11_grow_90 rfl (lv_at hl 2 rfl) ?_
        refine lv_iload hx hb dX11_grow_91 (lv_at hl 1 rfl) ?_
        refine lv_iload hx hb dX11_grow_93 (lv_at hl 0 rfl) ?_
        obtain ⟨Q14, hc, hw⟩ := hw
        refine wc_i (X := CX g q lb) (va_runV (As := [.int (I x8), .int (I x11), .int (I x13)]) (rest := []) ⟨hx, hb, hml, hown, hts⟩ (L_X1_ruleOf l g q lb hlb r_x8 r_x11 r_x13 hN hc H.size) (cwV 3 hts (TB_V tw_1772 tw_1773 tw_1774 tw_11 co_X1_ruleOf) rfl rfl rfl (by decide +kernel) ⟨Nat.le_of_ble_eq_true rfl, Nat.le_of_ble_eq_true rfl⟩) (preV (q0 := 9) (ci := 1) rfl xT_bl hP hK hNb hD rfl rfl xT_at) rfl rfl hl.1 rfl (lv_room (Nat.le_of_ble_eq_true rfl)) dX11_grow_95 ⟨Nat.le_of_ble_eq_true rfl, Nat.le_of_ble_eq_true rfl⟩) hP hD hS hA (fun x15 H locs r_x15 hq hP hD hS => ?_)
        replace hw := hw x15 r_x15 hq
        refine lv_istore (lv' := [(6, .int (I x15)), (5, .int (I x13)), (4, .int (I x11)), (3, .int (I x8)), (1, .int (I (u1 + (-1)))), (0, .ref (q 10)), (2, .int (I u2))]) hx hb dX11_grow_98 hl (by decide) rfl (fun ls hl => ?_)
        refine lv_aload_n hx hb dX11_grow_100 rfl (lv_at hl 5 rfl) ?_
        refine gfX11_rule hx hb hts hK hP hown (hts _ tw_740) dX11_grow_101 ?_
        refine lv_aload_n hx hb dX11_grow_104 rfl (lv_at hl 5 rfl) ?_
        refine gfX11_size hx hb hts hK hP hown (hts _ tw_745) (x := τ.1 54) rfl dX11_grow_105 ?_
        refine lv_iload hx hb dX11_grow_108 (lv_at hl 0 rfl) ?_
        obtain ⟨c17, hw⟩ := hw
        refine sdCX11_rule hx hb hK hP hD hS c17 dX11_grow_110 (fun H locs hP hD hS => ?_)
        have hN : n_m (s_a τ 84 (τ.1 54) x15) := n_a (k := 84) (j := τ.1 54) hN (r_x15 : rg x15)
        have hF : f_r [54] [84, 85, 86, 88, 89, 90] [8] σ (s_a τ 84 (τ.1 54) x15) := f_a hF (by decide)
        refine lv_aload_n hx hb dX11_grow_111 rfl (lv_at hl 5 rfl) ?_
        refine gfX11_from hx hb hts hK hP hown (hts _ tw_743) dX11_grow_112 ?_
        refine lv_aload_n hx hb dX11_grow_115 rfl (lv_at hl 5 rfl) ?_
        refine gfX11_size hx hb hts hK hP hown (hts _ tw_745) (x := τ.1 54) rfl dX11_grow_116 ?_
        refine lv_iload hx hb dX11_grow_119 (lv_at hl 2 rfl) ?_
        refine sdCX11_from hx hb hK hP hD hS c17 dX11_grow_121 (fun H locs hP hD hS => ?_)
        have hN : n_m (s_a (s_a τ 84 (τ.1 54) x15) 85 (τ.1 54) x11) := n_a (k := 85) (j := τ.1 54) hN (r_x11 : rg x11)
        have hF : f_r [54] [84, 85, 86, 88, 89, 90] [8] σ (s_a (s_a τ 84 (τ.1 54) x15) 85 (τ.1 54) x11) := f_a hF (by decide)
        refine lv_aload_n hx hb dX11_grow_122 rfl (lv_at hl 5 rfl) ?_
        refine gfX11_to hx hb hts hK hP hown (hts _ tw_744) dX11_grow_123 ?_
        refine lv_aload_n hx hb dX11_grow_126 rfl (lv_at hl 5 rfl) ?_
        refine gfX11_size hx hb hts hK hP hown (hts _ tw_745) (x := τ.1 54) rfl dX11_grow_127 ?_
        refine lv_iload hx hb dX11_grow_130 (lv_at hl 1 rfl) ?_
        refine sdCX11_to hx hb hK hP hD hS c17 dX11_grow_132 (fun H locs hP hD hS => ?_)
        have hN : n_m (s_a (s_a (s_a τ 84 (τ.1 54) x15) 85 (τ.1 54) x11) 86 (τ.1 54) x13) := n_a (k := 86) (j := τ.1 54) hN (r_x13 : rg x13)
        have hF : f_r [54] [84, 85, 86, 88, 89, 90] [8] σ (s_a (s_a (s_a τ 84 (τ.1 54) x15) 85 (τ.1 54) x11) 86 (τ.1 54) x13) := f_a hF (by decide)
        refine lv_aload_n hx hb dX11_grow_133 rfl (lv_at hl 5 rfl) ?_
        refine lv_dup hx hb dX11_grow_134 rfl ?_
        refine gfX11_size hx hb hts hK hP hown (hts _ tw_745) (x := τ.1 54) rfl dX11_grow_135 ?_
        refine lv_iconst (v := I 1) hx hb dX11_grow_138 rfl ?_
        refine bi_iadd hx hb dX11_grow_139 ?_
        obtain ⟨c18, hw⟩ := hw
        refine pfX11_size hx hb hts hK hP hD hS hown (hts _ tw_745) dX11_grow_140 (fun H locs hP hD hS => ?_)
        have hN : n_m (s_v (s_a (s_a (s_a τ 84 (τ.1 54) x15) 85 (τ.1 54) x11) 86 (τ.1 54) x13) 54 (τ.1 54 + 1)) := n_v (i := 54) hN (c18 : rg (τ.1 54 + 1))
        have hF : f_r [54] [84, 85, 86, 88, 89, 90] [8] σ (s_v (s_a (s_a (s_a τ 84 (τ.1 54) x15) 85 (τ.1 54) x11) 86 (τ.1 54) x13) 54 (τ.1 54 + 1)) := f_v hF (by decide)
        refine lv_aload_n hx hb dX11_grow_143 rfl (lv_at hl 5 rfl) ?_
        refine gfX11_library hx hb hts hK hP hown (hts _ tw_737) dX11_grow_144 ?_
        refine gfNX3_kind hx hb hts hK hP hown (nb_use hNb tn_69) dX11_grow_147 ?_
        refine lv_iload hx hb dX11_grow_150 (lv_at hl 0 rfl) ?_
        obtain ⟨c19, hw⟩ := hw
        refine ldCX3_kind hx hb hK hP hN c19 dX11_grow_152 (fun x20 r_x20 e_x20 => ?_)
        replace hw := hw x20 r_x20 e_x20
        refine bi_if_ne (tgt := 159) hx hb r_x20 dX11_grow_153 (by decide) (fun c21 => ?_) (fun c21 => ?_)
        ·
          replace hw := hw.1 c21
          refine lv_aload_n hx hb dX11_grow_159 rfl (lv_at hl 5 rfl) ?_
          refine lv_iload hx hb dX11_grow_160 (lv_at hl 0 rfl) ?_
          refine lv_iload hx hb dX11_grow_162 (lv_at hl 2 rfl) ?_
          refine lv_iload hx hb dX11_grow_164 (lv_at hl 1 rfl) ?_
          obtain ⟨Q22, hc, hw⟩ := hw
          refine wc_V (X := CX g q lb) (va_runV (As := [.int (I x15), .int (I x11), .int (I x13)]) (rest := []) ⟨hx, hb, hml, hown, hts⟩ (L_X11_part l g q lb hlb r_x15 r_x11 r_x13 hN hc H.size) (cwV 3 hts (TB_V tw_1776 tw_1778 ts_80 tw_12 co_X11_part) rfl rfl rfl (by decide +kernel) ⟨Nat.le_of_ble_eq_true rfl, Nat.le_of_ble_eq_true rfl⟩) (preV (q0 := 10) (ci := 11) rfl xT_bl hP hK hNb hD rfl rfl xT_at) rfl rfl hl.1 rfl (lv_room (Nat.le_of_ble_eq_true rfl)) dX11_grow_166 ⟨Nat.le_of_ble_eq_true rfl, Nat.le_of_ble_eq_true rfl⟩) hP hD hS hA (fun τ24 H locs hN hf hq hP hD hS => ?_)
          replace hw := hw τ24 hN hf hq
          have hF : f_r [54] [84, 85, 86, 88, 89, 90] [8] σ τ24 := f_t hF hf (by decide) (by decide) (by decide)
          have hB := hN
          refine lv_aload_n hx hb dX11_grow_169 rfl (lv_at hl 5 rfl) ?_
          refine gfX11_assertions hx hb hts hK hP hown (hts _ tw_738) dX11_grow_170 ?_
          refine gfNX0_frameAt hx hb hts hK hP hown (nb_use hNb tn_235) dX11_grow_173 ?_
          refine lv_iload hx hb dX11_grow_176 (lv_at hl 0 rfl) ?_
          refine ldCX0_frameAt hx hb hK hP hN c19 dX11_grow_178 (fun x25 r_x25 e_x25 => ?_)
          replace hw := hw x25 r_x25 e_x25
          refine lv_istore (lv' := [(7, .int (I x25)), (6, .int (I x15)), (5, .int (I x13)), (4, .int (I x11)), (3, .int (I x8)), (1, .int (I (u1 + (-1)))), (0, .ref (q 10)), (2, .int (I u2))]) hx hb dX11_grow_179 hl (by decide) rfl (fun ls hl => ?_)
          refine lv_iload hx hb dX11_grow_181 (lv_at hl 0 rfl) ?_
          refine lv_istore (lv' := [(8, .int (I x25)), (7, .int (I x25)), (6, .int (I x15)), (5, .int (I x13)), (4, .int (I x11)), (3, .int (I x8)), (1, .int (I (u1 + (-1)))), (0, .ref (q 10)), (2, .int (I u2))]) hx hb dX11_grow_183 hl (by decide) rfl (fun ls hl => ?_)
          exact (hP185 _ _ _ _ _ _).mp hw (rg_ix c6.1 c6.2 (by decide)) r_u2 r_x15 r_x25 r_x25 hN hF H locs ls hP hD hS (lv_sub hl [7, 6, 8, 2, 1, 0] rfl)
        ·
          replace hw := hw.2 c21
          refine lv_goto (tgt := 281) hx hb dX11_grow_156 (by decide) ?_
          refine lv_iinc (v := I (u2 + 1)) (lv' := [(2, .int (I (u2 + 1))), (6, .int (I x15)), (5, .int (I x13)), (4, .int (I x11)), (3, .int (I x8)), (1, .int (I (u1 + (-1)))), (0, .ref (q 10))]) hx hb dX11_grow_281 hl (k := 6) rfl (I_add _ _) (by decide) rfl (fun ls hl => ?_)
          refine lv_goto (tgt := 36) hx hb dX11_grow_284 (by decide) ?_
          obtain ⟨c26, hw⟩ := hw
          exact (hP36 _ _ _).mp hw (rg_ix c6.1 c6.2 (by decide)) c26 hN hF H locs ls hP hD hS (lv_sub hl [6, 5, 0] rfl)
  ·
    intro u1 u2 u6 u7 u8 τ hw
    refine (hP185 _ _ _ _ _ _).mpr ?_
    intro r_u1 r_u2 r_u6 r_u7 r_u8 hN hF H locs ls hP hD hS hl
    have hB := hN
    refine lv_iload hx hb dX11_grow_185 (lv_at hl 5 rfl) ?_
    refine lv_iload hx hb dX11_grow_187 (lv_at hl 4 rfl) ?_
    refine lv_aload_n hx hb dX11_grow_189 rfl (lv_at hl 0 rfl) ?_
    refine gfX11_assertions hx hb hts hK hP hown (hts _ tw_738) dX11_grow_190 ?_
    refine gfNX0_frameSize hx hb hts hK hP hown (nb_use hNb tn_242) dX11_grow_193 ?_
    refine lv_iload hx hb dX11_grow_196 (lv_at hl 3 rfl) ?_
    obtain ⟨c27, hw⟩ := hw
    refine ldCX0_frameSize hx hb hK hP hN c27 dX11_grow_198 (fun x28 r_x28 e_x28 => ?_)
    replace hw := hw x28 r_x28 e_x28
    refine bi_iadd hx hb dX11_grow_199 ?_
    obtain ⟨c29, hw⟩ := hw
    refine bi_icmp_ge (tgt := 281) hx hb r_u8 c29 dX11_grow_200 (by decide) (fun c30 => ?_) (fun c30 => ?_)
    ·
      replace hw := hw.1 c30
      refine lv_iinc (v := I (u2 + 1)) (lv' := [(2, .int (I (u2 + 1))), (0, .ref (q 10)), (1, .int (I u1)), (6, .int (I u6)), (7, .int (I u7)), (8, .int (I u8))]) hx hb dX11_grow_281 hl (k := 2) rfl (I_add _ _) (by decide) rfl (fun ls hl => ?_)
      refine lv_goto (tgt := 36) hx hb dX11_grow_284 (by decide) ?_
      obtain ⟨c31, hw⟩ := hw
      exact (hP36 _ _ _).mp hw r_u1 c31 hN hF H locs ls hP hD hS (lv_sub hl [1, 2, 0] rfl)
    ·
      replace hw := hw.2 c30
      refine lv_iload_n hx hb dX11_grow_203 rfl (lv_at hl 1 rfl) ?_
      refine lv_bipush (v := I 120) hx hb dX11_grow_204 (by decide) ?_
      refine bi_icmp_ge (tgt := 281) hx hb r_u1 (by decide) dX11_grow_206 (by decide) (fun c32 => ?_) (fun c32 => ?_)
      ·
        replace hw := hw.1 c32
        refine lv_iinc (v := I (u2 + 1)) (lv' := [(2, .int (I (u2 + 1))), (0, .ref (q 10)), (1, .int (I u1)), (6, .int (I u6)), (7, .int (I u7)), (8, .int (I u8))]) hx hb dX11_grow_281 hl (k := 2) rfl (I_add _ _) (by decide) rfl (fun ls hl => ?_)
        refine lv_goto (tgt := 36) hx hb dX11_grow_284 (by decide) ?_
        obtain ⟨c33, hw⟩ := hw
        exact (hP36 _ _ _).mp hw r_u1 c33 hN hF H locs ls hP hD hS (lv_sub hl [1, 2, 0] rfl)
      ·
        replace hw := hw.2 c32
        refine lv_aload_n hx hb dX11_grow_209 rfl (lv_at hl 0 rfl) ?_
        refine gfX11_assertions hx hb hts hK hP hown (hts _ tw_738) dX11_grow_210 ?_
        refine gfNX0_hypotheses hx hb hts hK hP hown (nb_use hNb tn_250) dX11_grow_213 ?_
        refine lv_iload hx hb dX11_grow_216 (lv_at hl 5 rfl) ?_
        obtain ⟨c34, hw⟩ := hw
        refine ldCX0_hypotheses hx hb hK hP hN c34 dX11_grow_218 (fun x35 r_x35 e_x35 => ?_)
        replace hw := hw x35 r_x35 e_x35
        refine lv_istore (lv' := [(9, .int (I x35)), (0, .ref (q 10)), (1, .int (I u1)), (2, .int (I u2)), (6, .int (I u6)), (7, .int (I u7)), (8, .int (I u8))]) hx hb dX11_grow_219 hl (by decide) rfl (fun ls hl => ?_)
        refine lv_aload_n hx hb dX11_grow_221 rfl (lv_at hl 1 rfl) ?_
        refine gfX11_library hx hb hts hK hP hown (hts _ tw_737) dX11_grow_222 ?_
        refine lv_iload hx hb dX11_grow_225 (lv_at hl 0 rfl) ?_
        obtain ⟨Q36, hc, hw⟩ := hw
        refine wc_i (X := CX g q lb) (va_runV (As := [.int (I x35)]) (rest := []) ⟨hx, hb, hml, hown, hts⟩ (L_X3_variableOf l g q lb hlb r_x35 hN hc H.size) (cwV 1 hts (TB_V tw_1797 tw_1022 tw_1023 tw_2 co_X3_variableOf) rfl rfl rfl (by decide +kernel) ⟨Nat.le_of_ble_eq_true rfl, Nat.le_of_ble_eq_true rfl⟩) (preV (q0 := 1) (ci := 3) rfl xT_bl hP hK hNb hD rfl rfl xT_at) rfl rfl hl.1 rfl (lv_room (Nat.le_of_ble_eq_true rfl)) dX11_grow_227 ⟨Nat.le_of_ble_eq_true rfl, Nat.le_of_ble_eq_true rfl⟩) hP hD hS hA (fun x37 H locs r_x37 hq hP hD hS => ?_)
        replace hw := hw x37 r_x37 hq
        refine lv_istore (lv' := [(10, .int (I x37)), (9, .int (I x35)), (0, .ref (q 10)), (1, .int (I u1)), (2, .int (I u2)), (6, .int (I u6)), (7, .int (I u7)), (8, .int (I u8))]) hx hb dX11_grow_230 hl (by decide) rfl (fun ls hl => ?_)
        refine lv_aload_n hx hb dX11_grow_232 rfl (lv_at hl 2 rfl) ?_
        refine gfX11_cells hx hb hts hK hP hown (hts _ tw_750) dX11_grow_233 ?_
        refine lv_iload_n hx hb dX11_grow_236 rfl (lv_at hl 3 rfl) ?_
        refine lv_aload_n hx hb dX11_grow_237 rfl (lv_at hl 2 rfl) ?_
        refine gfX11_library hx hb hts hK hP hown (hts _ tw_737) dX11_grow_238 ?_
        refine gfNX3_rank hx hb hts hK hP hown (nb_use hNb tn_56) dX11_grow_241 ?_
        refine lv_aload_n hx hb dX11_grow_244 rfl (lv_at hl 2 rfl) ?_
        refine gfX11_library hx hb hts hK hP hown (hts _ tw_737) dX11_grow_245 ?_
        refine lv_iload hx hb dX11_grow_248 (lv_at hl 1 rfl) ?_
        obtain ⟨Q39, hc, hw⟩ := hw
        refine wc_i (X := CX g q lb) (va_runV (As := [.int (I x35)]) (rest := [.ref (q 23), .int (I u1), .ref (q 109)]) ⟨hx, hb, hml, hown, hts⟩ (L_X3_typeOf l g q lb hlb r_x35 hN hc H.size) (cwV 1 hts (TB_V tw_1798 tw_1208 tw_1209 tw_2 co_X3_typeOf) rfl rfl rfl (by decide +kernel) ⟨Nat.le_of_ble_eq_true rfl, Nat.le_of_ble_eq_true rfl⟩) (preV (q0 := 1) (ci := 3) rfl xT_bl hP hK hNb hD rfl rfl xT_at) rfl rfl hl.1 rfl (lv_room (Nat.le_of_ble_eq_true rfl)) dX11_grow_250 ⟨Nat.le_of_ble_eq_true rfl, Nat.le_of_ble_eq_true rfl⟩) hP hD hS hA (fun x40 H locs r_x40 hq hP hD hS => ?_)
        replace hw := hw x40 r_x40 hq
        obtain ⟨c42, hw⟩ := hw
        refine ldCX3_rank hx hb hK hP hN c42 dX11_grow_253 (fun x43 r_x43 e_x43 => ?_)
        replace hw := hw x43 r_x43 e_x43
        refine lv_aload_n hx hb dX11_grow_254 rfl (lv_at hl 2 rfl) ?_
        refine gfX11_spanFrom hx hb hts hK hP hown (hts _ tw_752) dX11_grow_255 ?_
        refine lv_iload hx hb dX11_grow_258 (lv_at hl 0 rfl) ?_
        obtain ⟨c44, hw⟩ := hw
        refine ldCX11_spanFrom hx hb hK hP hN c44 dX11_grow_260 (fun x45 r_x45 e_x45 => ?_)
        replace hw := hw x45 r_x45 e_x45
        refine lv_aload_n hx hb dX11_grow_261 rfl (lv_at hl 2 rfl) ?_
        refine gfX11_spanTo hx hb hts hK hP hown (hts _ tw_754) dX11_grow_262 ?_
        refine lv_iload hx hb dX11_grow_265 (lv_at hl 0 rfl) ?_
        refine ldCX11_spanTo hx hb hK hP hN c44 dX11_grow_267 (fun x46 r_x46 e_x46 => ?_)
        replace hw := hw x46 r_x46 e_x46
        obtain ⟨Q47, hc, hw⟩ := hw
        refine wc_i (X := CX g q lb) (va_runS (As := [.int (I x43), .int (I x45), .int (I x46)]) (rest := [.int (I u1), .ref (q 109)]) ⟨hx, hb, hml, hown, hts⟩ (L_X11_cell l g q lb hlb r_x43 r_x45 r_x46 hN hc H.size) (cwS 3 hts (TB_S tw_1769 tw_1770 tw_12 co_X11_cell) rfl rfl rfl (by decide +kernel) ⟨Nat.le_of_ble_eq_true rfl, Nat.le_of_ble_eq_true rfl⟩) (preS xT_bl hP hK hNb hD xT_at) rfl rfl hl.1 rfl (lv_room (Nat.le_of_ble_eq_true rfl)) dX11_grow_268 ⟨Nat.le_of_ble_eq_true rfl, Nat.le_of_ble_eq_true rfl⟩) hP hD hS hA (fun x48 H locs r_x48 hq hP hD hS => ?_)
        replace hw := hw x48 r_x48 hq
        obtain ⟨c50, hw⟩ := hw
        refine sdCX11_cells hx hb hK hP hD hS c50 dX11_grow_271 (fun H locs hP hD hS => ?_)
        have hN : n_m (s_a τ 88 u1 x48) := n_a (k := 88) (j := u1) hN (r_x48 : rg x48)
        have hF : f_r [54] [84, 85, 86, 88, 89, 90] [8] σ (s_a τ 88 u1 x48) := f_a hF (by decide)
        refine lv_iinc (v := I (u1 + 1)) (lv' := [(1, .int (I (u1 + 1))), (10, .int (I x37)), (9, .int (I x35)), (0, .ref (q 10)), (2, .int (I u2)), (6, .int (I u6)), (7, .int (I u7)), (8, .int (I u8))]) hx hb dX11_grow_272 hl (k := 3) rfl (I_add _ _) (by decide) rfl (fun ls hl => ?_)
        refine lv_iinc (v := I (u8 + 1)) (lv' := [(8, .int (I (u8 + 1))), (1, .int (I (u1 + 1))), (10, .int (I x37)), (9, .int (I x35)), (0, .ref (q 10)), (2, .int (I u2)), (6, .int (I u6)), (7, .int (I u7))]) hx hb dX11_grow_275 hl (k := 7) rfl (I_add _ _) (by decide) rfl (fun ls hl => ?_)
        refine lv_goto (tgt := 185) hx hb dX11_grow_278 (by decide) ?_
        obtain ⟨c51, hw⟩ := hw
        obtain ⟨c52, hw⟩ := hw
        exact (hP185 _ _ _ _ _ _).mp hw c51 r_u2 r_u6 r_u7 c52 hN hF H locs ls hP hD hS (lv_sub hl [4, 1, 5, 6, 7, 0] rfl)
def W_X2_noteUses (n1 : Int) (σ : S0) (Q : S0 → Prop) : Prop :=
  ∀ (P2 : Int → Int → S0 → Prop),
  (∀ (u1 : Int) (u2 : Int) (τ : S0), ((τ.1 54 ≤ u2 → Q τ) ∧ (u2 < τ.1 54 → (0 ≤ u2 ∧ u2 < 12000) ∧ (∀ (x3 : Int), rg x3 → x3 = τ.2.1 84 u2 → ((0 ≤ x3 ∧ x3 < 1500) ∧ (∀ (x5 : Int), rg x5 → x5 = τ.2.1 92 x3 → ((¬ x5 = 0 → rg (u2 + 1) ∧ P2 u1 (u2 + 1) τ) ∧ (x5 = 0 → ∀ (x8 : Int), rg x8 → x8 = τ.2.1 84 u2 → ((0 ≤ x8 ∧ x8 < 1500) ∧ (rg (u1 + 1) ∧ rg (u2 + 1) ∧ P2 u1 (u2 + 1) (s_a τ 92 x8 (u1 + 1))))))))))) → P2 u1 u2 τ) →
  P2 n1 0 σ
set_option maxRecDepth 100000 in
set_option maxHeartbeats 4000000 in
theorem L_X2_noteUses (l : Launch) (g : gG) (q : Nat → Nat) (lb : Nat) (hlb : lb < 2 ^ 31) {n1 : Int} {σ : S0} {Q : S0 → Prop} (r_n1 : rg n1) (hN : n_m σ) (hw : W_X2_noteUses n1 σ Q) (sz : Nat) : MetV l yX2_noteUses cX2_noteUses 3 { frames := 0, cells := 0, slots := 0, locals := 0 } g [.ref (q 11), .int (I n1)] (CX g q lb σ) sz xT (p_V (CX g q lb) [] [92] [] σ Q) 0 0 := by
  refine mkMet (Qc := fun A => QV g A (p_V (CX g q lb) [] [92] [] σ Q)) (by decide) (Nat.le_of_ble_eq_true rfl) ?_
  intro p e s m below meth c A H ls hx hb hr hml hown hts hlk hnm hsz hP hK hNb hD hA hAe hS hX hl
  have hl : lv_has ls 3 [(0, .ref (q 11)), (1, .int (I n1))] := hl
  have hB := hN
  have hF : f_r [] [92] [] σ σ := f_0
  obtain ⟨locs, hlocs⟩ : ∃ z : List Loc, z = [] := ⟨_, rfl⟩
  rw [← hlocs] at hS ⊢
  obtain ⟨P2, hP2⟩ : ∃ P : Int → Int → S0 → Prop, ∀ (u1 : Int) (u2 : Int) (τ : S0), (P u1 u2 τ ↔ (rg u1 → rg u2 → n_m τ → f_r [] [92] [] σ τ → ∀ (H : Heap) (locs : List Loc) (ls : Array Slot), KP g (CX g q lb τ) H → va_D A (CX g q lb τ) → va_S A s.heap H locs → lv_has ls 3 [(0, .ref (q 11)), (1, .int (I u1)), (2, .int (I u2))] → W p l e ({ frames := 0, cells := 0, slots := 0, locals := 0 }) s m [.ref (q 11), .int (I n1)].toArray below meth c H locs 0 0 (MQ below (QV g A (p_V (CX g q lb) [] [92] [] σ Q)) [.ref (q 11), .int (I n1)].toArray s 0 0 A) (F0 m 2 ls []))) := ⟨_, fun _ _ _ => Iff.rfl⟩
  refine (fun hw => ?_) (hw P2 ?_)
  ·
    refine lv_iconst (v := I 0) hx hb dX2_noteUses_0 rfl ?_
    refine lv_istore_n (lv' := [(2, .int (I 0)), (0, .ref (q 11)), (1, .int (I n1))]) hx hb dX2_noteUses_1 rfl hl (by decide) rfl (fun ls hl => ?_)
    exact (hP2 _ _ _).mp hw r_n1 (by decide) hN hF H locs ls hP hD hS (lv_sub hl [1, 2, 0] rfl)
  ·
    intro u1 u2 τ hw
    refine (hP2 _ _ _).mpr ?_
    intro r_u1 r_u2 hN hF H locs ls hP hD hS hl
    have hB := hN
    refine lv_iload_n hx hb dX2_noteUses_2 rfl (lv_at hl 2 rfl) ?_
    refine lv_aload_n hx hb dX2_noteUses_3 rfl (lv_at hl 0 rfl) ?_
    refine gfX2_tree hx hb hts hK hP hown (hts _ tw_799) dX2_noteUses_4 ?_
    refine gfNX11_size hx hb hts hK hP hown (nb_use hNb tn_746) (x := τ.1 54) rfl dX2_noteUses_7 ?_
    refine bi_icmp_ge (tgt := 53) hx hb r_u2 (hB.1 54) dX2_noteUses_10 (by decide) (fun c1 => ?_) (fun c1 => ?_)
    ·
      replace hw := hw.1 c1
      exact xrv hx hb hr hlk hP hK hD hS ⟨_, hN, hF, rfl, hw⟩ (Nat.le_of_ble_eq_true rfl) (Nat.le_of_ble_eq_true rfl) dX2_noteUses_53
    ·
      replace hw := hw.2 c1
      refine lv_aload_n hx hb dX2_noteUses_13 rfl (lv_at hl 0 rfl) ?_
      refine gfX2_firstUse hx hb hts hK hP hown (hts _ tw_802) dX2_noteUses_14 ?_
      refine lv_aload_n hx hb dX2_noteUses_17 rfl (lv_at hl 0 rfl) ?_
      refine gfX2_tree hx hb hts hK hP hown (hts _ tw_799) dX2_noteUses_18 ?_
      refine gfNX11_rule hx hb hts hK hP hown (nb_use hNb tn_741) dX2_noteUses_21 ?_
      refine lv_iload_n hx hb dX2_noteUses_24 rfl (lv_at hl 2 rfl) ?_
      obtain ⟨c2, hw⟩ := hw
      refine ldCX11_rule hx hb hK hP hN c2 dX2_noteUses_25 (fun x3 r_x3 e_x3 => ?_)
      replace hw := hw x3 r_x3 e_x3
      obtain ⟨c4, hw⟩ := hw
      refine ldCX2_firstUse hx hb hK hP hN c4 dX2_noteUses_26 (fun x5 r_x5 e_x5 => ?_)
      replace hw := hw x5 r_x5 e_x5
      refine bi_if_ne (tgt := 47) hx hb r_x5 dX2_noteUses_27 (by decide) (fun c6 => ?_) (fun c6 => ?_)
      ·
        replace hw := hw.1 c6
        refine lv_iinc (v := I (u2 + 1)) (lv' := [(2, .int (I (u2 + 1))), (0, .ref (q 11)), (1, .int (I u1))]) hx hb dX2_noteUses_47 hl (k := 2) rfl (I_add _ _) (by decide) rfl (fun ls hl => ?_)
        refine lv_goto (tgt := 2) hx hb dX2_noteUses_50 (by decide) ?_
        obtain ⟨c7, hw⟩ := hw
        exact (hP2 _ _ _).mp hw r_u1 c7 hN hF H locs ls hP hD hS (lv_sub hl [1, 2, 0] rfl)
      ·
        replace hw := hw.2 c6
        refine lv_aload_n hx hb dX2_noteUses_30 rfl (lv_at hl 0 rfl) ?_
        refine gfX2_firstUse hx hb hts hK hP hown (hts _ tw_802) dX2_noteUses_31 ?_
        refine lv_aload_n hx hb dX2_noteUses_34 rfl (lv_at hl 0 rfl) ?_
        refine gfX2_tree hx hb hts hK hP hown (hts _ tw_799) dX2_noteUses_35 ?_
        refine gfNX11_rule hx hb hts hK hP hown (nb_use hNb tn_741) dX2_noteUses_38 ?_
        refine lv_iload_n hx hb dX2_noteUses_41 rfl (lv_at hl 2 rfl) ?_
        refine ldCX11_rule hx hb hK hP hN c2 dX2_noteUses_42 (fun x8 r_x8 e_x8 => ?_)
        replace hw := hw x8 r_x8 e_x8
        refine lv_iload_n hx hb dX2_noteUses_43 rfl (lv_at hl 1 rfl) ?_
        refine lv_iconst (v := I 1) hx hb dX2_noteUses_44 rfl ?_
        refine bi_iadd hx hb dX2_noteUses_45 ?_
        obtain ⟨c9, hw⟩ := hw
        obtain ⟨c10, hw⟩ := hw
        refine sdCX2_firstUse hx hb hK hP hD hS c9 dX2_noteUses_46 (fun H locs hP hD hS => ?_)
        have hN : n_m (s_a τ 92 x8 (u1 + 1)) := n_a (k := 92) (j := x8) hN (c10 : rg (u1 + 1))
        have hF : f_r [] [92] [] σ (s_a τ 92 x8 (u1 + 1)) := f_a hF (by decide)
        refine lv_iinc (v := I (u2 + 1)) (lv' := [(2, .int (I (u2 + 1))), (0, .ref (q 11)), (1, .int (I u1))]) hx hb dX2_noteUses_47 hl (k := 2) rfl (I_add _ _) (by decide) rfl (fun ls hl => ?_)
        refine lv_goto (tgt := 2) hx hb dX2_noteUses_50 (by decide) ?_
        obtain ⟨c11, hw⟩ := hw
        exact (hP2 _ _ _).mp hw r_u1 c11 hN hF H locs ls hP hD hS (lv_sub hl [1, 2, 0] rfl)
def W_X11_behind (n1 : Int) (σ : S0) (Q : Int → Prop) : Prop :=
  ∀ (P4 : Int → Int → Prop),
  (∀ (u2 : Int) (u3 : Int), ((σ.1 54 ≤ u3 → Q u3) ∧ (u3 < σ.1 54 → (u2 ≤ 0 → Q u3) ∧ (0 < u2 → (0 ≤ u3 ∧ u3 < 12000) ∧ (∀ (x4 : Int), rg x4 → x4 = σ.2.1 84 u3 → ((0 ≤ x4 ∧ x4 < 1500) ∧ (∀ (x6 : Int), rg x6 → x6 = σ.2.1 13 x4 → ((¬ x6 = 0 → ∀ (x8 : Int), rg x8 → x8 = σ.2.1 28 x4 → (rg (u2 + (x8 - 1)) ∧ rg (u3 + 1) ∧ P4 (u2 + (x8 - 1)) (u3 + 1))) ∧ (x6 = 0 → rg (u2 + (-1)) ∧ rg (u3 + 1) ∧ P4 (u2 + (-1)) (u3 + 1))))))))) → P4 u2 u3) →
  P4 1 n1
set_option maxRecDepth 100000 in
set_option maxHeartbeats 4000000 in
theorem L_X11_behind (l : Launch) (g : gG) (q : Nat → Nat) (lb : Nat) (hlb : lb < 2 ^ 31) {n1 : Int} {σ : S0} {Q : Int → Prop} (r_n1 : rg n1) (hN : n_m σ) (hw : W_X11_behind n1 σ Q) (sz : Nat) : MetI l yX11_behind cX11_behind 5 (some .int) { frames := 0, cells := 0, slots := 0, locals := 0 } g [.ref (q 10), .int (I n1)] (CX g q lb σ) sz xT (p_i (CX g q lb) σ Q) 0 0 := by
  refine mkMet (Qc := fun A => QI g A (p_i (CX g q lb) σ Q)) (by decide) (Nat.le_of_ble_eq_true rfl) ?_
  intro p e s m below meth c A H ls hx hb hr hml hown hts hlk hnm hsz hP hK hNb hD hA hAe hS hX hl
  have hl : lv_has ls 5 [(0, .ref (q 10)), (1, .int (I n1))] := hl
  have hB := hN
  obtain ⟨locs, hlocs⟩ : ∃ z : List Loc, z = [] := ⟨_, rfl⟩
  rw [← hlocs] at hS ⊢
  obtain ⟨P4, hP4⟩ : ∃ P : Int → Int → Prop, ∀ (u2 : Int) (u3 : Int), (P u2 u3 ↔ (rg u2 → rg u3 → ∀ (H : Heap) (locs : List Loc) (ls : Array Slot), KP g (CX g q lb σ) H → va_D A (CX g q lb σ) → va_S A s.heap H locs → lv_has ls 5 [(0, .ref (q 10)), (2, .int (I u2)), (3, .int (I u3))] → W p l e ({ frames := 0, cells := 0, slots := 0, locals := 0 }) s m [.ref (q 10), .int (I n1)].toArray below meth c H locs 0 0 (MQ below (QI g A (p_i (CX g q lb) σ Q)) [.ref (q 10), .int (I n1)].toArray s 0 0 A) (F0 m 4 ls []))) := ⟨_, fun _ _ => Iff.rfl⟩
  refine (fun hw => ?_) (hw P4 ?_)
  ·
    refine lv_iconst (v := I 1) hx hb dX11_behind_0 rfl ?_
    refine lv_istore_n (lv' := [(2, .int (I 1)), (0, .ref (q 10)), (1, .int (I n1))]) hx hb dX11_behind_1 rfl hl (by decide) rfl (fun ls hl => ?_)
    refine lv_iload_n hx hb dX11_behind_2 rfl (lv_at hl 2 rfl) ?_
    refine lv_istore_n (lv' := [(3, .int (I n1)), (2, .int (I 1)), (0, .ref (q 10)), (1, .int (I n1))]) hx hb dX11_behind_3 rfl hl (by decide) rfl (fun ls hl => ?_)
    exact (hP4 _ _).mp hw (by decide) r_n1  H locs ls hP hD hS (lv_sub hl [2, 1, 0] rfl)
  ·
    intro u2 u3 hw
    refine (hP4 _ _).mpr ?_
    intro r_u2 r_u3 H locs ls hP hD hS hl
    refine lv_iload_n hx hb dX11_behind_4 rfl (lv_at hl 2 rfl) ?_
    refine lv_aload_n hx hb dX11_behind_5 rfl (lv_at hl 0 rfl) ?_
    refine gfX11_size hx hb hts hK hP hown (hts _ tw_745) (x := σ.1 54) rfl dX11_behind_6 ?_
    refine bi_icmp_ge (tgt := 62) hx hb r_u3 (hB.1 54) dX11_behind_9 (by decide) (fun c1 => ?_) (fun c1 => ?_)
    ·
      replace hw := hw.1 c1
      refine lv_iload_n hx hb dX11_behind_62 rfl (lv_at hl 2 rfl) ?_
      exact xri hx hb hr hlk hP hK hD hS ⟨_, r_u3, rfl, rfl, hw⟩ (Nat.le_of_ble_eq_true rfl) (Nat.le_of_ble_eq_true rfl) dX11_behind_63
    ·
      replace hw := hw.2 c1
      refine lv_iload_n hx hb dX11_behind_12 rfl (lv_at hl 1 rfl) ?_
      refine bi_if_le (tgt := 62) hx hb r_u2 dX11_behind_13 (by decide) (fun c2 => ?_) (fun c2 => ?_)
      ·
        replace hw := hw.1 c2
        refine lv_iload_n hx hb dX11_behind_62 rfl (lv_at hl 2 rfl) ?_
        exact xri hx hb hr hlk hP hK hD hS ⟨_, r_u3, rfl, rfl, hw⟩ (Nat.le_of_ble_eq_true rfl) (Nat.le_of_ble_eq_true rfl) dX11_behind_63
      ·
        replace hw := hw.2 c2
        refine lv_aload_n hx hb dX11_behind_16 rfl (lv_at hl 0 rfl) ?_
        refine gfX11_rule hx hb hts hK hP hown (hts _ tw_740) dX11_behind_17 ?_
        refine lv_iload_n hx hb dX11_behind_20 rfl (lv_at hl 2 rfl) ?_
        obtain ⟨c3, hw⟩ := hw
        refine ldCX11_rule hx hb hK hP hN c3 dX11_behind_21 (fun x4 r_x4 e_x4 => ?_)
        replace hw := hw x4 r_x4 e_x4
        refine lv_istore (lv' := [(4, .int (I x4)), (0, .ref (q 10)), (2, .int (I u2)), (3, .int (I u3))]) hx hb dX11_behind_22 hl (by decide) rfl (fun ls hl => ?_)
        refine lv_iload_n hx hb dX11_behind_24 rfl (lv_at hl 2 rfl) ?_
        refine lv_aload_n hx hb dX11_behind_25 rfl (lv_at hl 1 rfl) ?_
        refine gfX11_library hx hb hts hK hP hown (hts _ tw_737) dX11_behind_26 ?_
        refine gfNX3_kind hx hb hts hK hP hown (nb_use hNb tn_69) dX11_behind_29 ?_
        refine lv_iload hx hb dX11_behind_32 (lv_at hl 0 rfl) ?_
        obtain ⟨c5, hw⟩ := hw
        refine ldCX3_kind hx hb hK hP hN c5 dX11_behind_34 (fun x6 r_x6 e_x6 => ?_)
        replace hw := hw x6 r_x6 e_x6
        refine bi_if_ne (tgt := 42) hx hb r_x6 dX11_behind_35 (by decide) (fun c7 => ?_) (fun c7 => ?_)
        ·
          replace hw := hw.1 c7
          refine lv_aload_n hx hb dX11_behind_42 rfl (lv_at hl 1 rfl) ?_
          refine gfX11_assertions hx hb hts hK hP hown (hts _ tw_738) dX11_behind_43 ?_
          refine gfNX0_frameSize hx hb hts hK hP hown (nb_use hNb tn_242) dX11_behind_46 ?_
          refine lv_iload hx hb dX11_behind_49 (lv_at hl 0 rfl) ?_
          refine ldCX0_frameSize hx hb hK hP hN c5 dX11_behind_51 (fun x8 r_x8 e_x8 => ?_)
          replace hw := hw x8 r_x8 e_x8
          refine lv_iconst (v := I 1) hx hb dX11_behind_52 rfl ?_
          refine bi_isub hx hb dX11_behind_53 ?_
          refine bi_iadd hx hb dX11_behind_54 ?_
          refine lv_istore_n (lv' := [(2, .int (I (u2 + (x8 - 1)))), (4, .int (I x4)), (0, .ref (q 10)), (3, .int (I u3))]) hx hb dX11_behind_55 rfl hl (by decide) rfl (fun ls hl => ?_)
          refine lv_iinc (v := I (u3 + 1)) (lv' := [(3, .int (I (u3 + 1))), (2, .int (I (u2 + (x8 - 1)))), (4, .int (I x4)), (0, .ref (q 10))]) hx hb dX11_behind_56 hl (k := 3) rfl (I_add _ _) (by decide) rfl (fun ls hl => ?_)
          refine lv_goto (tgt := 4) hx hb dX11_behind_59 (by decide) ?_
          obtain ⟨c9, hw⟩ := hw
          obtain ⟨c10, hw⟩ := hw
          exact (hP4 _ _).mp hw c9 c10  H locs ls hP hD hS (lv_sub hl [3, 1, 0] rfl)
        ·
          replace hw := hw.2 c7
          refine lv_iconst (v := I (-1)) hx hb dX11_behind_38 rfl ?_
          refine lv_goto (tgt := 54) hx hb dX11_behind_39 (by decide) ?_
          refine bi_iadd hx hb dX11_behind_54 ?_
          refine lv_istore_n (lv' := [(2, .int (I (u2 + (-1)))), (4, .int (I x4)), (0, .ref (q 10)), (3, .int (I u3))]) hx hb dX11_behind_55 rfl hl (by decide) rfl (fun ls hl => ?_)
          refine lv_iinc (v := I (u3 + 1)) (lv' := [(3, .int (I (u3 + 1))), (2, .int (I (u2 + (-1)))), (4, .int (I x4)), (0, .ref (q 10))]) hx hb dX11_behind_56 hl (k := 3) rfl (I_add _ _) (by decide) rfl (fun ls hl => ?_)
          refine lv_goto (tgt := 4) hx hb dX11_behind_59 (by decide) ?_
          obtain ⟨c11, hw⟩ := hw
          obtain ⟨c12, hw⟩ := hw
          exact (hP4 _ _).mp hw c11 c12  H locs ls hP hD hS (lv_sub hl [3, 1, 0] rfl)
def W_X2_partSides (σ : S0) (Q : Int → S0 → Prop) : Prop :=
  ∀ (P50 : Int → Int → S0 → Prop) (P86 : Int → Int → S0 → Prop) (P120 : Int → S0 → Prop) (P142 : Int → Int → Int → S0 → Prop) (P156 : Int → Int → S0 → Prop),
  (∀ (u1 : Int) (u2 : Int) (τ : S0), ((0 ≤ (u1 + 1) ∧ (u1 + 1) < 1501) ∧ (∀ (x11 : Int), rg x11 → x11 = τ.2.1 14 (u1 + 1) → (rg (x11 - 1) ∧ ((x11 - 1) ≤ u2 → P86 u1 u2 τ) ∧ (u2 < (x11 - 1) → (0 ≤ u2 ∧ u2 < 30000) ∧ (∀ (x15 : Int), rg x15 → x15 = τ.2.1 16 u2 → ((¬ x15 = (-1) → P86 u1 u2 τ) ∧ (x15 = (-1) → rg (u2 + 1) ∧ P50 u1 (u2 + 1) τ))))))) → P50 u1 u2 τ) →
  (∀ (u1 : Int) (u2 : Int) (τ : S0), ((0 ≤ u1 ∧ u1 < 1500) ∧ (∀ (x19 : Int), rg x19 → x19 = τ.2.1 27 u1 → ((0 ≤ x19 ∧ x19 < 90000) ∧ (∀ (x21 : Int), rg x21 → x21 = τ.2.1 29 x19 → ((0 ≤ u2 ∧ u2 < 30000) ∧ (∀ (x23 : Int), rg x23 → x23 = τ.2.1 16 u2 → ((¬ x21 = x23 → P120 0 τ) ∧ (x21 = x23 → P120 1 τ)))))))) → P86 u1 u2 τ) →
  (∀ (k0 : Int) (τ : S0), (∃ (Q25 : Int → Prop), W_X11_behind 1 τ Q25 ∧ ∀ (x26 : Int), rg x26 → Q25 x26 → ((k0 = 0 → P142 k0 x26 1 τ) ∧ (¬ k0 = 0 → P142 k0 x26 x26 τ))) → P120 k0 τ) →
  (∀ (u3 : Int) (u4 : Int) (k1 : Int) (τ : S0), ((u3 = 0 → P156 u4 u4 (s_v τ 61 k1)) ∧ (¬ u3 = 0 → P156 u4 1 (s_v τ 61 k1))) → P142 u3 u4 k1 τ) →
  (∀ (u4 : Int) (k1 : Int) (τ : S0), ((τ.1 54 ≤ u4 → Q 0 (s_v τ 62 k1)) ∧ (u4 < τ.1 54 → Q 1 (s_v τ 62 k1))) → P156 u4 k1 τ) →
  ∀ (x1 : Int), rg x1 → x1 = σ.2.1 84 0 → ((0 ≤ x1 ∧ x1 < 1500) ∧ (∀ (x3 : Int), rg x3 → x3 = σ.2.1 13 x1 → ((¬ x3 = 2 → Q 0 σ) ∧ (x3 = 2 → ∀ (x5 : Int), rg x5 → x5 = σ.2.1 28 x1 → ((x5 = 2 → (0 ≤ x1 ∧ x1 < 1501) ∧ (∀ (x8 : Int), rg x8 → x8 = σ.2.1 14 x1 → (rg (x8 + 1) ∧ P50 x1 (x8 + 1) σ))) ∧ (¬ x5 = 2 → Q 0 σ))))))
set_option maxRecDepth 100000 in
set_option maxHeartbeats 4000000 in
theorem L_X2_partSides (l : Launch) (g : gG) (q : Nat → Nat) (lb : Nat) (hlb : lb < 2 ^ 31) {σ : S0} {Q : Int → S0 → Prop} (hN : n_m σ) (hw : W_X2_partSides σ Q) (sz : Nat) : MetI l yX2_partSides cX2_partSides 5 (some .boolean) { frames := 1, cells := 0, slots := 0, locals := 24 } g [.ref (q 11)] (CX g q lb σ) sz xT (p_I (CX g q lb) [61, 62] [] [] σ Q) 0 0 := by
  refine mkMet (Qc := fun A => QI g A (p_I (CX g q lb) [61, 62] [] [] σ Q)) (by decide) (Nat.le_of_ble_eq_true rfl) ?_
  intro p e s m below meth c A H ls hx hb hr hml hown hts hlk hnm hsz hP hK hNb hD hA hAe hS hX hl
  have hl : lv_has ls 5 [(0, .ref (q 11))] := hl
  have hB := hN
  have hF : f_r [61, 62] [] [] σ σ := f_0
  obtain ⟨locs, hlocs⟩ : ∃ z : List Loc, z = [] := ⟨_, rfl⟩
  rw [← hlocs] at hS ⊢
  obtain ⟨P50, hP50⟩ : ∃ P : Int → Int → S0 → Prop, ∀ (u1 : Int) (u2 : Int) (τ : S0), (P u1 u2 τ ↔ (rg u1 → rg u2 → n_m τ → f_r [61, 62] [] [] σ τ → ∀ (H : Heap) (locs : List Loc) (ls : Array Slot), KP g (CX g q lb τ) H → va_D A (CX g q lb τ) → va_S A s.heap H locs → lv_has ls 5 [(0, .ref (q 11)), (1, .int (I u1)), (2, .int (I u2))] → W p l e ({ frames := 1, cells := 0, slots := 0, locals := 24 }) s m [.ref (q 11)].toArray below meth c H locs 0 0 (MQ below (QI g A (p_I (CX g q lb) [61, 62] [] [] σ Q)) [.ref (q 11)].toArray s 0 0 A) (F0 m 50 ls []))) := ⟨_, fun _ _ _ => Iff.rfl⟩
  obtain ⟨P86, hP86⟩ : ∃ P : Int → Int → S0 → Prop, ∀ (u1 : Int) (u2 : Int) (τ : S0), (P u1 u2 τ ↔ (rg u1 → rg u2 → n_m τ → f_r [61, 62] [] [] σ τ → ∀ (H : Heap) (locs : List Loc) (ls : Array Slot), KP g (CX g q lb τ) H → va_D A (CX g q lb τ) → va_S A s.heap H locs → lv_has ls 5 [(0, .ref (q 11)), (1, .int (I u1)), (2, .int (I u2))] → W p l e ({ frames := 1, cells := 0, slots := 0, locals := 24 }) s m [.ref (q 11)].toArray below meth c H locs 0 0 (MQ below (QI g A (p_I (CX g q lb) [61, 62] [] [] σ Q)) [.ref (q 11)].toArray s 0 0 A) (F0 m 86 ls []))) := ⟨_, fun _ _ _ => Iff.rfl⟩
  obtain ⟨P120, hP120⟩ : ∃ P : Int → S0 → Prop, ∀ (k0 : Int) (τ : S0), (P k0 τ ↔ (rg k0 → n_m τ → f_r [61, 62] [] [] σ τ → ∀ (H : Heap) (locs : List Loc) (ls : Array Slot), KP g (CX g q lb τ) H → va_D A (CX g q lb τ) → va_S A s.heap H locs → lv_has ls 5 [(0, .ref (q 11))] → W p l e ({ frames := 1, cells := 0, slots := 0, locals := 24 }) s m [.ref (q 11)].toArray below meth c H locs 0 0 (MQ below (QI g A (p_I (CX g q lb) [61, 62] [] [] σ Q)) [.ref (q 11)].toArray s 0 0 A) (F0 m 120 ls [.int (I k0)]))) := ⟨_, fun _ _ => Iff.rfl⟩
  obtain ⟨P142, hP142⟩ : ∃ P : Int → Int → Int → S0 → Prop, ∀ (u3 : Int) (u4 : Int) (k1 : Int) (τ : S0), (P u3 u4 k1 τ ↔ (rg u3 → rg u4 → rg k1 → n_m τ → f_r [61, 62] [] [] σ τ → ∀ (H : Heap) (locs : List Loc) (ls : Array Slot), KP g (CX g q lb τ) H → va_D A (CX g q lb τ) → va_S A s.heap H locs → lv_has ls 5 [(0, .ref (q 11)), (3, .int (I u3)), (4, .int (I u4))] → W p l e ({ frames := 1, cells := 0, slots := 0, locals := 24 }) s m [.ref (q 11)].toArray below meth c H locs 0 0 (MQ below (QI g A (p_I (CX g q lb) [61, 62] [] [] σ Q)) [.ref (q 11)].toArray s 0 0 A) (F0 m 142 ls [.int (I k1), .ref (q 11)]))) := ⟨_, fun _ _ _ _ => Iff.rfl⟩
  obtain ⟨P156, hP156⟩ : ∃ P : Int → Int → S0 → Prop, ∀ (u4 : Int) (k1 : Int) (τ : S0), (P u4 k1 τ ↔ (rg u4 → rg k1 → n_m τ → f_r [61, 62] [] [] σ τ → ∀ (H : Heap) (locs : List Loc) (ls : Array Slot), KP g (CX g q lb τ) H → va_D A (CX g q lb τ) → va_S A s.heap H locs → lv_has ls 5 [(0, .ref (q 11)), (4, .int (I u4))] → W p l e ({ frames := 1, cells := 0, slots := 0, locals := 24 }) s m [.ref (q 11)].toArray below meth c H locs 0 0 (MQ below (QI g A (p_I (CX g q lb) [61, 62] [] [] σ Q)) [.ref (q 11)].toArray s 0 0 A) (F0 m 156 ls [.int (I k1), .ref (q 11)]))) := ⟨_, fun _ _ _ => Iff.rfl⟩
  refine (fun hw => ?_) (hw P50 P86 P120 P142 P156 ?_ ?_ ?_ ?_ ?_)
  ·
    refine lv_aload_n hx hb dX2_partSides_0 rfl (lv_at hl 0 rfl) ?_
    refine gfX2_tree hx hb hts hK hP hown (hts _ tw_799) dX2_partSides_1 ?_
    refine gfNX11_rule hx hb hts hK hP hown (nb_use hNb tn_741) dX2_partSides_4 ?_
    refine lv_iconst (v := I 0) hx hb dX2_partSides_7 rfl ?_
    refine ldCX11_rule hx hb hK hP hN (by decide) dX2_partSides_8 (fun x1 r_x1 e_x1 => ?_)
    replace hw := hw x1 r_x1 e_x1
    refine lv_istore_n (lv' := [(1, .int (I x1)), (0, .ref (q 11))]) hx hb dX2_partSides_9 rfl hl (by decide) rfl (fun ls hl => ?_)
    refine lv_aload_n hx hb dX2_partSides_10 rfl (lv_at hl 1 rfl) ?_
    refine gfX2_library hx hb hts hK hP hown (hts _ tw_795) dX2_partSides_11 ?_
    refine gfNX3_kind hx hb hts hK hP hown (nb_use hNb tn_71) dX2_partSides_14 ?_
    refine lv_iload_n hx hb dX2_partSides_17 rfl (lv_at hl 0 rfl) ?_
    obtain ⟨c2, hw⟩ := hw
    refine ldCX3_kind hx hb hK hP hN c2 dX2_partSides_18 (fun x3 r_x3 e_x3 => ?_)
    replace hw := hw x3 r_x3 e_x3
    refine lv_iconst (v := I 2) hx hb dX2_partSides_19 rfl ?_
    refine bi_icmp_ne (tgt := 36) hx hb r_x3 (by decide) dX2_partSides_20 (by decide) (fun c4 => ?_) (fun c4 => ?_)
    ·
      replace hw := hw.1 c4
      refine lv_iconst (v := I 0) hx hb dX2_partSides_36 rfl ?_
      exact xrz hx hb hr (by decide) hlk hP hK hD hS ⟨_, _, (by decide), rfl, hN, hF, rfl, hw⟩ (Nat.le_of_ble_eq_true rfl) (Nat.le_of_ble_eq_true rfl) dX2_partSides_37
    ·
      replace hw := hw.2 c4
      refine lv_aload_n hx hb dX2_partSides_23 rfl (lv_at hl 1 rfl) ?_
      refine gfX2_assertions hx hb hts hK hP hown (hts _ tw_796) dX2_partSides_24 ?_
      refine gfNX0_frameSize hx hb hts hK hP hown (nb_use hNb tn_245) dX2_partSides_27 ?_
      refine lv_iload_n hx hb dX2_partSides_30 rfl (lv_at hl 0 rfl) ?_
      refine ldCX0_frameSize hx hb hK hP hN c2 dX2_partSides_31 (fun x5 r_x5 e_x5 => ?_)
      replace hw := hw x5 r_x5 e_x5
      refine lv_iconst (v := I 2) hx hb dX2_partSides_32 rfl ?_
      refine bi_icmp_eq (tgt := 38) hx hb r_x5 (by decide) dX2_partSides_33 (by decide) (fun c6 => ?_) (fun c6 => ?_)
      ·
        replace hw := hw.1 c6
        refine lv_aload_n hx hb dX2_partSides_38 rfl (lv_at hl 1 rfl) ?_
        refine gfX2_library hx hb hts hK hP hown (hts _ tw_795) dX2_partSides_39 ?_
        refine gfNX3_at hx hb hts hK hP hown (nb_use hNb tn_82) dX2_partSides_42 ?_
        refine lv_iload_n hx hb dX2_partSides_45 rfl (lv_at hl 0 rfl) ?_
        obtain ⟨c7, hw⟩ := hw
        refine ldCX3_at hx hb hK hP hN c7 dX2_partSides_46 (fun x8 r_x8 e_x8 => ?_)
        replace hw := hw x8 r_x8 e_x8
        refine lv_iconst (v := I 1) hx hb dX2_partSides_47 rfl ?_
        refine bi_iadd hx hb dX2_partSides_48 ?_
        refine lv_istore_n (lv' := [(2, .int (I (x8 + 1))), (1, .int (I x1)), (0, .ref (q 11))]) hx hb dX2_partSides_49 rfl hl (by decide) rfl (fun ls hl => ?_)
        obtain ⟨c9, hw⟩ := hw
        exact (hP50 _ _ _).mp hw r_x1 c9 hN hF H locs ls hP hD hS (lv_sub hl [2, 1, 0] rfl)
      ·
        replace hw := hw.2 c6
        refine lv_iconst (v := I 0) hx hb dX2_partSides_36 rfl ?_
        exact xrz hx hb hr (by decide) hlk hP hK hD hS ⟨_, _, (by decide), rfl, hN, hF, rfl, hw⟩ (Nat.le_of_ble_eq_true rfl) (Nat.le_of_ble_eq_true rfl) dX2_partSides_37
  ·
    intro u1 u2 τ hw
    refine (hP50 _ _ _).mpr ?_
    intro r_u1 r_u2 hN hF H locs ls hP hD hS hl
    have hB := hN
    refine lv_iload_n hx hb dX2_partSides_50 rfl (lv_at hl 2 rfl) ?_
    refine lv_aload_n hx hb dX2_partSides_51 rfl (lv_at hl 0 rfl) ?_
    refine gfX2_library hx hb hts hK hP hown (hts _ tw_795) dX2_partSides_52 ?_
    refine gfNX3_at hx hb hts hK hP hown (nb_use hNb tn_82) dX2_partSides_55 ?_
    refine lv_iload_n hx hb dX2_partSides_58 rfl (lv_at hl 1 rfl) ?_
    refine lv_iconst (v := I 1) hx hb dX2_partSides_59 rfl ?_
    refine bi_iadd hx hb dX2_partSides_60 ?_
    obtain ⟨c10, hw⟩ := hw
    refine ldCX3_at hx hb hK hP hN c10 dX2_partSides_61 (fun x11 r_x11 e_x11 => ?_)
    replace hw := hw x11 r_x11 e_x11
    refine lv_iconst (v := I 1) hx hb dX2_partSides_62 rfl ?_
    refine bi_isub hx hb dX2_partSides_63 ?_
    obtain ⟨c12, hw⟩ := hw
    refine bi_icmp_ge (tgt := 86) hx hb r_u2 c12 dX2_partSides_64 (by decide) (fun c13 => ?_) (fun c13 => ?_)
    ·
      replace hw := hw.1 c13
      exact (hP86 _ _ _).mp hw r_u1 r_u2 hN hF H locs ls hP hD hS (lv_sub hl [0, 1, 2] rfl)
    ·
      replace hw := hw.2 c13
      refine lv_aload_n hx hb dX2_partSides_67 rfl (lv_at hl 0 rfl) ?_
      refine gfX2_library hx hb hts hK hP hown (hts _ tw_795) dX2_partSides_68 ?_
      refine gfNX3_floats hx hb hts hK hP hown (nb_use hNb tn_98) dX2_partSides_71 ?_
      refine lv_iload_n hx hb dX2_partSides_74 rfl (lv_at hl 2 rfl) ?_
      obtain ⟨c14, hw⟩ := hw
      refine ldCX3_floats hx hb hK hP hN c14 dX2_partSides_75 (fun x15 r_x15 e_x15 => ?_)
      replace hw := hw x15 r_x15 e_x15
      refine lv_iconst (v := I (-1)) hx hb dX2_partSides_76 rfl ?_
      refine bi_icmp_ne (tgt := 86) hx hb r_x15 (by decide) dX2_partSides_77 (by decide) (fun c16 => ?_) (fun c16 => ?_)
      ·
        replace hw := hw.1 c16
        exact (hP86 _ _ _).mp hw r_u1 r_u2 hN hF H locs ls hP hD hS (lv_sub hl [0, 1, 2] rfl)
      ·
        replace hw := hw.2 c16
        refine lv_iinc (v := I (u2 + 1)) (lv' := [(2, .int (I (u2 + 1))), (0, .ref (q 11)), (1, .int (I u1))]) hx hb dX2_partSides_80 hl (k := 2) rfl (I_add _ _) (by decide) rfl (fun ls hl => ?_)
        refine lv_goto (tgt := 50) hx hb dX2_partSides_83 (by decide) ?_
        obtain ⟨c17, hw⟩ := hw
        exact (hP50 _ _ _).mp hw r_u1 c17 hN hF H locs ls hP hD hS (lv_sub hl [1, 2, 0] rfl)
  ·
    intro u1 u2 τ hw
    refine (hP86 _ _ _).mpr ?_
    intro r_u1 r_u2 hN hF H locs ls hP hD hS hl
    have hB := hN
    refine lv_aload_n hx hb dX2_partSides_86 rfl (lv_at hl 0 rfl) ?_
    refine gfX2_assertions hx hb hts hK hP hown (hts _ tw_796) dX2_partSides_87 ?_
    refine gfNX0_hypotheses hx hb hts hK hP hown (nb_use hNb tn_252) dX2_partSides_90 ?_
    refine lv_aload_n hx hb dX2_partSides_93 rfl (lv_at hl 0 rfl) ?_
    refine gfX2_assertions hx hb hts hK hP hown (hts _ tw_796) dX2_partSides_94 ?_
    refine gfNX0_frameAt hx hb hts hK hP hown (nb_use hNb tn_237) dX2_partSides_97 ?_
    refine lv_iload_n hx hb dX2_partSides_100 rfl (lv_at hl 1 rfl) ?_
    obtain ⟨c18, hw⟩ := hw
    refine ldCX0_frameAt hx hb hK hP hN c18 dX2_partSides_101 (fun x19 r_x19 e_x19 => ?_)
    replace hw := hw x19 r_x19 e_x19
    obtain ⟨c20, hw⟩ := hw
    refine ldCX0_hypotheses hx hb hK hP hN c20 dX2_partSides_102 (fun x21 r_x21 e_x21 => ?_)
    replace hw := hw x21 r_x21 e_x21
    refine lv_aload_n hx hb dX2_partSides_103 rfl (lv_at hl 0 rfl) ?_
    refine gfX2_library hx hb hts hK hP hown (hts _ tw_795) dX2_partSides_104 ?_
    refine gfNX3_floats hx hb hts hK hP hown (nb_use hNb tn_98) dX2_partSides_107 ?_
    refine lv_iload_n hx hb dX2_partSides_110 rfl (lv_at hl 2 rfl) ?_
    obtain ⟨c22, hw⟩ := hw
    refine ldCX3_floats hx hb hK hP hN c22 dX2_partSides_111 (fun x23 r_x23 e_x23 => ?_)
    replace hw := hw x23 r_x23 e_x23
    refine bi_icmp_ne (tgt := 119) hx hb r_x21 r_x23 dX2_partSides_112 (by decide) (fun c24 => ?_) (fun c24 => ?_)
    ·
      replace hw := hw.1 c24
      refine lv_iconst (v := I 0) hx hb dX2_partSides_119 rfl ?_
      exact (hP120 _ _).mp hw (by decide) hN hF H locs ls hP hD hS (lv_sub hl [0] rfl)
    ·
      replace hw := hw.2 c24
      refine lv_iconst (v := I 1) hx hb dX2_partSides_115 rfl ?_
      refine lv_goto (tgt := 120) hx hb dX2_partSides_116 (by decide) ?_
      exact (hP120 _ _).mp hw (by decide) hN hF H locs ls hP hD hS (lv_sub hl [0] rfl)
  ·
    intro k0 τ hw
    refine (hP120 _ _).mpr ?_
    intro r_k0 hN hF H locs ls hP hD hS hl
    have hB := hN
    refine lv_istore_n (lv' := [(3, .int (I k0)), (0, .ref (q 11))]) hx hb dX2_partSides_120 rfl hl (by decide) rfl (fun ls hl => ?_)
    refine lv_aload_n hx hb dX2_partSides_121 rfl (lv_at hl 1 rfl) ?_
    refine gfX2_tree hx hb hts hK hP hown (hts _ tw_799) dX2_partSides_122 ?_
    refine lv_iconst (v := I 1) hx hb dX2_partSides_125 rfl ?_
    obtain ⟨Q25, hc, hw⟩ := hw
    refine wc_i (X := CX g q lb) (va_runV (As := [.int (I 1)]) (rest := []) ⟨hx, hb, hml, hown, hts⟩ (L_X11_behind l g q lb hlb (by decide) hN hc H.size) (cwV 1 hts (TB_V tw_1825 tw_1826 tw_1827 tw_12 co_X11_behind) rfl rfl rfl (by decide +kernel) ⟨Nat.le_of_ble_eq_true rfl, Nat.le_of_ble_eq_true rfl⟩) (preV (q0 := 10) (ci := 11) rfl xT_bl hP hK hNb hD rfl rfl xT_at) rfl rfl hl.1 rfl (lv_room (Nat.le_of_ble_eq_true rfl)) dX2_partSides_126 ⟨Nat.le_of_ble_eq_true rfl, Nat.le_of_ble_eq_true rfl⟩) hP hD hS hA (fun x26 H locs r_x26 hq hP hD hS => ?_)
    replace hw := hw x26 r_x26 hq
    refine lv_istore (lv' := [(4, .int (I x26)), (3, .int (I k0)), (0, .ref (q 11))]) hx hb dX2_partSides_129 hl (by decide) rfl (fun ls hl => ?_)
    refine lv_aload_n hx hb dX2_partSides_131 rfl (lv_at hl 2 rfl) ?_
    refine lv_iload_n hx hb dX2_partSides_132 rfl (lv_at hl 1 rfl) ?_
    refine bi_if_eq (tgt := 141) hx hb r_k0 dX2_partSides_133 (by decide) (fun c28 => ?_) (fun c28 => ?_)
    ·
      replace hw := hw.1 c28
      refine lv_iconst (v := I 1) hx hb dX2_partSides_141 rfl ?_
      exact (hP142 _ _ _ _).mp hw r_k0 r_x26 (by decide) hN hF H locs ls hP hD hS (lv_sub hl [2, 1, 0] rfl)
    ·
      replace hw := hw.2 c28
      refine lv_iload hx hb dX2_partSides_136 (lv_at hl 0 rfl) ?_
      refine lv_goto (tgt := 142) hx hb dX2_partSides_138 (by decide) ?_
      exact (hP142 _ _ _ _).mp hw r_k0 r_x26 r_x26 hN hF H locs ls hP hD hS (lv_sub hl [2, 1, 0] rfl)
  ·
    intro u3 u4 k1 τ hw
    refine (hP142 _ _ _ _).mpr ?_
    intro r_u3 r_u4 r_k1 hN hF H locs ls hP hD hS hl
    have hB := hN
    refine pfX2_firstTree hx hb hts hK hP hD hS hown (hts _ tw_814) dX2_partSides_142 (fun H locs hP hD hS => ?_)
    have hN : n_m (s_v τ 61 k1) := n_v (i := 61) hN (r_k1 : rg k1)
    have hF : f_r [61, 62] [] [] σ (s_v τ 61 k1) := f_v hF (by decide)
    refine lv_aload_n hx hb dX2_partSides_145 rfl (lv_at hl 0 rfl) ?_
    refine lv_iload_n hx hb dX2_partSides_146 rfl (lv_at hl 1 rfl) ?_
    refine bi_if_eq (tgt := 154) hx hb r_u3 dX2_partSides_147 (by decide) (fun c29 => ?_) (fun c29 => ?_)
    ·
      replace hw := hw.1 c29
      refine lv_iload hx hb dX2_partSides_154 (lv_at hl 2 rfl) ?_
      exact (hP156 _ _ _).mp hw r_u4 r_u4 hN hF H locs ls hP hD hS (lv_sub hl [0, 2] rfl)
    ·
      replace hw := hw.2 c29
      refine lv_iconst (v := I 1) hx hb dX2_partSides_150 rfl ?_
      refine lv_goto (tgt := 156) hx hb dX2_partSides_151 (by decide) ?_
      exact (hP156 _ _ _).mp hw r_u4 (by decide) hN hF H locs ls hP hD hS (lv_sub hl [0, 2] rfl)
  ·
    intro u4 k1 τ hw
    refine (hP156 _ _ _).mpr ?_
    intro r_u4 r_k1 hN hF H locs ls hP hD hS hl
    have hB := hN
    refine pfX2_secondTree hx hb hts hK hP hD hS hown (hts _ tw_815) dX2_partSides_156 (fun H locs hP hD hS => ?_)
    have hN : n_m (s_v τ 62 k1) := n_v (i := 62) hN (r_k1 : rg k1)
    have hF : f_r [61, 62] [] [] σ (s_v τ 62 k1) := f_v hF (by decide)
    refine lv_iload hx hb dX2_partSides_159 (lv_at hl 1 rfl) ?_
    refine lv_aload_n hx hb dX2_partSides_161 rfl (lv_at hl 0 rfl) ?_
    refine gfX2_tree hx hb hts hK hP hown (hts _ tw_799) dX2_partSides_162 ?_
    refine gfNX11_size hx hb hts hK hP hown (nb_use hNb tn_746) (x := τ.1 54) rfl dX2_partSides_165 ?_
    refine bi_icmp_ge (tgt := 175) hx hb r_u4 (hB.1 54) dX2_partSides_168 (by decide) (fun c30 => ?_) (fun c30 => ?_)
    ·
      replace hw := hw.1 c30
      refine lv_iconst (v := I 0) hx hb dX2_partSides_175 rfl ?_
      exact xrz hx hb hr (by decide) hlk hP hK hD hS ⟨_, _, (by decide), rfl, hN, hF, rfl, hw⟩ (Nat.le_of_ble_eq_true rfl) (Nat.le_of_ble_eq_true rfl) dX2_partSides_176
    ·
      replace hw := hw.2 c30
      refine lv_iconst (v := I 1) hx hb dX2_partSides_171 rfl ?_
      refine lv_goto (tgt := 176) hx hb dX2_partSides_172 (by decide) ?_
      exact xrz hx hb hr (by decide) hlk hP hK hD hS ⟨_, _, (by decide), rfl, hN, hF, rfl, hw⟩ (Nat.le_of_ble_eq_true rfl) (Nat.le_of_ble_eq_true rfl) dX2_partSides_176
def W_X2_fillSlots (n1 : Int) (σ : S0) (Q : Int → S0 → Prop) : Prop :=
  ∀ (P12 : Int → Int → S0 → Prop),
  (∀ (u2 : Int) (u3 : Int) (τ : S0), ((u2 < u3 → Q 1 τ) ∧ (u3 ≤ u2 → (0 ≤ (τ.1 61 + u3) ∧ (τ.1 61 + u3) < 12000) ∧ (∀ (x5 : Int), rg x5 → x5 = τ.2.1 84 (τ.1 61 + u3) → ((0 ≤ x5 ∧ x5 < 1500) ∧ (∀ (x7 : Int), rg x7 → x7 = τ.2.1 13 x5 → ((¬ x7 = 0 → Q 0 τ) ∧ (x7 = 0 → ∃ (Q9 : Int → Prop), W_X3_variableOf x5 τ Q9 ∧ ∀ (x10 : Int), rg x10 → Q9 x10 → ((0 ≤ x10 ∧ x10 < 1000) ∧ (∀ (x13 : Int), rg x13 → x13 = τ.2.1 100 x10 → ((x13 = 0 → ∃ (Q15 : Int → Prop), W_X3_variableOf x5 τ Q15 ∧ ∀ (x16 : Int), rg x16 → Q15 x16 → ((0 ≤ x16 ∧ x16 < 1000) ∧ (rg ((1000 + u2) - u3) ∧ rg (u3 + 1) ∧ P12 u2 (u3 + 1) (s_a τ 100 x16 ((1000 + u2) - u3))))) ∧ (¬ x13 = 0 → Q 0 τ))))))))))) → P12 u2 u3 τ) →
  (0 ≤ n1 ∧ n1 < 1500) ∧ (∀ (x2 : Int), rg x2 → x2 = σ.2.1 28 n1 → (P12 x2 1 σ))
set_option maxRecDepth 100000 in
set_option maxHeartbeats 4000000 in
theorem L_X2_fillSlots (l : Launch) (g : gG) (q : Nat → Nat) (lb : Nat) (hlb : lb < 2 ^ 31) {n1 : Int} {σ : S0} {Q : Int → S0 → Prop} (r_n1 : rg n1) (hN : n_m σ) (hw : W_X2_fillSlots n1 σ Q) (sz : Nat) : MetI l yX2_fillSlots cX2_fillSlots 5 (some .boolean) { frames := 1, cells := 0, slots := 0, locals := 21 } g [.ref (q 11), .int (I n1)] (CX g q lb σ) sz xT (p_I (CX g q lb) [] [100] [] σ Q) 0 0 := by
  refine mkMet (Qc := fun A => QI g A (p_I (CX g q lb) [] [100] [] σ Q)) (by decide) (Nat.le_of_ble_eq_true rfl) ?_
  intro p e s m below meth c A H ls hx hb hr hml hown hts hlk hnm hsz hP hK hNb hD hA hAe hS hX hl
  have hl : lv_has ls 5 [(0, .ref (q 11)), (1, .int (I n1))] := hl
  have hB := hN
  have hF : f_r [] [100] [] σ σ := f_0
  obtain ⟨locs, hlocs⟩ : ∃ z : List Loc, z = [] := ⟨_, rfl⟩
  rw [← hlocs] at hS ⊢
  obtain ⟨P12, hP12⟩ : ∃ P : Int → Int → S0 → Prop, ∀ (u2 : Int) (u3 : Int) (τ : S0), (P u2 u3 τ ↔ (rg u2 → rg u3 → n_m τ → f_r [] [100] [] σ τ → ∀ (H : Heap) (locs : List Loc) (ls : Array Slot), KP g (CX g q lb τ) H → va_D A (CX g q lb τ) → va_S A s.heap H locs → lv_has ls 5 [(0, .ref (q 11)), (2, .int (I u2)), (3, .int (I u3))] → W p l e ({ frames := 1, cells := 0, slots := 0, locals := 21 }) s m [.ref (q 11), .int (I n1)].toArray below meth c H locs 0 0 (MQ below (QI g A (p_I (CX g q lb) [] [100] [] σ Q)) [.ref (q 11), .int (I n1)].toArray s 0 0 A) (F0 m 12 ls []))) := ⟨_, fun _ _ _ => Iff.rfl⟩
  refine (fun hw => ?_) (hw P12 ?_)
  ·
    refine lv_aload_n hx hb dX2_fillSlots_0 rfl (lv_at hl 0 rfl) ?_
    refine gfX2_assertions hx hb hts hK hP hown (hts _ tw_796) dX2_fillSlots_1 ?_
    refine gfNX0_frameSize hx hb hts hK hP hown (nb_use hNb tn_245) dX2_fillSlots_4 ?_
    refine lv_iload_n hx hb dX2_fillSlots_7 rfl (lv_at hl 1 rfl) ?_
    obtain ⟨c1, hw⟩ := hw
    refine ldCX0_frameSize hx hb hK hP hN c1 dX2_fillSlots_8 (fun x2 r_x2 e_x2 => ?_)
    replace hw := hw x2 r_x2 e_x2
    refine lv_istore_n (lv' := [(2, .int (I x2)), (0, .ref (q 11)), (1, .int (I n1))]) hx hb dX2_fillSlots_9 rfl hl (by decide) rfl (fun ls hl => ?_)
    refine lv_iconst (v := I 1) hx hb dX2_fillSlots_10 rfl ?_
    refine lv_istore_n (lv' := [(3, .int (I 1)), (2, .int (I x2)), (0, .ref (q 11)), (1, .int (I n1))]) hx hb dX2_fillSlots_11 rfl hl (by decide) rfl (fun ls hl => ?_)
    exact (hP12 _ _ _).mp hw r_x2 (by decide) hN hF H locs ls hP hD hS (lv_sub hl [2, 1, 0] rfl)
  ·
    intro u2 u3 τ hw
    refine (hP12 _ _ _).mpr ?_
    intro r_u2 r_u3 hN hF H locs ls hP hD hS hl
    have hB := hN
    refine lv_iload_n hx hb dX2_fillSlots_12 rfl (lv_at hl 2 rfl) ?_
    refine lv_iload_n hx hb dX2_fillSlots_13 rfl (lv_at hl 1 rfl) ?_
    refine bi_icmp_gt (tgt := 92) hx hb r_u3 r_u2 dX2_fillSlots_14 (by decide) (fun c3 => ?_) (fun c3 => ?_)
    ·
      replace hw := hw.1 c3
      refine lv_iconst (v := I 1) hx hb dX2_fillSlots_92 rfl ?_
      exact xrz hx hb hr (by decide) hlk hP hK hD hS ⟨_, _, (by decide), rfl, hN, hF, rfl, hw⟩ (Nat.le_of_ble_eq_true rfl) (Nat.le_of_ble_eq_true rfl) dX2_fillSlots_93
    ·
      replace hw := hw.2 c3
      refine lv_aload_n hx hb dX2_fillSlots_17 rfl (lv_at hl 0 rfl) ?_
      refine gfX2_tree hx hb hts hK hP hown (hts _ tw_799) dX2_fillSlots_18 ?_
      refine gfNX11_rule hx hb hts hK hP hown (nb_use hNb tn_741) dX2_fillSlots_21 ?_
      refine lv_aload_n hx hb dX2_fillSlots_24 rfl (lv_at hl 0 rfl) ?_
      refine gfX2_firstTree hx hb hts hK hP hown (hts _ tw_814) (x := τ.1 61) rfl dX2_fillSlots_25 ?_
      refine lv_iload_n hx hb dX2_fillSlots_28 rfl (lv_at hl 2 rfl) ?_
      refine bi_iadd hx hb dX2_fillSlots_29 ?_
      obtain ⟨c4, hw⟩ := hw
      refine ldCX11_rule hx hb hK hP hN c4 dX2_fillSlots_30 (fun x5 r_x5 e_x5 => ?_)
      replace hw := hw x5 r_x5 e_x5
      refine lv_istore (lv' := [(4, .int (I x5)), (0, .ref (q 11)), (2, .int (I u2)), (3, .int (I u3))]) hx hb dX2_fillSlots_31 hl (by decide) rfl (fun ls hl => ?_)
      refine lv_aload_n hx hb dX2_fillSlots_33 rfl (lv_at hl 1 rfl) ?_
      refine gfX2_library hx hb hts hK hP hown (hts _ tw_795) dX2_fillSlots_34 ?_
      refine gfNX3_kind hx hb hts hK hP hown (nb_use hNb tn_71) dX2_fillSlots_37 ?_
      refine lv_iload hx hb dX2_fillSlots_40 (lv_at hl 0 rfl) ?_
      obtain ⟨c6, hw⟩ := hw
      refine ldCX3_kind hx hb hK hP hN c6 dX2_fillSlots_42 (fun x7 r_x7 e_x7 => ?_)
      replace hw := hw x7 r_x7 e_x7
      refine bi_if_ne (tgt := 63) hx hb r_x7 dX2_fillSlots_43 (by decide) (fun c8 => ?_) (fun c8 => ?_)
      ·
        replace hw := hw.1 c8
        refine lv_iconst (v := I 0) hx hb dX2_fillSlots_63 rfl ?_
        exact xrz hx hb hr (by decide) hlk hP hK hD hS ⟨_, _, (by decide), rfl, hN, hF, rfl, hw⟩ (Nat.le_of_ble_eq_true rfl) (Nat.le_of_ble_eq_true rfl) dX2_fillSlots_64
      ·
        replace hw := hw.2 c8
        refine lv_aload_n hx hb dX2_fillSlots_46 rfl (lv_at hl 1 rfl) ?_
        refine gfX2_slots hx hb hts hK hP hown (hts _ tw_813) dX2_fillSlots_47 ?_
        refine lv_aload_n hx hb dX2_fillSlots_50 rfl (lv_at hl 1 rfl) ?_
        refine gfX2_library hx hb hts hK hP hown (hts _ tw_795) dX2_fillSlots_51 ?_
        refine lv_iload hx hb dX2_fillSlots_54 (lv_at hl 0 rfl) ?_
        obtain ⟨Q9, hc, hw⟩ := hw
        refine wc_i (X := CX g q lb) (va_runV (As := [.int (I x5)]) (rest := [.ref (q 122)]) ⟨hx, hb, hml, hown, hts⟩ (L_X3_variableOf l g q lb hlb r_x5 hN hc H.size) (cwV 1 hts (TB_V tw_1833 tw_1022 tw_1023 tw_2 co_X3_variableOf) rfl rfl rfl (by decide +kernel) ⟨Nat.le_of_ble_eq_true rfl, Nat.le_of_ble_eq_true rfl⟩) (preV (q0 := 1) (ci := 3) rfl xT_bl hP hK hNb hD rfl rfl xT_at) rfl rfl hl.1 rfl (lv_room (Nat.le_of_ble_eq_true rfl)) dX2_fillSlots_56 ⟨Nat.le_of_ble_eq_true rfl, Nat.le_of_ble_eq_true rfl⟩) hP hD hS hA (fun x10 H locs r_x10 hq hP hD hS => ?_)
        replace hw := hw x10 r_x10 hq
        obtain ⟨c12, hw⟩ := hw
        refine ldCX2_slots hx hb hK hP hN c12 dX2_fillSlots_59 (fun x13 r_x13 e_x13 => ?_)
        replace hw := hw x13 r_x13 e_x13
        refine bi_if_eq (tgt := 65) hx hb r_x13 dX2_fillSlots_60 (by decide) (fun c14 => ?_) (fun c14 => ?_)
        ·
          replace hw := hw.1 c14
          refine lv_aload_n hx hb dX2_fillSlots_65 rfl (lv_at hl 1 rfl) ?_
          refine gfX2_slots hx hb hts hK hP hown (hts _ tw_813) dX2_fillSlots_66 ?_
          refine lv_aload_n hx hb dX2_fillSlots_69 rfl (lv_at hl 1 rfl) ?_
          refine gfX2_library hx hb hts hK hP hown (hts _ tw_795) dX2_fillSlots_70 ?_
          refine lv_iload hx hb dX2_fillSlots_73 (lv_at hl 0 rfl) ?_
          obtain ⟨Q15, hc, hw⟩ := hw
          refine wc_i (X := CX g q lb) (va_runV (As := [.int (I x5)]) (rest := [.ref (q 122)]) ⟨hx, hb, hml, hown, hts⟩ (L_X3_variableOf l g q lb hlb r_x5 hN hc H.size) (cwV 1 hts (TB_V tw_1833 tw_1022 tw_1023 tw_2 co_X3_variableOf) rfl rfl rfl (by decide +kernel) ⟨Nat.le_of_ble_eq_true rfl, Nat.le_of_ble_eq_true rfl⟩) (preV (q0 := 1) (ci := 3) rfl xT_bl hP hK hNb hD rfl rfl xT_at) rfl rfl hl.1 rfl (lv_room (Nat.le_of_ble_eq_true rfl)) dX2_fillSlots_75 ⟨Nat.le_of_ble_eq_true rfl, Nat.le_of_ble_eq_true rfl⟩) hP hD hS hA (fun x16 H locs r_x16 hq hP hD hS => ?_)
          replace hw := hw x16 r_x16 hq
          refine lv_sipush (v := I 1000) hx hb dX2_fillSlots_78 (by decide) ?_
          refine lv_iload_n hx hb dX2_fillSlots_81 rfl (lv_at hl 2 rfl) ?_
          refine bi_iadd hx hb dX2_fillSlots_82 ?_
          refine lv_iload_n hx hb dX2_fillSlots_83 rfl (lv_at hl 3 rfl) ?_
          refine bi_isub hx hb dX2_fillSlots_84 ?_
          obtain ⟨c18, hw⟩ := hw
          obtain ⟨c19, hw⟩ := hw
          refine sdCX2_slots hx hb hK hP hD hS c18 dX2_fillSlots_85 (fun H locs hP hD hS => ?_)
          have hN : n_m (s_a τ 100 x16 ((1000 + u2) - u3)) := n_a (k := 100) (j := x16) hN (c19 : rg ((1000 + u2) - u3))
          have hF : f_r [] [100] [] σ (s_a τ 100 x16 ((1000 + u2) - u3)) := f_a hF (by decide)
          refine lv_iinc (v := I (u3 + 1)) (lv' := [(3, .int (I (u3 + 1))), (4, .int (I x5)), (0, .ref (q 11)), (2, .int (I u2))]) hx hb dX2_fillSlots_86 hl (k := 3) rfl (I_add _ _) (by decide) rfl (fun ls hl => ?_)
          refine lv_goto (tgt := 12) hx hb dX2_fillSlots_89 (by decide) ?_
          obtain ⟨c20, hw⟩ := hw
          exact (hP12 _ _ _).mp hw r_u2 c20 hN hF H locs ls hP hD hS (lv_sub hl [2, 3, 0] rfl)
        ·
          replace hw := hw.2 c14
          refine lv_iconst (v := I 0) hx hb dX2_fillSlots_63 rfl ?_
          exact xrz hx hb hr (by decide) hlk hP hK hD hS ⟨_, _, (by decide), rfl, hN, hF, rfl, hw⟩ (Nat.le_of_ble_eq_true rfl) (Nat.le_of_ble_eq_true rfl) dX2_fillSlots_64
def W_X2_secondHasNoOther (n1 : Int) (σ : S0) (Q : Int → Prop) : Prop :=
  ∀ (P17 : Int → Int → Int → Prop),
  (∀ (u1 : Int) (u2 : Int) (u3 : Int), ((u2 ≤ u3 → Q 1) ∧ (u3 < u2 → (0 ≤ u3 ∧ u3 < 12000) ∧ (∀ (x6 : Int), rg x6 → x6 = σ.2.1 84 u3 → ((x6 = u1 → Q 0) ∧ (¬ x6 = u1 → (0 ≤ x6 ∧ x6 < 1500) ∧ (∀ (x9 : Int), rg x9 → x9 = σ.2.1 13 x6 → ((¬ x9 = 0 → rg (u3 + 1) ∧ P17 u1 u2 (u3 + 1)) ∧ (x9 = 0 → ∃ (Q12 : Int → Prop), W_X3_variableOf x6 σ Q12 ∧ ∀ (x13 : Int), rg x13 → Q12 x13 → ((0 ≤ x13 ∧ x13 < 1000) ∧ (∀ (x16 : Int), rg x16 → x16 = σ.2.1 100 x13 → ((¬ x16 = 0 → rg (u3 + 1) ∧ P17 u1 u2 (u3 + 1)) ∧ (x16 = 0 → Q 0)))))))))))) → P17 u1 u2 u3) →
  ∃ (Q1 : Int → Prop), W_X11_behind (σ.1 62) σ Q1 ∧ ∀ (x2 : Int), rg x2 → Q1 x2 → (P17 n1 x2 (σ.1 62))
set_option maxRecDepth 100000 in
set_option maxHeartbeats 4000000 in
theorem L_X2_secondHasNoOther (l : Launch) (g : gG) (q : Nat → Nat) (lb : Nat) (hlb : lb < 2 ^ 31) {n1 : Int} {σ : S0} {Q : Int → Prop} (r_n1 : rg n1) (hN : n_m σ) (hw : W_X2_secondHasNoOther n1 σ Q) (sz : Nat) : MetI l yX2_secondHasNoOther cX2_secondHasNoOther 5 (some .boolean) { frames := 1, cells := 0, slots := 0, locals := 24 } g [.ref (q 11), .int (I n1)] (CX g q lb σ) sz xT (p_i (CX g q lb) σ Q) 0 0 := by
  refine mkMet (Qc := fun A => QI g A (p_i (CX g q lb) σ Q)) (by decide) (Nat.le_of_ble_eq_true rfl) ?_
  intro p e s m below meth c A H ls hx hb hr hml hown hts hlk hnm hsz hP hK hNb hD hA hAe hS hX hl
  have hl : lv_has ls 5 [(0, .ref (q 11)), (1, .int (I n1))] := hl
  have hB := hN
  obtain ⟨locs, hlocs⟩ : ∃ z : List Loc, z = [] := ⟨_, rfl⟩
  rw [← hlocs] at hS ⊢
  obtain ⟨P17, hP17⟩ : ∃ P : Int → Int → Int → Prop, ∀ (u1 : Int) (u2 : Int) (u3 : Int), (P u1 u2 u3 ↔ (rg u1 → rg u2 → rg u3 → ∀ (H : Heap) (locs : List Loc) (ls : Array Slot), KP g (CX g q lb σ) H → va_D A (CX g q lb σ) → va_S A s.heap H locs → lv_has ls 5 [(0, .ref (q 11)), (1, .int (I u1)), (2, .int (I u2)), (3, .int (I u3))] → W p l e ({ frames := 1, cells := 0, slots := 0, locals := 24 }) s m [.ref (q 11), .int (I n1)].toArray below meth c H locs 0 0 (MQ below (QI g A (p_i (CX g q lb) σ Q)) [.ref (q 11), .int (I n1)].toArray s 0 0 A) (F0 m 17 ls []))) := ⟨_, fun _ _ _ => Iff.rfl⟩
  refine (fun hw => ?_) (hw P17 ?_)
  ·
    refine lv_aload_n hx hb dX2_secondHasNoOther_0 rfl (lv_at hl 0 rfl) ?_
    refine gfX2_tree hx hb hts hK hP hown (hts _ tw_799) dX2_secondHasNoOther_1 ?_
    refine lv_aload_n hx hb dX2_secondHasNoOther_4 rfl (lv_at hl 0 rfl) ?_
    refine gfX2_secondTree hx hb hts hK hP hown (hts _ tw_815) (x := σ.1 62) rfl dX2_secondHasNoOther_5 ?_
    obtain ⟨Q1, hc, hw⟩ := hw
    refine wc_i (X := CX g q lb) (va_runV (As := [.int (I (σ.1 62))]) (rest := []) ⟨hx, hb, hml, hown, hts⟩ (L_X11_behind l g q lb hlb (hB.1 62) hN hc H.size) (cwV 1 hts (TB_V tw_1825 tw_1826 tw_1827 tw_12 co_X11_behind) rfl rfl rfl (by decide +kernel) ⟨Nat.le_of_ble_eq_true rfl, Nat.le_of_ble_eq_true rfl⟩) (preV (q0 := 10) (ci := 11) rfl xT_bl hP hK hNb hD rfl rfl xT_at) rfl rfl hl.1 rfl (lv_room (Nat.le_of_ble_eq_true rfl)) dX2_secondHasNoOther_8 ⟨Nat.le_of_ble_eq_true rfl, Nat.le_of_ble_eq_true rfl⟩) hP hD hS hA (fun x2 H locs r_x2 hq hP hD hS => ?_)
    replace hw := hw x2 r_x2 hq
    refine lv_istore_n (lv' := [(2, .int (I x2)), (0, .ref (q 11)), (1, .int (I n1))]) hx hb dX2_secondHasNoOther_11 rfl hl (by decide) rfl (fun ls hl => ?_)
    refine lv_aload_n hx hb dX2_secondHasNoOther_12 rfl (lv_at hl 1 rfl) ?_
    refine gfX2_secondTree hx hb hts hK hP hown (hts _ tw_815) (x := σ.1 62) rfl dX2_secondHasNoOther_13 ?_
    refine lv_istore_n (lv' := [(3, .int (I (σ.1 62))), (2, .int (I x2)), (0, .ref (q 11)), (1, .int (I n1))]) hx hb dX2_secondHasNoOther_16 rfl hl (by decide) rfl (fun ls hl => ?_)
    exact (hP17 _ _ _).mp hw r_n1 r_x2 (hB.1 62)  H locs ls hP hD hS (lv_sub hl [2, 3, 1, 0] rfl)
  ·
    intro u1 u2 u3 hw
    refine (hP17 _ _ _).mpr ?_
    intro r_u1 r_u2 r_u3 H locs ls hP hD hS hl
    refine lv_iload_n hx hb dX2_secondHasNoOther_17 rfl (lv_at hl 3 rfl) ?_
    refine lv_iload_n hx hb dX2_secondHasNoOther_18 rfl (lv_at hl 2 rfl) ?_
    refine bi_icmp_ge (tgt := 77) hx hb r_u3 r_u2 dX2_secondHasNoOther_19 (by decide) (fun c4 => ?_) (fun c4 => ?_)
    ·
      replace hw := hw.1 c4
      refine lv_iconst (v := I 1) hx hb dX2_secondHasNoOther_77 rfl ?_
      exact xrz hx hb hr (by decide) hlk hP hK hD hS ⟨_, (by decide), rfl, rfl, hw⟩ (Nat.le_of_ble_eq_true rfl) (Nat.le_of_ble_eq_true rfl) dX2_secondHasNoOther_78
    ·
      replace hw := hw.2 c4
      refine lv_aload_n hx hb dX2_secondHasNoOther_22 rfl (lv_at hl 0 rfl) ?_
      refine gfX2_tree hx hb hts hK hP hown (hts _ tw_799) dX2_secondHasNoOther_23 ?_
      refine gfNX11_rule hx hb hts hK hP hown (nb_use hNb tn_741) dX2_secondHasNoOther_26 ?_
      refine lv_iload_n hx hb dX2_secondHasNoOther_29 rfl (lv_at hl 3 rfl) ?_
      obtain ⟨c5, hw⟩ := hw
      refine ldCX11_rule hx hb hK hP hN c5 dX2_secondHasNoOther_30 (fun x6 r_x6 e_x6 => ?_)
      replace hw := hw x6 r_x6 e_x6
      refine lv_istore (lv' := [(4, .int (I x6)), (0, .ref (q 11)), (1, .int (I u1)), (2, .int (I u2)), (3, .int (I u3))]) hx hb dX2_secondHasNoOther_31 hl (by decide) rfl (fun ls hl => ?_)
      refine lv_iload hx hb dX2_secondHasNoOther_33 (lv_at hl 0 rfl) ?_
      refine lv_iload_n hx hb dX2_secondHasNoOther_35 rfl (lv_at hl 2 rfl) ?_
      refine bi_icmp_eq (tgt := 69) hx hb r_x6 r_u1 dX2_secondHasNoOther_36 (by decide) (fun c7 => ?_) (fun c7 => ?_)
      ·
        replace hw := hw.1 c7
        refine lv_iconst (v := I 0) hx hb dX2_secondHasNoOther_69 rfl ?_
        exact xrz hx hb hr (by decide) hlk hP hK hD hS ⟨_, (by decide), rfl, rfl, hw⟩ (Nat.le_of_ble_eq_true rfl) (Nat.le_of_ble_eq_true rfl) dX2_secondHasNoOther_70
      ·
        replace hw := hw.2 c7
        refine lv_aload_n hx hb dX2_secondHasNoOther_39 rfl (lv_at hl 1 rfl) ?_
        refine gfX2_library hx hb hts hK hP hown (hts _ tw_795) dX2_secondHasNoOther_40 ?_
        refine gfNX3_kind hx hb hts hK hP hown (nb_use hNb tn_71) dX2_secondHasNoOther_43 ?_
        refine lv_iload hx hb dX2_secondHasNoOther_46 (lv_at hl 0 rfl) ?_
        obtain ⟨c8, hw⟩ := hw
        refine ldCX3_kind hx hb hK hP hN c8 dX2_secondHasNoOther_48 (fun x9 r_x9 e_x9 => ?_)
        replace hw := hw x9 r_x9 e_x9
        refine bi_if_ne (tgt := 71) hx hb r_x9 dX2_secondHasNoOther_49 (by decide) (fun c10 => ?_) (fun c10 => ?_)
        ·
          replace hw := hw.1 c10
          refine lv_iinc (v := I (u3 + 1)) (lv' := [(3, .int (I (u3 + 1))), (4, .int (I x6)), (0, .ref (q 11)), (1, .int (I u1)), (2, .int (I u2))]) hx hb dX2_secondHasNoOther_71 hl (k := 4) rfl (I_add _ _) (by decide) rfl (fun ls hl => ?_)
          refine lv_goto (tgt := 17) hx hb dX2_secondHasNoOther_74 (by decide) ?_
          obtain ⟨c11, hw⟩ := hw
          exact (hP17 _ _ _).mp hw r_u1 r_u2 c11  H locs ls hP hD hS (lv_sub hl [2, 3, 4, 0] rfl)
        ·
          replace hw := hw.2 c10
          refine lv_aload_n hx hb dX2_secondHasNoOther_52 rfl (lv_at hl 1 rfl) ?_
          refine gfX2_slots hx hb hts hK hP hown (hts _ tw_813) dX2_secondHasNoOther_53 ?_
          refine lv_aload_n hx hb dX2_secondHasNoOther_56 rfl (lv_at hl 1 rfl) ?_
          refine gfX2_library hx hb hts hK hP hown (hts _ tw_795) dX2_secondHasNoOther_57 ?_
          refine lv_iload hx hb dX2_secondHasNoOther_60 (lv_at hl 0 rfl) ?_
          obtain ⟨Q12, hc, hw⟩ := hw
          refine wc_i (X := CX g q lb) (va_runV (As := [.int (I x6)]) (rest := [.ref (q 122)]) ⟨hx, hb, hml, hown, hts⟩ (L_X3_variableOf l g q lb hlb r_x6 hN hc H.size) (cwV 1 hts (TB_V tw_1833 tw_1022 tw_1023 tw_2 co_X3_variableOf) rfl rfl rfl (by decide +kernel) ⟨Nat.le_of_ble_eq_true rfl, Nat.le_of_ble_eq_true rfl⟩) (preV (q0 := 1) (ci := 3) rfl xT_bl hP hK hNb hD rfl rfl xT_at) rfl rfl hl.1 rfl (lv_room (Nat.le_of_ble_eq_true rfl)) dX2_secondHasNoOther_62 ⟨Nat.le_of_ble_eq_true rfl, Nat.le_of_ble_eq_true rfl⟩) hP hD hS hA (fun x13 H locs r_x13 hq hP hD hS => ?_)
          replace hw := hw x13 r_x13 hq
          obtain ⟨c15, hw⟩ := hw
          refine ldCX2_slots hx hb hK hP hN c15 dX2_secondHasNoOther_65 (fun x16 r_x16 e_x16 => ?_)
          replace hw := hw x16 r_x16 e_x16
          refine bi_if_ne (tgt := 71) hx hb r_x16 dX2_secondHasNoOther_66 (by decide) (fun c17 => ?_) (fun c17 => ?_)
          ·
            replace hw := hw.1 c17
            refine lv_iinc (v := I (u3 + 1)) (lv' := [(3, .int (I (u3 + 1))), (4, .int (I x6)), (0, .ref (q 11)), (1, .int (I u1)), (2, .int (I u2))]) hx hb dX2_secondHasNoOther_71 hl (k := 4) rfl (I_add _ _) (by decide) rfl (fun ls hl => ?_)
            refine lv_goto (tgt := 17) hx hb dX2_secondHasNoOther_74 (by decide) ?_
            obtain ⟨c18, hw⟩ := hw
            exact (hP17 _ _ _).mp hw r_u1 r_u2 c18  H locs ls hP hD hS (lv_sub hl [2, 3, 4, 0] rfl)
          ·
            replace hw := hw.2 c17
            refine lv_iconst (v := I 0) hx hb dX2_secondHasNoOther_69 rfl ?_
            exact xrz hx hb hr (by decide) hlk hP hK hD hS ⟨_, (by decide), rfl, rfl, hw⟩ (Nat.le_of_ble_eq_true rfl) (Nat.le_of_ble_eq_true rfl) dX2_secondHasNoOther_70
def W_X2_clearSlots (n1 : Int) (σ : S0) (Q : S0 → Prop) : Prop :=
  ∀ (P2 : Int → Int → S0 → Prop),
  (∀ (u1 : Int) (u2 : Int) (τ : S0), ((0 ≤ u1 ∧ u1 < 1500) ∧ (∀ (x2 : Int), rg x2 → x2 = τ.2.1 28 u1 → ((x2 < u2 → Q τ) ∧ (u2 ≤ x2 → (0 ≤ (τ.1 61 + u2) ∧ (τ.1 61 + u2) < 12000) ∧ (∀ (x5 : Int), rg x5 → x5 = τ.2.1 84 (τ.1 61 + u2) → ((0 ≤ x5 ∧ x5 < 1500) ∧ (∀ (x7 : Int), rg x7 → x7 = τ.2.1 13 x5 → ((¬ x7 = 0 → rg (u2 + 1) ∧ P2 u1 (u2 + 1) τ) ∧ (x7 = 0 → ∃ (Q10 : Int → Prop), W_X3_variableOf x5 τ Q10 ∧ ∀ (x11 : Int), rg x11 → Q10 x11 → ((0 ≤ x11 ∧ x11 < 1000) ∧ (rg (u2 + 1) ∧ P2 u1 (u2 + 1) (s_a τ 100 x11 0)))))))))))) → P2 u1 u2 τ) →
  P2 n1 1 σ
set_option maxRecDepth 100000 in
set_option maxHeartbeats 4000000 in
theorem L_X2_clearSlots (l : Launch) (g : gG) (q : Nat → Nat) (lb : Nat) (hlb : lb < 2 ^ 31) {n1 : Int} {σ : S0} {Q : S0 → Prop} (r_n1 : rg n1) (hN : n_m σ) (hw : W_X2_clearSlots n1 σ Q) (sz : Nat) : MetV l yX2_clearSlots cX2_clearSlots 4 { frames := 1, cells := 0, slots := 0, locals := 21 } g [.ref (q 11), .int (I n1)] (CX g q lb σ) sz xT (p_V (CX g q lb) [] [100] [] σ Q) 0 0 := by
  refine mkMet (Qc := fun A => QV g A (p_V (CX g q lb) [] [100] [] σ Q)) (by decide) (Nat.le_of_ble_eq_true rfl) ?_
  intro p e s m below meth c A H ls hx hb hr hml hown hts hlk hnm hsz hP hK hNb hD hA hAe hS hX hl
  have hl : lv_has ls 4 [(0, .ref (q 11)), (1, .int (I n1))] := hl
  have hB := hN
  have hF : f_r [] [100] [] σ σ := f_0
  obtain ⟨locs, hlocs⟩ : ∃ z : List Loc, z = [] := ⟨_, rfl⟩
  rw [← hlocs] at hS ⊢
  obtain ⟨P2, hP2⟩ : ∃ P : Int → Int → S0 → Prop, ∀ (u1 : Int) (u2 : Int) (τ : S0), (P u1 u2 τ ↔ (rg u1 → rg u2 → n_m τ → f_r [] [100] [] σ τ → ∀ (H : Heap) (locs : List Loc) (ls : Array Slot), KP g (CX g q lb τ) H → va_D A (CX g q lb τ) → va_S A s.heap H locs → lv_has ls 4 [(0, .ref (q 11)), (1, .int (I u1)), (2, .int (I u2))] → W p l e ({ frames := 1, cells := 0, slots := 0, locals := 21 }) s m [.ref (q 11), .int (I n1)].toArray below meth c H locs 0 0 (MQ below (QV g A (p_V (CX g q lb) [] [100] [] σ Q)) [.ref (q 11), .int (I n1)].toArray s 0 0 A) (F0 m 2 ls []))) := ⟨_, fun _ _ _ => Iff.rfl⟩
  refine (fun hw => ?_) (hw P2 ?_)
  ·
    refine lv_iconst (v := I 1) hx hb dX2_clearSlots_0 rfl ?_
    refine lv_istore_n (lv' := [(2, .int (I 1)), (0, .ref (q 11)), (1, .int (I n1))]) hx hb dX2_clearSlots_1 rfl hl (by decide) rfl (fun ls hl => ?_)
    exact (hP2 _ _ _).mp hw r_n1 (by decide) hN hF H locs ls hP hD hS (lv_sub hl [1, 2, 0] rfl)
  ·
    intro u1 u2 τ hw
    refine (hP2 _ _ _).mpr ?_
    intro r_u1 r_u2 hN hF H locs ls hP hD hS hl
    have hB := hN
    refine lv_iload_n hx hb dX2_clearSlots_2 rfl (lv_at hl 2 rfl) ?_
    refine lv_aload_n hx hb dX2_clearSlots_3 rfl (lv_at hl 0 rfl) ?_
    refine gfX2_assertions hx hb hts hK hP hown (hts _ tw_796) dX2_clearSlots_4 ?_
    refine gfNX0_frameSize hx hb hts hK hP hown (nb_use hNb tn_245) dX2_clearSlots_7 ?_
    refine lv_iload_n hx hb dX2_clearSlots_10 rfl (lv_at hl 1 rfl) ?_
    obtain ⟨c1, hw⟩ := hw
    refine ldCX0_frameSize hx hb hK hP hN c1 dX2_clearSlots_11 (fun x2 r_x2 e_x2 => ?_)
    replace hw := hw x2 r_x2 e_x2
    refine bi_icmp_gt (tgt := 62) hx hb r_u2 r_x2 dX2_clearSlots_12 (by decide) (fun c3 => ?_) (fun c3 => ?_)
    ·
      replace hw := hw.1 c3
      exact xrv hx hb hr hlk hP hK hD hS ⟨_, hN, hF, rfl, hw⟩ (Nat.le_of_ble_eq_true rfl) (Nat.le_of_ble_eq_true rfl) dX2_clearSlots_62
    ·
      replace hw := hw.2 c3
      refine lv_aload_n hx hb dX2_clearSlots_15 rfl (lv_at hl 0 rfl) ?_
      refine gfX2_tree hx hb hts hK hP hown (hts _ tw_799) dX2_clearSlots_16 ?_
      refine gfNX11_rule hx hb hts hK hP hown (nb_use hNb tn_741) dX2_clearSlots_19 ?_
      refine lv_aload_n hx hb dX2_clearSlots_22 rfl (lv_at hl 0 rfl) ?_
      refine gfX2_firstTree hx hb hts hK hP hown (hts _ tw_814) (x := τ.1 61) rfl dX2_clearSlots_23 ?_
      refine lv_iload_n hx hb dX2_clearSlots_26 rfl (lv_at hl 2 rfl) ?_
      refine bi_iadd hx hb dX2_clearSlots_27 ?_
      obtain ⟨c4, hw⟩ := hw
      refine ldCX11_rule hx hb hK hP hN c4 dX2_clearSlots_28 (fun x5 r_x5 e_x5 => ?_)
      replace hw := hw x5 r_x5 e_x5
      refine lv_istore_n (lv' := [(3, .int (I x5)), (0, .ref (q 11)), (1, .int (I u1)), (2, .int (I u2))]) hx hb dX2_clearSlots_29 rfl hl (by decide) rfl (fun ls hl => ?_)
      refine lv_aload_n hx hb dX2_clearSlots_30 rfl (lv_at hl 1 rfl) ?_
      refine gfX2_library hx hb hts hK hP hown (hts _ tw_795) dX2_clearSlots_31 ?_
      refine gfNX3_kind hx hb hts hK hP hown (nb_use hNb tn_71) dX2_clearSlots_34 ?_
      refine lv_iload_n hx hb dX2_clearSlots_37 rfl (lv_at hl 0 rfl) ?_
      obtain ⟨c6, hw⟩ := hw
      refine ldCX3_kind hx hb hK hP hN c6 dX2_clearSlots_38 (fun x7 r_x7 e_x7 => ?_)
      replace hw := hw x7 r_x7 e_x7
      refine bi_if_ne (tgt := 56) hx hb r_x7 dX2_clearSlots_39 (by decide) (fun c8 => ?_) (fun c8 => ?_)
      ·
        replace hw := hw.1 c8
        refine lv_iinc (v := I (u2 + 1)) (lv' := [(2, .int (I (u2 + 1))), (3, .int (I x5)), (0, .ref (q 11)), (1, .int (I u1))]) hx hb dX2_clearSlots_56 hl (k := 3) rfl (I_add _ _) (by decide) rfl (fun ls hl => ?_)
        refine lv_goto (tgt := 2) hx hb dX2_clearSlots_59 (by decide) ?_
        obtain ⟨c9, hw⟩ := hw
        exact (hP2 _ _ _).mp hw r_u1 c9 hN hF H locs ls hP hD hS (lv_sub hl [2, 3, 0] rfl)
      ·
        replace hw := hw.2 c8
        refine lv_aload_n hx hb dX2_clearSlots_42 rfl (lv_at hl 1 rfl) ?_
        refine gfX2_slots hx hb hts hK hP hown (hts _ tw_813) dX2_clearSlots_43 ?_
        refine lv_aload_n hx hb dX2_clearSlots_46 rfl (lv_at hl 1 rfl) ?_
        refine gfX2_library hx hb hts hK hP hown (hts _ tw_795) dX2_clearSlots_47 ?_
        refine lv_iload_n hx hb dX2_clearSlots_50 rfl (lv_at hl 0 rfl) ?_
        obtain ⟨Q10, hc, hw⟩ := hw
        refine wc_i (X := CX g q lb) (va_runV (As := [.int (I x5)]) (rest := [.ref (q 122)]) ⟨hx, hb, hml, hown, hts⟩ (L_X3_variableOf l g q lb hlb r_x5 hN hc H.size) (cwV 1 hts (TB_V tw_1833 tw_1022 tw_1023 tw_2 co_X3_variableOf) rfl rfl rfl (by decide +kernel) ⟨Nat.le_of_ble_eq_true rfl, Nat.le_of_ble_eq_true rfl⟩) (preV (q0 := 1) (ci := 3) rfl xT_bl hP hK hNb hD rfl rfl xT_at) rfl rfl hl.1 rfl (lv_room (Nat.le_of_ble_eq_true rfl)) dX2_clearSlots_51 ⟨Nat.le_of_ble_eq_true rfl, Nat.le_of_ble_eq_true rfl⟩) hP hD hS hA (fun x11 H locs r_x11 hq hP hD hS => ?_)
        replace hw := hw x11 r_x11 hq
        refine lv_iconst (v := I 0) hx hb dX2_clearSlots_54 rfl ?_
        obtain ⟨c13, hw⟩ := hw
        refine sdCX2_slots hx hb hK hP hD hS c13 dX2_clearSlots_55 (fun H locs hP hD hS => ?_)
        have hN : n_m (s_a τ 100 x11 0) := n_a (k := 100) (j := x11) hN ((by decide) : rg 0)
        have hF : f_r [] [100] [] σ (s_a τ 100 x11 0) := f_a hF (by decide)
        refine lv_iinc (v := I (u2 + 1)) (lv' := [(2, .int (I (u2 + 1))), (3, .int (I x5)), (0, .ref (q 11)), (1, .int (I u1))]) hx hb dX2_clearSlots_56 hl (k := 3) rfl (I_add _ _) (by decide) rfl (fun ls hl => ?_)
        refine lv_goto (tgt := 2) hx hb dX2_clearSlots_59 (by decide) ?_
        obtain ⟨c14, hw⟩ := hw
        exact (hP2 _ _ _).mp hw r_u1 c14 hN hF H locs ls hP hD hS (lv_sub hl [2, 3, 0] rfl)
def W_X2_canDefine (n1 : Int) (σ : S0) (Q : Int → S0 → Prop) : Prop :=
  ∀ (P70 : Int → Int → S0 → Prop),
  (∀ (u2 : Int) (k0 : Int) (τ : S0), (∃ (Q21 : S0 → Prop), W_X2_clearSlots u2 τ Q21 ∧ ∀ (τ23 : S0), n_m τ23 → f_r [] [100] [] τ τ23 → Q21 τ23 → ((0 ≤ k0 ∧ k0 ≤ 1) ∧ Q k0 τ23)) → P70 u2 k0 τ) →
  ∃ (Q1 : Int → S0 → Prop), W_X2_partSides σ Q1 ∧ ∀ (x2 : Int) (τ3 : S0), rg x2 → n_m τ3 → f_r [61, 62] [] [] σ τ3 → Q1 x2 τ3 → ((¬ x2 = 0 → (0 ≤ τ3.1 61 ∧ τ3.1 61 < 12000) ∧ (∀ (x6 : Int), rg x6 → x6 = τ3.2.1 84 (τ3.1 61) → ((0 ≤ x6 ∧ x6 < 1500) ∧ (∀ (x8 : Int), rg x8 → x8 = τ3.2.1 13 x6 → ((¬ x8 = 2 → Q 0 τ3) ∧ (x8 = 2 → ∀ (x10 : Int), rg x10 → x10 = τ3.2.1 92 x6 → (rg (n1 + 1) ∧ (x10 = (n1 + 1) → ∃ (Q13 : Int → S0 → Prop), W_X2_fillSlots x6 τ3 Q13 ∧ ∀ (x14 : Int) (τ15 : S0), rg x14 → n_m τ15 → f_r [] [100] [] τ3 τ15 → Q13 x14 τ15 → ((x14 = 0 → P70 x6 0 τ15) ∧ (¬ x14 = 0 → ∃ (Q17 : Int → Prop), W_X2_secondHasNoOther x6 τ15 Q17 ∧ ∀ (x18 : Int), rg x18 → Q17 x18 → ((x18 = 0 → P70 x6 0 τ15) ∧ (¬ x18 = 0 → P70 x6 1 τ15))))) ∧ (¬ x10 = (n1 + 1) → Q 0 τ3)))))))) ∧ (x2 = 0 → Q 0 τ3))
set_option maxRecDepth 100000 in
set_option maxHeartbeats 4000000 in
theorem L_X2_canDefine (l : Launch) (g : gG) (q : Nat → Nat) (lb : Nat) (hlb : lb < 2 ^ 31) {n1 : Int} {σ : S0} {Q : Int → S0 → Prop} (r_n1 : rg n1) (hN : n_m σ) (hw : W_X2_canDefine n1 σ Q) (sz : Nat) : MetI l yX2_canDefine cX2_canDefine 4 (some .boolean) { frames := 2, cells := 0, slots := 0, locals := 48 } g [.ref (q 11), .int (I n1)] (CX g q lb σ) sz xT (p_I (CX g q lb) [61, 62] [100] [] σ Q) 0 0 := by
  refine mkMet (Qc := fun A => QI g A (p_I (CX g q lb) [61, 62] [100] [] σ Q)) (by decide) (Nat.le_of_ble_eq_true rfl) ?_
  intro p e s m below meth c A H ls hx hb hr hml hown hts hlk hnm hsz hP hK hNb hD hA hAe hS hX hl
  have hl : lv_has ls 4 [(0, .ref (q 11)), (1, .int (I n1))] := hl
  have hB := hN
  have hF : f_r [61, 62] [100] [] σ σ := f_0
  obtain ⟨locs, hlocs⟩ : ∃ z : List Loc, z = [] := ⟨_, rfl⟩
  rw [← hlocs] at hS ⊢
  obtain ⟨P70, hP70⟩ : ∃ P : Int → Int → S0 → Prop, ∀ (u2 : Int) (k0 : Int) (τ : S0), (P u2 k0 τ ↔ (rg u2 → rg k0 → n_m τ → f_r [61, 62] [100] [] σ τ → ∀ (H : Heap) (locs : List Loc) (ls : Array Slot), KP g (CX g q lb τ) H → va_D A (CX g q lb τ) → va_S A s.heap H locs → lv_has ls 4 [(0, .ref (q 11)), (2, .int (I u2))] → W p l e ({ frames := 2, cells := 0, slots := 0, locals := 48 }) s m [.ref (q 11), .int (I n1)].toArray below meth c H locs 0 0 (MQ below (QI g A (p_I (CX g q lb) [61, 62] [100] [] σ Q)) [.ref (q 11), .int (I n1)].toArray s 0 0 A) (F0 m 70 ls [.int (I k0)]))) := ⟨_, fun _ _ _ => Iff.rfl⟩
  refine (fun hw => ?_) (hw P70 ?_)
  ·
    refine lv_aload_n hx hb dX2_canDefine_0 rfl (lv_at hl 0 rfl) ?_
    obtain ⟨Q1, hc, hw⟩ := hw
    refine wc_I (X := CX g q lb) (va_runV (As := []) (rest := []) ⟨hx, hb, hml, hown, hts⟩ (L_X2_partSides l g q lb hlb  hN hc H.size) (cwV 0 hts (TB_V tw_1821 tw_1823 ts_86 tw_13 co_X2_partSides) rfl rfl rfl (by decide +kernel) ⟨Nat.le_of_ble_eq_true rfl, Nat.le_of_ble_eq_true rfl⟩) (preV (q0 := 11) (ci := 2) rfl xT_bl hP hK hNb hD rfl rfl xT_at) rfl rfl hl.1 rfl (lv_room (Nat.le_of_ble_eq_true rfl)) dX2_canDefine_1 ⟨Nat.le_of_ble_eq_true rfl, Nat.le_of_ble_eq_true rfl⟩) hP hD hS hA (fun x2 τ3 H locs r_x2 hN hf hq hP hD hS => ?_)
    replace hw := hw x2 τ3 r_x2 hN hf hq
    have hF : f_r [61, 62] [100] [] σ τ3 := f_t hF hf (by decide) (by decide) (by decide)
    have hB := hN
    refine bi_if_ne (tgt := 9) hx hb r_x2 dX2_canDefine_4 (by decide) (fun c4 => ?_) (fun c4 => ?_)
    ·
      replace hw := hw.1 c4
      refine lv_aload_n hx hb dX2_canDefine_9 rfl (lv_at hl 0 rfl) ?_
      refine gfX2_tree hx hb hts hK hP hown (hts _ tw_799) dX2_canDefine_10 ?_
      refine gfNX11_rule hx hb hts hK hP hown (nb_use hNb tn_741) dX2_canDefine_13 ?_
      refine lv_aload_n hx hb dX2_canDefine_16 rfl (lv_at hl 0 rfl) ?_
      refine gfX2_firstTree hx hb hts hK hP hown (hts _ tw_814) (x := τ3.1 61) rfl dX2_canDefine_17 ?_
      obtain ⟨c5, hw⟩ := hw
      refine ldCX11_rule hx hb hK hP hN c5 dX2_canDefine_20 (fun x6 r_x6 e_x6 => ?_)
      replace hw := hw x6 r_x6 e_x6
      refine lv_istore_n (lv' := [(2, .int (I x6)), (0, .ref (q 11)), (1, .int (I n1))]) hx hb dX2_canDefine_21 rfl hl (by decide) rfl (fun ls hl => ?_)
      refine lv_aload_n hx hb dX2_canDefine_22 rfl (lv_at hl 1 rfl) ?_
      refine gfX2_library hx hb hts hK hP hown (hts _ tw_795) dX2_canDefine_23 ?_
      refine gfNX3_kind hx hb hts hK hP hown (nb_use hNb tn_71) dX2_canDefine_26 ?_
      refine lv_iload_n hx hb dX2_canDefine_29 rfl (lv_at hl 0 rfl) ?_
      obtain ⟨c7, hw⟩ := hw
      refine ldCX3_kind hx hb hK hP hN c7 dX2_canDefine_30 (fun x8 r_x8 e_x8 => ?_)
      replace hw := hw x8 r_x8 e_x8
      refine lv_iconst (v := I 2) hx hb dX2_canDefine_31 rfl ?_
      refine bi_icmp_ne (tgt := 47) hx hb r_x8 (by decide) dX2_canDefine_32 (by decide) (fun c9 => ?_) (fun c9 => ?_)
      ·
        replace hw := hw.1 c9
        refine lv_iconst (v := I 0) hx hb dX2_canDefine_47 rfl ?_
        exact xrz hx hb hr (by decide) hlk hP hK hD hS ⟨_, _, (by decide), rfl, hN, hF, rfl, hw⟩ (Nat.le_of_ble_eq_true rfl) (Nat.le_of_ble_eq_true rfl) dX2_canDefine_48
      ·
        replace hw := hw.2 c9
        refine lv_aload_n hx hb dX2_canDefine_35 rfl (lv_at hl 1 rfl) ?_
        refine gfX2_firstUse hx hb hts hK hP hown (hts _ tw_802) dX2_canDefine_36 ?_
        refine lv_iload_n hx hb dX2_canDefine_39 rfl (lv_at hl 0 rfl) ?_
        refine ldCX2_firstUse hx hb hK hP hN c7 dX2_canDefine_40 (fun x10 r_x10 e_x10 => ?_)
        replace hw := hw x10 r_x10 e_x10
        refine lv_iload_n hx hb dX2_canDefine_41 rfl (lv_at hl 2 rfl) ?_
        refine lv_iconst (v := I 1) hx hb dX2_canDefine_42 rfl ?_
        refine bi_iadd hx hb dX2_canDefine_43 ?_
        obtain ⟨c11, hw⟩ := hw
        refine bi_icmp_eq (tgt := 49) hx hb r_x10 c11 dX2_canDefine_44 (by decide) (fun c12 => ?_) (fun c12 => ?_)
        ·
          replace hw := hw.1 c12
          refine lv_aload_n hx hb dX2_canDefine_49 rfl (lv_at hl 1 rfl) ?_
          refine lv_iload_n hx hb dX2_canDefine_50 rfl (lv_at hl 0 rfl) ?_
          obtain ⟨Q13, hc, hw⟩ := hw
          refine wc_I (X := CX g q lb) (va_runV (As := [.int (I x6)]) (rest := []) ⟨hx, hb, hml, hown, hts⟩ (L_X2_fillSlots l g q lb hlb r_x6 hN hc H.size) (cwV 1 hts (TB_V tw_1829 tw_1831 ts_87 tw_13 co_X2_fillSlots) rfl rfl rfl (by decide +kernel) ⟨Nat.le_of_ble_eq_true rfl, Nat.le_of_ble_eq_true rfl⟩) (preV (q0 := 11) (ci := 2) rfl xT_bl hP hK hNb hD rfl rfl xT_at) rfl rfl hl.1 rfl (lv_room (Nat.le_of_ble_eq_true rfl)) dX2_canDefine_51 ⟨Nat.le_of_ble_eq_true rfl, Nat.le_of_ble_eq_true rfl⟩) hP hD hS hA (fun x14 τ15 H locs r_x14 hN hf hq hP hD hS => ?_)
          replace hw := hw x14 τ15 r_x14 hN hf hq
          have hF : f_r [61, 62] [100] [] σ τ15 := f_t hF hf (by decide) (by decide) (by decide)
          have hB := hN
          refine bi_if_eq (tgt := 69) hx hb r_x14 dX2_canDefine_54 (by decide) (fun c16 => ?_) (fun c16 => ?_)
          ·
            replace hw := hw.1 c16
            refine lv_iconst (v := I 0) hx hb dX2_canDefine_69 rfl ?_
            exact (hP70 _ _ _).mp hw r_x6 (by decide) hN hF H locs ls hP hD hS (lv_sub hl [1, 0] rfl)
          ·
            replace hw := hw.2 c16
            refine lv_aload_n hx hb dX2_canDefine_57 rfl (lv_at hl 1 rfl) ?_
            refine lv_iload_n hx hb dX2_canDefine_58 rfl (lv_at hl 0 rfl) ?_
            obtain ⟨Q17, hc, hw⟩ := hw
            refine wc_i (X := CX g q lb) (va_runV (As := [.int (I x6)]) (rest := []) ⟨hx, hb, hml, hown, hts⟩ (L_X2_secondHasNoOther l g q lb hlb r_x6 hN hc H.size) (cwV 1 hts (TB_V tw_1834 tw_1836 ts_88 tw_13 co_X2_secondHasNoOther) rfl rfl rfl (by decide +kernel) ⟨Nat.le_of_ble_eq_true rfl, Nat.le_of_ble_eq_true rfl⟩) (preV (q0 := 11) (ci := 2) rfl xT_bl hP hK hNb hD rfl rfl xT_at) rfl rfl hl.1 rfl (lv_room (Nat.le_of_ble_eq_true rfl)) dX2_canDefine_59 ⟨Nat.le_of_ble_eq_true rfl, Nat.le_of_ble_eq_true rfl⟩) hP hD hS hA (fun x18 H locs r_x18 hq hP hD hS => ?_)
            replace hw := hw x18 r_x18 hq
            refine bi_if_eq (tgt := 69) hx hb r_x18 dX2_canDefine_62 (by decide) (fun c20 => ?_) (fun c20 => ?_)
            ·
              replace hw := hw.1 c20
              refine lv_iconst (v := I 0) hx hb dX2_canDefine_69 rfl ?_
              exact (hP70 _ _ _).mp hw r_x6 (by decide) hN hF H locs ls hP hD hS (lv_sub hl [1, 0] rfl)
            ·
              replace hw := hw.2 c20
              refine lv_iconst (v := I 1) hx hb dX2_canDefine_65 rfl ?_
              refine lv_goto (tgt := 70) hx hb dX2_canDefine_66 (by decide) ?_
              exact (hP70 _ _ _).mp hw r_x6 (by decide) hN hF H locs ls hP hD hS (lv_sub hl [1, 0] rfl)
        ·
          replace hw := hw.2 c12
          refine lv_iconst (v := I 0) hx hb dX2_canDefine_47 rfl ?_
          exact xrz hx hb hr (by decide) hlk hP hK hD hS ⟨_, _, (by decide), rfl, hN, hF, rfl, hw⟩ (Nat.le_of_ble_eq_true rfl) (Nat.le_of_ble_eq_true rfl) dX2_canDefine_48
    ·
      replace hw := hw.2 c4
      refine lv_iconst (v := I 0) hx hb dX2_canDefine_7 rfl ?_
      exact xrz hx hb hr (by decide) hlk hP hK hD hS ⟨_, _, (by decide), rfl, hN, hF, rfl, hw⟩ (Nat.le_of_ble_eq_true rfl) (Nat.le_of_ble_eq_true rfl) dX2_canDefine_8
  ·
    intro u2 k0 τ hw
    refine (hP70 _ _ _).mpr ?_
    intro r_u2 r_k0 hN hF H locs ls hP hD hS hl
    have hB := hN
    refine lv_istore_n (lv' := [(3, .int (I k0)), (0, .ref (q 11)), (2, .int (I u2))]) hx hb dX2_canDefine_70 rfl hl (by decide) rfl (fun ls hl => ?_)
    refine lv_aload_n hx hb dX2_canDefine_71 rfl (lv_at hl 1 rfl) ?_
    refine lv_iload_n hx hb dX2_canDefine_72 rfl (lv_at hl 2 rfl) ?_
    obtain ⟨Q21, hc, hw⟩ := hw
    refine wc_V (X := CX g q lb) (va_runV (As := [.int (I u2)]) (rest := []) ⟨hx, hb, hml, hown, hts⟩ (L_X2_clearSlots l g q lb hlb r_u2 hN hc H.size) (cwV 1 hts (TB_V tw_1838 tw_1840 ts_89 tw_13 co_X2_clearSlots) rfl rfl rfl (by decide +kernel) ⟨Nat.le_of_ble_eq_true rfl, Nat.le_of_ble_eq_true rfl⟩) (preV (q0 := 11) (ci := 2) rfl xT_bl hP hK hNb hD rfl rfl xT_at) rfl rfl hl.1 rfl (lv_room (Nat.le_of_ble_eq_true rfl)) dX2_canDefine_73 ⟨Nat.le_of_ble_eq_true rfl, Nat.le_of_ble_eq_true rfl⟩) hP hD hS hA (fun τ23 H locs hN hf hq hP hD hS => ?_)
    replace hw := hw τ23 hN hf hq
    have hF : f_r [61, 62] [100] [] σ τ23 := f_t hF hf (by decide) (by decide) (by decide)
    have hB := hN
    refine lv_iload_n hx hb dX2_canDefine_76 rfl (lv_at hl 0 rfl) ?_
    obtain ⟨c24, hw⟩ := hw
    exact xrz hx hb hr (nzI c24.1 c24.2) hlk hP hK hD hS ⟨_, _, r_k0, rfl, hN, hF, rfl, hw⟩ (Nat.le_of_ble_eq_true rfl) (Nat.le_of_ble_eq_true rfl) dX2_canDefine_77
def W_X2_study (n1 : Int) (σ : S0) (Q : S0 → Prop) : Prop :=
  ∀ (P5 : Int → Int → S0 → Prop),
  (∀ (u1 : Int) (u2 : Int) (τ : S0), ((u1 ≤ u2 → ∀ (x2 : Int), rg x2 → τ.1 57 ≤ x2 → u1 ≤ x2 → (x2 = τ.1 57 ∨ x2 = u1) → (Q (s_v τ 57 x2))) ∧ (u2 < u1 → ∃ (Q3 : Int → Prop), W_X3_typeOf u2 τ Q3 ∧ ∀ (x4 : Int), rg x4 → Q3 x4 → ((¬ x4 = τ.1 48 → rg (u2 + 1) ∧ P5 u1 (u2 + 1) τ) ∧ (x4 = τ.1 48 → ∃ (Q8 : Int → Prop), W_X3_lengthOf u2 τ Q8 ∧ ∀ (x9 : Int), rg x9 → Q8 x9 → ((x9 ≤ 60 → ∃ (Q12 : S0 → Prop), W_X1_takeStatement u2 τ Q12 ∧ ∀ (τ14 : S0), n_m τ14 → f_r [50, 51, 52] [77, 78] [3] τ τ14 → Q12 τ14 → (∃ (Q15 : Int → S0 → Prop), W_X1_countTrees τ14 Q15 ∧ ∀ (x16 : Int) (τ17 : S0), rg x16 → n_m τ17 → f_r [53] [79, 80, 81, 82, 83] [3, 4, 5, 6, 7] τ14 τ17 → Q15 x16 τ17 → ((¬ x16 = 1 → rg (u2 + 1) ∧ P5 u1 (u2 + 1) τ17) ∧ (x16 = 1 → ∃ (Q20 : S0 → Prop), W_X11_grow τ17 Q20 ∧ ∀ (τ22 : S0), n_m τ22 → f_r [54] [84, 85, 86, 88, 89, 90] [8] τ17 τ22 → Q20 τ22 → (∃ (Q23 : S0 → Prop), W_X2_noteUses u2 τ22 Q23 ∧ ∀ (τ25 : S0), n_m τ25 → f_r [] [92] [] τ22 τ25 → Q23 τ25 → ((0 ≤ u2 ∧ u2 < 1500) ∧ (∀ (x27 : Int), rg x27 → x27 = τ25.2.1 13 u2 → ((¬ x27 = 2 → rg (u2 + 1) ∧ P5 u1 (u2 + 1) τ25) ∧ (x27 = 2 → ∃ (Q30 : Int → Prop), W_X0_hasEssential u2 τ25 Q30 ∧ ∀ (x31 : Int), rg x31 → Q30 x31 → ((¬ x31 = 0 → rg (u2 + 1) ∧ P5 u1 (u2 + 1) τ25) ∧ (x31 = 0 → ∃ (Q35 : Int → S0 → Prop), W_X2_canDefine u2 τ25 Q35 ∧ ∀ (x36 : Int) (τ37 : S0), rg x36 → n_m τ37 → f_r [61, 62] [100] [] τ25 τ37 → Q35 x36 τ37 → ((x36 = 0 → rg (u2 + 1) ∧ P5 u1 (u2 + 1) τ37) ∧ (¬ x36 = 0 → ∀ (x40 : Int), rg x40 → x40 = τ37.2.1 84 0 → (rg (x40 + 1) ∧ (0 ≤ τ37.1 61 ∧ τ37.1 61 < 12000) ∧ (∀ (x43 : Int), rg x43 → x43 = τ37.2.1 84 (τ37.1 61) → (rg (x43 + 1) ∧ rg (u2 + 1) ∧ P5 u1 (u2 + 1) (s_a (s_a τ37 93 u2 (x40 + 1)) 94 u2 (x43 + 1)))))))))))))))))) ∧ (60 < x9 → rg (u2 + 1) ∧ P5 u1 (u2 + 1) τ)))))) → P5 u1 u2 τ) →
  P5 n1 (σ.1 57) σ
set_option maxRecDepth 100000 in
set_option maxHeartbeats 4000000 in
theorem L_X2_study (l : Launch) (g : gG) (q : Nat → Nat) (lb : Nat) (hlb : lb < 2 ^ 31) {n1 : Int} {σ : S0} {Q : S0 → Prop} (r_n1 : rg n1) (hN : n_m σ) (hw : W_X2_study n1 σ Q) (sz : Nat) : MetV l yX2_study cX2_study 3 { frames := 5, cells := 0, slots := 0, locals := 131 } g [.ref (q 11), .int (I n1)] (CX g q lb σ) sz xT (p_V (CX g q lb) [50, 51, 52, 53, 54, 57, 61, 62] [77, 78, 79, 80, 81, 82, 83, 84, 85, 86, 88, 89, 90, 92, 93, 94, 100] [3, 4, 5, 6, 7, 8] σ Q) 0 0 := by
  refine mkMet (Qc := fun A => QV g A (p_V (CX g q lb) [50, 51, 52, 53, 54, 57, 61, 62] [77, 78, 79, 80, 81, 82, 83, 84, 85, 86, 88, 89, 90, 92, 93, 94, 100] [3, 4, 5, 6, 7, 8] σ Q)) (by decide) (Nat.le_of_ble_eq_true rfl) ?_
  intro p e s m below meth c A H ls hx hb hr hml hown hts hlk hnm hsz hP hK hNb hD hA hAe hS hX hl
  have hl : lv_has ls 3 [(0, .ref (q 11)), (1, .int (I n1))] := hl
  have hB := hN
  have hF : f_r [50, 51, 52, 53, 54, 57, 61, 62] [77, 78, 79, 80, 81, 82, 83, 84, 85, 86, 88, 89, 90, 92, 93, 94, 100] [3, 4, 5, 6, 7, 8] σ σ := f_0
  obtain ⟨locs, hlocs⟩ : ∃ z : List Loc, z = [] := ⟨_, rfl⟩
  rw [← hlocs] at hS ⊢
  obtain ⟨P5, hP5⟩ : ∃ P : Int → Int → S0 → Prop, ∀ (u1 : Int) (u2 : Int) (τ : S0), (P u1 u2 τ ↔ (rg u1 → rg u2 → n_m τ → f_r [50, 51, 52, 53, 54, 57, 61, 62] [77, 78, 79, 80, 81, 82, 83, 84, 85, 86, 88, 89, 90, 92, 93, 94, 100] [3, 4, 5, 6, 7, 8] σ τ → ∀ (H : Heap) (locs : List Loc) (ls : Array Slot), KP g (CX g q lb τ) H → va_D A (CX g q lb τ) → va_S A s.heap H locs → lv_has ls 3 [(0, .ref (q 11)), (1, .int (I u1)), (2, .int (I u2))] → W p l e ({ frames := 5, cells := 0, slots := 0, locals := 131 }) s m [.ref (q 11), .int (I n1)].toArray below meth c H locs 0 0 (MQ below (QV g A (p_V (CX g q lb) [50, 51, 52, 53, 54, 57, 61, 62] [77, 78, 79, 80, 81, 82, 83, 84, 85, 86, 88, 89, 90, 92, 93, 94, 100] [3, 4, 5, 6, 7, 8] σ Q)) [.ref (q 11), .int (I n1)].toArray s 0 0 A) (F0 m 5 ls []))) := ⟨_, fun _ _ _ => Iff.rfl⟩
  refine (fun hw => ?_) (hw P5 ?_)
  ·
    refine lv_aload_n hx hb dX2_study_0 rfl (lv_at hl 0 rfl) ?_
    refine gfX2_studied hx hb hts hK hP hown (hts _ tw_801) (x := σ.1 57) rfl dX2_study_1 ?_
    refine lv_istore_n (lv' := [(2, .int (I (σ.1 57))), (0, .ref (q 11)), (1, .int (I n1))]) hx hb dX2_study_4 rfl hl (by decide) rfl (fun ls hl => ?_)
    exact (hP5 _ _ _).mp hw r_n1 (hB.1 57) hN hF H locs ls hP hD hS (lv_sub hl [1, 2, 0] rfl)
  ·
    intro u1 u2 τ hw
    refine (hP5 _ _ _).mpr ?_
    intro r_u1 r_u2 hN hF H locs ls hP hD hS hl
    have hB := hN
    refine lv_iload_n hx hb dX2_study_5 rfl (lv_at hl 2 rfl) ?_
    refine lv_iload_n hx hb dX2_study_6 rfl (lv_at hl 1 rfl) ?_
    refine bi_icmp_ge (tgt := 150) hx hb r_u2 r_u1 dX2_study_7 (by decide) (fun c1 => ?_) (fun c1 => ?_)
    ·
      replace hw := hw.1 c1
      refine lv_aload_n hx hb dX2_study_150 rfl (lv_at hl 0 rfl) ?_
      refine lv_aload_n hx hb dX2_study_151 rfl (lv_at hl 0 rfl) ?_
      refine gfX2_studied hx hb hts hK hP hown (hts _ tw_801) (x := τ.1 57) rfl dX2_study_152 ?_
      refine lv_iload_n hx hb dX2_study_155 rfl (lv_at hl 1 rfl) ?_
      refine bi_mmax hx hb (by rw [hml]; exact hl.1.symm) hown (hts _ tw_1842) (hts _ tw_1119) (hts _ tw_16) (hts _ tw_1120) (Nat.le_of_ble_eq_true rfl) (Nat.le_of_ble_eq_true rfl) (Nat.le_of_ble_eq_true rfl) (Nat.le_of_ble_eq_true rfl) (hB.1 57) r_u1 dX2_study_156 (fun x2 r_x2 p_x2 m_x2 o_x2 => ?_)
      replace hw := hw x2 r_x2 p_x2 m_x2 o_x2
      refine pfX2_studied hx hb hts hK hP hD hS hown (hts _ tw_801) dX2_study_159 (fun H locs hP hD hS => ?_)
      have hN : n_m (s_v τ 57 x2) := n_v (i := 57) hN (r_x2 : rg x2)
      have hF : f_r [50, 51, 52, 53, 54, 57, 61, 62] [77, 78, 79, 80, 81, 82, 83, 84, 85, 86, 88, 89, 90, 92, 93, 94, 100] [3, 4, 5, 6, 7, 8] σ (s_v τ 57 x2) := f_v hF (by decide)
      exact xrv hx hb hr hlk hP hK hD hS ⟨_, hN, hF, rfl, hw⟩ (Nat.le_of_ble_eq_true rfl) (Nat.le_of_ble_eq_true rfl) dX2_study_162
    ·
      replace hw := hw.2 c1
      refine lv_aload_n hx hb dX2_study_10 rfl (lv_at hl 0 rfl) ?_
      refine gfX2_library hx hb hts hK hP hown (hts _ tw_795) dX2_study_11 ?_
      refine lv_iload_n hx hb dX2_study_14 rfl (lv_at hl 2 rfl) ?_
      obtain ⟨Q3, hc, hw⟩ := hw
      refine wc_i (X := CX g q lb) (va_runV (As := [.int (I u2)]) (rest := []) ⟨hx, hb, hml, hown, hts⟩ (L_X3_typeOf l g q lb hlb r_u2 hN hc H.size) (cwV 1 hts (TB_V tw_1807 tw_1208 tw_1209 tw_2 co_X3_typeOf) rfl rfl rfl (by decide +kernel) ⟨Nat.le_of_ble_eq_true rfl, Nat.le_of_ble_eq_true rfl⟩) (preV (q0 := 1) (ci := 3) rfl xT_bl hP hK hNb hD rfl rfl xT_at) rfl rfl hl.1 rfl (lv_room (Nat.le_of_ble_eq_true rfl)) dX2_study_15 ⟨Nat.le_of_ble_eq_true rfl, Nat.le_of_ble_eq_true rfl⟩) hP hD hS hA (fun x4 H locs r_x4 hq hP hD hS => ?_)
      replace hw := hw x4 r_x4 hq
      refine lv_aload_n hx hb dX2_study_18 rfl (lv_at hl 0 rfl) ?_
      refine gfX2_rules hx hb hts hK hP hown (hts _ tw_797) dX2_study_19 ?_
      refine gfNX8_provable hx hb hts hK hP hown (nb_use hNb tn_626) (x := τ.1 48) rfl dX2_study_22 ?_
      refine bi_icmp_ne (tgt := 144) hx hb r_x4 (hB.1 48) dX2_study_25 (by decide) (fun c6 => ?_) (fun c6 => ?_)
      ·
        replace hw := hw.1 c6
        refine lv_iinc (v := I (u2 + 1)) (lv' := [(2, .int (I (u2 + 1))), (0, .ref (q 11)), (1, .int (I u1))]) hx hb dX2_study_144 hl (k := 2) rfl (I_add _ _) (by decide) rfl (fun ls hl => ?_)
        refine lv_goto (tgt := 5) hx hb dX2_study_147 (by decide) ?_
        obtain ⟨c7, hw⟩ := hw
        exact (hP5 _ _ _).mp hw r_u1 c7 hN hF H locs ls hP hD hS (lv_sub hl [1, 2, 0] rfl)
      ·
        replace hw := hw.2 c6
        refine lv_aload_n hx hb dX2_study_28 rfl (lv_at hl 0 rfl) ?_
        refine gfX2_library hx hb hts hK hP hown (hts _ tw_795) dX2_study_29 ?_
        refine lv_iload_n hx hb dX2_study_32 rfl (lv_at hl 2 rfl) ?_
        obtain ⟨Q8, hc, hw⟩ := hw
        refine wc_i (X := CX g q lb) (va_runV (As := [.int (I u2)]) (rest := []) ⟨hx, hb, hml, hown, hts⟩ (L_X3_lengthOf l g q lb hlb r_u2 hN hc H.size) (cwV 1 hts (TB_V tw_1808 tw_1292 tw_1293 tw_2 co_X3_lengthOf) rfl rfl rfl (by decide +kernel) ⟨Nat.le_of_ble_eq_true rfl, Nat.le_of_ble_eq_true rfl⟩) (preV (q0 := 1) (ci := 3) rfl xT_bl hP hK hNb hD rfl rfl xT_at) rfl rfl hl.1 rfl (lv_room (Nat.le_of_ble_eq_true rfl)) dX2_study_33 ⟨Nat.le_of_ble_eq_true rfl, Nat.le_of_ble_eq_true rfl⟩) hP hD hS hA (fun x9 H locs r_x9 hq hP hD hS => ?_)
        replace hw := hw x9 r_x9 hq
        refine lv_bipush (v := I 60) hx hb dX2_study_36 (by decide) ?_
        refine bi_icmp_le (tgt := 44) hx hb r_x9 (by decide) dX2_study_38 (by decide) (fun c11 => ?_) (fun c11 => ?_)
        ·
          replace hw := hw.1 c11
          refine lv_aload_n hx hb dX2_study_44 rfl (lv_at hl 0 rfl) ?_
          refine gfX2_chart hx hb hts hK hP hown (hts _ tw_798) dX2_study_45 ?_
          refine lv_iload_n hx hb dX2_study_48 rfl (lv_at hl 2 rfl) ?_
          obtain ⟨Q12, hc, hw⟩ := hw
          refine wc_V (X := CX g q lb) (va_runV (As := [.int (I u2)]) (rest := []) ⟨hx, hb, hml, hown, hts⟩ (L_X1_takeStatement l g q lb hlb r_u2 hN hc H.size) (cwV 1 hts (TB_V tw_1809 tw_1703 tw_1704 tw_11 co_X1_takeStatement) rfl rfl rfl (by decide +kernel) ⟨Nat.le_of_ble_eq_true rfl, Nat.le_of_ble_eq_true rfl⟩) (preV (q0 := 9) (ci := 1) rfl xT_bl hP hK hNb hD rfl rfl xT_at) rfl rfl hl.1 rfl (lv_room (Nat.le_of_ble_eq_true rfl)) dX2_study_49 ⟨Nat.le_of_ble_eq_true rfl, Nat.le_of_ble_eq_true rfl⟩) hP hD hS hA (fun τ14 H locs hN hf hq hP hD hS => ?_)
          replace hw := hw τ14 hN hf hq
          have hF : f_r [50, 51, 52, 53, 54, 57, 61, 62] [77, 78, 79, 80, 81, 82, 83, 84, 85, 86, 88, 89, 90, 92, 93, 94, 100] [3, 4, 5, 6, 7, 8] σ τ14 := f_t hF hf (by decide) (by decide) (by decide)
          have hB := hN
          refine lv_aload_n hx hb dX2_study_52 rfl (lv_at hl 0 rfl) ?_
          refine gfX2_chart hx hb hts hK hP hown (hts _ tw_798) dX2_study_53 ?_
          obtain ⟨Q15, hc, hw⟩ := hw
          refine wc_I (X := CX g q lb) (va_runV (As := []) (rest := []) ⟨hx, hb, hml, hown, hts⟩ (L_X1_countTrees l g q lb hlb  hN hc H.size) (cwV 0 hts (TB_V tw_1810 tw_1720 tw_1721 tw_11 co_X1_countTrees) rfl rfl rfl (by decide +kernel) ⟨Nat.le_of_ble_eq_true rfl, Nat.le_of_ble_eq_true rfl⟩) (preV (q0 := 9) (ci := 1) rfl xT_bl hP hK hNb hD rfl rfl xT_at) rfl rfl hl.1 rfl (lv_room (Nat.le_of_ble_eq_true rfl)) dX2_study_56 ⟨Nat.le_of_ble_eq_true rfl, Nat.le_of_ble_eq_true rfl⟩) hP hD hS hA (fun x16 τ17 H locs r_x16 hN hf hq hP hD hS => ?_)
          replace hw := hw x16 τ17 r_x16 hN hf hq
          have hF : f_r [50, 51, 52, 53, 54, 57, 61, 62] [77, 78, 79, 80, 81, 82, 83, 84, 85, 86, 88, 89, 90, 92, 93, 94, 100] [3, 4, 5, 6, 7, 8] σ τ17 := f_t hF hf (by decide) (by decide) (by decide)
          have hB := hN
          refine lv_iconst (v := I 1) hx hb dX2_study_59 rfl ?_
          refine bi_icmp_ne (tgt := 144) hx hb r_x16 (by decide) dX2_study_60 (by decide) (fun c18 => ?_) (fun c18 => ?_)
          ·
            replace hw := hw.1 c18
            refine lv_iinc (v := I (u2 + 1)) (lv' := [(2, .int (I (u2 + 1))), (0, .ref (q 11)), (1, .int (I u1))]) hx hb dX2_study_144 hl (k := 2) rfl (I_add _ _) (by decide) rfl (fun ls hl => ?_)
            refine lv_goto (tgt := 5) hx hb dX2_study_147 (by decide) ?_
            obtain ⟨c19, hw⟩ := hw
            exact (hP5 _ _ _).mp hw r_u1 c19 hN hF H locs ls hP hD hS (lv_sub hl [1, 2, 0] rfl)
          ·
            replace hw := hw.2 c18
            refine lv_aload_n hx hb dX2_study_63 rfl (lv_at hl 0 rfl) ?_
            refine gfX2_tree hx hb hts hK hP hown (hts _ tw_799) dX2_study_64 ?_
            obtain ⟨Q20, hc, hw⟩ := hw
            refine wc_V (X := CX g q lb) (va_runV (As := []) (rest := []) ⟨hx, hb, hml, hown, hts⟩ (L_X11_grow l g q lb hlb  hN hc H.size) (cwV 0 hts (TB_V tw_1811 tw_1766 tw_1767 tw_12 co_X11_grow) rfl rfl rfl (by decide +kernel) ⟨Nat.le_of_ble_eq_true rfl, Nat.le_of_ble_eq_true rfl⟩) (preV (q0 := 10) (ci := 11) rfl xT_bl hP hK hNb hD rfl rfl xT_at) rfl rfl hl.1 rfl (lv_room (Nat.le_of_ble_eq_true rfl)) dX2_study_67 ⟨Nat.le_of_ble_eq_true rfl, Nat.le_of_ble_eq_true rfl⟩) hP hD hS hA (fun τ22 H locs hN hf hq hP hD hS => ?_)
            replace hw := hw τ22 hN hf hq
            have hF : f_r [50, 51, 52, 53, 54, 57, 61, 62] [77, 78, 79, 80, 81, 82, 83, 84, 85, 86, 88, 89, 90, 92, 93, 94, 100] [3, 4, 5, 6, 7, 8] σ τ22 := f_t hF hf (by decide) (by decide) (by decide)
            have hB := hN
            refine lv_aload_n hx hb dX2_study_70 rfl (lv_at hl 0 rfl) ?_
            refine lv_iload_n hx hb dX2_study_71 rfl (lv_at hl 2 rfl) ?_
            obtain ⟨Q23, hc, hw⟩ := hw
            refine wc_V (X := CX g q lb) (va_runV (As := [.int (I u2)]) (rest := []) ⟨hx, hb, hml, hown, hts⟩ (L_X2_noteUses l g q lb hlb r_u2 hN hc H.size) (cwV 1 hts (TB_V tw_1812 tw_1814 ts_84 tw_13 co_X2_noteUses) rfl rfl rfl (by decide +kernel) ⟨Nat.le_of_ble_eq_true rfl, Nat.le_of_ble_eq_true rfl⟩) (preV (q0 := 11) (ci := 2) rfl xT_bl hP hK hNb hD rfl rfl xT_at) rfl rfl hl.1 rfl (lv_room (Nat.le_of_ble_eq_true rfl)) dX2_study_72 ⟨Nat.le_of_ble_eq_true rfl, Nat.le_of_ble_eq_true rfl⟩) hP hD hS hA (fun τ25 H locs hN hf hq hP hD hS => ?_)
            replace hw := hw τ25 hN hf hq
            have hF : f_r [50, 51, 52, 53, 54, 57, 61, 62] [77, 78, 79, 80, 81, 82, 83, 84, 85, 86, 88, 89, 90, 92, 93, 94, 100] [3, 4, 5, 6, 7, 8] σ τ25 := f_t hF hf (by decide) (by decide) (by decide)
            have hB := hN
            refine lv_aload_n hx hb dX2_study_75 rfl (lv_at hl 0 rfl) ?_
            refine gfX2_library hx hb hts hK hP hown (hts _ tw_795) dX2_study_76 ?_
            refine gfNX3_kind hx hb hts hK hP hown (nb_use hNb tn_71) dX2_study_79 ?_
            refine lv_iload_n hx hb dX2_study_82 rfl (lv_at hl 2 rfl) ?_
            obtain ⟨c26, hw⟩ := hw
            refine ldCX3_kind hx hb hK hP hN c26 dX2_study_83 (fun x27 r_x27 e_x27 => ?_)
            replace hw := hw x27 r_x27 e_x27
            refine lv_iconst (v := I 2) hx hb dX2_study_84 rfl ?_
            refine bi_icmp_ne (tgt := 144) hx hb r_x27 (by decide) dX2_study_85 (by decide) (fun c28 => ?_) (fun c28 => ?_)
            ·
              replace hw := hw.1 c28
              refine lv_iinc (v := I (u2 + 1)) (lv' := [(2, .int (I (u2 + 1))), (0, .ref (q 11)), (1, .int (I u1))]) hx hb dX2_study_144 hl (k := 2) rfl (I_add _ _) (by decide) rfl (fun ls hl => ?_)
              refine lv_goto (tgt := 5) hx hb dX2_study_147 (by decide) ?_
              obtain ⟨c29, hw⟩ := hw
              exact (hP5 _ _ _).mp hw r_u1 c29 hN hF H locs ls hP hD hS (lv_sub hl [1, 2, 0] rfl)
            ·
              replace hw := hw.2 c28
              refine lv_aload_n hx hb dX2_study_88 rfl (lv_at hl 0 rfl) ?_
              refine gfX2_assertions hx hb hts hK hP hown (hts _ tw_796) dX2_study_89 ?_
              refine lv_iload_n hx hb dX2_study_92 rfl (lv_at hl 2 rfl) ?_
              obtain ⟨Q30, hc, hw⟩ := hw
              refine wc_i (X := CX g q lb) (va_runV (As := [.int (I u2)]) (rest := []) ⟨hx, hb, hml, hown, hts⟩ (L_X0_hasEssential l g q lb hlb r_u2 hN hc H.size) (cwV 1 hts (TB_V tw_1816 tw_1691 tw_1692 tw_5 co_X0_hasEssential) rfl rfl rfl (by decide +kernel) ⟨Nat.le_of_ble_eq_true rfl, Nat.le_of_ble_eq_true rfl⟩) (preV (q0 := 3) (ci := 0) rfl xT_bl hP hK hNb hD rfl rfl xT_at) rfl rfl hl.1 rfl (lv_room (Nat.le_of_ble_eq_true rfl)) dX2_study_93 ⟨Nat.le_of_ble_eq_true rfl, Nat.le_of_ble_eq_true rfl⟩) hP hD hS hA (fun x31 H locs r_x31 hq hP hD hS => ?_)
              replace hw := hw x31 r_x31 hq
              refine bi_if_ne (tgt := 144) hx hb r_x31 dX2_study_96 (by decide) (fun c33 => ?_) (fun c33 => ?_)
              ·
                replace hw := hw.1 c33
                refine lv_iinc (v := I (u2 + 1)) (lv' := [(2, .int (I (u2 + 1))), (0, .ref (q 11)), (1, .int (I u1))]) hx hb dX2_study_144 hl (k := 2) rfl (I_add _ _) (by decide) rfl (fun ls hl => ?_)
                refine lv_goto (tgt := 5) hx hb dX2_study_147 (by decide) ?_
                obtain ⟨c34, hw⟩ := hw
                exact (hP5 _ _ _).mp hw r_u1 c34 hN hF H locs ls hP hD hS (lv_sub hl [1, 2, 0] rfl)
              ·
                replace hw := hw.2 c33
                refine lv_aload_n hx hb dX2_study_99 rfl (lv_at hl 0 rfl) ?_
                refine lv_iload_n hx hb dX2_study_100 rfl (lv_at hl 2 rfl) ?_
                obtain ⟨Q35, hc, hw⟩ := hw
                refine wc_I (X := CX g q lb) (va_runV (As := [.int (I u2)]) (rest := []) ⟨hx, hb, hml, hown, hts⟩ (L_X2_canDefine l g q lb hlb r_u2 hN hc H.size) (cwV 1 hts (TB_V tw_1817 tw_1819 ts_85 tw_13 co_X2_canDefine) rfl rfl rfl (by decide +kernel) ⟨Nat.le_of_ble_eq_true rfl, Nat.le_of_ble_eq_true rfl⟩) (preV (q0 := 11) (ci := 2) rfl xT_bl hP hK hNb hD rfl rfl xT_at) rfl rfl hl.1 rfl (lv_room (Nat.le_of_ble_eq_true rfl)) dX2_study_101 ⟨Nat.le_of_ble_eq_true rfl, Nat.le_of_ble_eq_true rfl⟩) hP hD hS hA (fun x36 τ37 H locs r_x36 hN hf hq hP hD hS => ?_)
                replace hw := hw x36 τ37 r_x36 hN hf hq
                have hF : f_r [50, 51, 52, 53, 54, 57, 61, 62] [77, 78, 79, 80, 81, 82, 83, 84, 85, 86, 88, 89, 90, 92, 93, 94, 100] [3, 4, 5, 6, 7, 8] σ τ37 := f_t hF hf (by decide) (by decide) (by decide)
                have hB := hN
                refine bi_if_eq (tgt := 144) hx hb r_x36 dX2_study_104 (by decide) (fun c38 => ?_) (fun c38 => ?_)
                ·
                  replace hw := hw.1 c38
                  refine lv_iinc (v := I (u2 + 1)) (lv' := [(2, .int (I (u2 + 1))), (0, .ref (q 11)), (1, .int (I u1))]) hx hb dX2_study_144 hl (k := 2) rfl (I_add _ _) (by decide) rfl (fun ls hl => ?_)
                  refine lv_goto (tgt := 5) hx hb dX2_study_147 (by decide) ?_
                  obtain ⟨c39, hw⟩ := hw
                  exact (hP5 _ _ _).mp hw r_u1 c39 hN hF H locs ls hP hD hS (lv_sub hl [1, 2, 0] rfl)
                ·
                  replace hw := hw.2 c38
                  refine lv_aload_n hx hb dX2_study_107 rfl (lv_at hl 0 rfl) ?_
                  refine gfX2_needed hx hb hts hK hP hown (hts _ tw_803) dX2_study_108 ?_
                  refine lv_iload_n hx hb dX2_study_111 rfl (lv_at hl 2 rfl) ?_
                  refine lv_aload_n hx hb dX2_study_112 rfl (lv_at hl 0 rfl) ?_
                  refine gfX2_tree hx hb hts hK hP hown (hts _ tw_799) dX2_study_113 ?_
                  refine gfNX11_rule hx hb hts hK hP hown (nb_use hNb tn_741) dX2_study_116 ?_
                  refine lv_iconst (v := I 0) hx hb dX2_study_119 rfl ?_
                  refine ldCX11_rule hx hb hK hP hN (by decide) dX2_study_120 (fun x40 r_x40 e_x40 => ?_)
                  replace hw := hw x40 r_x40 e_x40
                  refine lv_iconst (v := I 1) hx hb dX2_study_121 rfl ?_
                  refine bi_iadd hx hb dX2_study_122 ?_
                  obtain ⟨c41, hw⟩ := hw
                  refine sdCX2_needed hx hb hK hP hD hS c26 dX2_study_123 (fun H locs hP hD hS => ?_)
                  have hN : n_m (s_a τ37 93 u2 (x40 + 1)) := n_a (k := 93) (j := u2) hN (c41 : rg (x40 + 1))
                  have hF : f_r [50, 51, 52, 53, 54, 57, 61, 62] [77, 78, 79, 80, 81, 82, 83, 84, 85, 86, 88, 89, 90, 92, 93, 94, 100] [3, 4, 5, 6, 7, 8] σ (s_a τ37 93 u2 (x40 + 1)) := f_a hF (by decide)
                  refine lv_aload_n hx hb dX2_study_124 rfl (lv_at hl 0 rfl) ?_
                  refine gfX2_target hx hb hts hK hP hown (hts _ tw_804) dX2_study_125 ?_
                  refine lv_iload_n hx hb dX2_study_128 rfl (lv_at hl 2 rfl) ?_
                  refine lv_aload_n hx hb dX2_study_129 rfl (lv_at hl 0 rfl) ?_
                  refine gfX2_tree hx hb hts hK hP hown (hts _ tw_799) dX2_study_130 ?_
                  refine gfNX11_rule hx hb hts hK hP hown (nb_use hNb tn_741) dX2_study_133 ?_
                  refine lv_aload_n hx hb dX2_study_136 rfl (lv_at hl 0 rfl) ?_
                  refine gfX2_firstTree hx hb hts hK hP hown (hts _ tw_814) (x := τ37.1 61) rfl dX2_study_137 ?_
                  obtain ⟨c42, hw⟩ := hw
                  refine ldCX11_rule hx hb hK hP hN c42 dX2_study_140 (fun x43 r_x43 e_x43 => ?_)
                  replace hw := hw x43 r_x43 e_x43
                  refine lv_iconst (v := I 1) hx hb dX2_study_141 rfl ?_
                  refine bi_iadd hx hb dX2_study_142 ?_
                  obtain ⟨c44, hw⟩ := hw
                  refine sdCX2_target hx hb hK hP hD hS c26 dX2_study_143 (fun H locs hP hD hS => ?_)
                  have hN : n_m (s_a (s_a τ37 93 u2 (x40 + 1)) 94 u2 (x43 + 1)) := n_a (k := 94) (j := u2) hN (c44 : rg (x43 + 1))
                  have hF : f_r [50, 51, 52, 53, 54, 57, 61, 62] [77, 78, 79, 80, 81, 82, 83, 84, 85, 86, 88, 89, 90, 92, 93, 94, 100] [3, 4, 5, 6, 7, 8] σ (s_a (s_a τ37 93 u2 (x40 + 1)) 94 u2 (x43 + 1)) := f_a hF (by decide)
                  refine lv_iinc (v := I (u2 + 1)) (lv' := [(2, .int (I (u2 + 1))), (0, .ref (q 11)), (1, .int (I u1))]) hx hb dX2_study_144 hl (k := 2) rfl (I_add _ _) (by decide) rfl (fun ls hl => ?_)
                  refine lv_goto (tgt := 5) hx hb dX2_study_147 (by decide) ?_
                  obtain ⟨c45, hw⟩ := hw
                  exact (hP5 _ _ _).mp hw r_u1 c45 hN hF H locs ls hP hD hS (lv_sub hl [1, 2, 0] rfl)
        ·
          replace hw := hw.2 c11
          refine lv_goto (tgt := 144) hx hb dX2_study_41 (by decide) ?_
          refine lv_iinc (v := I (u2 + 1)) (lv' := [(2, .int (I (u2 + 1))), (0, .ref (q 11)), (1, .int (I u1))]) hx hb dX2_study_144 hl (k := 2) rfl (I_add _ _) (by decide) rfl (fun ls hl => ?_)
          refine lv_goto (tgt := 5) hx hb dX2_study_147 (by decide) ?_
          obtain ⟨c46, hw⟩ := hw
          exact (hP5 _ _ _).mp hw r_u1 c46 hN hF H locs ls hP hD hS (lv_sub hl [1, 2, 0] rfl)
def W_X2_definedRule (n1 : Int) (σ : S0) (Q : Int → Prop) : Prop :=
  (0 ≤ n1 ∧ n1 < 1500) ∧ (∀ (x2 : Int), rg x2 → x2 = σ.2.1 93 n1 → ((x2 = 0 → Q (-1)) ∧ (¬ x2 = 0 → ∀ (x4 : Int), rg x4 → x4 = σ.2.1 93 n1 → ((0 ≤ (x4 - 1) ∧ (x4 - 1) < 1500) ∧ (∀ (x6 : Int), rg x6 → x6 = σ.2.1 96 (x4 - 1) → ((x6 = 0 → Q (-1)) ∧ (¬ x6 = 0 → ∀ (x8 : Int), rg x8 → x8 = σ.2.1 94 n1 → ((0 ≤ (x8 - 1) ∧ (x8 - 1) < 1500) ∧ (∀ (x10 : Int), rg x10 → x10 = σ.2.1 96 (x8 - 1) → ((x10 = 0 → ∀ (x12 : Int), rg x12 → x12 = σ.2.1 94 n1 → (rg (x12 - 1) ∧ Q (x12 - 1))) ∧ (¬ x10 = 0 → Q (-1))))))))))))
set_option maxRecDepth 100000 in
set_option maxHeartbeats 4000000 in
theorem L_X2_definedRule (l : Launch) (g : gG) (q : Nat → Nat) (lb : Nat) (hlb : lb < 2 ^ 31) {n1 : Int} {σ : S0} {Q : Int → Prop} (r_n1 : rg n1) (hN : n_m σ) (hw : W_X2_definedRule n1 σ Q) (sz : Nat) : MetI l yX2_definedRule cX2_definedRule 2 (some .int) { frames := 0, cells := 0, slots := 0, locals := 0 } g [.ref (q 11), .int (I n1)] (CX g q lb σ) sz xT (p_i (CX g q lb) σ Q) 0 0 := by
  refine mkMet (Qc := fun A => QI g A (p_i (CX g q lb) σ Q)) (by decide) (Nat.le_of_ble_eq_true rfl) ?_
  intro p e s m below meth c A H ls hx hb hr hml hown hts hlk hnm hsz hP hK hNb hD hA hAe hS hX hl
  have hl : lv_has ls 2 [(0, .ref (q 11)), (1, .int (I n1))] := hl
  have hB := hN
  obtain ⟨locs, hlocs⟩ : ∃ z : List Loc, z = [] := ⟨_, rfl⟩
  rw [← hlocs] at hS ⊢
  refine lv_aload_n hx hb dX2_definedRule_0 rfl (lv_at hl 0 rfl) ?_
  refine gfX2_needed hx hb hts hK hP hown (hts _ tw_803) dX2_definedRule_1 ?_
  refine lv_iload_n hx hb dX2_definedRule_4 rfl (lv_at hl 1 rfl) ?_
  obtain ⟨c1, hw⟩ := hw
  refine ldCX2_needed hx hb hK hP hN c1 dX2_definedRule_5 (fun x2 r_x2 e_x2 => ?_)
  replace hw := hw x2 r_x2 e_x2
  refine bi_if_eq (tgt := 41) hx hb r_x2 dX2_definedRule_6 (by decide) (fun c3 => ?_) (fun c3 => ?_)
  ·
    replace hw := hw.1 c3
    refine lv_iconst (v := I (-1)) hx hb dX2_definedRule_41 rfl ?_
    exact xri hx hb hr hlk hP hK hD hS ⟨_, (by decide), rfl, rfl, hw⟩ (Nat.le_of_ble_eq_true rfl) (Nat.le_of_ble_eq_true rfl) dX2_definedRule_42
  ·
    replace hw := hw.2 c3
    refine lv_aload_n hx hb dX2_definedRule_9 rfl (lv_at hl 0 rfl) ?_
    refine gfX2_equality hx hb hts hK hP hown (hts _ tw_806) dX2_definedRule_10 ?_
    refine lv_aload_n hx hb dX2_definedRule_13 rfl (lv_at hl 0 rfl) ?_
    refine gfX2_needed hx hb hts hK hP hown (hts _ tw_803) dX2_definedRule_14 ?_
    refine lv_iload_n hx hb dX2_definedRule_17 rfl (lv_at hl 1 rfl) ?_
    refine ldCX2_needed hx hb hK hP hN c1 dX2_definedRule_18 (fun x4 r_x4 e_x4 => ?_)
    replace hw := hw x4 r_x4 e_x4
    refine lv_iconst (v := I 1) hx hb dX2_definedRule_19 rfl ?_
    refine bi_isub hx hb dX2_definedRule_20 ?_
    obtain ⟨c5, hw⟩ := hw
    refine ldCX2_equality hx hb hK hP hN c5 dX2_definedRule_21 (fun x6 r_x6 e_x6 => ?_)
    replace hw := hw x6 r_x6 e_x6
    refine bi_if_eq (tgt := 41) hx hb r_x6 dX2_definedRule_22 (by decide) (fun c7 => ?_) (fun c7 => ?_)
    ·
      replace hw := hw.1 c7
      refine lv_iconst (v := I (-1)) hx hb dX2_definedRule_41 rfl ?_
      exact xri hx hb hr hlk hP hK hD hS ⟨_, (by decide), rfl, rfl, hw⟩ (Nat.le_of_ble_eq_true rfl) (Nat.le_of_ble_eq_true rfl) dX2_definedRule_42
    ·
      replace hw := hw.2 c7
      refine lv_aload_n hx hb dX2_definedRule_25 rfl (lv_at hl 0 rfl) ?_
      refine gfX2_equality hx hb hts hK hP hown (hts _ tw_806) dX2_definedRule_26 ?_
      refine lv_aload_n hx hb dX2_definedRule_29 rfl (lv_at hl 0 rfl) ?_
      refine gfX2_target hx hb hts hK hP hown (hts _ tw_804) dX2_definedRule_30 ?_
      refine lv_iload_n hx hb dX2_definedRule_33 rfl (lv_at hl 1 rfl) ?_
      refine ldCX2_target hx hb hK hP hN c1 dX2_definedRule_34 (fun x8 r_x8 e_x8 => ?_)
      replace hw := hw x8 r_x8 e_x8
      refine lv_iconst (v := I 1) hx hb dX2_definedRule_35 rfl ?_
      refine bi_isub hx hb dX2_definedRule_36 ?_
      obtain ⟨c9, hw⟩ := hw
      refine ldCX2_equality hx hb hK hP hN c9 dX2_definedRule_37 (fun x10 r_x10 e_x10 => ?_)
      replace hw := hw x10 r_x10 e_x10
      refine bi_if_eq (tgt := 43) hx hb r_x10 dX2_definedRule_38 (by decide) (fun c11 => ?_) (fun c11 => ?_)
      ·
        replace hw := hw.1 c11
        refine lv_aload_n hx hb dX2_definedRule_43 rfl (lv_at hl 0 rfl) ?_
        refine gfX2_target hx hb hts hK hP hown (hts _ tw_804) dX2_definedRule_44 ?_
        refine lv_iload_n hx hb dX2_definedRule_47 rfl (lv_at hl 1 rfl) ?_
        refine ldCX2_target hx hb hK hP hN c1 dX2_definedRule_48 (fun x12 r_x12 e_x12 => ?_)
        replace hw := hw x12 r_x12 e_x12
        refine lv_iconst (v := I 1) hx hb dX2_definedRule_49 rfl ?_
        refine bi_isub hx hb dX2_definedRule_50 ?_
        obtain ⟨c13, hw⟩ := hw
        exact xri hx hb hr hlk hP hK hD hS ⟨_, c13, rfl, rfl, hw⟩ (Nat.le_of_ble_eq_true rfl) (Nat.le_of_ble_eq_true rfl) dX2_definedRule_51
      ·
        replace hw := hw.2 c11
        refine lv_iconst (v := I (-1)) hx hb dX2_definedRule_41 rfl ?_
        exact xri hx hb hr hlk hP hK hD hS ⟨_, (by decide), rfl, rfl, hw⟩ (Nat.le_of_ble_eq_true rfl) (Nat.le_of_ble_eq_true rfl) dX2_definedRule_42
def W_X6_clear (σ : S0) (Q : S0 → Prop) : Prop :=
  Q (s_v (s_v σ 17 0) 18 42000)
set_option maxRecDepth 100000 in
set_option maxHeartbeats 4000000 in
theorem L_X6_clear (l : Launch) (g : gG) (q : Nat → Nat) (lb : Nat) (hlb : lb < 2 ^ 31) {σ : S0} {Q : S0 → Prop} (hN : n_m σ) (hw : W_X6_clear σ Q) (sz : Nat) : MetV l yX6_clear cX6_clear 1 { frames := 0, cells := 0, slots := 0, locals := 0 } g [.ref (q 4)] (CX g q lb σ) sz xT (p_V (CX g q lb) [17, 18] [] [] σ Q) 0 0 := by
  refine mkMet (Qc := fun A => QV g A (p_V (CX g q lb) [17, 18] [] [] σ Q)) (by decide) (Nat.le_of_ble_eq_true rfl) ?_
  intro p e s m below meth c A H ls hx hb hr hml hown hts hlk hnm hsz hP hK hNb hD hA hAe hS hX hl
  have hl : lv_has ls 1 [(0, .ref (q 4))] := hl
  have hB := hN
  have hF : f_r [17, 18] [] [] σ σ := f_0
  obtain ⟨locs, hlocs⟩ : ∃ z : List Loc, z = [] := ⟨_, rfl⟩
  rw [← hlocs] at hS ⊢
  refine lv_aload_n hx hb dX6_clear_0 rfl (lv_at hl 0 rfl) ?_
  refine lv_iconst (v := I 0) hx hb dX6_clear_1 rfl ?_
  refine pfX6_low hx hb hts hK hP hD hS hown (hts _ tw_350) dX6_clear_2 (fun H locs hP hD hS => ?_)
  have hN : n_m (s_v σ 17 0) := n_v (i := 17) hN ((by decide) : rg 0)
  have hF : f_r [17, 18] [] [] σ (s_v σ 17 0) := f_v hF (by decide)
  refine lv_aload_n hx hb dX6_clear_5 rfl (lv_at hl 0 rfl) ?_
  refine lv_ldc (own := RX6) (v := 42000) hx hb hown (hts _ tw_343) dX6_clear_6 ?_
  refine xtop (y := I 42000) (by decide) ?_
  refine pfX6_high hx hb hts hK hP hD hS hown (hts _ tw_352) dX6_clear_8 (fun H locs hP hD hS => ?_)
  have hN : n_m (s_v (s_v σ 17 0) 18 42000) := n_v (i := 18) hN ((by decide) : rg 42000)
  have hF : f_r [17, 18] [] [] σ (s_v (s_v σ 17 0) 18 42000) := f_v hF (by decide)
  exact xrv hx hb hr hlk hP hK hD hS ⟨_, hN, hF, rfl, hw⟩ (Nat.le_of_ble_eq_true rfl) (Nat.le_of_ble_eq_true rfl) dX6_clear_11
def W_X2_composeRow (n1 : Int) (σ : S0) (Q : Int → S0 → Prop) : Prop :=
  (0 ≤ n1 ∧ n1 < 20000) ∧ (∀ (x2 : Int), rg x2 → x2 = σ.2.1 41 n1 → ((x2 = (-2) → Q 0 σ) ∧ (¬ x2 = (-2) → rg (σ.1 19 + x2) ∧ ((σ.1 19 + x2) < 600 → ∀ (x6 : Int), rg x6 → x6 = σ.2.1 40 n1 → (((0 : Int) ≤ x6 ∧ (0 : Int) ≤ σ.1 19 ∧ (0 : Int) ≤ x2 ∧ x6 + x2 ≤ 42000 ∧ σ.1 19 + x2 ≤ 1000) ∧ (Q 1 (s_v (s_f σ 43 (c_py (σ.2.1 39) (σ.2.1 43) x6 (σ.1 19) x2)) 19 (σ.1 19 + x2))))) ∧ (600 ≤ (σ.1 19 + x2) → Q 0 σ))))
set_option maxRecDepth 100000 in
set_option maxHeartbeats 4000000 in
theorem L_X2_composeRow (l : Launch) (g : gG) (q : Nat → Nat) (lb : Nat) (hlb : lb < 2 ^ 31) {n1 : Int} {σ : S0} {Q : Int → S0 → Prop} (r_n1 : rg n1) (hN : n_m σ) (hw : W_X2_composeRow n1 σ Q) (sz : Nat) : MetI l yX2_composeRow cX2_composeRow 3 (some .boolean) { frames := 1, cells := 0, slots := 0, locals := 75 } g [.ref (q 11), .int (I n1)] (CX g q lb σ) sz xT (p_I (CX g q lb) [19] [43] [] σ Q) 0 0 := by
  refine mkMet (Qc := fun A => QI g A (p_I (CX g q lb) [19] [43] [] σ Q)) (by decide) (Nat.le_of_ble_eq_true rfl) ?_
  intro p e s m below meth c A H ls hx hb hr hml hown hts hlk hnm hsz hP hK hNb hD hA hAe hS hX hl
  have hl : lv_has ls 3 [(0, .ref (q 11)), (1, .int (I n1))] := hl
  have hB := hN
  have hF : f_r [19] [43] [] σ σ := f_0
  obtain ⟨locs, hlocs⟩ : ∃ z : List Loc, z = [] := ⟨_, rfl⟩
  rw [← hlocs] at hS ⊢
  refine lv_aload_n hx hb dX2_composeRow_0 rfl (lv_at hl 0 rfl) ?_
  refine gfX2_pile hx hb hts hK hP hown (hts _ tw_800) dX2_composeRow_1 ?_
  refine gfNX6_size hx hb hts hK hP hown (nb_use hNb tn_357) dX2_composeRow_4 ?_
  refine lv_iload_n hx hb dX2_composeRow_7 rfl (lv_at hl 1 rfl) ?_
  obtain ⟨c1, hw⟩ := hw
  refine ldCX6_size hx hb hK hP hN c1 dX2_composeRow_8 (fun x2 r_x2 e_x2 => ?_)
  replace hw := hw x2 r_x2 e_x2
  refine lv_istore_n (lv' := [(2, .int (I x2)), (0, .ref (q 11)), (1, .int (I n1))]) hx hb dX2_composeRow_9 rfl hl (by decide) rfl (fun ls hl => ?_)
  refine lv_iload_n hx hb dX2_composeRow_10 rfl (lv_at hl 0 rfl) ?_
  refine lv_bipush (v := I (-2)) hx hb dX2_composeRow_11 (by decide) ?_
  refine bi_icmp_eq (tgt := 31) hx hb r_x2 (by decide) dX2_composeRow_13 (by decide) (fun c3 => ?_) (fun c3 => ?_)
  ·
    replace hw := hw.1 c3
    refine lv_iconst (v := I 0) hx hb dX2_composeRow_31 rfl ?_
    exact xrz hx hb hr (by decide) hlk hP hK hD hS ⟨_, _, (by decide), rfl, hN, hF, rfl, hw⟩ (Nat.le_of_ble_eq_true rfl) (Nat.le_of_ble_eq_true rfl) dX2_composeRow_32
  ·
    replace hw := hw.2 c3
    refine lv_aload_n hx hb dX2_composeRow_16 rfl (lv_at hl 1 rfl) ?_
    refine gfX2_pile hx hb hts hK hP hown (hts _ tw_800) dX2_composeRow_17 ?_
    refine gfNX6_builtSize hx hb hts hK hP hown (nb_use hNb tn_364) (x := σ.1 19) rfl dX2_composeRow_20 ?_
    refine lv_iload_n hx hb dX2_composeRow_23 rfl (lv_at hl 0 rfl) ?_
    refine bi_iadd hx hb dX2_composeRow_24 ?_
    refine lv_sipush (v := I 600) hx hb dX2_composeRow_25 (by decide) ?_
    obtain ⟨c4, hw⟩ := hw
    refine bi_icmp_lt (tgt := 33) hx hb c4 (by decide) dX2_composeRow_28 (by decide) (fun c5 => ?_) (fun c5 => ?_)
    ·
      replace hw := hw.1 c5
      refine lv_aload_n hx hb dX2_composeRow_33 rfl (lv_at hl 1 rfl) ?_
      refine gfX2_pile hx hb hts hK hP hown (hts _ tw_800) dX2_composeRow_34 ?_
      refine gfNX6_data hx hb hts hK hP hown (nb_use hNb tn_348) dX2_composeRow_37 ?_
      refine lv_aload_n hx hb dX2_composeRow_40 rfl (lv_at hl 1 rfl) ?_
      refine gfX2_pile hx hb hts hK hP hown (hts _ tw_800) dX2_composeRow_41 ?_
      refine gfNX6_at hx hb hts hK hP hown (nb_use hNb tn_354) dX2_composeRow_44 ?_
      refine lv_iload_n hx hb dX2_composeRow_47 rfl (lv_at hl 2 rfl) ?_
      refine ldCX6_at hx hb hK hP hN c1 dX2_composeRow_48 (fun x6 r_x6 e_x6 => ?_)
      replace hw := hw x6 r_x6 e_x6
      refine lv_aload_n hx hb dX2_composeRow_49 rfl (lv_at hl 1 rfl) ?_
      refine gfX2_pile hx hb hts hK hP hown (hts _ tw_800) dX2_composeRow_50 ?_
      refine gfNX6_built hx hb hts hK hP hown (nb_use hNb tn_362) dX2_composeRow_53 ?_
      refine lv_aload_n hx hb dX2_composeRow_56 rfl (lv_at hl 1 rfl) ?_
      refine gfX2_pile hx hb hts hK hP hown (hts _ tw_800) dX2_composeRow_57 ?_
      refine gfNX6_builtSize hx hb hts hK hP hown (nb_use hNb tn_364) (x := σ.1 19) rfl dX2_composeRow_60 ?_
      refine lv_iload_n hx hb dX2_composeRow_63 rfl (lv_at hl 0 rfl) ?_
      obtain ⟨c7, hw⟩ := hw
      refine wr_cpy hx hb (by rw [hml]; exact hl.1.symm) hown (hts _ tw_1873) (hts _ tw_1297) (hts _ tw_1296) (hts _ tw_17) hK hP hD hS 55 59 (f := (σ.2.1 39)) (h := (σ.2.1 43)) rfl rfl r_x6 (hB.1 19) r_x2 c7.1 c7.2.1 c7.2.2.1 c7.2.2.2.1 c7.2.2.2.2 (Nat.le_of_ble_eq_true rfl) (by decide) dX2_composeRow_64 (ws' := CX g q lb (s_f σ 43 (c_py (σ.2.1 39) (σ.2.1 43) x6 (σ.1 19) x2))) (Csa43 _) (fun H locs hP hD hS => ?_)
      have hN : n_m (s_f σ 43 (c_py (σ.2.1 39) (σ.2.1 43) x6 (σ.1 19) x2)) := n_f (k := 43) (f := (c_py (σ.2.1 39) (σ.2.1 43) x6 (σ.1 19) x2)) hN (n_cpy (hN.2 39) (hN.2 43) _ _ _)
      have hF : f_r [19] [43] [] σ (s_f σ 43 (c_py (σ.2.1 39) (σ.2.1 43) x6 (σ.1 19) x2)) := f_f hF (by decide)
      refine lv_aload_n hx hb dX2_composeRow_67 rfl (lv_at hl 1 rfl) ?_
      refine gfX2_pile hx hb hts hK hP hown (hts _ tw_800) dX2_composeRow_68 ?_
      refine lv_dup hx hb dX2_composeRow_71 rfl ?_
      refine gfNX6_builtSize hx hb hts hK hP hown (nb_use hNb tn_364) (x := σ.1 19) rfl dX2_composeRow_72 ?_
      refine lv_iload_n hx hb dX2_composeRow_75 rfl (lv_at hl 0 rfl) ?_
      refine bi_iadd hx hb dX2_composeRow_76 ?_
      refine pfNX6_builtSize hx hb hts hK hP hD hS hown (nb_use hNb tn_364) dX2_composeRow_77 (fun H locs hP hD hS => ?_)
      have hN : n_m (s_v (s_f σ 43 (c_py (σ.2.1 39) (σ.2.1 43) x6 (σ.1 19) x2)) 19 (σ.1 19 + x2)) := n_v (i := 19) hN (c4 : rg (σ.1 19 + x2))
      have hF : f_r [19] [43] [] σ (s_v (s_f σ 43 (c_py (σ.2.1 39) (σ.2.1 43) x6 (σ.1 19) x2)) 19 (σ.1 19 + x2)) := f_v hF (by decide)
      refine lv_iconst (v := I 1) hx hb dX2_composeRow_80 rfl ?_
      exact xrz hx hb hr (by decide) hlk hP hK hD hS ⟨_, _, (by decide), rfl, hN, hF, rfl, hw⟩ (Nat.le_of_ble_eq_true rfl) (Nat.le_of_ble_eq_true rfl) dX2_composeRow_81
    ·
      replace hw := hw.2 c5
      refine lv_iconst (v := I 0) hx hb dX2_composeRow_31 rfl ?_
      exact xrz hx hb hr (by decide) hlk hP hK hD hS ⟨_, _, (by decide), rfl, hN, hF, rfl, hw⟩ (Nat.le_of_ble_eq_true rfl) (Nat.le_of_ble_eq_true rfl) dX2_composeRow_32
def W_X2_composeSymbol (n1 : Int) (σ : S0) (Q : Int → S0 → Prop) : Prop :=
  rg (σ.1 19 + 1) ∧ ((σ.1 19 + 1) < 600 → (0 ≤ σ.1 19 ∧ σ.1 19 < 1000) ∧ (Q 1 (s_v (s_a σ 43 (σ.1 19) n1) 19 (σ.1 19 + 1)))) ∧ (600 ≤ (σ.1 19 + 1) → Q 0 σ)
set_option maxRecDepth 100000 in
set_option maxHeartbeats 4000000 in
theorem L_X2_composeSymbol (l : Launch) (g : gG) (q : Nat → Nat) (lb : Nat) (hlb : lb < 2 ^ 31) {n1 : Int} {σ : S0} {Q : Int → S0 → Prop} (r_n1 : rg n1) (hN : n_m σ) (hw : W_X2_composeSymbol n1 σ Q) (sz : Nat) : MetI l yX2_composeSymbol cX2_composeSymbol 2 (some .boolean) { frames := 0, cells := 0, slots := 0, locals := 0 } g [.ref (q 11), .int (I n1)] (CX g q lb σ) sz xT (p_I (CX g q lb) [19] [43] [] σ Q) 0 0 := by
  refine mkMet (Qc := fun A => QI g A (p_I (CX g q lb) [19] [43] [] σ Q)) (by decide) (Nat.le_of_ble_eq_true rfl) ?_
  intro p e s m below meth c A H ls hx hb hr hml hown hts hlk hnm hsz hP hK hNb hD hA hAe hS hX hl
  have hl : lv_has ls 2 [(0, .ref (q 11)), (1, .int (I n1))] := hl
  have hB := hN
  have hF : f_r [19] [43] [] σ σ := f_0
  obtain ⟨locs, hlocs⟩ : ∃ z : List Loc, z = [] := ⟨_, rfl⟩
  rw [← hlocs] at hS ⊢
  refine lv_aload_n hx hb dX2_composeSymbol_0 rfl (lv_at hl 0 rfl) ?_
  refine gfX2_pile hx hb hts hK hP hown (hts _ tw_800) dX2_composeSymbol_1 ?_
  refine gfNX6_builtSize hx hb hts hK hP hown (nb_use hNb tn_364) (x := σ.1 19) rfl dX2_composeSymbol_4 ?_
  refine lv_iconst (v := I 1) hx hb dX2_composeSymbol_7 rfl ?_
  refine bi_iadd hx hb dX2_composeSymbol_8 ?_
  refine lv_sipush (v := I 600) hx hb dX2_composeSymbol_9 (by decide) ?_
  obtain ⟨c1, hw⟩ := hw
  refine bi_icmp_lt (tgt := 17) hx hb c1 (by decide) dX2_composeSymbol_12 (by decide) (fun c2 => ?_) (fun c2 => ?_)
  ·
    replace hw := hw.1 c2
    refine lv_aload_n hx hb dX2_composeSymbol_17 rfl (lv_at hl 0 rfl) ?_
    refine gfX2_pile hx hb hts hK hP hown (hts _ tw_800) dX2_composeSymbol_18 ?_
    refine gfNX6_built hx hb hts hK hP hown (nb_use hNb tn_362) dX2_composeSymbol_21 ?_
    refine lv_aload_n hx hb dX2_composeSymbol_24 rfl (lv_at hl 0 rfl) ?_
    refine gfX2_pile hx hb hts hK hP hown (hts _ tw_800) dX2_composeSymbol_25 ?_
    refine gfNX6_builtSize hx hb hts hK hP hown (nb_use hNb tn_364) (x := σ.1 19) rfl dX2_composeSymbol_28 ?_
    refine lv_iload_n hx hb dX2_composeSymbol_31 rfl (lv_at hl 1 rfl) ?_
    obtain ⟨c3, hw⟩ := hw
    refine sdCX6_built hx hb hK hP hD hS c3 dX2_composeSymbol_32 (fun H locs hP hD hS => ?_)
    have hN : n_m (s_a σ 43 (σ.1 19) n1) := n_a (k := 43) (j := σ.1 19) hN (r_n1 : rg n1)
    have hF : f_r [19] [43] [] σ (s_a σ 43 (σ.1 19) n1) := f_a hF (by decide)
    refine lv_aload_n hx hb dX2_composeSymbol_33 rfl (lv_at hl 0 rfl) ?_
    refine gfX2_pile hx hb hts hK hP hown (hts _ tw_800) dX2_composeSymbol_34 ?_
    refine lv_dup hx hb dX2_composeSymbol_37 rfl ?_
    refine gfNX6_builtSize hx hb hts hK hP hown (nb_use hNb tn_364) (x := σ.1 19) rfl dX2_composeSymbol_38 ?_
    refine lv_iconst (v := I 1) hx hb dX2_composeSymbol_41 rfl ?_
    refine bi_iadd hx hb dX2_composeSymbol_42 ?_
    refine pfNX6_builtSize hx hb hts hK hP hD hS hown (nb_use hNb tn_364) dX2_composeSymbol_43 (fun H locs hP hD hS => ?_)
    have hN : n_m (s_v (s_a σ 43 (σ.1 19) n1) 19 (σ.1 19 + 1)) := n_v (i := 19) hN (c1 : rg (σ.1 19 + 1))
    have hF : f_r [19] [43] [] σ (s_v (s_a σ 43 (σ.1 19) n1) 19 (σ.1 19 + 1)) := f_v hF (by decide)
    refine lv_iconst (v := I 1) hx hb dX2_composeSymbol_46 rfl ?_
    exact xrz hx hb hr (by decide) hlk hP hK hD hS ⟨_, _, (by decide), rfl, hN, hF, rfl, hw⟩ (Nat.le_of_ble_eq_true rfl) (Nat.le_of_ble_eq_true rfl) dX2_composeSymbol_47
  ·
    replace hw := hw.2 c2
    refine lv_iconst (v := I 0) hx hb dX2_composeSymbol_15 rfl ?_
    exact xrz hx hb hr (by decide) hlk hP hK hD hS ⟨_, _, (by decide), rfl, hN, hF, rfl, hw⟩ (Nat.le_of_ble_eq_true rfl) (Nat.le_of_ble_eq_true rfl) dX2_composeSymbol_16
def W_X2_compose (lb : Nat) (n1 : Int) (n2 : Int) (n3 : Int) (σ : S0) (Q : Int → S0 → Prop) : Prop :=
  ∀ (P43 : Int → Int → Int → Int → S0 → Prop) (P147 : Int → Int → Int → Int → S0 → Prop),
  (∀ (u1 : Int) (u2 : Int) (u4 : Int) (u5 : Int) (τ : S0), ((0 ≤ (u1 + 1) ∧ (u1 + 1) < 1501) ∧ (∀ (x16 : Int), rg x16 → x16 = τ.2.1 14 (u1 + 1) → ((x16 ≤ u5 → (0 ≤ u4 ∧ u4 ≤ 1) ∧ Q u4 τ) ∧ (u5 < x16 → (u4 = 0 → (0 ≤ u4 ∧ u4 ≤ 1) ∧ Q u4 τ) ∧ (¬ u4 = 0 → (0 ≤ u5 ∧ u5 < 30000) ∧ (∀ (x22 : Int), rg x22 → x22 = τ.2.1 16 u5 → ((¬ x22 = (-1) → ∃ (Q24 : Int → Prop), W_X0_placeInFrame u1 x22 τ Q24 ∧ ∀ (x25 : Int), rg x25 → Q24 x25 → (rg (u2 + x25) ∧ ∃ (Q28 : Int → S0 → Prop), W_X2_composeRow (u2 + x25) τ Q28 ∧ ∀ (x29 : Int) (τ30 : S0), rg x29 → n_m τ30 → f_r [19] [43] [] τ τ30 → Q28 x29 τ30 → (rg (u5 + 1) ∧ P43 u1 u2 x29 (u5 + 1) τ30))) ∧ (x22 = (-1) → ∀ (x32 : Int), rg x32 → x32 = τ.2.1 15 u5 → (∃ (Q33 : Int → S0 → Prop), W_X2_composeSymbol x32 τ Q33 ∧ ∀ (x34 : Int) (τ35 : S0), rg x34 → n_m τ35 → f_r [19] [43] [] τ τ35 → Q33 x34 τ35 → (rg (u5 + 1) ∧ P43 u1 u2 x34 (u5 + 1) τ35)))))))))) → P43 u1 u2 u4 u5 τ) →
  (∀ (u1 : Int) (u2 : Int) (u4 : Int) (u5 : Int) (τ : S0), ((0 ≤ u1 ∧ u1 < 1500) ∧ (∀ (x38 : Int), rg x38 → x38 = τ.2.1 98 u1 → (∀ (x39 : Int), rg x39 → x39 = τ.2.1 99 u1 → (rg (x38 + x39) ∧ ((x38 + x39) ≤ u5 → (0 ≤ u4 ∧ u4 ≤ 1) ∧ Q u4 τ) ∧ (u5 < (x38 + x39) → (u4 = 0 → (0 ≤ u4 ∧ u4 ≤ 1) ∧ Q u4 τ) ∧ (¬ u4 = 0 → (0 ≤ u5 ∧ u5 < lb) ∧ (∀ (x46 : Int), rg x46 → x46 = τ.2.1 97 u5 → ((1000 ≤ x46 → ∀ (x48 : Int), rg x48 → x48 = τ.2.1 97 u5 → (rg ((u2 + x48) - 1000) ∧ ∃ (Q50 : Int → S0 → Prop), W_X2_composeRow ((u2 + x48) - 1000) τ Q50 ∧ ∀ (x51 : Int) (τ52 : S0), rg x51 → n_m τ52 → f_r [19] [43] [] τ τ52 → Q50 x51 τ52 → (rg (u5 + 1) ∧ P147 u1 u2 x51 (u5 + 1) τ52))) ∧ (x46 < 1000 → ∀ (x54 : Int), rg x54 → x54 = τ.2.1 97 u5 → (∃ (Q55 : Int → S0 → Prop), W_X2_composeSymbol x54 τ Q55 ∧ ∀ (x56 : Int) (τ57 : S0), rg x56 → n_m τ57 → f_r [19] [43] [] τ τ57 → Q55 x56 τ57 → (rg (u5 + 1) ∧ P147 u1 u2 x56 (u5 + 1) τ57))))))))))) → P147 u1 u2 u4 u5 τ) →
  (0 ≤ n1 ∧ n1 < 1500) ∧ (∀ (x2 : Int), rg x2 → x2 = σ.2.1 95 n1 → ((x2 = 0 → (0 ≤ n1 ∧ n1 < 1501) ∧ (∀ (x5 : Int), rg x5 → x5 = σ.2.1 14 n1 → (rg (x5 + 1) ∧ P43 n1 n2 1 (x5 + 1) (s_v σ 19 0)))) ∧ (¬ x2 = 0 → ∀ (x7 : Int), rg x7 → x7 = σ.2.1 95 n1 → ((x7 ≤ n3 → ∀ (x9 : Int), rg x9 → x9 = σ.2.1 99 n1 → ((¬ x9 = (-2) → ∀ (x11 : Int), rg x11 → x11 = σ.2.1 98 n1 → (P147 n1 n2 1 x11 (s_v σ 19 0))) ∧ (x9 = (-2) → Q 0 (s_v σ 19 0)))) ∧ (n3 < x7 → (0 ≤ n1 ∧ n1 < 1501) ∧ (∀ (x13 : Int), rg x13 → x13 = σ.2.1 14 n1 → (rg (x13 + 1) ∧ P43 n1 n2 1 (x13 + 1) (s_v σ 19 0))))))))
set_option maxRecDepth 100000 in
set_option maxHeartbeats 4000000 in
theorem L_X2_compose (l : Launch) (g : gG) (q : Nat → Nat) (lb : Nat) (hlb : lb < 2 ^ 31) {n1 : Int} {n2 : Int} {n3 : Int} {σ : S0} {Q : Int → S0 → Prop} (r_n1 : rg n1) (r_n2 : rg n2) (r_n3 : rg n3) (hN : n_m σ) (hw : W_X2_compose lb n1 n2 n3 σ Q) (sz : Nat) : MetI l yX2_compose cX2_compose 7 (some .boolean) { frames := 2, cells := 0, slots := 0, locals := 97 } g [.ref (q 11), .int (I n1), .int (I n2), .int (I n3)] (CX g q lb σ) sz xT (p_I (CX g q lb) [19] [43] [] σ Q) 0 0 := by
  refine mkMet (Qc := fun A => QI g A (p_I (CX g q lb) [19] [43] [] σ Q)) (by decide) (Nat.le_of_ble_eq_true rfl) ?_
  intro p e s m below meth c A H ls hx hb hr hml hown hts hlk hnm hsz hP hK hNb hD hA hAe hS hX hl
  have hl : lv_has ls 7 [(0, .ref (q 11)), (1, .int (I n1)), (2, .int (I n2)), (3, .int (I n3))] := hl
  have hB := hN
  have hF : f_r [19] [43] [] σ σ := f_0
  obtain ⟨locs, hlocs⟩ : ∃ z : List Loc, z = [] := ⟨_, rfl⟩
  rw [← hlocs] at hS ⊢
  obtain ⟨P43, hP43⟩ : ∃ P : Int → Int → Int → Int → S0 → Prop, ∀ (u1 : Int) (u2 : Int) (u4 : Int) (u5 : Int) (τ : S0), (P u1 u2 u4 u5 τ ↔ (rg u1 → rg u2 → rg u4 → rg u5 → n_m τ → f_r [19] [43] [] σ τ → ∀ (H : Heap) (locs : List Loc) (ls : Array Slot), KP g (CX g q lb τ) H → va_D A (CX g q lb τ) → va_S A s.heap H locs → lv_has ls 7 [(0, .ref (q 11)), (1, .int (I u1)), (2, .int (I u2)), (4, .int (I u4)), (5, .int (I u5))] → W p l e ({ frames := 2, cells := 0, slots := 0, locals := 97 }) s m [.ref (q 11), .int (I n1), .int (I n2), .int (I n3)].toArray below meth c H locs 0 0 (MQ below (QI g A (p_I (CX g q lb) [19] [43] [] σ Q)) [.ref (q 11), .int (I n1), .int (I n2), .int (I n3)].toArray s 0 0 A) (F0 m 43 ls []))) := ⟨_, fun _ _ _ _ _ => Iff.rfl⟩
  obtain ⟨P147, hP147⟩ : ∃ P : Int → Int → Int → Int → S0 → Prop, ∀ (u1 : Int) (u2 : Int) (u4 : Int) (u5 : Int) (τ : S0), (P u1 u2 u4 u5 τ ↔ (rg u1 → rg u2 → rg u4 → rg u5 → n_m τ → f_r [19] [43] [] σ τ → ∀ (H : Heap) (locs : List Loc) (ls : Array Slot), KP g (CX g q lb τ) H → va_D A (CX g q lb τ) → va_S A s.heap H locs → lv_has ls 7 [(0, .ref (q 11)), (1, .int (I u1)), (2, .int (I u2)), (4, .int (I u4)), (5, .int (I u5))] → W p l e ({ frames := 2, cells := 0, slots := 0, locals := 97 }) s m [.ref (q 11), .int (I n1), .int (I n2), .int (I n3)].toArray below meth c H locs 0 0 (MQ below (QI g A (p_I (CX g q lb) [19] [43] [] σ Q)) [.ref (q 11), .int (I n1), .int (I n2), .int (I n3)].toArray s 0 0 A) (F0 m 147 ls []))) := ⟨_, fun _ _ _ _ _ => Iff.rfl⟩
  refine (fun hw => ?_) (hw P43 P147 ?_ ?_)
  ·
    refine lv_aload_n hx hb dX2_compose_0 rfl (lv_at hl 0 rfl) ?_
    refine gfX2_pile hx hb hts hK hP hown (hts _ tw_800) dX2_compose_1 ?_
    refine lv_iconst (v := I 0) hx hb dX2_compose_4 rfl ?_
    refine pfNX6_builtSize hx hb hts hK hP hD hS hown (nb_use hNb tn_364) dX2_compose_5 (fun H locs hP hD hS => ?_)
    have hN : n_m (s_v σ 19 0) := n_v (i := 19) hN ((by decide) : rg 0)
    have hF : f_r [19] [43] [] σ (s_v σ 19 0) := f_v hF (by decide)
    refine lv_iconst (v := I 1) hx hb dX2_compose_8 rfl ?_
    refine lv_istore (lv' := [(4, .int (I 1)), (0, .ref (q 11)), (1, .int (I n1)), (2, .int (I n2)), (3, .int (I n3))]) hx hb dX2_compose_9 hl (by decide) rfl (fun ls hl => ?_)
    refine lv_aload_n hx hb dX2_compose_11 rfl (lv_at hl 1 rfl) ?_
    refine gfX2_definedBy hx hb hts hK hP hown (hts _ tw_805) dX2_compose_12 ?_
    refine lv_iload_n hx hb dX2_compose_15 rfl (lv_at hl 2 rfl) ?_
    obtain ⟨c1, hw⟩ := hw
    refine ldCX2_definedBy hx hb hK hP hN c1 dX2_compose_16 (fun x2 r_x2 e_x2 => ?_)
    replace hw := hw x2 r_x2 e_x2
    refine bi_if_eq (tgt := 30) hx hb r_x2 dX2_compose_17 (by decide) (fun c3 => ?_) (fun c3 => ?_)
    ·
      replace hw := hw.1 c3
      refine lv_aload_n hx hb dX2_compose_30 rfl (lv_at hl 1 rfl) ?_
      refine gfX2_library hx hb hts hK hP hown (hts _ tw_795) dX2_compose_31 ?_
      refine gfNX3_at hx hb hts hK hP hown (nb_use hNb tn_82) dX2_compose_34 ?_
      refine lv_iload_n hx hb dX2_compose_37 rfl (lv_at hl 2 rfl) ?_
      obtain ⟨c4, hw⟩ := hw
      refine ldCX3_at hx hb hK hP hN c4 dX2_compose_38 (fun x5 r_x5 e_x5 => ?_)
      replace hw := hw x5 r_x5 e_x5
      refine lv_iconst (v := I 1) hx hb dX2_compose_39 rfl ?_
      refine bi_iadd hx hb dX2_compose_40 ?_
      refine lv_istore (lv' := [(5, .int (I (x5 + 1))), (4, .int (I 1)), (0, .ref (q 11)), (1, .int (I n1)), (2, .int (I n2)), (3, .int (I n3))]) hx hb dX2_compose_41 hl (by decide) rfl (fun ls hl => ?_)
      obtain ⟨c6, hw⟩ := hw
      exact (hP43 _ _ _ _ _).mp hw r_n1 r_n2 (by decide) c6 hN hF H locs ls hP hD hS (lv_sub hl [2, 3, 4, 1, 0] rfl)
    ·
      replace hw := hw.2 c3
      refine lv_aload_n hx hb dX2_compose_20 rfl (lv_at hl 1 rfl) ?_
      refine gfX2_definedBy hx hb hts hK hP hown (hts _ tw_805) dX2_compose_21 ?_
      refine lv_iload_n hx hb dX2_compose_24 rfl (lv_at hl 2 rfl) ?_
      refine ldCX2_definedBy hx hb hK hP hN c1 dX2_compose_25 (fun x7 r_x7 e_x7 => ?_)
      replace hw := hw x7 r_x7 e_x7
      refine lv_iload_n hx hb dX2_compose_26 rfl (lv_at hl 4 rfl) ?_
      refine bi_icmp_le (tgt := 126) hx hb r_x7 r_n3 dX2_compose_27 (by decide) (fun c8 => ?_) (fun c8 => ?_)
      ·
        replace hw := hw.1 c8
        refine lv_aload_n hx hb dX2_compose_126 rfl (lv_at hl 1 rfl) ?_
        refine gfX2_bodySize hx hb hts hK hP hown (hts _ tw_811) dX2_compose_127 ?_
        refine lv_iload_n hx hb dX2_compose_130 rfl (lv_at hl 2 rfl) ?_
        refine ldCX2_bodySize hx hb hK hP hN c1 dX2_compose_131 (fun x9 r_x9 e_x9 => ?_)
        replace hw := hw x9 r_x9 e_x9
        refine lv_bipush (v := I (-2)) hx hb dX2_compose_132 (by decide) ?_
        refine bi_icmp_ne (tgt := 139) hx hb r_x9 (by decide) dX2_compose_134 (by decide) (fun c10 => ?_) (fun c10 => ?_)
        ·
          replace hw := hw.1 c10
          refine lv_aload_n hx hb dX2_compose_139 rfl (lv_at hl 1 rfl) ?_
          refine gfX2_bodyAt hx hb hts hK hP hown (hts _ tw_810) dX2_compose_140 ?_
          refine lv_iload_n hx hb dX2_compose_143 rfl (lv_at hl 2 rfl) ?_
          refine ldCX2_bodyAt hx hb hK hP hN c1 dX2_compose_144 (fun x11 r_x11 e_x11 => ?_)
          replace hw := hw x11 r_x11 e_x11
          refine lv_istore (lv' := [(5, .int (I x11)), (4, .int (I 1)), (0, .ref (q 11)), (1, .int (I n1)), (2, .int (I n2)), (3, .int (I n3))]) hx hb dX2_compose_145 hl (by decide) rfl (fun ls hl => ?_)
          exact (hP147 _ _ _ _ _).mp hw r_n1 r_n2 (by decide) r_x11 hN hF H locs ls hP hD hS (lv_sub hl [2, 3, 4, 1, 0] rfl)
        ·
          replace hw := hw.2 c10
          refine lv_iconst (v := I 0) hx hb dX2_compose_137 rfl ?_
          exact xrz hx hb hr (by decide) hlk hP hK hD hS ⟨_, _, (by decide), rfl, hN, hF, rfl, hw⟩ (Nat.le_of_ble_eq_true rfl) (Nat.le_of_ble_eq_true rfl) dX2_compose_138
      ·
        replace hw := hw.2 c8
        refine lv_aload_n hx hb dX2_compose_30 rfl (lv_at hl 1 rfl) ?_
        refine gfX2_library hx hb hts hK hP hown (hts _ tw_795) dX2_compose_31 ?_
        refine gfNX3_at hx hb hts hK hP hown (nb_use hNb tn_82) dX2_compose_34 ?_
        refine lv_iload_n hx hb dX2_compose_37 rfl (lv_at hl 2 rfl) ?_
        obtain ⟨c12, hw⟩ := hw
        refine ldCX3_at hx hb hK hP hN c12 dX2_compose_38 (fun x13 r_x13 e_x13 => ?_)
        replace hw := hw x13 r_x13 e_x13
        refine lv_iconst (v := I 1) hx hb dX2_compose_39 rfl ?_
        refine bi_iadd hx hb dX2_compose_40 ?_
        refine lv_istore (lv' := [(5, .int (I (x13 + 1))), (4, .int (I 1)), (0, .ref (q 11)), (1, .int (I n1)), (2, .int (I n2)), (3, .int (I n3))]) hx hb dX2_compose_41 hl (by decide) rfl (fun ls hl => ?_)
        obtain ⟨c14, hw⟩ := hw
        exact (hP43 _ _ _ _ _).mp hw r_n1 r_n2 (by decide) c14 hN hF H locs ls hP hD hS (lv_sub hl [2, 3, 4, 1, 0] rfl)
  ·
    intro u1 u2 u4 u5 τ hw
    refine (hP43 _ _ _ _ _).mpr ?_
    intro r_u1 r_u2 r_u4 r_u5 hN hF H locs ls hP hD hS hl
    have hB := hN
    refine lv_iload hx hb dX2_compose_43 (lv_at hl 4 rfl) ?_
    refine lv_aload_n hx hb dX2_compose_45 rfl (lv_at hl 0 rfl) ?_
    refine gfX2_library hx hb hts hK hP hown (hts _ tw_795) dX2_compose_46 ?_
    refine gfNX3_at hx hb hts hK hP hown (nb_use hNb tn_82) dX2_compose_49 ?_
    refine lv_iload_n hx hb dX2_compose_52 rfl (lv_at hl 1 rfl) ?_
    refine lv_iconst (v := I 1) hx hb dX2_compose_53 rfl ?_
    refine bi_iadd hx hb dX2_compose_54 ?_
    obtain ⟨c15, hw⟩ := hw
    refine ldCX3_at hx hb hK hP hN c15 dX2_compose_55 (fun x16 r_x16 e_x16 => ?_)
    replace hw := hw x16 r_x16 e_x16
    refine bi_icmp_ge (tgt := 123) hx hb r_u5 r_x16 dX2_compose_56 (by decide) (fun c17 => ?_) (fun c17 => ?_)
    ·
      replace hw := hw.1 c17
      refine lv_iload hx hb dX2_compose_123 (lv_at hl 3 rfl) ?_
      obtain ⟨c18, hw⟩ := hw
      exact xrz hx hb hr (nzI c18.1 c18.2) hlk hP hK hD hS ⟨_, _, r_u4, rfl, hN, hF, rfl, hw⟩ (Nat.le_of_ble_eq_true rfl) (Nat.le_of_ble_eq_true rfl) dX2_compose_125
    ·
      replace hw := hw.2 c17
      refine lv_iload hx hb dX2_compose_59 (lv_at hl 3 rfl) ?_
      refine bi_if_eq (tgt := 123) hx hb r_u4 dX2_compose_61 (by decide) (fun c19 => ?_) (fun c19 => ?_)
      ·
        replace hw := hw.1 c19
        refine lv_iload hx hb dX2_compose_123 (lv_at hl 3 rfl) ?_
        obtain ⟨c20, hw⟩ := hw
        exact xrz hx hb hr (nzI c20.1 c20.2) hlk hP hK hD hS ⟨_, _, r_u4, rfl, hN, hF, rfl, hw⟩ (Nat.le_of_ble_eq_true rfl) (Nat.le_of_ble_eq_true rfl) dX2_compose_125
      ·
        replace hw := hw.2 c19
        refine lv_aload_n hx hb dX2_compose_64 rfl (lv_at hl 0 rfl) ?_
        refine gfX2_library hx hb hts hK hP hown (hts _ tw_795) dX2_compose_65 ?_
        refine gfNX3_floats hx hb hts hK hP hown (nb_use hNb tn_98) dX2_compose_68 ?_
        refine lv_iload hx hb dX2_compose_71 (lv_at hl 4 rfl) ?_
        obtain ⟨c21, hw⟩ := hw
        refine ldCX3_floats hx hb hK hP hN c21 dX2_compose_73 (fun x22 r_x22 e_x22 => ?_)
        replace hw := hw x22 r_x22 e_x22
        refine lv_istore (lv' := [(6, .int (I x22)), (0, .ref (q 11)), (1, .int (I u1)), (2, .int (I u2)), (4, .int (I u4)), (5, .int (I u5))]) hx hb dX2_compose_74 hl (by decide) rfl (fun ls hl => ?_)
        refine lv_iload hx hb dX2_compose_76 (lv_at hl 0 rfl) ?_
        refine lv_iconst (v := I (-1)) hx hb dX2_compose_78 rfl ?_
        refine bi_icmp_ne (tgt := 99) hx hb r_x22 (by decide) dX2_compose_79 (by decide) (fun c23 => ?_) (fun c23 => ?_)
        ·
          replace hw := hw.1 c23
          refine lv_aload_n hx hb dX2_compose_99 rfl (lv_at hl 1 rfl) ?_
          refine lv_iload_n hx hb dX2_compose_100 rfl (lv_at hl 3 rfl) ?_
          refine lv_aload_n hx hb dX2_compose_101 rfl (lv_at hl 1 rfl) ?_
          refine gfX2_assertions hx hb hts hK hP hown (hts _ tw_796) dX2_compose_102 ?_
          refine lv_iload_n hx hb dX2_compose_105 rfl (lv_at hl 2 rfl) ?_
          refine lv_iload hx hb dX2_compose_106 (lv_at hl 0 rfl) ?_
          obtain ⟨Q24, hc, hw⟩ := hw
          refine wc_i (X := CX g q lb) (va_runV (As := [.int (I u1), .int (I x22)]) (rest := [.int (I u2), .ref (q 11)]) ⟨hx, hb, hml, hown, hts⟩ (L_X0_placeInFrame l g q lb hlb r_u1 r_x22 hN hc H.size) (cwV 2 hts (TB_V tw_1868 tw_1240 tw_1241 tw_5 co_X0_placeInFrame) rfl rfl rfl (by decide +kernel) ⟨Nat.le_of_ble_eq_true rfl, Nat.le_of_ble_eq_true rfl⟩) (preV (q0 := 3) (ci := 0) rfl xT_bl hP hK hNb hD rfl rfl xT_at) rfl rfl hl.1 rfl (lv_room (Nat.le_of_ble_eq_true rfl)) dX2_compose_108 ⟨Nat.le_of_ble_eq_true rfl, Nat.le_of_ble_eq_true rfl⟩) hP hD hS hA (fun x25 H locs r_x25 hq hP hD hS => ?_)
          replace hw := hw x25 r_x25 hq
          refine bi_iadd hx hb dX2_compose_111 ?_
          obtain ⟨c27, hw⟩ := hw
          obtain ⟨Q28, hc, hw⟩ := hw
          refine wc_I (X := CX g q lb) (va_runV (As := [.int (I (u2 + x25))]) (rest := []) ⟨hx, hb, hml, hown, hts⟩ (L_X2_composeRow l g q lb hlb c27 hN hc H.size) (cwV 1 hts (TB_V tw_1869 tw_1871 ts_93 tw_13 co_X2_composeRow) rfl rfl rfl (by decide +kernel) ⟨Nat.le_of_ble_eq_true rfl, Nat.le_of_ble_eq_true rfl⟩) (preV (q0 := 11) (ci := 2) rfl xT_bl hP hK hNb hD rfl rfl xT_at) rfl rfl hl.1 rfl (lv_room (Nat.le_of_ble_eq_true rfl)) dX2_compose_112 ⟨Nat.le_of_ble_eq_true rfl, Nat.le_of_ble_eq_true rfl⟩) hP hD hS hA (fun x29 τ30 H locs r_x29 hN hf hq hP hD hS => ?_)
          replace hw := hw x29 τ30 r_x29 hN hf hq
          have hF : f_r [19] [43] [] σ τ30 := f_t hF hf (by decide) (by decide) (by decide)
          have hB := hN
          refine lv_istore (lv' := [(4, .int (I x29)), (6, .int (I x22)), (0, .ref (q 11)), (1, .int (I u1)), (2, .int (I u2)), (5, .int (I u5))]) hx hb dX2_compose_115 hl (by decide) rfl (fun ls hl => ?_)
          refine lv_iinc (v := I (u5 + 1)) (lv' := [(5, .int (I (u5 + 1))), (4, .int (I x29)), (6, .int (I x22)), (0, .ref (q 11)), (1, .int (I u1)), (2, .int (I u2))]) hx hb dX2_compose_117 hl (k := 5) rfl (I_add _ _) (by decide) rfl (fun ls hl => ?_)
          refine lv_goto (tgt := 43) hx hb dX2_compose_120 (by decide) ?_
          obtain ⟨c31, hw⟩ := hw
          exact (hP43 _ _ _ _ _).mp hw r_u1 r_u2 r_x29 c31 hN hF H locs ls hP hD hS (lv_sub hl [3, 4, 5, 1, 0] rfl)
        ·
          replace hw := hw.2 c23
          refine lv_aload_n hx hb dX2_compose_82 rfl (lv_at hl 1 rfl) ?_
          refine lv_aload_n hx hb dX2_compose_83 rfl (lv_at hl 1 rfl) ?_
          refine gfX2_library hx hb hts hK hP hown (hts _ tw_795) dX2_compose_84 ?_
          refine gfNX3_text hx hb hts hK hP hown (nb_use hNb tn_92) dX2_compose_87 ?_
          refine lv_iload hx hb dX2_compose_90 (lv_at hl 5 rfl) ?_
          refine ldCX3_text hx hb hK hP hN c21 dX2_compose_92 (fun x32 r_x32 e_x32 => ?_)
          replace hw := hw x32 r_x32 e_x32
          obtain ⟨Q33, hc, hw⟩ := hw
          refine wc_I (X := CX g q lb) (va_runV (As := [.int (I x32)]) (rest := []) ⟨hx, hb, hml, hown, hts⟩ (L_X2_composeSymbol l g q lb hlb r_x32 hN hc H.size) (cwV 1 hts (TB_V tw_1864 tw_1866 ts_92 tw_13 co_X2_composeSymbol) rfl rfl rfl (by decide +kernel) ⟨Nat.le_of_ble_eq_true rfl, Nat.le_of_ble_eq_true rfl⟩) (preV (q0 := 11) (ci := 2) rfl xT_bl hP hK hNb hD rfl rfl xT_at) rfl rfl hl.1 rfl (lv_room (Nat.le_of_ble_eq_true rfl)) dX2_compose_93 ⟨Nat.le_of_ble_eq_true rfl, Nat.le_of_ble_eq_true rfl⟩) hP hD hS hA (fun x34 τ35 H locs r_x34 hN hf hq hP hD hS => ?_)
          replace hw := hw x34 τ35 r_x34 hN hf hq
          have hF : f_r [19] [43] [] σ τ35 := f_t hF hf (by decide) (by decide) (by decide)
          have hB := hN
          refine lv_goto (tgt := 115) hx hb dX2_compose_96 (by decide) ?_
          refine lv_istore (lv' := [(4, .int (I x34)), (6, .int (I x22)), (0, .ref (q 11)), (1, .int (I u1)), (2, .int (I u2)), (5, .int (I u5))]) hx hb dX2_compose_115 hl (by decide) rfl (fun ls hl => ?_)
          refine lv_iinc (v := I (u5 + 1)) (lv' := [(5, .int (I (u5 + 1))), (4, .int (I x34)), (6, .int (I x22)), (0, .ref (q 11)), (1, .int (I u1)), (2, .int (I u2))]) hx hb dX2_compose_117 hl (k := 5) rfl (I_add _ _) (by decide) rfl (fun ls hl => ?_)
          refine lv_goto (tgt := 43) hx hb dX2_compose_120 (by decide) ?_
          obtain ⟨c36, hw⟩ := hw
          exact (hP43 _ _ _ _ _).mp hw r_u1 r_u2 r_x34 c36 hN hF H locs ls hP hD hS (lv_sub hl [3, 4, 5, 1, 0] rfl)
  ·
    intro u1 u2 u4 u5 τ hw
    refine (hP147 _ _ _ _ _).mpr ?_
    intro r_u1 r_u2 r_u4 r_u5 hN hF H locs ls hP hD hS hl
    have hB := hN
    refine lv_iload hx hb dX2_compose_147 (lv_at hl 4 rfl) ?_
    refine lv_aload_n hx hb dX2_compose_149 rfl (lv_at hl 0 rfl) ?_
    refine gfX2_bodyAt hx hb hts hK hP hown (hts _ tw_810) dX2_compose_150 ?_
    refine lv_iload_n hx hb dX2_compose_153 rfl (lv_at hl 1 rfl) ?_
    obtain ⟨c37, hw⟩ := hw
    refine ldCX2_bodyAt hx hb hK hP hN c37 dX2_compose_154 (fun x38 r_x38 e_x38 => ?_)
    replace hw := hw x38 r_x38 e_x38
    refine lv_aload_n hx hb dX2_compose_155 rfl (lv_at hl 0 rfl) ?_
    refine gfX2_bodySize hx hb hts hK hP hown (hts _ tw_811) dX2_compose_156 ?_
    refine lv_iload_n hx hb dX2_compose_159 rfl (lv_at hl 1 rfl) ?_
    refine ldCX2_bodySize hx hb hK hP hN c37 dX2_compose_160 (fun x39 r_x39 e_x39 => ?_)
    replace hw := hw x39 r_x39 e_x39
    refine bi_iadd hx hb dX2_compose_161 ?_
    obtain ⟨c40, hw⟩ := hw
    refine bi_icmp_ge (tgt := 222) hx hb r_u5 c40 dX2_compose_162 (by decide) (fun c41 => ?_) (fun c41 => ?_)
    ·
      replace hw := hw.1 c41
      refine lv_iload hx hb dX2_compose_222 (lv_at hl 3 rfl) ?_
      obtain ⟨c42, hw⟩ := hw
      exact xrz hx hb hr (nzI c42.1 c42.2) hlk hP hK hD hS ⟨_, _, r_u4, rfl, hN, hF, rfl, hw⟩ (Nat.le_of_ble_eq_true rfl) (Nat.le_of_ble_eq_true rfl) dX2_compose_224
    ·
      replace hw := hw.2 c41
      refine lv_iload hx hb dX2_compose_165 (lv_at hl 3 rfl) ?_
      refine bi_if_eq (tgt := 222) hx hb r_u4 dX2_compose_167 (by decide) (fun c43 => ?_) (fun c43 => ?_)
      ·
        replace hw := hw.1 c43
        refine lv_iload hx hb dX2_compose_222 (lv_at hl 3 rfl) ?_
        obtain ⟨c44, hw⟩ := hw
        exact xrz hx hb hr (nzI c44.1 c44.2) hlk hP hK hD hS ⟨_, _, r_u4, rfl, hN, hF, rfl, hw⟩ (Nat.le_of_ble_eq_true rfl) (Nat.le_of_ble_eq_true rfl) dX2_compose_224
      ·
        replace hw := hw.2 c43
        refine lv_aload_n hx hb dX2_compose_170 rfl (lv_at hl 0 rfl) ?_
        refine gfX2_bodies hx hb hts hK hP hown (hts _ tw_809) dX2_compose_171 ?_
        refine lv_iload hx hb dX2_compose_174 (lv_at hl 4 rfl) ?_
        obtain ⟨c45, hw⟩ := hw
        refine ldCX2_bodies hx hb hK hlb hP hN c45 dX2_compose_176 (fun x46 r_x46 e_x46 => ?_)
        replace hw := hw x46 r_x46 e_x46
        refine lv_sipush (v := I 1000) hx hb dX2_compose_177 (by decide) ?_
        refine bi_icmp_ge (tgt := 197) hx hb r_x46 (by decide) dX2_compose_180 (by decide) (fun c47 => ?_) (fun c47 => ?_)
        ·
          replace hw := hw.1 c47
          refine lv_aload_n hx hb dX2_compose_197 rfl (lv_at hl 0 rfl) ?_
          refine lv_iload_n hx hb dX2_compose_198 rfl (lv_at hl 2 rfl) ?_
          refine lv_aload_n hx hb dX2_compose_199 rfl (lv_at hl 0 rfl) ?_
          refine gfX2_bodies hx hb hts hK hP hown (hts _ tw_809) dX2_compose_200 ?_
          refine lv_iload hx hb dX2_compose_203 (lv_at hl 4 rfl) ?_
          refine ldCX2_bodies hx hb hK hlb hP hN c45 dX2_compose_205 (fun x48 r_x48 e_x48 => ?_)
          replace hw := hw x48 r_x48 e_x48
          refine bi_iadd hx hb dX2_compose_206 ?_
          refine lv_sipush (v := I 1000) hx hb dX2_compose_207 (by decide) ?_
          refine bi_isub hx hb dX2_compose_210 ?_
          obtain ⟨c49, hw⟩ := hw
          obtain ⟨Q50, hc, hw⟩ := hw
          refine wc_I (X := CX g q lb) (va_runV (As := [.int (I ((u2 + x48) - 1000))]) (rest := []) ⟨hx, hb, hml, hown, hts⟩ (L_X2_composeRow l g q lb hlb c49 hN hc H.size) (cwV 1 hts (TB_V tw_1869 tw_1871 ts_93 tw_13 co_X2_composeRow) rfl rfl rfl (by decide +kernel) ⟨Nat.le_of_ble_eq_true rfl, Nat.le_of_ble_eq_true rfl⟩) (preV (q0 := 11) (ci := 2) rfl xT_bl hP hK hNb hD rfl rfl xT_at) rfl rfl hl.1 rfl (lv_room (Nat.le_of_ble_eq_true rfl)) dX2_compose_211 ⟨Nat.le_of_ble_eq_true rfl, Nat.le_of_ble_eq_true rfl⟩) hP hD hS hA (fun x51 τ52 H locs r_x51 hN hf hq hP hD hS => ?_)
          replace hw := hw x51 τ52 r_x51 hN hf hq
          have hF : f_r [19] [43] [] σ τ52 := f_t hF hf (by decide) (by decide) (by decide)
          have hB := hN
          refine lv_istore (lv' := [(4, .int (I x51)), (0, .ref (q 11)), (1, .int (I u1)), (2, .int (I u2)), (5, .int (I u5))]) hx hb dX2_compose_214 hl (by decide) rfl (fun ls hl => ?_)
          refine lv_iinc (v := I (u5 + 1)) (lv' := [(5, .int (I (u5 + 1))), (4, .int (I x51)), (0, .ref (q 11)), (1, .int (I u1)), (2, .int (I u2))]) hx hb dX2_compose_216 hl (k := 4) rfl (I_add _ _) (by decide) rfl (fun ls hl => ?_)
          refine lv_goto (tgt := 147) hx hb dX2_compose_219 (by decide) ?_
          obtain ⟨c53, hw⟩ := hw
          exact (hP147 _ _ _ _ _).mp hw r_u1 r_u2 r_x51 c53 hN hF H locs ls hP hD hS (lv_sub hl [2, 3, 4, 1, 0] rfl)
        ·
          replace hw := hw.2 c47
          refine lv_aload_n hx hb dX2_compose_183 rfl (lv_at hl 0 rfl) ?_
          refine lv_aload_n hx hb dX2_compose_184 rfl (lv_at hl 0 rfl) ?_
          refine gfX2_bodies hx hb hts hK hP hown (hts _ tw_809) dX2_compose_185 ?_
          refine lv_iload hx hb dX2_compose_188 (lv_at hl 4 rfl) ?_
          refine ldCX2_bodies hx hb hK hlb hP hN c45 dX2_compose_190 (fun x54 r_x54 e_x54 => ?_)
          replace hw := hw x54 r_x54 e_x54
          obtain ⟨Q55, hc, hw⟩ := hw
          refine wc_I (X := CX g q lb) (va_runV (As := [.int (I x54)]) (rest := []) ⟨hx, hb, hml, hown, hts⟩ (L_X2_composeSymbol l g q lb hlb r_x54 hN hc H.size) (cwV 1 hts (TB_V tw_1864 tw_1866 ts_92 tw_13 co_X2_composeSymbol) rfl rfl rfl (by decide +kernel) ⟨Nat.le_of_ble_eq_true rfl, Nat.le_of_ble_eq_true rfl⟩) (preV (q0 := 11) (ci := 2) rfl xT_bl hP hK hNb hD rfl rfl xT_at) rfl rfl hl.1 rfl (lv_room (Nat.le_of_ble_eq_true rfl)) dX2_compose_191 ⟨Nat.le_of_ble_eq_true rfl, Nat.le_of_ble_eq_true rfl⟩) hP hD hS hA (fun x56 τ57 H locs r_x56 hN hf hq hP hD hS => ?_)
          replace hw := hw x56 τ57 r_x56 hN hf hq
          have hF : f_r [19] [43] [] σ τ57 := f_t hF hf (by decide) (by decide) (by decide)
          have hB := hN
          refine lv_goto (tgt := 214) hx hb dX2_compose_194 (by decide) ?_
          refine lv_istore (lv' := [(4, .int (I x56)), (0, .ref (q 11)), (1, .int (I u1)), (2, .int (I u2)), (5, .int (I u5))]) hx hb dX2_compose_214 hl (by decide) rfl (fun ls hl => ?_)
          refine lv_iinc (v := I (u5 + 1)) (lv' := [(5, .int (I (u5 + 1))), (4, .int (I x56)), (0, .ref (q 11)), (1, .int (I u1)), (2, .int (I u2))]) hx hb dX2_compose_216 hl (k := 4) rfl (I_add _ _) (by decide) rfl (fun ls hl => ?_)
          refine lv_goto (tgt := 147) hx hb dX2_compose_219 (by decide) ?_
          obtain ⟨c58, hw⟩ := hw
          exact (hP147 _ _ _ _ _).mp hw r_u1 r_u2 r_x56 c58 hN hF H locs ls hP hD hS (lv_sub hl [2, 3, 4, 1, 0] rfl)
def W_X6_put (n1 : Int) (n2 : Int) (σ : S0) (Q : Int → S0 → Prop) : Prop :=
  ∀ (P32 : Int → Int → Int → Int → S0 → Prop) (P96 : Int → S0 → Prop),
  (∀ (u1 : Int) (u2 : Int) (k1 : Int) (k2 : Int) (τ : S0), ((0 ≤ k1 ∧ k1 < 20000) ∧ ((0 ≤ u1 ∧ u1 < 20000) ∧ ((u2 = 0 → rg (τ.1 17 + τ.1 19) ∧ P96 u1 (s_v (s_a (s_a (s_a τ 42 k1 k2) 41 u1 (τ.1 19)) 40 u1 (τ.1 17)) 17 (τ.1 17 + τ.1 19))) ∧ (¬ u2 = 0 → rg (τ.1 18 - τ.1 19) ∧ P96 u1 (s_a (s_v (s_a (s_a (s_a τ 42 k1 k2) 41 u1 (τ.1 19)) 40 u1 (τ.1 17)) 18 (τ.1 18 - τ.1 19)) 40 u1 (τ.1 18 - τ.1 19)))))) → P32 u1 u2 k1 k2 τ) →
  (∀ (u1 : Int) (τ : S0), ((0 ≤ u1 ∧ u1 < 20000) ∧ (∀ (x10 : Int), rg x10 → x10 = τ.2.1 40 u1 → (((0 : Int) ≤ 0 ∧ (0 : Int) ≤ x10 ∧ (0 : Int) ≤ τ.1 19 ∧ 0 + τ.1 19 ≤ 1000 ∧ x10 + τ.1 19 ≤ 42000) ∧ (Q 1 (s_f τ 39 (c_py (τ.2.1 43) (τ.2.1 39) 0 x10 (τ.1 19))))))) → P96 u1 τ) →
  rg (σ.1 17 + σ.1 19) ∧ ((σ.1 17 + σ.1 19) ≤ σ.1 18 → (n2 = 0 → P32 n1 n2 n1 1 σ) ∧ (¬ n2 = 0 → P32 n1 n2 n1 2 σ)) ∧ (σ.1 18 < (σ.1 17 + σ.1 19) → Q 0 σ)
set_option maxRecDepth 100000 in
set_option maxHeartbeats 4000000 in
theorem L_X6_put (l : Launch) (g : gG) (q : Nat → Nat) (lb : Nat) (hlb : lb < 2 ^ 31) {n1 : Int} {n2 : Int} {σ : S0} {Q : Int → S0 → Prop} (r_n1 : rg n1) (r_n2 : rg n2) (hN : n_m σ) (hw : W_X6_put n1 n2 σ Q) (sz : Nat) : MetI l yX6_put cX6_put 3 (some .boolean) { frames := 1, cells := 0, slots := 0, locals := 75 } g [.ref (q 4), .int (I n1), .int (I n2)] (CX g q lb σ) sz xT (p_I (CX g q lb) [17, 18] [39, 40, 41, 42] [] σ Q) 0 0 := by
  refine mkMet (Qc := fun A => QI g A (p_I (CX g q lb) [17, 18] [39, 40, 41, 42] [] σ Q)) (by decide) (Nat.le_of_ble_eq_true rfl) ?_
  intro p e s m below meth c A H ls hx hb hr hml hown hts hlk hnm hsz hP hK hNb hD hA hAe hS hX hl
  have hl : lv_has ls 3 [(0, .ref (q 4)), (1, .int (I n1)), (2, .int (I n2))] := hl
  have hB := hN
  have hF : f_r [17, 18] [39, 40, 41, 42] [] σ σ := f_0
  obtain ⟨locs, hlocs⟩ : ∃ z : List Loc, z = [] := ⟨_, rfl⟩
  rw [← hlocs] at hS ⊢
  obtain ⟨P32, hP32⟩ : ∃ P : Int → Int → Int → Int → S0 → Prop, ∀ (u1 : Int) (u2 : Int) (k1 : Int) (k2 : Int) (τ : S0), (P u1 u2 k1 k2 τ ↔ (rg u1 → rg u2 → rg k1 → rg k2 → n_m τ → f_r [17, 18] [39, 40, 41, 42] [] σ τ → ∀ (H : Heap) (locs : List Loc) (ls : Array Slot), KP g (CX g q lb τ) H → va_D A (CX g q lb τ) → va_S A s.heap H locs → lv_has ls 3 [(0, .ref (q 4)), (1, .int (I u1)), (2, .int (I u2))] → W p l e ({ frames := 1, cells := 0, slots := 0, locals := 75 }) s m [.ref (q 4), .int (I n1), .int (I n2)].toArray below meth c H locs 0 0 (MQ below (QI g A (p_I (CX g q lb) [17, 18] [39, 40, 41, 42] [] σ Q)) [.ref (q 4), .int (I n1), .int (I n2)].toArray s 0 0 A) (F0 m 32 ls [.int (I k2), .int (I k1), .ref (q 58)]))) := ⟨_, fun _ _ _ _ _ => Iff.rfl⟩
  obtain ⟨P96, hP96⟩ : ∃ P : Int → S0 → Prop, ∀ (u1 : Int) (τ : S0), (P u1 τ ↔ (rg u1 → n_m τ → f_r [17, 18] [39, 40, 41, 42] [] σ τ → ∀ (H : Heap) (locs : List Loc) (ls : Array Slot), KP g (CX g q lb τ) H → va_D A (CX g q lb τ) → va_S A s.heap H locs → lv_has ls 3 [(0, .ref (q 4)), (1, .int (I u1))] → W p l e ({ frames := 1, cells := 0, slots := 0, locals := 75 }) s m [.ref (q 4), .int (I n1), .int (I n2)].toArray below meth c H locs 0 0 (MQ below (QI g A (p_I (CX g q lb) [17, 18] [39, 40, 41, 42] [] σ Q)) [.ref (q 4), .int (I n1), .int (I n2)].toArray s 0 0 A) (F0 m 96 ls []))) := ⟨_, fun _ _ => Iff.rfl⟩
  refine (fun hw => ?_) (hw P32 P96 ?_ ?_)
  ·
    refine lv_aload_n hx hb dX6_put_0 rfl (lv_at hl 0 rfl) ?_
    refine gfX6_low hx hb hts hK hP hown (hts _ tw_350) (x := σ.1 17) rfl dX6_put_1 ?_
    refine lv_aload_n hx hb dX6_put_4 rfl (lv_at hl 0 rfl) ?_
    refine gfX6_builtSize hx hb hts hK hP hown (hts _ tw_363) (x := σ.1 19) rfl dX6_put_5 ?_
    refine bi_iadd hx hb dX6_put_8 ?_
    refine lv_aload_n hx hb dX6_put_9 rfl (lv_at hl 0 rfl) ?_
    refine gfX6_high hx hb hts hK hP hown (hts _ tw_352) (x := σ.1 18) rfl dX6_put_10 ?_
    obtain ⟨c1, hw⟩ := hw
    refine bi_icmp_le (tgt := 18) hx hb c1 (hB.1 18) dX6_put_13 (by decide) (fun c2 => ?_) (fun c2 => ?_)
    ·
      replace hw := hw.1 c2
      refine lv_aload_n hx hb dX6_put_18 rfl (lv_at hl 0 rfl) ?_
      refine gfX6_uses hx hb hts hK hP hown (hts _ tw_360) dX6_put_19 ?_
      refine lv_iload_n hx hb dX6_put_22 rfl (lv_at hl 1 rfl) ?_
      refine lv_iload_n hx hb dX6_put_23 rfl (lv_at hl 2 rfl) ?_
      refine bi_if_eq (tgt := 31) hx hb r_n2 dX6_put_24 (by decide) (fun c3 => ?_) (fun c3 => ?_)
      ·
        replace hw := hw.1 c3
        refine lv_iconst (v := I 1) hx hb dX6_put_31 rfl ?_
        exact (hP32 _ _ _ _ _).mp hw r_n1 r_n2 r_n1 (by decide) hN hF H locs ls hP hD hS (lv_sub hl [0, 1, 2] rfl)
      ·
        replace hw := hw.2 c3
        refine lv_iconst (v := I 2) hx hb dX6_put_27 rfl ?_
        refine lv_goto (tgt := 32) hx hb dX6_put_28 (by decide) ?_
        exact (hP32 _ _ _ _ _).mp hw r_n1 r_n2 r_n1 (by decide) hN hF H locs ls hP hD hS (lv_sub hl [0, 1, 2] rfl)
    ·
      replace hw := hw.2 c2
      refine lv_iconst (v := I 0) hx hb dX6_put_16 rfl ?_
      exact xrz hx hb hr (by decide) hlk hP hK hD hS ⟨_, _, (by decide), rfl, hN, hF, rfl, hw⟩ (Nat.le_of_ble_eq_true rfl) (Nat.le_of_ble_eq_true rfl) dX6_put_17
  ·
    intro u1 u2 k1 k2 τ hw
    refine (hP32 _ _ _ _ _).mpr ?_
    intro r_u1 r_u2 r_k1 r_k2 hN hF H locs ls hP hD hS hl
    have hB := hN
    obtain ⟨c4, hw⟩ := hw
    refine sdCX6_uses hx hb hK hP hD hS c4 dX6_put_32 (fun H locs hP hD hS => ?_)
    have hN : n_m (s_a τ 42 k1 k2) := n_a (k := 42) (j := k1) hN (r_k2 : rg k2)
    have hF : f_r [17, 18] [39, 40, 41, 42] [] σ (s_a τ 42 k1 k2) := f_a hF (by decide)
    refine lv_aload_n hx hb dX6_put_33 rfl (lv_at hl 0 rfl) ?_
    refine gfX6_size hx hb hts hK hP hown (hts _ tw_356) dX6_put_34 ?_
    refine lv_iload_n hx hb dX6_put_37 rfl (lv_at hl 1 rfl) ?_
    refine lv_aload_n hx hb dX6_put_38 rfl (lv_at hl 0 rfl) ?_
    refine gfX6_builtSize hx hb hts hK hP hown (hts _ tw_363) (x := τ.1 19) rfl dX6_put_39 ?_
    obtain ⟨c5, hw⟩ := hw
    refine sdCX6_size hx hb hK hP hD hS c5 dX6_put_42 (fun H locs hP hD hS => ?_)
    have hN : n_m (s_a (s_a τ 42 k1 k2) 41 u1 (τ.1 19)) := n_a (k := 41) (j := u1) hN ((hB.1 19) : rg (τ.1 19))
    have hF : f_r [17, 18] [39, 40, 41, 42] [] σ (s_a (s_a τ 42 k1 k2) 41 u1 (τ.1 19)) := f_a hF (by decide)
    refine lv_aload_n hx hb dX6_put_43 rfl (lv_at hl 0 rfl) ?_
    refine gfX6_at hx hb hts hK hP hown (hts _ tw_353) dX6_put_44 ?_
    refine lv_iload_n hx hb dX6_put_47 rfl (lv_at hl 1 rfl) ?_
    refine lv_aload_n hx hb dX6_put_48 rfl (lv_at hl 0 rfl) ?_
    refine gfX6_low hx hb hts hK hP hown (hts _ tw_350) (x := τ.1 17) rfl dX6_put_49 ?_
    refine sdCX6_at hx hb hK hP hD hS c5 dX6_put_52 (fun H locs hP hD hS => ?_)
    have hN : n_m (s_a (s_a (s_a τ 42 k1 k2) 41 u1 (τ.1 19)) 40 u1 (τ.1 17)) := n_a (k := 40) (j := u1) hN ((hB.1 17) : rg (τ.1 17))
    have hF : f_r [17, 18] [39, 40, 41, 42] [] σ (s_a (s_a (s_a τ 42 k1 k2) 41 u1 (τ.1 19)) 40 u1 (τ.1 17)) := f_a hF (by decide)
    refine lv_iload_n hx hb dX6_put_53 rfl (lv_at hl 2 rfl) ?_
    refine bi_if_eq (tgt := 83) hx hb r_u2 dX6_put_54 (by decide) (fun c6 => ?_) (fun c6 => ?_)
    ·
      replace hw := hw.1 c6
      refine lv_aload_n hx hb dX6_put_83 rfl (lv_at hl 0 rfl) ?_
      refine lv_dup hx hb dX6_put_84 rfl ?_
      refine gfX6_low hx hb hts hK hP hown (hts _ tw_350) (x := τ.1 17) rfl dX6_put_85 ?_
      refine lv_aload_n hx hb dX6_put_88 rfl (lv_at hl 0 rfl) ?_
      refine gfX6_builtSize hx hb hts hK hP hown (hts _ tw_363) (x := τ.1 19) rfl dX6_put_89 ?_
      refine bi_iadd hx hb dX6_put_92 ?_
      obtain ⟨c7, hw⟩ := hw
      refine pfX6_low hx hb hts hK hP hD hS hown (hts _ tw_350) dX6_put_93 (fun H locs hP hD hS => ?_)
      have hN : n_m (s_v (s_a (s_a (s_a τ 42 k1 k2) 41 u1 (τ.1 19)) 40 u1 (τ.1 17)) 17 (τ.1 17 + τ.1 19)) := n_v (i := 17) hN (c7 : rg (τ.1 17 + τ.1 19))
      have hF : f_r [17, 18] [39, 40, 41, 42] [] σ (s_v (s_a (s_a (s_a τ 42 k1 k2) 41 u1 (τ.1 19)) 40 u1 (τ.1 17)) 17 (τ.1 17 + τ.1 19)) := f_v hF (by decide)
      exact (hP96 _ _).mp hw r_u1 hN hF H locs ls hP hD hS (lv_sub hl [0, 1] rfl)
    ·
      replace hw := hw.2 c6
      refine lv_aload_n hx hb dX6_put_57 rfl (lv_at hl 0 rfl) ?_
      refine lv_dup hx hb dX6_put_58 rfl ?_
      refine gfX6_high hx hb hts hK hP hown (hts _ tw_352) (x := τ.1 18) rfl dX6_put_59 ?_
      refine lv_aload_n hx hb dX6_put_62 rfl (lv_at hl 0 rfl) ?_
      refine gfX6_builtSize hx hb hts hK hP hown (hts _ tw_363) (x := τ.1 19) rfl dX6_put_63 ?_
      refine bi_isub hx hb dX6_put_66 ?_
      obtain ⟨c8, hw⟩ := hw
      refine pfX6_high hx hb hts hK hP hD hS hown (hts _ tw_352) dX6_put_67 (fun H locs hP hD hS => ?_)
      have hN : n_m (s_v (s_a (s_a (s_a τ 42 k1 k2) 41 u1 (τ.1 19)) 40 u1 (τ.1 17)) 18 (τ.1 18 - τ.1 19)) := n_v (i := 18) hN (c8 : rg (τ.1 18 - τ.1 19))
      have hF : f_r [17, 18] [39, 40, 41, 42] [] σ (s_v (s_a (s_a (s_a τ 42 k1 k2) 41 u1 (τ.1 19)) 40 u1 (τ.1 17)) 18 (τ.1 18 - τ.1 19)) := f_v hF (by decide)
      refine lv_aload_n hx hb dX6_put_70 rfl (lv_at hl 0 rfl) ?_
      refine gfX6_at hx hb hts hK hP hown (hts _ tw_353) dX6_put_71 ?_
      refine lv_iload_n hx hb dX6_put_74 rfl (lv_at hl 1 rfl) ?_
      refine lv_aload_n hx hb dX6_put_75 rfl (lv_at hl 0 rfl) ?_
      refine gfX6_high hx hb hts hK hP hown (hts _ tw_352) (x := (τ.1 18 - τ.1 19)) rfl dX6_put_76 ?_
      refine sdCX6_at hx hb hK hP hD hS c5 dX6_put_79 (fun H locs hP hD hS => ?_)
      have hN : n_m (s_a (s_v (s_a (s_a (s_a τ 42 k1 k2) 41 u1 (τ.1 19)) 40 u1 (τ.1 17)) 18 (τ.1 18 - τ.1 19)) 40 u1 (τ.1 18 - τ.1 19)) := n_a (k := 40) (j := u1) hN (c8 : rg (τ.1 18 - τ.1 19))
      have hF : f_r [17, 18] [39, 40, 41, 42] [] σ (s_a (s_v (s_a (s_a (s_a τ 42 k1 k2) 41 u1 (τ.1 19)) 40 u1 (τ.1 17)) 18 (τ.1 18 - τ.1 19)) 40 u1 (τ.1 18 - τ.1 19)) := f_a hF (by decide)
      refine lv_goto (tgt := 96) hx hb dX6_put_80 (by decide) ?_
      exact (hP96 _ _).mp hw r_u1 hN hF H locs ls hP hD hS (lv_sub hl [0, 1] rfl)
  ·
    intro u1 τ hw
    refine (hP96 _ _).mpr ?_
    intro r_u1 hN hF H locs ls hP hD hS hl
    have hB := hN
    refine lv_aload_n hx hb dX6_put_96 rfl (lv_at hl 0 rfl) ?_
    refine gfX6_built hx hb hts hK hP hown (hts _ tw_361) dX6_put_97 ?_
    refine lv_iconst (v := I 0) hx hb dX6_put_100 rfl ?_
    refine lv_aload_n hx hb dX6_put_101 rfl (lv_at hl 0 rfl) ?_
    refine gfX6_data hx hb hts hK hP hown (hts _ tw_347) dX6_put_102 ?_
    refine lv_aload_n hx hb dX6_put_105 rfl (lv_at hl 0 rfl) ?_
    refine gfX6_at hx hb hts hK hP hown (hts _ tw_353) dX6_put_106 ?_
    refine lv_iload_n hx hb dX6_put_109 rfl (lv_at hl 1 rfl) ?_
    obtain ⟨c9, hw⟩ := hw
    refine ldCX6_at hx hb hK hP hN c9 dX6_put_110 (fun x10 r_x10 e_x10 => ?_)
    replace hw := hw x10 r_x10 e_x10
    refine lv_aload_n hx hb dX6_put_111 rfl (lv_at hl 0 rfl) ?_
    refine gfX6_builtSize hx hb hts hK hP hown (hts _ tw_363) (x := τ.1 19) rfl dX6_put_112 ?_
    obtain ⟨c11, hw⟩ := hw
    refine wr_cpy hx hb (by rw [hml]; exact hl.1.symm) hown (hts _ tw_1295) (hts _ tw_1297) (hts _ tw_1296) (hts _ tw_17) hK hP hD hS 59 55 (f := (τ.2.1 43)) (h := (τ.2.1 39)) rfl rfl (by decide) r_x10 (hB.1 19) c11.1 c11.2.1 c11.2.2.1 c11.2.2.2.1 c11.2.2.2.2 (Nat.le_of_ble_eq_true rfl) (by decide) dX6_put_115 (ws' := CX g q lb (s_f τ 39 (c_py (τ.2.1 43) (τ.2.1 39) 0 x10 (τ.1 19)))) (Csa39 _) (fun H locs hP hD hS => ?_)
    have hN : n_m (s_f τ 39 (c_py (τ.2.1 43) (τ.2.1 39) 0 x10 (τ.1 19))) := n_f (k := 39) (f := (c_py (τ.2.1 43) (τ.2.1 39) 0 x10 (τ.1 19))) hN (n_cpy (hN.2 43) (hN.2 39) _ _ _)
    have hF : f_r [17, 18] [39, 40, 41, 42] [] σ (s_f τ 39 (c_py (τ.2.1 43) (τ.2.1 39) 0 x10 (τ.1 19))) := f_f hF (by decide)
    refine lv_iconst (v := I 1) hx hb dX6_put_118 rfl ?_
    exact xrz hx hb hr (by decide) hlk hP hK hD hS ⟨_, _, (by decide), rfl, hN, hF, rfl, hw⟩ (Nat.le_of_ble_eq_true rfl) (Nat.le_of_ble_eq_true rfl) dX6_put_119
def W_X2_evaluate (lb : Nat) (n1 : Int) (n2 : Int) (n3 : Int) (σ : S0) (Q : Int → S0 → Prop) : Prop :=
  ∀ (P15 : Int → Int → Int → Int → S0 → Prop) (P90 : Int → Int → Int → Int → Int → Int → Int → S0 → Prop) (P170 : Int → Int → Int → Int → Int → Int → S0 → Prop) (P173 : Int → Int → Int → Int → Int → S0 → Prop) (P193 : Int → Int → Int → Int → Int → Int → S0 → Prop) (P237 : Int → Int → Int → Int → Int → Int → S0 → Prop),
  (∀ (u1 : Int) (u3 : Int) (u4 : Int) (u5 : Int) (τ : S0), ((u5 < u1 → (¬ u4 = 1 → Q 0 τ) ∧ (u4 = 1 → ∀ (x7 : Int), rg x7 → x7 = τ.2.1 41 0 → ((x7 = (-2) → Q 0 τ) ∧ (¬ x7 = (-2) → Q 1 τ)))) ∧ (u1 ≤ u5 → (0 ≤ u5 ∧ u5 < 12000) ∧ (∀ (x10 : Int), rg x10 → x10 = τ.2.1 84 u5 → ((0 ≤ x10 ∧ x10 < 1500) ∧ (∀ (x12 : Int), rg x12 → x12 = τ.2.1 13 x10 → ((¬ x12 = 0 → ∀ (x14 : Int), rg x14 → x14 = τ.2.1 28 x10 → ((x14 ≤ u4 → rg (u4 - x14) ∧ ∃ (Q17 : Int → S0 → Prop), W_X2_compose lb x10 (u4 - x14) u3 τ Q17 ∧ ∀ (x18 : Int) (τ19 : S0), rg x18 → n_m τ19 → f_r [19] [43] [] τ τ19 → Q17 x18 τ19 → ((x14 ≤ 0 → P170 u1 u3 (u4 - x14) u5 x18 (τ19.1 17) τ19) ∧ (0 < x14 → (0 ≤ (u4 - x14) ∧ (u4 - x14) < 20000) ∧ (∀ (x22 : Int), rg x22 → x22 = τ19.2.1 40 (u4 - x14) → (P170 u1 u3 (u4 - x14) u5 x18 x22 τ19))))) ∧ (u4 < x14 → Q 0 τ))) ∧ (x12 = 0 → ∃ (Q23 : Int → Prop), W_X3_variableOf x10 τ Q23 ∧ ∀ (x24 : Int), rg x24 → Q23 x24 → ((0 ≤ x24 ∧ x24 < 1000) ∧ (∀ (x27 : Int), rg x27 → x27 = τ.2.1 100 x24 → ((¬ x27 = 0 → ∀ (x29 : Int), rg x29 → x29 = τ.2.1 100 x24 → (P90 u1 u3 u4 u5 1 0 x29 τ)) ∧ (x27 = 0 → P90 u1 u3 u4 u5 1 0 x24 τ))))))))))) → P15 u1 u3 u4 u5 τ) →
  (∀ (u1 : Int) (u3 : Int) (u4 : Int) (u5 : Int) (u7 : Int) (k1 : Int) (k2 : Int) (τ : S0), ((0 ≤ k1 ∧ k1 < 1000) ∧ (P173 u1 u3 u4 u5 u7 (s_v (s_a τ 43 k1 k2) 19 1))) → P90 u1 u3 u4 u5 u7 k1 k2 τ) →
  (∀ (u1 : Int) (u3 : Int) (u4 : Int) (u5 : Int) (u7 : Int) (k1 : Int) (τ : S0), (P173 u1 u3 u4 u5 u7 (s_v τ 17 k1)) → P170 u1 u3 u4 u5 u7 k1 τ) →
  (∀ (u1 : Int) (u3 : Int) (u4 : Int) (u5 : Int) (u7 : Int) (τ : S0), ((u7 = 0 → P193 u1 u3 u4 u5 u7 0 τ) ∧ (¬ u7 = 0 → P193 u1 u3 u4 u5 u7 (τ.1 19) τ)) → P173 u1 u3 u4 u5 u7 τ) →
  (∀ (u1 : Int) (u3 : Int) (u4 : Int) (u5 : Int) (u7 : Int) (k1 : Int) (τ : S0), (∃ (Q32 : Int → S0 → Prop), W_X6_put u4 0 (s_v τ 19 k1) Q32 ∧ ∀ (x33 : Int) (τ34 : S0), rg x33 → n_m τ34 → f_r [17, 18] [39, 40, 41, 42] [] (s_v τ 19 k1) τ34 → Q32 x33 τ34 → ((¬ x33 = 0 → (u7 = 0 → P237 u1 u3 u4 u5 u4 (-2) τ34) ∧ (¬ u7 = 0 → P237 u1 u3 u4 u5 u4 (τ34.1 19) τ34)) ∧ (x33 = 0 → Q 0 τ34))) → P193 u1 u3 u4 u5 u7 k1 τ) →
  (∀ (u1 : Int) (u3 : Int) (u4 : Int) (u5 : Int) (k1 : Int) (k2 : Int) (τ : S0), ((0 ≤ k1 ∧ k1 < 20000) ∧ (rg (u4 + 1) ∧ rg (u5 + (-1)) ∧ P15 u1 u3 (u4 + 1) (u5 + (-1)) (s_a τ 41 k1 k2))) → P237 u1 u3 u4 u5 k1 k2 τ) →
  ∃ (Q1 : S0 → Prop), W_X6_clear σ Q1 ∧ ∀ (τ3 : S0), n_m τ3 → f_r [17, 18] [] [] σ τ3 → Q1 τ3 → (rg (n2 - 1) ∧ P15 n1 n3 0 (n2 - 1) τ3)
set_option maxRecDepth 100000 in
set_option maxHeartbeats 4000000 in
theorem L_X2_evaluate (l : Launch) (g : gG) (q : Nat → Nat) (lb : Nat) (hlb : lb < 2 ^ 31) {n1 : Int} {n2 : Int} {n3 : Int} {σ : S0} {Q : Int → S0 → Prop} (r_n1 : rg n1) (r_n2 : rg n2) (r_n3 : rg n3) (hN : n_m σ) (hw : W_X2_evaluate lb n1 n2 n3 σ Q) (sz : Nat) : MetI l yX2_evaluate cX2_evaluate 9 (some .boolean) { frames := 3, cells := 0, slots := 0, locals := 123 } g [.ref (q 11), .int (I n1), .int (I n2), .int (I n3)] (CX g q lb σ) sz xT (p_I (CX g q lb) [17, 18, 19] [39, 40, 41, 42, 43] [] σ Q) 0 0 := by
  refine mkMet (Qc := fun A => QI g A (p_I (CX g q lb) [17, 18, 19] [39, 40, 41, 42, 43] [] σ Q)) (by decide) (Nat.le_of_ble_eq_true rfl) ?_
  intro p e s m below meth c A H ls hx hb hr hml hown hts hlk hnm hsz hP hK hNb hD hA hAe hS hX hl
  have hl : lv_has ls 9 [(0, .ref (q 11)), (1, .int (I n1)), (2, .int (I n2)), (3, .int (I n3))] := hl
  have hB := hN
  have hF : f_r [17, 18, 19] [39, 40, 41, 42, 43] [] σ σ := f_0
  obtain ⟨locs, hlocs⟩ : ∃ z : List Loc, z = [] := ⟨_, rfl⟩
  rw [← hlocs] at hS ⊢
  obtain ⟨P15, hP15⟩ : ∃ P : Int → Int → Int → Int → S0 → Prop, ∀ (u1 : Int) (u3 : Int) (u4 : Int) (u5 : Int) (τ : S0), (P u1 u3 u4 u5 τ ↔ (rg u1 → rg u3 → rg u4 → rg u5 → n_m τ → f_r [17, 18, 19] [39, 40, 41, 42, 43] [] σ τ → ∀ (H : Heap) (locs : List Loc) (ls : Array Slot), KP g (CX g q lb τ) H → va_D A (CX g q lb τ) → va_S A s.heap H locs → lv_has ls 9 [(0, .ref (q 11)), (1, .int (I u1)), (3, .int (I u3)), (4, .int (I u4)), (5, .int (I u5))] → W p l e ({ frames := 3, cells := 0, slots := 0, locals := 123 }) s m [.ref (q 11), .int (I n1), .int (I n2), .int (I n3)].toArray below meth c H locs 0 0 (MQ below (QI g A (p_I (CX g q lb) [17, 18, 19] [39, 40, 41, 42, 43] [] σ Q)) [.ref (q 11), .int (I n1), .int (I n2), .int (I n3)].toArray s 0 0 A) (F0 m 15 ls []))) := ⟨_, fun _ _ _ _ _ => Iff.rfl⟩
  obtain ⟨P90, hP90⟩ : ∃ P : Int → Int → Int → Int → Int → Int → Int → S0 → Prop, ∀ (u1 : Int) (u3 : Int) (u4 : Int) (u5 : Int) (u7 : Int) (k1 : Int) (k2 : Int) (τ : S0), (P u1 u3 u4 u5 u7 k1 k2 τ ↔ (rg u1 → rg u3 → rg u4 → rg u5 → rg u7 → rg k1 → rg k2 → n_m τ → f_r [17, 18, 19] [39, 40, 41, 42, 43] [] σ τ → ∀ (H : Heap) (locs : List Loc) (ls : Array Slot), KP g (CX g q lb τ) H → va_D A (CX g q lb τ) → va_S A s.heap H locs → lv_has ls 9 [(0, .ref (q 11)), (1, .int (I u1)), (3, .int (I u3)), (4, .int (I u4)), (5, .int (I u5)), (7, .int (I u7))] → W p l e ({ frames := 3, cells := 0, slots := 0, locals := 123 }) s m [.ref (q 11), .int (I n1), .int (I n2), .int (I n3)].toArray below meth c H locs 0 0 (MQ below (QI g A (p_I (CX g q lb) [17, 18, 19] [39, 40, 41, 42, 43] [] σ Q)) [.ref (q 11), .int (I n1), .int (I n2), .int (I n3)].toArray s 0 0 A) (F0 m 90 ls [.int (I k2), .int (I k1), .ref (q 59)]))) := ⟨_, fun _ _ _ _ _ _ _ _ => Iff.rfl⟩
  obtain ⟨P170, hP170⟩ : ∃ P : Int → Int → Int → Int → Int → Int → S0 → Prop, ∀ (u1 : Int) (u3 : Int) (u4 : Int) (u5 : Int) (u7 : Int) (k1 : Int) (τ : S0), (P u1 u3 u4 u5 u7 k1 τ ↔ (rg u1 → rg u3 → rg u4 → rg u5 → rg u7 → rg k1 → n_m τ → f_r [17, 18, 19] [39, 40, 41, 42, 43] [] σ τ → ∀ (H : Heap) (locs : List Loc) (ls : Array Slot), KP g (CX g q lb τ) H → va_D A (CX g q lb τ) → va_S A s.heap H locs → lv_has ls 9 [(0, .ref (q 11)), (1, .int (I u1)), (3, .int (I u3)), (4, .int (I u4)), (5, .int (I u5)), (7, .int (I u7))] → W p l e ({ frames := 3, cells := 0, slots := 0, locals := 123 }) s m [.ref (q 11), .int (I n1), .int (I n2), .int (I n3)].toArray below meth c H locs 0 0 (MQ below (QI g A (p_I (CX g q lb) [17, 18, 19] [39, 40, 41, 42, 43] [] σ Q)) [.ref (q 11), .int (I n1), .int (I n2), .int (I n3)].toArray s 0 0 A) (F0 m 170 ls [.int (I k1), .ref (q 4)]))) := ⟨_, fun _ _ _ _ _ _ _ => Iff.rfl⟩
  obtain ⟨P173, hP173⟩ : ∃ P : Int → Int → Int → Int → Int → S0 → Prop, ∀ (u1 : Int) (u3 : Int) (u4 : Int) (u5 : Int) (u7 : Int) (τ : S0), (P u1 u3 u4 u5 u7 τ ↔ (rg u1 → rg u3 → rg u4 → rg u5 → rg u7 → n_m τ → f_r [17, 18, 19] [39, 40, 41, 42, 43] [] σ τ → ∀ (H : Heap) (locs : List Loc) (ls : Array Slot), KP g (CX g q lb τ) H → va_D A (CX g q lb τ) → va_S A s.heap H locs → lv_has ls 9 [(0, .ref (q 11)), (1, .int (I u1)), (3, .int (I u3)), (4, .int (I u4)), (5, .int (I u5)), (7, .int (I u7))] → W p l e ({ frames := 3, cells := 0, slots := 0, locals := 123 }) s m [.ref (q 11), .int (I n1), .int (I n2), .int (I n3)].toArray below meth c H locs 0 0 (MQ below (QI g A (p_I (CX g q lb) [17, 18, 19] [39, 40, 41, 42, 43] [] σ Q)) [.ref (q 11), .int (I n1), .int (I n2), .int (I n3)].toArray s 0 0 A) (F0 m 173 ls []))) := ⟨_, fun _ _ _ _ _ _ => Iff.rfl⟩
  obtain ⟨P193, hP193⟩ : ∃ P : Int → Int → Int → Int → Int → Int → S0 → Prop, ∀ (u1 : Int) (u3 : Int) (u4 : Int) (u5 : Int) (u7 : Int) (k1 : Int) (τ : S0), (P u1 u3 u4 u5 u7 k1 τ ↔ (rg u1 → rg u3 → rg u4 → rg u5 → rg u7 → rg k1 → n_m τ → f_r [17, 18, 19] [39, 40, 41, 42, 43] [] σ τ → ∀ (H : Heap) (locs : List Loc) (ls : Array Slot), KP g (CX g q lb τ) H → va_D A (CX g q lb τ) → va_S A s.heap H locs → lv_has ls 9 [(0, .ref (q 11)), (1, .int (I u1)), (3, .int (I u3)), (4, .int (I u4)), (5, .int (I u5)), (7, .int (I u7))] → W p l e ({ frames := 3, cells := 0, slots := 0, locals := 123 }) s m [.ref (q 11), .int (I n1), .int (I n2), .int (I n3)].toArray below meth c H locs 0 0 (MQ below (QI g A (p_I (CX g q lb) [17, 18, 19] [39, 40, 41, 42, 43] [] σ Q)) [.ref (q 11), .int (I n1), .int (I n2), .int (I n3)].toArray s 0 0 A) (F0 m 193 ls [.int (I k1), .ref (q 4)]))) := ⟨_, fun _ _ _ _ _ _ _ => Iff.rfl⟩
  obtain ⟨P237, hP237⟩ : ∃ P : Int → Int → Int → Int → Int → Int → S0 → Prop, ∀ (u1 : Int) (u3 : Int) (u4 : Int) (u5 : Int) (k1 : Int) (k2 : Int) (τ : S0), (P u1 u3 u4 u5 k1 k2 τ ↔ (rg u1 → rg u3 → rg u4 → rg u5 → rg k1 → rg k2 → n_m τ → f_r [17, 18, 19] [39, 40, 41, 42, 43] [] σ τ → ∀ (H : Heap) (locs : List Loc) (ls : Array Slot), KP g (CX g q lb τ) H → va_D A (CX g q lb τ) → va_S A s.heap H locs → lv_has ls 9 [(0, .ref (q 11)), (1, .int (I u1)), (3, .int (I u3)), (4, .int (I u4)), (5, .int (I u5))] → W p l e ({ frames := 3, cells := 0, slots := 0, locals := 123 }) s m [.ref (q 11), .int (I n1), .int (I n2), .int (I n3)].toArray below meth c H locs 0 0 (MQ below (QI g A (p_I (CX g q lb) [17, 18, 19] [39, 40, 41, 42, 43] [] σ Q)) [.ref (q 11), .int (I n1), .int (I n2), .int (I n3)].toArray s 0 0 A) (F0 m 237 ls [.int (I k2), .int (I k1), .ref (q 57)]))) := ⟨_, fun _ _ _ _ _ _ _ => Iff.rfl⟩
  refine (fun hw => ?_) (hw P15 P90 P170 P173 P193 P237 ?_ ?_ ?_ ?_ ?_ ?_)
  ·
    refine lv_aload_n hx hb dX2_evaluate_0 rfl (lv_at hl 0 rfl) ?_
    refine gfX2_pile hx hb hts hK hP hown (hts _ tw_800) dX2_evaluate_1 ?_
    obtain ⟨Q1, hc, hw⟩ := hw
    refine wc_V (X := CX g q lb) (va_runV (As := []) (rest := []) ⟨hx, hb, hml, hown, hts⟩ (L_X6_clear l g q lb hlb  hN hc H.size) (cwV 0 hts (TB_V tw_1859 tw_1274 tw_1275 tw_6 co_X6_clear) rfl rfl rfl (by decide +kernel) ⟨Nat.le_of_ble_eq_true rfl, Nat.le_of_ble_eq_true rfl⟩) (preV (q0 := 4) (ci := 6) rfl xT_bl hP hK hNb hD rfl rfl xT_at) rfl rfl hl.1 rfl (lv_room (Nat.le_of_ble_eq_true rfl)) dX2_evaluate_4 ⟨Nat.le_of_ble_eq_true rfl, Nat.le_of_ble_eq_true rfl⟩) hP hD hS hA (fun τ3 H locs hN hf hq hP hD hS => ?_)
    replace hw := hw τ3 hN hf hq
    have hF : f_r [17, 18, 19] [39, 40, 41, 42, 43] [] σ τ3 := f_t hF hf (by decide) (by decide) (by decide)
    have hB := hN
    refine lv_iconst (v := I 0) hx hb dX2_evaluate_7 rfl ?_
    refine lv_istore (lv' := [(4, .int (I 0)), (0, .ref (q 11)), (1, .int (I n1)), (2, .int (I n2)), (3, .int (I n3))]) hx hb dX2_evaluate_8 hl (by decide) rfl (fun ls hl => ?_)
    refine lv_iload_n hx hb dX2_evaluate_10 rfl (lv_at hl 3 rfl) ?_
    refine lv_iconst (v := I 1) hx hb dX2_evaluate_11 rfl ?_
    refine bi_isub hx hb dX2_evaluate_12 ?_
    refine lv_istore (lv' := [(5, .int (I (n2 - 1))), (4, .int (I 0)), (0, .ref (q 11)), (1, .int (I n1)), (2, .int (I n2)), (3, .int (I n3))]) hx hb dX2_evaluate_13 hl (by decide) rfl (fun ls hl => ?_)
    obtain ⟨c4, hw⟩ := hw
    exact (hP15 _ _ _ _ _).mp hw r_n1 r_n3 (by decide) c4 hN hF H locs ls hP hD hS (lv_sub hl [2, 3, 5, 1, 0] rfl)
  ·
    intro u1 u3 u4 u5 τ hw
    refine (hP15 _ _ _ _ _).mpr ?_
    intro r_u1 r_u3 r_u4 r_u5 hN hF H locs ls hP hD hS hl
    have hB := hN
    refine lv_iload hx hb dX2_evaluate_15 (lv_at hl 4 rfl) ?_
    refine lv_iload_n hx hb dX2_evaluate_17 rfl (lv_at hl 1 rfl) ?_
    refine bi_icmp_lt (tgt := 247) hx hb r_u5 r_u1 dX2_evaluate_18 (by decide) (fun c5 => ?_) (fun c5 => ?_)
    ·
      replace hw := hw.1 c5
      refine lv_iload hx hb dX2_evaluate_247 (lv_at hl 3 rfl) ?_
      refine lv_iconst (v := I 1) hx hb dX2_evaluate_249 rfl ?_
      refine bi_icmp_ne (tgt := 271) hx hb r_u4 (by decide) dX2_evaluate_250 (by decide) (fun c6 => ?_) (fun c6 => ?_)
      ·
        replace hw := hw.1 c6
        refine lv_iconst (v := I 0) hx hb dX2_evaluate_271 rfl ?_
        exact xrz hx hb hr (by decide) hlk hP hK hD hS ⟨_, _, (by decide), rfl, hN, hF, rfl, hw⟩ (Nat.le_of_ble_eq_true rfl) (Nat.le_of_ble_eq_true rfl) dX2_evaluate_272
      ·
        replace hw := hw.2 c6
        refine lv_aload_n hx hb dX2_evaluate_253 rfl (lv_at hl 0 rfl) ?_
        refine gfX2_pile hx hb hts hK hP hown (hts _ tw_800) dX2_evaluate_254 ?_
        refine gfNX6_size hx hb hts hK hP hown (nb_use hNb tn_357) dX2_evaluate_257 ?_
        refine lv_iconst (v := I 0) hx hb dX2_evaluate_260 rfl ?_
        refine ldCX6_size hx hb hK hP hN (by decide) dX2_evaluate_261 (fun x7 r_x7 e_x7 => ?_)
        replace hw := hw x7 r_x7 e_x7
        refine lv_bipush (v := I (-2)) hx hb dX2_evaluate_262 (by decide) ?_
        refine bi_icmp_eq (tgt := 271) hx hb r_x7 (by decide) dX2_evaluate_264 (by decide) (fun c8 => ?_) (fun c8 => ?_)
        ·
          replace hw := hw.1 c8
          refine lv_iconst (v := I 0) hx hb dX2_evaluate_271 rfl ?_
          exact xrz hx hb hr (by decide) hlk hP hK hD hS ⟨_, _, (by decide), rfl, hN, hF, rfl, hw⟩ (Nat.le_of_ble_eq_true rfl) (Nat.le_of_ble_eq_true rfl) dX2_evaluate_272
        ·
          replace hw := hw.2 c8
          refine lv_iconst (v := I 1) hx hb dX2_evaluate_267 rfl ?_
          refine lv_goto (tgt := 272) hx hb dX2_evaluate_268 (by decide) ?_
          exact xrz hx hb hr (by decide) hlk hP hK hD hS ⟨_, _, (by decide), rfl, hN, hF, rfl, hw⟩ (Nat.le_of_ble_eq_true rfl) (Nat.le_of_ble_eq_true rfl) dX2_evaluate_272
    ·
      replace hw := hw.2 c5
      refine lv_aload_n hx hb dX2_evaluate_21 rfl (lv_at hl 0 rfl) ?_
      refine gfX2_tree hx hb hts hK hP hown (hts _ tw_799) dX2_evaluate_22 ?_
      refine gfNX11_rule hx hb hts hK hP hown (nb_use hNb tn_741) dX2_evaluate_25 ?_
      refine lv_iload hx hb dX2_evaluate_28 (lv_at hl 4 rfl) ?_
      obtain ⟨c9, hw⟩ := hw
      refine ldCX11_rule hx hb hK hP hN c9 dX2_evaluate_30 (fun x10 r_x10 e_x10 => ?_)
      replace hw := hw x10 r_x10 e_x10
      refine lv_istore (lv' := [(6, .int (I x10)), (0, .ref (q 11)), (1, .int (I u1)), (3, .int (I u3)), (4, .int (I u4)), (5, .int (I u5))]) hx hb dX2_evaluate_31 hl (by decide) rfl (fun ls hl => ?_)
      refine lv_iconst (v := I 1) hx hb dX2_evaluate_33 rfl ?_
      refine lv_istore (lv' := [(7, .int (I 1)), (6, .int (I x10)), (0, .ref (q 11)), (1, .int (I u1)), (3, .int (I u3)), (4, .int (I u4)), (5, .int (I u5))]) hx hb dX2_evaluate_34 hl (by decide) rfl (fun ls hl => ?_)
      refine lv_aload_n hx hb dX2_evaluate_36 rfl (lv_at hl 2 rfl) ?_
      refine gfX2_library hx hb hts hK hP hown (hts _ tw_795) dX2_evaluate_37 ?_
      refine gfNX3_kind hx hb hts hK hP hown (nb_use hNb tn_71) dX2_evaluate_40 ?_
      refine lv_iload hx hb dX2_evaluate_43 (lv_at hl 1 rfl) ?_
      obtain ⟨c11, hw⟩ := hw
      refine ldCX3_kind hx hb hK hP hN c11 dX2_evaluate_45 (fun x12 r_x12 e_x12 => ?_)
      replace hw := hw x12 r_x12 e_x12
      refine bi_if_ne (tgt := 102) hx hb r_x12 dX2_evaluate_46 (by decide) (fun c13 => ?_) (fun c13 => ?_)
      ·
        replace hw := hw.1 c13
        refine lv_aload_n hx hb dX2_evaluate_102 rfl (lv_at hl 2 rfl) ?_
        refine gfX2_assertions hx hb hts hK hP hown (hts _ tw_796) dX2_evaluate_103 ?_
        refine gfNX0_frameSize hx hb hts hK hP hown (nb_use hNb tn_245) dX2_evaluate_106 ?_
        refine lv_iload hx hb dX2_evaluate_109 (lv_at hl 1 rfl) ?_
        refine ldCX0_frameSize hx hb hK hP hN c11 dX2_evaluate_111 (fun x14 r_x14 e_x14 => ?_)
        replace hw := hw x14 r_x14 e_x14
        refine lv_istore (lv' := [(8, .int (I x14)), (7, .int (I 1)), (6, .int (I x10)), (0, .ref (q 11)), (1, .int (I u1)), (3, .int (I u3)), (4, .int (I u4)), (5, .int (I u5))]) hx hb dX2_evaluate_112 hl (by decide) rfl (fun ls hl => ?_)
        refine lv_iload hx hb dX2_evaluate_114 (lv_at hl 0 rfl) ?_
        refine lv_iload hx hb dX2_evaluate_116 (lv_at hl 6 rfl) ?_
        refine bi_icmp_le (tgt := 123) hx hb r_x14 r_u4 dX2_evaluate_118 (by decide) (fun c15 => ?_) (fun c15 => ?_)
        ·
          replace hw := hw.1 c15
          refine lv_iload hx hb dX2_evaluate_123 (lv_at hl 6 rfl) ?_
          refine lv_iload hx hb dX2_evaluate_125 (lv_at hl 0 rfl) ?_
          refine bi_isub hx hb dX2_evaluate_127 ?_
          refine lv_istore (lv' := [(4, .int (I (u4 - x14))), (8, .int (I x14)), (7, .int (I 1)), (6, .int (I x10)), (0, .ref (q 11)), (1, .int (I u1)), (3, .int (I u3)), (5, .int (I u5))]) hx hb dX2_evaluate_128 hl (by decide) rfl (fun ls hl => ?_)
          refine lv_aload_n hx hb dX2_evaluate_130 rfl (lv_at hl 4 rfl) ?_
          refine lv_iload hx hb dX2_evaluate_131 (lv_at hl 3 rfl) ?_
          refine lv_iload hx hb dX2_evaluate_133 (lv_at hl 0 rfl) ?_
          refine lv_iload_n hx hb dX2_evaluate_135 rfl (lv_at hl 6 rfl) ?_
          obtain ⟨c16, hw⟩ := hw
          obtain ⟨Q17, hc, hw⟩ := hw
          refine wc_I (X := CX g q lb) (va_runV (As := [.int (I x10), .int (I (u4 - x14)), .int (I u3)]) (rest := []) ⟨hx, hb, hml, hown, hts⟩ (L_X2_compose l g q lb hlb r_x10 c16 r_u3 hN hc H.size) (cwV 3 hts (TB_V tw_1860 tw_1862 ts_91 tw_13 co_X2_compose) rfl rfl rfl (by decide +kernel) ⟨Nat.le_of_ble_eq_true rfl, Nat.le_of_ble_eq_true rfl⟩) (preV (q0 := 11) (ci := 2) rfl xT_bl hP hK hNb hD rfl rfl xT_at) rfl rfl hl.1 rfl (lv_room (Nat.le_of_ble_eq_true rfl)) dX2_evaluate_136 ⟨Nat.le_of_ble_eq_true rfl, Nat.le_of_ble_eq_true rfl⟩) hP hD hS hA (fun x18 τ19 H locs r_x18 hN hf hq hP hD hS => ?_)
          replace hw := hw x18 τ19 r_x18 hN hf hq
          have hF : f_r [17, 18, 19] [39, 40, 41, 42, 43] [] σ τ19 := f_t hF hf (by decide) (by decide) (by decide)
          have hB := hN
          refine lv_istore (lv' := [(7, .int (I x18)), (4, .int (I (u4 - x14))), (8, .int (I x14)), (6, .int (I x10)), (0, .ref (q 11)), (1, .int (I u1)), (3, .int (I u3)), (5, .int (I u5))]) hx hb dX2_evaluate_139 hl (by decide) rfl (fun ls hl => ?_)
          refine lv_aload_n hx hb dX2_evaluate_141 rfl (lv_at hl 4 rfl) ?_
          refine gfX2_pile hx hb hts hK hP hown (hts _ tw_800) dX2_evaluate_142 ?_
          refine lv_iload hx hb dX2_evaluate_145 (lv_at hl 2 rfl) ?_
          refine bi_if_le (tgt := 163) hx hb r_x14 dX2_evaluate_147 (by decide) (fun c20 => ?_) (fun c20 => ?_)
          ·
            replace hw := hw.1 c20
            refine lv_aload_n hx hb dX2_evaluate_163 rfl (lv_at hl 4 rfl) ?_
            refine gfX2_pile hx hb hts hK hP hown (hts _ tw_800) dX2_evaluate_164 ?_
            refine gfNX6_low hx hb hts hK hP hown (nb_use hNb tn_351) (x := τ19.1 17) rfl dX2_evaluate_167 ?_
            exact (hP170 _ _ _ _ _ _ _).mp hw r_u1 r_u3 c16 r_u5 r_x18 (hB.1 17) hN hF H locs ls hP hD hS (lv_sub hl [4, 5, 6, 1, 7, 0] rfl)
          ·
            replace hw := hw.2 c20
            refine lv_aload_n hx hb dX2_evaluate_150 rfl (lv_at hl 4 rfl) ?_
            refine gfX2_pile hx hb hts hK hP hown (hts _ tw_800) dX2_evaluate_151 ?_
            refine gfNX6_at hx hb hts hK hP hown (nb_use hNb tn_354) dX2_evaluate_154 ?_
            refine lv_iload hx hb dX2_evaluate_157 (lv_at hl 1 rfl) ?_
            obtain ⟨c21, hw⟩ := hw
            refine ldCX6_at hx hb hK hP hN c21 dX2_evaluate_159 (fun x22 r_x22 e_x22 => ?_)
            replace hw := hw x22 r_x22 e_x22
            refine lv_goto (tgt := 170) hx hb dX2_evaluate_160 (by decide) ?_
            exact (hP170 _ _ _ _ _ _ _).mp hw r_u1 r_u3 c16 r_u5 r_x18 r_x22 hN hF H locs ls hP hD hS (lv_sub hl [4, 5, 6, 1, 7, 0] rfl)
        ·
          replace hw := hw.2 c15
          refine lv_iconst (v := I 0) hx hb dX2_evaluate_121 rfl ?_
          exact xrz hx hb hr (by decide) hlk hP hK hD hS ⟨_, _, (by decide), rfl, hN, hF, rfl, hw⟩ (Nat.le_of_ble_eq_true rfl) (Nat.le_of_ble_eq_true rfl) dX2_evaluate_122
      ·
        replace hw := hw.2 c13
        refine lv_aload_n hx hb dX2_evaluate_49 rfl (lv_at hl 2 rfl) ?_
        refine gfX2_library hx hb hts hK hP hown (hts _ tw_795) dX2_evaluate_50 ?_
        refine lv_iload hx hb dX2_evaluate_53 (lv_at hl 1 rfl) ?_
        obtain ⟨Q23, hc, hw⟩ := hw
        refine wc_i (X := CX g q lb) (va_runV (As := [.int (I x10)]) (rest := []) ⟨hx, hb, hml, hown, hts⟩ (L_X3_variableOf l g q lb hlb r_x10 hN hc H.size) (cwV 1 hts (TB_V tw_1833 tw_1022 tw_1023 tw_2 co_X3_variableOf) rfl rfl rfl (by decide +kernel) ⟨Nat.le_of_ble_eq_true rfl, Nat.le_of_ble_eq_true rfl⟩) (preV (q0 := 1) (ci := 3) rfl xT_bl hP hK hNb hD rfl rfl xT_at) rfl rfl hl.1 rfl (lv_room (Nat.le_of_ble_eq_true rfl)) dX2_evaluate_55 ⟨Nat.le_of_ble_eq_true rfl, Nat.le_of_ble_eq_true rfl⟩) hP hD hS hA (fun x24 H locs r_x24 hq hP hD hS => ?_)
        replace hw := hw x24 r_x24 hq
        refine lv_istore (lv' := [(8, .int (I x24)), (7, .int (I 1)), (6, .int (I x10)), (0, .ref (q 11)), (1, .int (I u1)), (3, .int (I u3)), (4, .int (I u4)), (5, .int (I u5))]) hx hb dX2_evaluate_58 hl (by decide) rfl (fun ls hl => ?_)
        refine lv_aload_n hx hb dX2_evaluate_60 rfl (lv_at hl 3 rfl) ?_
        refine gfX2_pile hx hb hts hK hP hown (hts _ tw_800) dX2_evaluate_61 ?_
        refine gfNX6_built hx hb hts hK hP hown (nb_use hNb tn_362) dX2_evaluate_64 ?_
        refine lv_iconst (v := I 0) hx hb dX2_evaluate_67 rfl ?_
        refine lv_aload_n hx hb dX2_evaluate_68 rfl (lv_at hl 3 rfl) ?_
        refine gfX2_slots hx hb hts hK hP hown (hts _ tw_813) dX2_evaluate_69 ?_
        refine lv_iload hx hb dX2_evaluate_72 (lv_at hl 0 rfl) ?_
        obtain ⟨c26, hw⟩ := hw
        refine ldCX2_slots hx hb hK hP hN c26 dX2_evaluate_74 (fun x27 r_x27 e_x27 => ?_)
        replace hw := hw x27 r_x27 e_x27
        refine bi_if_ne (tgt := 83) hx hb r_x27 dX2_evaluate_75 (by decide) (fun c28 => ?_) (fun c28 => ?_)
        ·
          replace hw := hw.1 c28
          refine lv_aload_n hx hb dX2_evaluate_83 rfl (lv_at hl 3 rfl) ?_
          refine gfX2_slots hx hb hts hK hP hown (hts _ tw_813) dX2_evaluate_84 ?_
          refine lv_iload hx hb dX2_evaluate_87 (lv_at hl 0 rfl) ?_
          refine ldCX2_slots hx hb hK hP hN c26 dX2_evaluate_89 (fun x29 r_x29 e_x29 => ?_)
          replace hw := hw x29 r_x29 e_x29
          exact (hP90 _ _ _ _ _ _ _ _).mp hw r_u1 r_u3 r_u4 r_u5 (by decide) (by decide) r_x29 hN hF H locs ls hP hD hS (lv_sub hl [3, 4, 5, 6, 7, 1] rfl)
        ·
          replace hw := hw.2 c28
          refine lv_iload hx hb dX2_evaluate_78 (lv_at hl 0 rfl) ?_
          refine lv_goto (tgt := 90) hx hb dX2_evaluate_80 (by decide) ?_
          exact (hP90 _ _ _ _ _ _ _ _).mp hw r_u1 r_u3 r_u4 r_u5 (by decide) (by decide) r_x24 hN hF H locs ls hP hD hS (lv_sub hl [3, 4, 5, 6, 7, 1] rfl)
  ·
    intro u1 u3 u4 u5 u7 k1 k2 τ hw
    refine (hP90 _ _ _ _ _ _ _ _).mpr ?_
    intro r_u1 r_u3 r_u4 r_u5 r_u7 r_k1 r_k2 hN hF H locs ls hP hD hS hl
    have hB := hN
    obtain ⟨c30, hw⟩ := hw
    refine sdCX6_built hx hb hK hP hD hS c30 dX2_evaluate_90 (fun H locs hP hD hS => ?_)
    have hN : n_m (s_a τ 43 k1 k2) := n_a (k := 43) (j := k1) hN (r_k2 : rg k2)
    have hF : f_r [17, 18, 19] [39, 40, 41, 42, 43] [] σ (s_a τ 43 k1 k2) := f_a hF (by decide)
    refine lv_aload_n hx hb dX2_evaluate_91 rfl (lv_at hl 0 rfl) ?_
    refine gfX2_pile hx hb hts hK hP hown (hts _ tw_800) dX2_evaluate_92 ?_
    refine lv_iconst (v := I 1) hx hb dX2_evaluate_95 rfl ?_
    refine pfNX6_builtSize hx hb hts hK hP hD hS hown (nb_use hNb tn_364) dX2_evaluate_96 (fun H locs hP hD hS => ?_)
    have hN : n_m (s_v (s_a τ 43 k1 k2) 19 1) := n_v (i := 19) hN ((by decide) : rg 1)
    have hF : f_r [17, 18, 19] [39, 40, 41, 42, 43] [] σ (s_v (s_a τ 43 k1 k2) 19 1) := f_v hF (by decide)
    refine lv_goto (tgt := 173) hx hb dX2_evaluate_99 (by decide) ?_
    exact (hP173 _ _ _ _ _ _).mp hw r_u1 r_u3 r_u4 r_u5 r_u7 hN hF H locs ls hP hD hS (lv_sub hl [0, 1, 2, 3, 4, 5] rfl)
  ·
    intro u1 u3 u4 u5 u7 k1 τ hw
    refine (hP170 _ _ _ _ _ _ _).mpr ?_
    intro r_u1 r_u3 r_u4 r_u5 r_u7 r_k1 hN hF H locs ls hP hD hS hl
    have hB := hN
    refine pfNX6_low hx hb hts hK hP hD hS hown (nb_use hNb tn_351) dX2_evaluate_170 (fun H locs hP hD hS => ?_)
    have hN : n_m (s_v τ 17 k1) := n_v (i := 17) hN (r_k1 : rg k1)
    have hF : f_r [17, 18, 19] [39, 40, 41, 42, 43] [] σ (s_v τ 17 k1) := f_v hF (by decide)
    exact (hP173 _ _ _ _ _ _).mp hw r_u1 r_u3 r_u4 r_u5 r_u7 hN hF H locs ls hP hD hS (lv_sub hl [0, 1, 2, 3, 4, 5] rfl)
  ·
    intro u1 u3 u4 u5 u7 τ hw
    refine (hP173 _ _ _ _ _ _).mpr ?_
    intro r_u1 r_u3 r_u4 r_u5 r_u7 hN hF H locs ls hP hD hS hl
    have hB := hN
    refine lv_aload_n hx hb dX2_evaluate_173 rfl (lv_at hl 0 rfl) ?_
    refine gfX2_pile hx hb hts hK hP hown (hts _ tw_800) dX2_evaluate_174 ?_
    refine lv_iload hx hb dX2_evaluate_177 (lv_at hl 5 rfl) ?_
    refine bi_if_eq (tgt := 192) hx hb r_u7 dX2_evaluate_179 (by decide) (fun c31 => ?_) (fun c31 => ?_)
    ·
      replace hw := hw.1 c31
      refine lv_iconst (v := I 0) hx hb dX2_evaluate_192 rfl ?_
      exact (hP193 _ _ _ _ _ _ _).mp hw r_u1 r_u3 r_u4 r_u5 r_u7 (by decide) hN hF H locs ls hP hD hS (lv_sub hl [0, 1, 2, 3, 4, 5] rfl)
    ·
      replace hw := hw.2 c31
      refine lv_aload_n hx hb dX2_evaluate_182 rfl (lv_at hl 0 rfl) ?_
      refine gfX2_pile hx hb hts hK hP hown (hts _ tw_800) dX2_evaluate_183 ?_
      refine gfNX6_builtSize hx hb hts hK hP hown (nb_use hNb tn_364) (x := τ.1 19) rfl dX2_evaluate_186 ?_
      refine lv_goto (tgt := 193) hx hb dX2_evaluate_189 (by decide) ?_
      exact (hP193 _ _ _ _ _ _ _).mp hw r_u1 r_u3 r_u4 r_u5 r_u7 (hB.1 19) hN hF H locs ls hP hD hS (lv_sub hl [0, 1, 2, 3, 4, 5] rfl)
  ·
    intro u1 u3 u4 u5 u7 k1 τ hw
    refine (hP193 _ _ _ _ _ _ _).mpr ?_
    intro r_u1 r_u3 r_u4 r_u5 r_u7 r_k1 hN hF H locs ls hP hD hS hl
    have hB := hN
    refine pfNX6_builtSize hx hb hts hK hP hD hS hown (nb_use hNb tn_364) dX2_evaluate_193 (fun H locs hP hD hS => ?_)
    have hN : n_m (s_v τ 19 k1) := n_v (i := 19) hN (r_k1 : rg k1)
    have hF : f_r [17, 18, 19] [39, 40, 41, 42, 43] [] σ (s_v τ 19 k1) := f_v hF (by decide)
    refine lv_aload_n hx hb dX2_evaluate_196 rfl (lv_at hl 0 rfl) ?_
    refine gfX2_pile hx hb hts hK hP hown (hts _ tw_800) dX2_evaluate_197 ?_
    refine lv_iload hx hb dX2_evaluate_200 (lv_at hl 3 rfl) ?_
    refine lv_iconst (v := I 0) hx hb dX2_evaluate_202 rfl ?_
    obtain ⟨Q32, hc, hw⟩ := hw
    refine wc_I (X := CX g q lb) (va_runV (As := [.int (I u4), .int (I 0)]) (rest := []) ⟨hx, hb, hml, hown, hts⟩ (L_X6_put l g q lb hlb r_u4 (by decide) hN hc H.size) (cwV 2 hts (TB_V tw_1874 tw_1346 tw_1347 tw_6 co_X6_put) rfl rfl rfl (by decide +kernel) ⟨Nat.le_of_ble_eq_true rfl, Nat.le_of_ble_eq_true rfl⟩) (preV (q0 := 4) (ci := 6) rfl xT_bl hP hK hNb hD rfl rfl xT_at) rfl rfl hl.1 rfl (lv_room (Nat.le_of_ble_eq_true rfl)) dX2_evaluate_203 ⟨Nat.le_of_ble_eq_true rfl, Nat.le_of_ble_eq_true rfl⟩) hP hD hS hA (fun x33 τ34 H locs r_x33 hN hf hq hP hD hS => ?_)
    replace hw := hw x33 τ34 r_x33 hN hf hq
    have hF : f_r [17, 18, 19] [39, 40, 41, 42, 43] [] σ τ34 := f_t hF hf (by decide) (by decide) (by decide)
    have hB := hN
    refine bi_if_ne (tgt := 211) hx hb r_x33 dX2_evaluate_206 (by decide) (fun c35 => ?_) (fun c35 => ?_)
    ·
      replace hw := hw.1 c35
      refine lv_aload_n hx hb dX2_evaluate_211 rfl (lv_at hl 0 rfl) ?_
      refine gfX2_pile hx hb hts hK hP hown (hts _ tw_800) dX2_evaluate_212 ?_
      refine gfNX6_size hx hb hts hK hP hown (nb_use hNb tn_357) dX2_evaluate_215 ?_
      refine lv_iload hx hb dX2_evaluate_218 (lv_at hl 3 rfl) ?_
      refine lv_iload hx hb dX2_evaluate_220 (lv_at hl 5 rfl) ?_
      refine bi_if_eq (tgt := 235) hx hb r_u7 dX2_evaluate_222 (by decide) (fun c36 => ?_) (fun c36 => ?_)
      ·
        replace hw := hw.1 c36
        refine lv_bipush (v := I (-2)) hx hb dX2_evaluate_235 (by decide) ?_
        exact (hP237 _ _ _ _ _ _ _).mp hw r_u1 r_u3 r_u4 r_u5 r_u4 (by decide) hN hF H locs ls hP hD hS (lv_sub hl [0, 1, 2, 3, 4] rfl)
      ·
        replace hw := hw.2 c36
        refine lv_aload_n hx hb dX2_evaluate_225 rfl (lv_at hl 0 rfl) ?_
        refine gfX2_pile hx hb hts hK hP hown (hts _ tw_800) dX2_evaluate_226 ?_
        refine gfNX6_builtSize hx hb hts hK hP hown (nb_use hNb tn_364) (x := τ34.1 19) rfl dX2_evaluate_229 ?_
        refine lv_goto (tgt := 237) hx hb dX2_evaluate_232 (by decide) ?_
        exact (hP237 _ _ _ _ _ _ _).mp hw r_u1 r_u3 r_u4 r_u5 r_u4 (hB.1 19) hN hF H locs ls hP hD hS (lv_sub hl [0, 1, 2, 3, 4] rfl)
    ·
      replace hw := hw.2 c35
      refine lv_iconst (v := I 0) hx hb dX2_evaluate_209 rfl ?_
      exact xrz hx hb hr (by decide) hlk hP hK hD hS ⟨_, _, (by decide), rfl, hN, hF, rfl, hw⟩ (Nat.le_of_ble_eq_true rfl) (Nat.le_of_ble_eq_true rfl) dX2_evaluate_210
  ·
    intro u1 u3 u4 u5 k1 k2 τ hw
    refine (hP237 _ _ _ _ _ _ _).mpr ?_
    intro r_u1 r_u3 r_u4 r_u5 r_k1 r_k2 hN hF H locs ls hP hD hS hl
    have hB := hN
    obtain ⟨c37, hw⟩ := hw
    refine sdCX6_size hx hb hK hP hD hS c37 dX2_evaluate_237 (fun H locs hP hD hS => ?_)
    have hN : n_m (s_a τ 41 k1 k2) := n_a (k := 41) (j := k1) hN (r_k2 : rg k2)
    have hF : f_r [17, 18, 19] [39, 40, 41, 42, 43] [] σ (s_a τ 41 k1 k2) := f_a hF (by decide)
    refine lv_iinc (v := I (u4 + 1)) (lv' := [(4, .int (I (u4 + 1))), (0, .ref (q 11)), (1, .int (I u1)), (3, .int (I u3)), (5, .int (I u5))]) hx hb dX2_evaluate_238 hl (k := 3) rfl (I_add _ _) (by decide) rfl (fun ls hl => ?_)
    refine lv_iinc (v := I (u5 + (-1))) (lv' := [(5, .int (I (u5 + (-1)))), (4, .int (I (u4 + 1))), (0, .ref (q 11)), (1, .int (I u1)), (3, .int (I u3))]) hx hb dX2_evaluate_241 hl (k := 4) rfl (I_add _ _) (by decide) rfl (fun ls hl => ?_)
    refine lv_goto (tgt := 15) hx hb dX2_evaluate_244 (by decide) ?_
    obtain ⟨c38, hw⟩ := hw
    obtain ⟨c39, hw⟩ := hw
    exact (hP15 _ _ _ _ _).mp hw r_u1 r_u3 c38 c39 hN hF H locs ls hP hD hS (lv_sub hl [2, 3, 4, 1, 0] rfl)
def W_X3_statementOf (n1 : Int) (σ : S0) (Q : Int → Prop) : Prop :=
  (¬ n1 = (-1) → (0 ≤ n1 ∧ n1 < 2500) ∧ (∀ (x3 : Int), rg x3 → x3 = σ.2.1 4 n1 → (∀ (x4 : Int), rg x4 → (-1) ≤ x4 → x3 ≤ x4 → (x4 = (-1) ∨ x4 = x3) → (Q x4)))) ∧ (n1 = (-1) → Q (-1))
set_option maxRecDepth 100000 in
set_option maxHeartbeats 4000000 in
theorem L_X3_statementOf (l : Launch) (g : gG) (q : Nat → Nat) (lb : Nat) (hlb : lb < 2 ^ 31) {n1 : Int} {σ : S0} {Q : Int → Prop} (r_n1 : rg n1) (hN : n_m σ) (hw : W_X3_statementOf n1 σ Q) (sz : Nat) : MetI l yX3_statementOf cX3_statementOf 2 (some .int) { frames := 1, cells := 0, slots := 0, locals := 15 } g [.ref (q 1), .int (I n1)] (CX g q lb σ) sz xT (p_i (CX g q lb) σ Q) 0 0 := by
  refine mkMet (Qc := fun A => QI g A (p_i (CX g q lb) σ Q)) (by decide) (Nat.le_of_ble_eq_true rfl) ?_
  intro p e s m below meth c A H ls hx hb hr hml hown hts hlk hnm hsz hP hK hNb hD hA hAe hS hX hl
  have hl : lv_has ls 2 [(0, .ref (q 1)), (1, .int (I n1))] := hl
  have hB := hN
  obtain ⟨locs, hlocs⟩ : ∃ z : List Loc, z = [] := ⟨_, rfl⟩
  rw [← hlocs] at hS ⊢
  refine lv_iload_n hx hb dX3_statementOf_0 rfl (lv_at hl 1 rfl) ?_
  refine lv_iconst (v := I (-1)) hx hb dX3_statementOf_1 rfl ?_
  refine bi_icmp_ne (tgt := 9) hx hb r_n1 (by decide) dX3_statementOf_2 (by decide) (fun c1 => ?_) (fun c1 => ?_)
  ·
    replace hw := hw.1 c1
    refine lv_iconst (v := I (-1)) hx hb dX3_statementOf_9 rfl ?_
    refine lv_aload_n hx hb dX3_statementOf_10 rfl (lv_at hl 0 rfl) ?_
    refine gfX3_meaning hx hb hts hK hP hown (hts _ tw_40) dX3_statementOf_11 ?_
    refine lv_iload_n hx hb dX3_statementOf_14 rfl (lv_at hl 1 rfl) ?_
    obtain ⟨c2, hw⟩ := hw
    refine ldCX3_meaning hx hb hK hP hN c2 dX3_statementOf_15 (fun x3 r_x3 e_x3 => ?_)
    replace hw := hw x3 r_x3 e_x3
    refine bi_mmax hx hb (by rw [hml]; exact hl.1.symm) hown (hts _ tw_1118) (hts _ tw_1119) (hts _ tw_16) (hts _ tw_1120) (Nat.le_of_ble_eq_true rfl) (Nat.le_of_ble_eq_true rfl) (Nat.le_of_ble_eq_true rfl) (Nat.le_of_ble_eq_true rfl) (by decide) r_x3 dX3_statementOf_16 (fun x4 r_x4 p_x4 m_x4 o_x4 => ?_)
    replace hw := hw x4 r_x4 p_x4 m_x4 o_x4
    exact xri hx hb hr hlk hP hK hD hS ⟨_, r_x4, rfl, rfl, hw⟩ (Nat.le_of_ble_eq_true rfl) (Nat.le_of_ble_eq_true rfl) dX3_statementOf_19
  ·
    replace hw := hw.2 c1
    refine lv_iconst (v := I (-1)) hx hb dX3_statementOf_5 rfl ?_
    refine lv_goto (tgt := 19) hx hb dX3_statementOf_6 (by decide) ?_
    exact xri hx hb hr hlk hP hK hD hS ⟨_, (by decide), rfl, rfl, hw⟩ (Nat.le_of_ble_eq_true rfl) (Nat.le_of_ble_eq_true rfl) dX3_statementOf_19
def W_X3_symbolOf (n1 : Int) (σ : S0) (Q : Int → Prop) : Prop :=
  (¬ n1 = (-1) → (0 ≤ n1 ∧ n1 < 2500) ∧ (∀ (x3 : Int), rg x3 → x3 = σ.2.1 4 n1 → (∀ (x4 : Int), rg x4 → (-1) ≤ x4 → (-1 - x3) ≤ x4 → (x4 = (-1) ∨ x4 = (-1 - x3)) → (Q x4)))) ∧ (n1 = (-1) → Q (-1))
set_option maxRecDepth 100000 in
set_option maxHeartbeats 4000000 in
theorem L_X3_symbolOf (l : Launch) (g : gG) (q : Nat → Nat) (lb : Nat) (hlb : lb < 2 ^ 31) {n1 : Int} {σ : S0} {Q : Int → Prop} (r_n1 : rg n1) (hN : n_m σ) (hw : W_X3_symbolOf n1 σ Q) (sz : Nat) : MetI l yX3_symbolOf cX3_symbolOf 2 (some .int) { frames := 1, cells := 0, slots := 0, locals := 15 } g [.ref (q 1), .int (I n1)] (CX g q lb σ) sz xT (p_i (CX g q lb) σ Q) 0 0 := by
  refine mkMet (Qc := fun A => QI g A (p_i (CX g q lb) σ Q)) (by decide) (Nat.le_of_ble_eq_true rfl) ?_
  intro p e s m below meth c A H ls hx hb hr hml hown hts hlk hnm hsz hP hK hNb hD hA hAe hS hX hl
  have hl : lv_has ls 2 [(0, .ref (q 1)), (1, .int (I n1))] := hl
  have hB := hN
  obtain ⟨locs, hlocs⟩ : ∃ z : List Loc, z = [] := ⟨_, rfl⟩
  rw [← hlocs] at hS ⊢
  refine lv_iload_n hx hb dX3_symbolOf_0 rfl (lv_at hl 1 rfl) ?_
  refine lv_iconst (v := I (-1)) hx hb dX3_symbolOf_1 rfl ?_
  refine bi_icmp_ne (tgt := 9) hx hb r_n1 (by decide) dX3_symbolOf_2 (by decide) (fun c1 => ?_) (fun c1 => ?_)
  ·
    replace hw := hw.1 c1
    refine lv_iconst (v := I (-1)) hx hb dX3_symbolOf_9 rfl ?_
    refine lv_aload_n hx hb dX3_symbolOf_10 rfl (lv_at hl 0 rfl) ?_
    refine gfX3_meaning hx hb hts hK hP hown (hts _ tw_40) dX3_symbolOf_11 ?_
    refine lv_iload_n hx hb dX3_symbolOf_14 rfl (lv_at hl 1 rfl) ?_
    obtain ⟨c2, hw⟩ := hw
    refine ldCX3_meaning hx hb hK hP hN c2 dX3_symbolOf_15 (fun x3 r_x3 e_x3 => ?_)
    replace hw := hw x3 r_x3 e_x3
    refine lv_iconst (v := I (-1)) hx hb dX3_symbolOf_16 rfl ?_
    refine bi_inot hx hb dX3_symbolOf_17 ?_
    refine bi_mmax hx hb (by rw [hml]; exact hl.1.symm) hown (hts _ tw_1118) (hts _ tw_1119) (hts _ tw_16) (hts _ tw_1120) (Nat.le_of_ble_eq_true rfl) (Nat.le_of_ble_eq_true rfl) (Nat.le_of_ble_eq_true rfl) (Nat.le_of_ble_eq_true rfl) (by decide) (⟨by have := (r_x3 : rg x3).2; omega, by have := (r_x3 : rg x3).1; omega⟩ : rg (-1 - x3)) dX3_symbolOf_18 (fun x4 r_x4 p_x4 m_x4 o_x4 => ?_)
    replace hw := hw x4 r_x4 p_x4 m_x4 o_x4
    exact xri hx hb hr hlk hP hK hD hS ⟨_, r_x4, rfl, rfl, hw⟩ (Nat.le_of_ble_eq_true rfl) (Nat.le_of_ble_eq_true rfl) dX3_symbolOf_21
  ·
    replace hw := hw.2 c1
    refine lv_iconst (v := I (-1)) hx hb dX3_symbolOf_5 rfl ?_
    refine lv_goto (tgt := 21) hx hb dX3_symbolOf_6 (by decide) ?_
    exact xri hx hb hr hlk hP hK hD hS ⟨_, (by decide), rfl, rfl, hw⟩ (Nat.le_of_ble_eq_true rfl) (Nat.le_of_ble_eq_true rfl) dX3_symbolOf_21
def W_X3_hasRoomForName (n1 : Int) (σ : S0) (Q : Int → Prop) : Prop :=
  (60 < n1 → Q 0) ∧ (n1 ≤ 60 → (0 ≤ σ.1 3 ∧ σ.1 3 < 2501) ∧ (∀ (x3 : Int), rg x3 → x3 = σ.2.1 3 (σ.1 3) → (rg (x3 + n1) ∧ (30000 < (x3 + n1) → Q 0) ∧ ((x3 + n1) ≤ 30000 → (2500 ≤ σ.1 3 → Q 0) ∧ (σ.1 3 < 2500 → Q 1)))))
set_option maxRecDepth 100000 in
set_option maxHeartbeats 4000000 in
theorem L_X3_hasRoomForName (l : Launch) (g : gG) (q : Nat → Nat) (lb : Nat) (hlb : lb < 2 ^ 31) {n1 : Int} {σ : S0} {Q : Int → Prop} (r_n1 : rg n1) (hN : n_m σ) (hw : W_X3_hasRoomForName n1 σ Q) (sz : Nat) : MetI l yX3_hasRoomForName cX3_hasRoomForName 2 (some .boolean) { frames := 0, cells := 0, slots := 0, locals := 0 } g [.ref (q 1), .int (I n1)] (CX g q lb σ) sz xT (p_i (CX g q lb) σ Q) 0 0 := by
  refine mkMet (Qc := fun A => QI g A (p_i (CX g q lb) σ Q)) (by decide) (Nat.le_of_ble_eq_true rfl) ?_
  intro p e s m below meth c A H ls hx hb hr hml hown hts hlk hnm hsz hP hK hNb hD hA hAe hS hX hl
  have hl : lv_has ls 2 [(0, .ref (q 1)), (1, .int (I n1))] := hl
  have hB := hN
  obtain ⟨locs, hlocs⟩ : ∃ z : List Loc, z = [] := ⟨_, rfl⟩
  rw [← hlocs] at hS ⊢
  refine lv_iload_n hx hb dX3_hasRoomForName_0 rfl (lv_at hl 1 rfl) ?_
  refine lv_bipush (v := I 60) hx hb dX3_hasRoomForName_1 (by decide) ?_
  refine bi_icmp_gt (tgt := 37) hx hb r_n1 (by decide) dX3_hasRoomForName_3 (by decide) (fun c1 => ?_) (fun c1 => ?_)
  ·
    replace hw := hw.1 c1
    refine lv_iconst (v := I 0) hx hb dX3_hasRoomForName_37 rfl ?_
    exact xrz hx hb hr (by decide) hlk hP hK hD hS ⟨_, (by decide), rfl, rfl, hw⟩ (Nat.le_of_ble_eq_true rfl) (Nat.le_of_ble_eq_true rfl) dX3_hasRoomForName_38
  ·
    replace hw := hw.2 c1
    refine lv_aload_n hx hb dX3_hasRoomForName_6 rfl (lv_at hl 0 rfl) ?_
    refine gfX3_nameAt hx hb hts hK hP hown (hts _ tw_38) dX3_hasRoomForName_7 ?_
    refine lv_aload_n hx hb dX3_hasRoomForName_10 rfl (lv_at hl 0 rfl) ?_
    refine gfX3_names hx hb hts hK hP hown (hts _ tw_43) (x := σ.1 3) rfl dX3_hasRoomForName_11 ?_
    obtain ⟨c2, hw⟩ := hw
    refine ldCX3_nameAt hx hb hK hP hN c2 dX3_hasRoomForName_14 (fun x3 r_x3 e_x3 => ?_)
    replace hw := hw x3 r_x3 e_x3
    refine lv_iload_n hx hb dX3_hasRoomForName_15 rfl (lv_at hl 1 rfl) ?_
    refine bi_iadd hx hb dX3_hasRoomForName_16 ?_
    refine lv_sipush (v := I 30000) hx hb dX3_hasRoomForName_17 (by decide) ?_
    obtain ⟨c4, hw⟩ := hw
    refine bi_icmp_gt (tgt := 37) hx hb c4 (by decide) dX3_hasRoomForName_20 (by decide) (fun c5 => ?_) (fun c5 => ?_)
    ·
      replace hw := hw.1 c5
      refine lv_iconst (v := I 0) hx hb dX3_hasRoomForName_37 rfl ?_
      exact xrz hx hb hr (by decide) hlk hP hK hD hS ⟨_, (by decide), rfl, rfl, hw⟩ (Nat.le_of_ble_eq_true rfl) (Nat.le_of_ble_eq_true rfl) dX3_hasRoomForName_38
    ·
      replace hw := hw.2 c5
      refine lv_aload_n hx hb dX3_hasRoomForName_23 rfl (lv_at hl 0 rfl) ?_
      refine gfX3_names hx hb hts hK hP hown (hts _ tw_43) (x := σ.1 3) rfl dX3_hasRoomForName_24 ?_
      refine lv_sipush (v := I 2500) hx hb dX3_hasRoomForName_27 (by decide) ?_
      refine bi_icmp_ge (tgt := 37) hx hb (rg_ix c2.1 c2.2 (by decide)) (by decide) dX3_hasRoomForName_30 (by decide) (fun c6 => ?_) (fun c6 => ?_)
      ·
        replace hw := hw.1 c6
        refine lv_iconst (v := I 0) hx hb dX3_hasRoomForName_37 rfl ?_
        exact xrz hx hb hr (by decide) hlk hP hK hD hS ⟨_, (by decide), rfl, rfl, hw⟩ (Nat.le_of_ble_eq_true rfl) (Nat.le_of_ble_eq_true rfl) dX3_hasRoomForName_38
      ·
        replace hw := hw.2 c6
        refine lv_iconst (v := I 1) hx hb dX3_hasRoomForName_33 rfl ?_
        refine lv_goto (tgt := 38) hx hb dX3_hasRoomForName_34 (by decide) ?_
        exact xrz hx hb hr (by decide) hlk hP hK hD hS ⟨_, (by decide), rfl, rfl, hw⟩ (Nat.le_of_ble_eq_true rfl) (Nat.le_of_ble_eq_true rfl) dX3_hasRoomForName_38
def W_X3_append (n1 : Int) (n2 : Int) (σ : S0) (Q : S0 → Prop) : Prop :=
  (0 ≤ σ.1 6 ∧ σ.1 6 < 30000) ∧ (rg (σ.1 6 + 1) ∧ (0 ≤ (σ.1 7 + 1) ∧ (σ.1 7 + 1) < 1501) ∧ (Q (s_a (s_v (s_a (s_a σ 15 (σ.1 6) n1) 16 (σ.1 6) n2) 6 (σ.1 6 + 1)) 14 (σ.1 7 + 1) (σ.1 6 + 1))))
set_option maxRecDepth 100000 in
set_option maxHeartbeats 4000000 in
theorem L_X3_append (l : Launch) (g : gG) (q : Nat → Nat) (lb : Nat) (hlb : lb < 2 ^ 31) {n1 : Int} {n2 : Int} {σ : S0} {Q : S0 → Prop} (r_n1 : rg n1) (r_n2 : rg n2) (hN : n_m σ) (hw : W_X3_append n1 n2 σ Q) (sz : Nat) : MetV l yX3_append cX3_append 3 { frames := 0, cells := 0, slots := 0, locals := 0 } g [.ref (q 1), .int (I n1), .int (I n2)] (CX g q lb σ) sz xT (p_V (CX g q lb) [6] [14, 15, 16] [] σ Q) 0 0 := by
  refine mkMet (Qc := fun A => QV g A (p_V (CX g q lb) [6] [14, 15, 16] [] σ Q)) (by decide) (Nat.le_of_ble_eq_true rfl) ?_
  intro p e s m below meth c A H ls hx hb hr hml hown hts hlk hnm hsz hP hK hNb hD hA hAe hS hX hl
  have hl : lv_has ls 3 [(0, .ref (q 1)), (1, .int (I n1)), (2, .int (I n2))] := hl
  have hB := hN
  have hF : f_r [6] [14, 15, 16] [] σ σ := f_0
  obtain ⟨locs, hlocs⟩ : ∃ z : List Loc, z = [] := ⟨_, rfl⟩
  rw [← hlocs] at hS ⊢
  refine lv_aload_n hx hb dX3_append_0 rfl (lv_at hl 0 rfl) ?_
  refine gfX3_text hx hb hts hK hP hown (hts _ tw_85) dX3_append_1 ?_
  refine lv_aload_n hx hb dX3_append_4 rfl (lv_at hl 0 rfl) ?_
  refine gfX3_used hx hb hts hK hP hown (hts _ tw_101) (x := σ.1 6) rfl dX3_append_5 ?_
  refine lv_iload_n hx hb dX3_append_8 rfl (lv_at hl 1 rfl) ?_
  obtain ⟨c1, hw⟩ := hw
  refine sdCX3_text hx hb hK hP hD hS c1 dX3_append_9 (fun H locs hP hD hS => ?_)
  have hN : n_m (s_a σ 15 (σ.1 6) n1) := n_a (k := 15) (j := σ.1 6) hN (r_n1 : rg n1)
  have hF : f_r [6] [14, 15, 16] [] σ (s_a σ 15 (σ.1 6) n1) := f_a hF (by decide)
  refine lv_aload_n hx hb dX3_append_10 rfl (lv_at hl 0 rfl) ?_
  refine gfX3_floats hx hb hts hK hP hown (hts _ tw_93) dX3_append_11 ?_
  refine lv_aload_n hx hb dX3_append_14 rfl (lv_at hl 0 rfl) ?_
  refine gfX3_used hx hb hts hK hP hown (hts _ tw_101) (x := σ.1 6) rfl dX3_append_15 ?_
  refine lv_iload_n hx hb dX3_append_18 rfl (lv_at hl 2 rfl) ?_
  refine sdCX3_floats hx hb hK hP hD hS c1 dX3_append_19 (fun H locs hP hD hS => ?_)
  have hN : n_m (s_a (s_a σ 15 (σ.1 6) n1) 16 (σ.1 6) n2) := n_a (k := 16) (j := σ.1 6) hN (r_n2 : rg n2)
  have hF : f_r [6] [14, 15, 16] [] σ (s_a (s_a σ 15 (σ.1 6) n1) 16 (σ.1 6) n2) := f_a hF (by decide)
  refine lv_aload_n hx hb dX3_append_20 rfl (lv_at hl 0 rfl) ?_
  refine lv_dup hx hb dX3_append_21 rfl ?_
  refine gfX3_used hx hb hts hK hP hown (hts _ tw_101) (x := σ.1 6) rfl dX3_append_22 ?_
  refine lv_iconst (v := I 1) hx hb dX3_append_25 rfl ?_
  refine bi_iadd hx hb dX3_append_26 ?_
  obtain ⟨c2, hw⟩ := hw
  refine pfX3_used hx hb hts hK hP hD hS hown (hts _ tw_101) dX3_append_27 (fun H locs hP hD hS => ?_)
  have hN : n_m (s_v (s_a (s_a σ 15 (σ.1 6) n1) 16 (σ.1 6) n2) 6 (σ.1 6 + 1)) := n_v (i := 6) hN (c2 : rg (σ.1 6 + 1))
  have hF : f_r [6] [14, 15, 16] [] σ (s_v (s_a (s_a σ 15 (σ.1 6) n1) 16 (σ.1 6) n2) 6 (σ.1 6 + 1)) := f_v hF (by decide)
  refine lv_aload_n hx hb dX3_append_30 rfl (lv_at hl 0 rfl) ?_
  refine gfX3_at hx hb hts hK hP hown (hts _ tw_77) dX3_append_31 ?_
  refine lv_aload_n hx hb dX3_append_34 rfl (lv_at hl 0 rfl) ?_
  refine gfX3_statements hx hb hts hK hP hown (hts _ tw_106) (x := σ.1 7) rfl dX3_append_35 ?_
  refine lv_iconst (v := I 1) hx hb dX3_append_38 rfl ?_
  refine bi_iadd hx hb dX3_append_39 ?_
  refine lv_aload_n hx hb dX3_append_40 rfl (lv_at hl 0 rfl) ?_
  refine gfX3_used hx hb hts hK hP hown (hts _ tw_101) (x := (σ.1 6 + 1)) rfl dX3_append_41 ?_
  obtain ⟨c3, hw⟩ := hw
  refine sdCX3_at hx hb hK hP hD hS c3 dX3_append_44 (fun H locs hP hD hS => ?_)
  have hN : n_m (s_a (s_v (s_a (s_a σ 15 (σ.1 6) n1) 16 (σ.1 6) n2) 6 (σ.1 6 + 1)) 14 (σ.1 7 + 1) (σ.1 6 + 1)) := n_a (k := 14) (j := (σ.1 7 + 1)) hN (c2 : rg (σ.1 6 + 1))
  have hF : f_r [6] [14, 15, 16] [] σ (s_a (s_v (s_a (s_a σ 15 (σ.1 6) n1) 16 (σ.1 6) n2) 6 (σ.1 6 + 1)) 14 (σ.1 7 + 1) (σ.1 6 + 1)) := f_a hF (by decide)
  exact xrv hx hb hr hlk hP hK hD hS ⟨_, hN, hF, rfl, hw⟩ (Nat.le_of_ble_eq_true rfl) (Nat.le_of_ble_eq_true rfl) dX3_append_45
def W_X3_giveRank (n1 : Int) (σ : S0) (Q : S0 → Prop) : Prop :=
  (0 ≤ n1 ∧ n1 < 1000) ∧ (∀ (x2 : Int), rg x2 → x2 = σ.2.1 10 n1 → ((¬ x2 = (-1) → Q σ) ∧ (x2 = (-1) → (0 ≤ σ.1 4 ∧ σ.1 4 < 100) ∧ (rg (σ.1 4 + 1) ∧ Q (s_v (s_a (s_a σ 11 (σ.1 4) n1) 10 n1 (σ.1 4)) 4 (σ.1 4 + 1))))))
set_option maxRecDepth 100000 in
set_option maxHeartbeats 4000000 in
theorem L_X3_giveRank (l : Launch) (g : gG) (q : Nat → Nat) (lb : Nat) (hlb : lb < 2 ^ 31) {n1 : Int} {σ : S0} {Q : S0 → Prop} (r_n1 : rg n1) (hN : n_m σ) (hw : W_X3_giveRank n1 σ Q) (sz : Nat) : MetV l yX3_giveRank cX3_giveRank 2 { frames := 0, cells := 0, slots := 0, locals := 0 } g [.ref (q 1), .int (I n1)] (CX g q lb σ) sz xT (p_V (CX g q lb) [4] [10, 11] [] σ Q) 0 0 := by
  refine mkMet (Qc := fun A => QV g A (p_V (CX g q lb) [4] [10, 11] [] σ Q)) (by decide) (Nat.le_of_ble_eq_true rfl) ?_
  intro p e s m below meth c A H ls hx hb hr hml hown hts hlk hnm hsz hP hK hNb hD hA hAe hS hX hl
  have hl : lv_has ls 2 [(0, .ref (q 1)), (1, .int (I n1))] := hl
  have hB := hN
  have hF : f_r [4] [10, 11] [] σ σ := f_0
  obtain ⟨locs, hlocs⟩ : ∃ z : List Loc, z = [] := ⟨_, rfl⟩
  rw [← hlocs] at hS ⊢
  refine lv_aload_n hx hb dX3_giveRank_0 rfl (lv_at hl 0 rfl) ?_
  refine gfX3_rank hx hb hts hK hP hown (hts _ tw_55) dX3_giveRank_1 ?_
  refine lv_iload_n hx hb dX3_giveRank_4 rfl (lv_at hl 1 rfl) ?_
  obtain ⟨c1, hw⟩ := hw
  refine ldCX3_rank hx hb hK hP hN c1 dX3_giveRank_5 (fun x2 r_x2 e_x2 => ?_)
  replace hw := hw x2 r_x2 e_x2
  refine lv_iconst (v := I (-1)) hx hb dX3_giveRank_6 rfl ?_
  refine bi_icmp_ne (tgt := 40) hx hb r_x2 (by decide) dX3_giveRank_7 (by decide) (fun c3 => ?_) (fun c3 => ?_)
  ·
    replace hw := hw.1 c3
    exact xrv hx hb hr hlk hP hK hD hS ⟨_, hN, hF, rfl, hw⟩ (Nat.le_of_ble_eq_true rfl) (Nat.le_of_ble_eq_true rfl) dX3_giveRank_40
  ·
    replace hw := hw.2 c3
    refine lv_aload_n hx hb dX3_giveRank_10 rfl (lv_at hl 0 rfl) ?_
    refine gfX3_ranked hx hb hts hK hP hown (hts _ tw_59) dX3_giveRank_11 ?_
    refine lv_aload_n hx hb dX3_giveRank_14 rfl (lv_at hl 0 rfl) ?_
    refine gfX3_ranks hx hb hts hK hP hown (hts _ tw_61) (x := σ.1 4) rfl dX3_giveRank_15 ?_
    refine lv_iload_n hx hb dX3_giveRank_18 rfl (lv_at hl 1 rfl) ?_
    obtain ⟨c4, hw⟩ := hw
    refine sdCX3_ranked hx hb hK hP hD hS c4 dX3_giveRank_19 (fun H locs hP hD hS => ?_)
    have hN : n_m (s_a σ 11 (σ.1 4) n1) := n_a (k := 11) (j := σ.1 4) hN (r_n1 : rg n1)
    have hF : f_r [4] [10, 11] [] σ (s_a σ 11 (σ.1 4) n1) := f_a hF (by decide)
    refine lv_aload_n hx hb dX3_giveRank_20 rfl (lv_at hl 0 rfl) ?_
    refine gfX3_rank hx hb hts hK hP hown (hts _ tw_55) dX3_giveRank_21 ?_
    refine lv_iload_n hx hb dX3_giveRank_24 rfl (lv_at hl 1 rfl) ?_
    refine lv_aload_n hx hb dX3_giveRank_25 rfl (lv_at hl 0 rfl) ?_
    refine gfX3_ranks hx hb hts hK hP hown (hts _ tw_61) (x := σ.1 4) rfl dX3_giveRank_26 ?_
    refine sdCX3_rank hx hb hK hP hD hS c1 dX3_giveRank_29 (fun H locs hP hD hS => ?_)
    have hN : n_m (s_a (s_a σ 11 (σ.1 4) n1) 10 n1 (σ.1 4)) := n_a (k := 10) (j := n1) hN ((rg_ix c4.1 c4.2 (by decide)) : rg (σ.1 4))
    have hF : f_r [4] [10, 11] [] σ (s_a (s_a σ 11 (σ.1 4) n1) 10 n1 (σ.1 4)) := f_a hF (by decide)
    refine lv_aload_n hx hb dX3_giveRank_30 rfl (lv_at hl 0 rfl) ?_
    refine lv_dup hx hb dX3_giveRank_31 rfl ?_
    refine gfX3_ranks hx hb hts hK hP hown (hts _ tw_61) (x := σ.1 4) rfl dX3_giveRank_32 ?_
    refine lv_iconst (v := I 1) hx hb dX3_giveRank_35 rfl ?_
    refine bi_iadd hx hb dX3_giveRank_36 ?_
    obtain ⟨c5, hw⟩ := hw
    refine pfX3_ranks hx hb hts hK hP hD hS hown (hts _ tw_61) dX3_giveRank_37 (fun H locs hP hD hS => ?_)
    have hN : n_m (s_v (s_a (s_a σ 11 (σ.1 4) n1) 10 n1 (σ.1 4)) 4 (σ.1 4 + 1)) := n_v (i := 4) hN (c5 : rg (σ.1 4 + 1))
    have hF : f_r [4] [10, 11] [] σ (s_v (s_a (s_a σ 11 (σ.1 4) n1) 10 n1 (σ.1 4)) 4 (σ.1 4 + 1)) := f_v hF (by decide)
    exact xrv hx hb hr hlk hP hK hD hS ⟨_, hN, hF, rfl, hw⟩ (Nat.le_of_ble_eq_true rfl) (Nat.le_of_ble_eq_true rfl) dX3_giveRank_40
def W_X3_add (n1 : Int) (σ : S0) (Q : S0 → Prop) : Prop :=
  ∀ (P48 : S0 → Prop),
  (∀ (τ : S0), (rg (τ.1 7 + 1) ∧ Q (s_v τ 7 (τ.1 7 + 1))) → P48 τ) →
  (0 ≤ σ.1 7 ∧ σ.1 7 < 1500) ∧ ((¬ n1 = 0 → P48 (s_a σ 13 (σ.1 7) n1)) ∧ (n1 = 0 → ∃ (Q3 : Int → Prop), W_X3_variableOf (σ.1 7) (s_a σ 13 (σ.1 7) n1) Q3 ∧ ∀ (x4 : Int), rg x4 → Q3 x4 → ((0 ≤ x4 ∧ x4 < 1000) ∧ (∀ (x7 : Int), rg x7 → x7 = σ.2.1 9 x4 → ((¬ x7 = (-1) → P48 (s_a σ 13 (σ.1 7) n1)) ∧ (x7 = (-1) → ∃ (Q9 : Int → Prop), W_X3_variableOf (σ.1 7) (s_a σ 13 (σ.1 7) n1) Q9 ∧ ∀ (x10 : Int), rg x10 → Q9 x10 → ((0 ≤ x10 ∧ x10 < 1000) ∧ (P48 (s_a (s_a σ 13 (σ.1 7) n1) 9 x10 (σ.1 7))))))))))
set_option maxRecDepth 100000 in
set_option maxHeartbeats 4000000 in
theorem L_X3_add (l : Launch) (g : gG) (q : Nat → Nat) (lb : Nat) (hlb : lb < 2 ^ 31) {n1 : Int} {σ : S0} {Q : S0 → Prop} (r_n1 : rg n1) (hN : n_m σ) (hw : W_X3_add n1 σ Q) (sz : Nat) : MetV l yX3_add cX3_add 2 { frames := 1, cells := 0, slots := 0, locals := 21 } g [.ref (q 1), .int (I n1)] (CX g q lb σ) sz xT (p_V (CX g q lb) [7] [9, 13] [] σ Q) 0 0 := by
  refine mkMet (Qc := fun A => QV g A (p_V (CX g q lb) [7] [9, 13] [] σ Q)) (by decide) (Nat.le_of_ble_eq_true rfl) ?_
  intro p e s m below meth c A H ls hx hb hr hml hown hts hlk hnm hsz hP hK hNb hD hA hAe hS hX hl
  have hl : lv_has ls 2 [(0, .ref (q 1)), (1, .int (I n1))] := hl
  have hB := hN
  have hF : f_r [7] [9, 13] [] σ σ := f_0
  obtain ⟨locs, hlocs⟩ : ∃ z : List Loc, z = [] := ⟨_, rfl⟩
  rw [← hlocs] at hS ⊢
  obtain ⟨P48, hP48⟩ : ∃ P : S0 → Prop, ∀ (τ : S0), (P τ ↔ (n_m τ → f_r [7] [9, 13] [] σ τ → ∀ (H : Heap) (locs : List Loc) (ls : Array Slot), KP g (CX g q lb τ) H → va_D A (CX g q lb τ) → va_S A s.heap H locs → lv_has ls 2 [(0, .ref (q 1))] → W p l e ({ frames := 1, cells := 0, slots := 0, locals := 21 }) s m [.ref (q 1), .int (I n1)].toArray below meth c H locs 0 0 (MQ below (QV g A (p_V (CX g q lb) [7] [9, 13] [] σ Q)) [.ref (q 1), .int (I n1)].toArray s 0 0 A) (F0 m 48 ls []))) := ⟨_, fun _ => Iff.rfl⟩
  refine (fun hw => ?_) (hw P48 ?_)
  ·
    refine lv_aload_n hx hb dX3_add_0 rfl (lv_at hl 0 rfl) ?_
    refine gfX3_kind hx hb hts hK hP hown (hts _ tw_68) dX3_add_1 ?_
    refine lv_aload_n hx hb dX3_add_4 rfl (lv_at hl 0 rfl) ?_
    refine gfX3_statements hx hb hts hK hP hown (hts _ tw_106) (x := σ.1 7) rfl dX3_add_5 ?_
    refine lv_iload_n hx hb dX3_add_8 rfl (lv_at hl 1 rfl) ?_
    obtain ⟨c1, hw⟩ := hw
    refine sdCX3_kind hx hb hK hP hD hS c1 dX3_add_9 (fun H locs hP hD hS => ?_)
    have hN : n_m (s_a σ 13 (σ.1 7) n1) := n_a (k := 13) (j := σ.1 7) hN (r_n1 : rg n1)
    have hF : f_r [7] [9, 13] [] σ (s_a σ 13 (σ.1 7) n1) := f_a hF (by decide)
    refine lv_iload_n hx hb dX3_add_10 rfl (lv_at hl 1 rfl) ?_
    refine bi_if_ne (tgt := 48) hx hb r_n1 dX3_add_11 (by decide) (fun c2 => ?_) (fun c2 => ?_)
    ·
      replace hw := hw.1 c2
      exact (hP48 _).mp hw hN hF H locs ls hP hD hS (lv_sub hl [0] rfl)
    ·
      replace hw := hw.2 c2
      refine lv_aload_n hx hb dX3_add_14 rfl (lv_at hl 0 rfl) ?_
      refine gfX3_firstFloat hx hb hts hK hP hown (hts _ tw_52) dX3_add_15 ?_
      refine lv_aload_n hx hb dX3_add_18 rfl (lv_at hl 0 rfl) ?_
      refine lv_aload_n hx hb dX3_add_19 rfl (lv_at hl 0 rfl) ?_
      refine gfX3_statements hx hb hts hK hP hown (hts _ tw_106) (x := σ.1 7) rfl dX3_add_20 ?_
      obtain ⟨Q3, hc, hw⟩ := hw
      refine wc_i (X := CX g q lb) (va_runV (As := [.int (I (σ.1 7))]) (rest := [.ref (q 22)]) ⟨hx, hb, hml, hown, hts⟩ (L_X3_variableOf l g q lb hlb (rg_ix c1.1 c1.2 (by decide)) hN hc H.size) (cwV 1 hts (TB_V tw_1037 tw_1022 tw_1023 tw_2 co_X3_variableOf) rfl rfl rfl (by decide +kernel) ⟨Nat.le_of_ble_eq_true rfl, Nat.le_of_ble_eq_true rfl⟩) (preV (q0 := 1) (ci := 3) rfl xT_bl hP hK hNb hD rfl rfl xT_at) rfl rfl hl.1 rfl (lv_room (Nat.le_of_ble_eq_true rfl)) dX3_add_23 ⟨Nat.le_of_ble_eq_true rfl, Nat.le_of_ble_eq_true rfl⟩) hP hD hS hA (fun x4 H locs r_x4 hq hP hD hS => ?_)
      replace hw := hw x4 r_x4 hq
      obtain ⟨c6, hw⟩ := hw
      refine ldCX3_firstFloat hx hb hK hP hN c6 dX3_add_26 (fun x7 r_x7 e_x7 => ?_)
      replace hw := hw x7 r_x7 e_x7
      refine lv_iconst (v := I (-1)) hx hb dX3_add_27 rfl ?_
      refine bi_icmp_ne (tgt := 48) hx hb r_x7 (by decide) dX3_add_28 (by decide) (fun c8 => ?_) (fun c8 => ?_)
      ·
        replace hw := hw.1 c8
        exact (hP48 _).mp hw hN hF H locs ls hP hD hS (lv_sub hl [0] rfl)
      ·
        replace hw := hw.2 c8
        refine lv_aload_n hx hb dX3_add_31 rfl (lv_at hl 0 rfl) ?_
        refine gfX3_firstFloat hx hb hts hK hP hown (hts _ tw_52) dX3_add_32 ?_
        refine lv_aload_n hx hb dX3_add_35 rfl (lv_at hl 0 rfl) ?_
        refine lv_aload_n hx hb dX3_add_36 rfl (lv_at hl 0 rfl) ?_
        refine gfX3_statements hx hb hts hK hP hown (hts _ tw_106) (x := σ.1 7) rfl dX3_add_37 ?_
        obtain ⟨Q9, hc, hw⟩ := hw
        refine wc_i (X := CX g q lb) (va_runV (As := [.int (I (σ.1 7))]) (rest := [.ref (q 22)]) ⟨hx, hb, hml, hown, hts⟩ (L_X3_variableOf l g q lb hlb (rg_ix c1.1 c1.2 (by decide)) hN hc H.size) (cwV 1 hts (TB_V tw_1037 tw_1022 tw_1023 tw_2 co_X3_variableOf) rfl rfl rfl (by decide +kernel) ⟨Nat.le_of_ble_eq_true rfl, Nat.le_of_ble_eq_true rfl⟩) (preV (q0 := 1) (ci := 3) rfl xT_bl hP hK hNb hD rfl rfl xT_at) rfl rfl hl.1 rfl (lv_room (Nat.le_of_ble_eq_true rfl)) dX3_add_40 ⟨Nat.le_of_ble_eq_true rfl, Nat.le_of_ble_eq_true rfl⟩) hP hD hS hA (fun x10 H locs r_x10 hq hP hD hS => ?_)
        replace hw := hw x10 r_x10 hq
        refine lv_aload_n hx hb dX3_add_43 rfl (lv_at hl 0 rfl) ?_
        refine gfX3_statements hx hb hts hK hP hown (hts _ tw_106) (x := σ.1 7) rfl dX3_add_44 ?_
        obtain ⟨c12, hw⟩ := hw
        refine sdCX3_firstFloat hx hb hK hP hD hS c12 dX3_add_47 (fun H locs hP hD hS => ?_)
        have hN : n_m (s_a (s_a σ 13 (σ.1 7) n1) 9 x10 (σ.1 7)) := n_a (k := 9) (j := x10) hN ((rg_ix c1.1 c1.2 (by decide)) : rg (σ.1 7))
        have hF : f_r [7] [9, 13] [] σ (s_a (s_a σ 13 (σ.1 7) n1) 9 x10 (σ.1 7)) := f_a hF (by decide)
        exact (hP48 _).mp hw hN hF H locs ls hP hD hS (lv_sub hl [0] rfl)
  ·
    intro τ hw
    refine (hP48 _).mpr ?_
    intro hN hF H locs ls hP hD hS hl
    have hB := hN
    refine lv_aload_n hx hb dX3_add_48 rfl (lv_at hl 0 rfl) ?_
    refine lv_dup hx hb dX3_add_49 rfl ?_
    refine gfX3_statements hx hb hts hK hP hown (hts _ tw_106) (x := τ.1 7) rfl dX3_add_50 ?_
    refine lv_iconst (v := I 1) hx hb dX3_add_53 rfl ?_
    refine bi_iadd hx hb dX3_add_54 ?_
    obtain ⟨c13, hw⟩ := hw
    refine pfX3_statements hx hb hts hK hP hD hS hown (hts _ tw_106) dX3_add_55 (fun H locs hP hD hS => ?_)
    have hN : n_m (s_v τ 7 (τ.1 7 + 1)) := n_v (i := 7) hN (c13 : rg (τ.1 7 + 1))
    have hF : f_r [7] [9, 13] [] σ (s_v τ 7 (τ.1 7 + 1)) := f_v hF (by decide)
    exact xrv hx hb hr hlk hP hK hD hS ⟨_, hN, hF, rfl, hw⟩ (Nat.le_of_ble_eq_true rfl) (Nat.le_of_ble_eq_true rfl) dX3_add_58
def W_X3_isStatement (n1 : Int) (σ : S0) (Q : Int → Prop) : Prop :=
  (n1 < 0 → Q 0) ∧ (0 ≤ n1 → (σ.1 7 ≤ n1 → Q 0) ∧ (n1 < σ.1 7 → Q 1))
set_option maxRecDepth 100000 in
set_option maxHeartbeats 4000000 in
theorem L_X3_isStatement (l : Launch) (g : gG) (q : Nat → Nat) (lb : Nat) (hlb : lb < 2 ^ 31) {n1 : Int} {σ : S0} {Q : Int → Prop} (r_n1 : rg n1) (hN : n_m σ) (hw : W_X3_isStatement n1 σ Q) (sz : Nat) : MetI l yX3_isStatement cX3_isStatement 2 (some .boolean) { frames := 0, cells := 0, slots := 0, locals := 0 } g [.ref (q 1), .int (I n1)] (CX g q lb σ) sz xT (p_i (CX g q lb) σ Q) 0 0 := by
  refine mkMet (Qc := fun A => QI g A (p_i (CX g q lb) σ Q)) (by decide) (Nat.le_of_ble_eq_true rfl) ?_
  intro p e s m below meth c A H ls hx hb hr hml hown hts hlk hnm hsz hP hK hNb hD hA hAe hS hX hl
  have hl : lv_has ls 2 [(0, .ref (q 1)), (1, .int (I n1))] := hl
  have hB := hN
  obtain ⟨locs, hlocs⟩ : ∃ z : List Loc, z = [] := ⟨_, rfl⟩
  rw [← hlocs] at hS ⊢
  refine lv_iload_n hx hb dX3_isStatement_0 rfl (lv_at hl 1 rfl) ?_
  refine bi_if_lt (tgt := 16) hx hb r_n1 dX3_isStatement_1 (by decide) (fun c1 => ?_) (fun c1 => ?_)
  ·
    replace hw := hw.1 c1
    refine lv_iconst (v := I 0) hx hb dX3_isStatement_16 rfl ?_
    exact xrz hx hb hr (by decide) hlk hP hK hD hS ⟨_, (by decide), rfl, rfl, hw⟩ (Nat.le_of_ble_eq_true rfl) (Nat.le_of_ble_eq_true rfl) dX3_isStatement_17
  ·
    replace hw := hw.2 c1
    refine lv_iload_n hx hb dX3_isStatement_4 rfl (lv_at hl 1 rfl) ?_
    refine lv_aload_n hx hb dX3_isStatement_5 rfl (lv_at hl 0 rfl) ?_
    refine gfX3_statements hx hb hts hK hP hown (hts _ tw_106) (x := σ.1 7) rfl dX3_isStatement_6 ?_
    refine bi_icmp_ge (tgt := 16) hx hb r_n1 (hB.1 7) dX3_isStatement_9 (by decide) (fun c2 => ?_) (fun c2 => ?_)
    ·
      replace hw := hw.1 c2
      refine lv_iconst (v := I 0) hx hb dX3_isStatement_16 rfl ?_
      exact xrz hx hb hr (by decide) hlk hP hK hD hS ⟨_, (by decide), rfl, rfl, hw⟩ (Nat.le_of_ble_eq_true rfl) (Nat.le_of_ble_eq_true rfl) dX3_isStatement_17
    ·
      replace hw := hw.2 c2
      refine lv_iconst (v := I 1) hx hb dX3_isStatement_12 rfl ?_
      refine lv_goto (tgt := 17) hx hb dX3_isStatement_13 (by decide) ?_
      exact xrz hx hb hr (by decide) hlk hP hK hD hS ⟨_, (by decide), rfl, rfl, hw⟩ (Nat.le_of_ble_eq_true rfl) (Nat.le_of_ble_eq_true rfl) dX3_isStatement_17
def W_X3_isAssertion (n1 : Int) (σ : S0) (Q : Int → Prop) : Prop :=
  ∃ (Q1 : Int → Prop), W_X3_isStatement n1 σ Q1 ∧ ∀ (x2 : Int), rg x2 → Q1 x2 → ((x2 = 0 → Q 0) ∧ (¬ x2 = 0 → (0 ≤ n1 ∧ n1 < 1500) ∧ (∀ (x6 : Int), rg x6 → x6 = σ.2.1 13 n1 → ((x6 < 2 → Q 0) ∧ (2 ≤ x6 → Q 1)))))
set_option maxRecDepth 100000 in
set_option maxHeartbeats 4000000 in
theorem L_X3_isAssertion (l : Launch) (g : gG) (q : Nat → Nat) (lb : Nat) (hlb : lb < 2 ^ 31) {n1 : Int} {σ : S0} {Q : Int → Prop} (r_n1 : rg n1) (hN : n_m σ) (hw : W_X3_isAssertion n1 σ Q) (sz : Nat) : MetI l yX3_isAssertion cX3_isAssertion 2 (some .boolean) { frames := 1, cells := 0, slots := 0, locals := 21 } g [.ref (q 1), .int (I n1)] (CX g q lb σ) sz xT (p_i (CX g q lb) σ Q) 0 0 := by
  refine mkMet (Qc := fun A => QI g A (p_i (CX g q lb) σ Q)) (by decide) (Nat.le_of_ble_eq_true rfl) ?_
  intro p e s m below meth c A H ls hx hb hr hml hown hts hlk hnm hsz hP hK hNb hD hA hAe hS hX hl
  have hl : lv_has ls 2 [(0, .ref (q 1)), (1, .int (I n1))] := hl
  have hB := hN
  obtain ⟨locs, hlocs⟩ : ∃ z : List Loc, z = [] := ⟨_, rfl⟩
  rw [← hlocs] at hS ⊢
  refine lv_aload_n hx hb dX3_isAssertion_0 rfl (lv_at hl 0 rfl) ?_
  refine lv_iload_n hx hb dX3_isAssertion_1 rfl (lv_at hl 1 rfl) ?_
  obtain ⟨Q1, hc, hw⟩ := hw
  refine wc_i (X := CX g q lb) (va_runV (As := [.int (I n1)]) (rest := []) ⟨hx, hb, hml, hown, hts⟩ (L_X3_isStatement l g q lb hlb r_n1 hN hc H.size) (cwV 1 hts (TB_V tw_1459 tw_1414 tw_1415 tw_2 co_X3_isStatement) rfl rfl rfl (by decide +kernel) ⟨Nat.le_of_ble_eq_true rfl, Nat.le_of_ble_eq_true rfl⟩) (preV (q0 := 1) (ci := 3) rfl xT_bl hP hK hNb hD rfl rfl xT_at) rfl rfl hl.1 rfl (lv_room (Nat.le_of_ble_eq_true rfl)) dX3_isAssertion_2 ⟨Nat.le_of_ble_eq_true rfl, Nat.le_of_ble_eq_true rfl⟩) hP hD hS hA (fun x2 H locs r_x2 hq hP hD hS => ?_)
  replace hw := hw x2 r_x2 hq
  refine bi_if_eq (tgt := 22) hx hb r_x2 dX3_isAssertion_5 (by decide) (fun c4 => ?_) (fun c4 => ?_)
  ·
    replace hw := hw.1 c4
    refine lv_iconst (v := I 0) hx hb dX3_isAssertion_22 rfl ?_
    exact xrz hx hb hr (by decide) hlk hP hK hD hS ⟨_, (by decide), rfl, rfl, hw⟩ (Nat.le_of_ble_eq_true rfl) (Nat.le_of_ble_eq_true rfl) dX3_isAssertion_23
  ·
    replace hw := hw.2 c4
    refine lv_aload_n hx hb dX3_isAssertion_8 rfl (lv_at hl 0 rfl) ?_
    refine gfX3_kind hx hb hts hK hP hown (hts _ tw_68) dX3_isAssertion_9 ?_
    refine lv_iload_n hx hb dX3_isAssertion_12 rfl (lv_at hl 1 rfl) ?_
    obtain ⟨c5, hw⟩ := hw
    refine ldCX3_kind hx hb hK hP hN c5 dX3_isAssertion_13 (fun x6 r_x6 e_x6 => ?_)
    replace hw := hw x6 r_x6 e_x6
    refine lv_iconst (v := I 2) hx hb dX3_isAssertion_14 rfl ?_
    refine bi_icmp_lt (tgt := 22) hx hb r_x6 (by decide) dX3_isAssertion_15 (by decide) (fun c7 => ?_) (fun c7 => ?_)
    ·
      replace hw := hw.1 c7
      refine lv_iconst (v := I 0) hx hb dX3_isAssertion_22 rfl ?_
      exact xrz hx hb hr (by decide) hlk hP hK hD hS ⟨_, (by decide), rfl, rfl, hw⟩ (Nat.le_of_ble_eq_true rfl) (Nat.le_of_ble_eq_true rfl) dX3_isAssertion_23
    ·
      replace hw := hw.2 c7
      refine lv_iconst (v := I 1) hx hb dX3_isAssertion_18 rfl ?_
      refine lv_goto (tgt := 23) hx hb dX3_isAssertion_19 (by decide) ?_
      exact xrz hx hb hr (by decide) hlk hP hK hD hS ⟨_, (by decide), rfl, rfl, hw⟩ (Nat.le_of_ble_eq_true rfl) (Nat.le_of_ble_eq_true rfl) dX3_isAssertion_23
def W_X3_isProved (n1 : Int) (σ : S0) (Q : Int → Prop) : Prop :=
  ∃ (Q1 : Int → Prop), W_X3_isStatement n1 σ Q1 ∧ ∀ (x2 : Int), rg x2 → Q1 x2 → ((x2 = 0 → Q 0) ∧ (¬ x2 = 0 → (0 ≤ n1 ∧ n1 < 1500) ∧ (∀ (x6 : Int), rg x6 → x6 = σ.2.1 13 n1 → ((¬ x6 = 3 → Q 0) ∧ (x6 = 3 → Q 1)))))
set_option maxRecDepth 100000 in
set_option maxHeartbeats 4000000 in
theorem L_X3_isProved (l : Launch) (g : gG) (q : Nat → Nat) (lb : Nat) (hlb : lb < 2 ^ 31) {n1 : Int} {σ : S0} {Q : Int → Prop} (r_n1 : rg n1) (hN : n_m σ) (hw : W_X3_isProved n1 σ Q) (sz : Nat) : MetI l yX3_isProved cX3_isProved 2 (some .boolean) { frames := 1, cells := 0, slots := 0, locals := 21 } g [.ref (q 1), .int (I n1)] (CX g q lb σ) sz xT (p_i (CX g q lb) σ Q) 0 0 := by
  refine mkMet (Qc := fun A => QI g A (p_i (CX g q lb) σ Q)) (by decide) (Nat.le_of_ble_eq_true rfl) ?_
  intro p e s m below meth c A H ls hx hb hr hml hown hts hlk hnm hsz hP hK hNb hD hA hAe hS hX hl
  have hl : lv_has ls 2 [(0, .ref (q 1)), (1, .int (I n1))] := hl
  have hB := hN
  obtain ⟨locs, hlocs⟩ : ∃ z : List Loc, z = [] := ⟨_, rfl⟩
  rw [← hlocs] at hS ⊢
  refine lv_aload_n hx hb dX3_isProved_0 rfl (lv_at hl 0 rfl) ?_
  refine lv_iload_n hx hb dX3_isProved_1 rfl (lv_at hl 1 rfl) ?_
  obtain ⟨Q1, hc, hw⟩ := hw
  refine wc_i (X := CX g q lb) (va_runV (As := [.int (I n1)]) (rest := []) ⟨hx, hb, hml, hown, hts⟩ (L_X3_isStatement l g q lb hlb r_n1 hN hc H.size) (cwV 1 hts (TB_V tw_1459 tw_1414 tw_1415 tw_2 co_X3_isStatement) rfl rfl rfl (by decide +kernel) ⟨Nat.le_of_ble_eq_true rfl, Nat.le_of_ble_eq_true rfl⟩) (preV (q0 := 1) (ci := 3) rfl xT_bl hP hK hNb hD rfl rfl xT_at) rfl rfl hl.1 rfl (lv_room (Nat.le_of_ble_eq_true rfl)) dX3_isProved_2 ⟨Nat.le_of_ble_eq_true rfl, Nat.le_of_ble_eq_true rfl⟩) hP hD hS hA (fun x2 H locs r_x2 hq hP hD hS => ?_)
  replace hw := hw x2 r_x2 hq
  refine bi_if_eq (tgt := 22) hx hb r_x2 dX3_isProved_5 (by decide) (fun c4 => ?_) (fun c4 => ?_)
  ·
    replace hw := hw.1 c4
    refine lv_iconst (v := I 0) hx hb dX3_isProved_22 rfl ?_
    exact xrz hx hb hr (by decide) hlk hP hK hD hS ⟨_, (by decide), rfl, rfl, hw⟩ (Nat.le_of_ble_eq_true rfl) (Nat.le_of_ble_eq_true rfl) dX3_isProved_23
  ·
    replace hw := hw.2 c4
    refine lv_aload_n hx hb dX3_isProved_8 rfl (lv_at hl 0 rfl) ?_
    refine gfX3_kind hx hb hts hK hP hown (hts _ tw_68) dX3_isProved_9 ?_
    refine lv_iload_n hx hb dX3_isProved_12 rfl (lv_at hl 1 rfl) ?_
    obtain ⟨c5, hw⟩ := hw
    refine ldCX3_kind hx hb hK hP hN c5 dX3_isProved_13 (fun x6 r_x6 e_x6 => ?_)
    replace hw := hw x6 r_x6 e_x6
    refine lv_iconst (v := I 3) hx hb dX3_isProved_14 rfl ?_
    refine bi_icmp_ne (tgt := 22) hx hb r_x6 (by decide) dX3_isProved_15 (by decide) (fun c7 => ?_) (fun c7 => ?_)
    ·
      replace hw := hw.1 c7
      refine lv_iconst (v := I 0) hx hb dX3_isProved_22 rfl ?_
      exact xrz hx hb hr (by decide) hlk hP hK hD hS ⟨_, (by decide), rfl, rfl, hw⟩ (Nat.le_of_ble_eq_true rfl) (Nat.le_of_ble_eq_true rfl) dX3_isProved_23
    ·
      replace hw := hw.2 c7
      refine lv_iconst (v := I 1) hx hb dX3_isProved_18 rfl ?_
      refine lv_goto (tgt := 23) hx hb dX3_isProved_19 (by decide) ?_
      exact xrz hx hb hr (by decide) hlk hP hK hD hS ⟨_, (by decide), rfl, rfl, hw⟩ (Nat.le_of_ble_eq_true rfl) (Nat.le_of_ble_eq_true rfl) dX3_isProved_23
def W_X3_isSymbol (n1 : Int) (σ : S0) (Q : Int → Prop) : Prop :=
  (n1 < 0 → Q 0) ∧ (0 ≤ n1 → (σ.1 5 ≤ n1 → Q 0) ∧ (n1 < σ.1 5 → Q 1))
set_option maxRecDepth 100000 in
set_option maxHeartbeats 4000000 in
theorem L_X3_isSymbol (l : Launch) (g : gG) (q : Nat → Nat) (lb : Nat) (hlb : lb < 2 ^ 31) {n1 : Int} {σ : S0} {Q : Int → Prop} (r_n1 : rg n1) (hN : n_m σ) (hw : W_X3_isSymbol n1 σ Q) (sz : Nat) : MetI l yX3_isSymbol cX3_isSymbol 2 (some .boolean) { frames := 0, cells := 0, slots := 0, locals := 0 } g [.ref (q 1), .int (I n1)] (CX g q lb σ) sz xT (p_i (CX g q lb) σ Q) 0 0 := by
  refine mkMet (Qc := fun A => QI g A (p_i (CX g q lb) σ Q)) (by decide) (Nat.le_of_ble_eq_true rfl) ?_
  intro p e s m below meth c A H ls hx hb hr hml hown hts hlk hnm hsz hP hK hNb hD hA hAe hS hX hl
  have hl : lv_has ls 2 [(0, .ref (q 1)), (1, .int (I n1))] := hl
  have hB := hN
  obtain ⟨locs, hlocs⟩ : ∃ z : List Loc, z = [] := ⟨_, rfl⟩
  rw [← hlocs] at hS ⊢
  refine lv_iload_n hx hb dX3_isSymbol_0 rfl (lv_at hl 1 rfl) ?_
  refine bi_if_lt (tgt := 16) hx hb r_n1 dX3_isSymbol_1 (by decide) (fun c1 => ?_) (fun c1 => ?_)
  ·
    replace hw := hw.1 c1
    refine lv_iconst (v := I 0) hx hb dX3_isSymbol_16 rfl ?_
    exact xrz hx hb hr (by decide) hlk hP hK hD hS ⟨_, (by decide), rfl, rfl, hw⟩ (Nat.le_of_ble_eq_true rfl) (Nat.le_of_ble_eq_true rfl) dX3_isSymbol_17
  ·
    replace hw := hw.2 c1
    refine lv_iload_n hx hb dX3_isSymbol_4 rfl (lv_at hl 1 rfl) ?_
    refine lv_aload_n hx hb dX3_isSymbol_5 rfl (lv_at hl 0 rfl) ?_
    refine gfX3_symbols hx hb hts hK hP hown (hts _ tw_64) (x := σ.1 5) rfl dX3_isSymbol_6 ?_
    refine bi_icmp_ge (tgt := 16) hx hb r_n1 (hB.1 5) dX3_isSymbol_9 (by decide) (fun c2 => ?_) (fun c2 => ?_)
    ·
      replace hw := hw.1 c2
      refine lv_iconst (v := I 0) hx hb dX3_isSymbol_16 rfl ?_
      exact xrz hx hb hr (by decide) hlk hP hK hD hS ⟨_, (by decide), rfl, rfl, hw⟩ (Nat.le_of_ble_eq_true rfl) (Nat.le_of_ble_eq_true rfl) dX3_isSymbol_17
    ·
      replace hw := hw.2 c2
      refine lv_iconst (v := I 1) hx hb dX3_isSymbol_12 rfl ?_
      refine lv_goto (tgt := 17) hx hb dX3_isSymbol_13 (by decide) ?_
      exact xrz hx hb hr (by decide) hlk hP hK hD hS ⟨_, (by decide), rfl, rfl, hw⟩ (Nat.le_of_ble_eq_true rfl) (Nat.le_of_ble_eq_true rfl) dX3_isSymbol_17
def W_X3_constants (σ : S0) (Q : Int → Prop) : Prop :=
  ∀ (P4 : Int → Int → Prop),
  (∀ (u1 : Int) (u2 : Int), ((σ.1 5 ≤ u2 → Q u1) ∧ (u2 < σ.1 5 → (0 ≤ u2 ∧ u2 < 1000) ∧ (∀ (x3 : Int), rg x3 → x3 = σ.2.1 8 u2 → ((x3 = 0 → rg (u1 + 1) ∧ rg (u2 + 1) ∧ P4 (u1 + 1) (u2 + 1)) ∧ (¬ x3 = 0 → rg (u1 + 0) ∧ rg (u2 + 1) ∧ P4 (u1 + 0) (u2 + 1)))))) → P4 u1 u2) →
  P4 0 0
set_option maxRecDepth 100000 in
set_option maxHeartbeats 4000000 in
theorem L_X3_constants (l : Launch) (g : gG) (q : Nat → Nat) (lb : Nat) (hlb : lb < 2 ^ 31) {σ : S0} {Q : Int → Prop} (hN : n_m σ) (hw : W_X3_constants σ Q) (sz : Nat) : MetI l yX3_constants cX3_constants 3 (some .int) { frames := 0, cells := 0, slots := 0, locals := 0 } g [.ref (q 1)] (CX g q lb σ) sz xT (p_i (CX g q lb) σ Q) 0 0 := by
  refine mkMet (Qc := fun A => QI g A (p_i (CX g q lb) σ Q)) (by decide) (Nat.le_of_ble_eq_true rfl) ?_
  intro p e s m below meth c A H ls hx hb hr hml hown hts hlk hnm hsz hP hK hNb hD hA hAe hS hX hl
  have hl : lv_has ls 3 [(0, .ref (q 1))] := hl
  have hB := hN
  obtain ⟨locs, hlocs⟩ : ∃ z : List Loc, z = [] := ⟨_, rfl⟩
  rw [← hlocs] at hS ⊢
  obtain ⟨P4, hP4⟩ : ∃ P : Int → Int → Prop, ∀ (u1 : Int) (u2 : Int), (P u1 u2 ↔ (rg u1 → rg u2 → ∀ (H : Heap) (locs : List Loc) (ls : Array Slot), KP g (CX g q lb σ) H → va_D A (CX g q lb σ) → va_S A s.heap H locs → lv_has ls 3 [(0, .ref (q 1)), (1, .int (I u1)), (2, .int (I u2))] → W p l e ({ frames := 0, cells := 0, slots := 0, locals := 0 }) s m [.ref (q 1)].toArray below meth c H locs 0 0 (MQ below (QI g A (p_i (CX g q lb) σ Q)) [.ref (q 1)].toArray s 0 0 A) (F0 m 4 ls []))) := ⟨_, fun _ _ => Iff.rfl⟩
  refine (fun hw => ?_) (hw P4 ?_)
  ·
    refine lv_iconst (v := I 0) hx hb dX3_constants_0 rfl ?_
    refine lv_istore_n (lv' := [(1, .int (I 0)), (0, .ref (q 1))]) hx hb dX3_constants_1 rfl hl (by decide) rfl (fun ls hl => ?_)
    refine lv_iconst (v := I 0) hx hb dX3_constants_2 rfl ?_
    refine lv_istore_n (lv' := [(2, .int (I 0)), (1, .int (I 0)), (0, .ref (q 1))]) hx hb dX3_constants_3 rfl hl (by decide) rfl (fun ls hl => ?_)
    exact (hP4 _ _).mp hw (by decide) (by decide)  H locs ls hP hD hS (lv_sub hl [2, 1, 0] rfl)
  ·
    intro u1 u2 hw
    refine (hP4 _ _).mpr ?_
    intro r_u1 r_u2 H locs ls hP hD hS hl
    refine lv_iload_n hx hb dX3_constants_4 rfl (lv_at hl 2 rfl) ?_
    refine lv_aload_n hx hb dX3_constants_5 rfl (lv_at hl 0 rfl) ?_
    refine gfX3_symbols hx hb hts hK hP hown (hts _ tw_64) (x := σ.1 5) rfl dX3_constants_6 ?_
    refine bi_icmp_ge (tgt := 35) hx hb r_u2 (hB.1 5) dX3_constants_9 (by decide) (fun c1 => ?_) (fun c1 => ?_)
    ·
      replace hw := hw.1 c1
      refine lv_iload_n hx hb dX3_constants_35 rfl (lv_at hl 1 rfl) ?_
      exact xri hx hb hr hlk hP hK hD hS ⟨_, r_u1, rfl, rfl, hw⟩ (Nat.le_of_ble_eq_true rfl) (Nat.le_of_ble_eq_true rfl) dX3_constants_36
    ·
      replace hw := hw.2 c1
      refine lv_iload_n hx hb dX3_constants_12 rfl (lv_at hl 1 rfl) ?_
      refine lv_aload_n hx hb dX3_constants_13 rfl (lv_at hl 0 rfl) ?_
      refine gfX3_variable hx hb hts hK hP hown (hts _ tw_46) dX3_constants_14 ?_
      refine lv_iload_n hx hb dX3_constants_17 rfl (lv_at hl 2 rfl) ?_
      obtain ⟨c2, hw⟩ := hw
      refine ldCX3_variable hx hb hK hP hN c2 dX3_constants_18 (fun x3 r_x3 e_x3 => ?_)
      replace hw := hw x3 r_x3 e_x3
      refine bi_if_eq (tgt := 26) hx hb r_x3 dX3_constants_19 (by decide) (fun c4 => ?_) (fun c4 => ?_)
      ·
        replace hw := hw.1 c4
        refine lv_iconst (v := I 1) hx hb dX3_constants_26 rfl ?_
        refine bi_iadd hx hb dX3_constants_27 ?_
        refine lv_istore_n (lv' := [(1, .int (I (u1 + 1))), (0, .ref (q 1)), (2, .int (I u2))]) hx hb dX3_constants_28 rfl hl (by decide) rfl (fun ls hl => ?_)
        refine lv_iinc (v := I (u2 + 1)) (lv' := [(2, .int (I (u2 + 1))), (1, .int (I (u1 + 1))), (0, .ref (q 1))]) hx hb dX3_constants_29 hl (k := 2) rfl (I_add _ _) (by decide) rfl (fun ls hl => ?_)
        refine lv_goto (tgt := 4) hx hb dX3_constants_32 (by decide) ?_
        obtain ⟨c5, hw⟩ := hw
        obtain ⟨c6, hw⟩ := hw
        exact (hP4 _ _).mp hw c5 c6  H locs ls hP hD hS (lv_sub hl [2, 1, 0] rfl)
      ·
        replace hw := hw.2 c4
        refine lv_iconst (v := I 0) hx hb dX3_constants_22 rfl ?_
        refine lv_goto (tgt := 27) hx hb dX3_constants_23 (by decide) ?_
        refine bi_iadd hx hb dX3_constants_27 ?_
        refine lv_istore_n (lv' := [(1, .int (I (u1 + 0))), (0, .ref (q 1)), (2, .int (I u2))]) hx hb dX3_constants_28 rfl hl (by decide) rfl (fun ls hl => ?_)
        refine lv_iinc (v := I (u2 + 1)) (lv' := [(2, .int (I (u2 + 1))), (1, .int (I (u1 + 0))), (0, .ref (q 1))]) hx hb dX3_constants_29 hl (k := 2) rfl (I_add _ _) (by decide) rfl (fun ls hl => ?_)
        refine lv_goto (tgt := 4) hx hb dX3_constants_32 (by decide) ?_
        obtain ⟨c7, hw⟩ := hw
        obtain ⟨c8, hw⟩ := hw
        exact (hP4 _ _).mp hw c7 c8  H locs ls hP hD hS (lv_sub hl [2, 1, 0] rfl)
def W_X3_ofKind (n1 : Int) (σ : S0) (Q : Int → Prop) : Prop :=
  ∀ (P4 : Int → Int → Int → Prop),
  (∀ (u1 : Int) (u2 : Int) (u3 : Int), ((σ.1 7 ≤ u3 → Q u2) ∧ (u3 < σ.1 7 → (0 ≤ u3 ∧ u3 < 1500) ∧ (∀ (x3 : Int), rg x3 → x3 = σ.2.1 13 u3 → ((¬ x3 = u1 → rg (u2 + 0) ∧ rg (u3 + 1) ∧ P4 u1 (u2 + 0) (u3 + 1)) ∧ (x3 = u1 → rg (u2 + 1) ∧ rg (u3 + 1) ∧ P4 u1 (u2 + 1) (u3 + 1)))))) → P4 u1 u2 u3) →
  P4 n1 0 0
set_option maxRecDepth 100000 in
set_option maxHeartbeats 4000000 in
theorem L_X3_ofKind (l : Launch) (g : gG) (q : Nat → Nat) (lb : Nat) (hlb : lb < 2 ^ 31) {n1 : Int} {σ : S0} {Q : Int → Prop} (r_n1 : rg n1) (hN : n_m σ) (hw : W_X3_ofKind n1 σ Q) (sz : Nat) : MetI l yX3_ofKind cX3_ofKind 4 (some .int) { frames := 0, cells := 0, slots := 0, locals := 0 } g [.ref (q 1), .int (I n1)] (CX g q lb σ) sz xT (p_i (CX g q lb) σ Q) 0 0 := by
  refine mkMet (Qc := fun A => QI g A (p_i (CX g q lb) σ Q)) (by decide) (Nat.le_of_ble_eq_true rfl) ?_
  intro p e s m below meth c A H ls hx hb hr hml hown hts hlk hnm hsz hP hK hNb hD hA hAe hS hX hl
  have hl : lv_has ls 4 [(0, .ref (q 1)), (1, .int (I n1))] := hl
  have hB := hN
  obtain ⟨locs, hlocs⟩ : ∃ z : List Loc, z = [] := ⟨_, rfl⟩
  rw [← hlocs] at hS ⊢
  obtain ⟨P4, hP4⟩ : ∃ P : Int → Int → Int → Prop, ∀ (u1 : Int) (u2 : Int) (u3 : Int), (P u1 u2 u3 ↔ (rg u1 → rg u2 → rg u3 → ∀ (H : Heap) (locs : List Loc) (ls : Array Slot), KP g (CX g q lb σ) H → va_D A (CX g q lb σ) → va_S A s.heap H locs → lv_has ls 4 [(0, .ref (q 1)), (1, .int (I u1)), (2, .int (I u2)), (3, .int (I u3))] → W p l e ({ frames := 0, cells := 0, slots := 0, locals := 0 }) s m [.ref (q 1), .int (I n1)].toArray below meth c H locs 0 0 (MQ below (QI g A (p_i (CX g q lb) σ Q)) [.ref (q 1), .int (I n1)].toArray s 0 0 A) (F0 m 4 ls []))) := ⟨_, fun _ _ _ => Iff.rfl⟩
  refine (fun hw => ?_) (hw P4 ?_)
  ·
    refine lv_iconst (v := I 0) hx hb dX3_ofKind_0 rfl ?_
    refine lv_istore_n (lv' := [(2, .int (I 0)), (0, .ref (q 1)), (1, .int (I n1))]) hx hb dX3_ofKind_1 rfl hl (by decide) rfl (fun ls hl => ?_)
    refine lv_iconst (v := I 0) hx hb dX3_ofKind_2 rfl ?_
    refine lv_istore_n (lv' := [(3, .int (I 0)), (2, .int (I 0)), (0, .ref (q 1)), (1, .int (I n1))]) hx hb dX3_ofKind_3 rfl hl (by decide) rfl (fun ls hl => ?_)
    exact (hP4 _ _ _).mp hw r_n1 (by decide) (by decide)  H locs ls hP hD hS (lv_sub hl [2, 3, 1, 0] rfl)
  ·
    intro u1 u2 u3 hw
    refine (hP4 _ _ _).mpr ?_
    intro r_u1 r_u2 r_u3 H locs ls hP hD hS hl
    refine lv_iload_n hx hb dX3_ofKind_4 rfl (lv_at hl 3 rfl) ?_
    refine lv_aload_n hx hb dX3_ofKind_5 rfl (lv_at hl 0 rfl) ?_
    refine gfX3_statements hx hb hts hK hP hown (hts _ tw_106) (x := σ.1 7) rfl dX3_ofKind_6 ?_
    refine bi_icmp_ge (tgt := 36) hx hb r_u3 (hB.1 7) dX3_ofKind_9 (by decide) (fun c1 => ?_) (fun c1 => ?_)
    ·
      replace hw := hw.1 c1
      refine lv_iload_n hx hb dX3_ofKind_36 rfl (lv_at hl 2 rfl) ?_
      exact xri hx hb hr hlk hP hK hD hS ⟨_, r_u2, rfl, rfl, hw⟩ (Nat.le_of_ble_eq_true rfl) (Nat.le_of_ble_eq_true rfl) dX3_ofKind_37
    ·
      replace hw := hw.2 c1
      refine lv_iload_n hx hb dX3_ofKind_12 rfl (lv_at hl 2 rfl) ?_
      refine lv_aload_n hx hb dX3_ofKind_13 rfl (lv_at hl 0 rfl) ?_
      refine gfX3_kind hx hb hts hK hP hown (hts _ tw_68) dX3_ofKind_14 ?_
      refine lv_iload_n hx hb dX3_ofKind_17 rfl (lv_at hl 3 rfl) ?_
      obtain ⟨c2, hw⟩ := hw
      refine ldCX3_kind hx hb hK hP hN c2 dX3_ofKind_18 (fun x3 r_x3 e_x3 => ?_)
      replace hw := hw x3 r_x3 e_x3
      refine lv_iload_n hx hb dX3_ofKind_19 rfl (lv_at hl 1 rfl) ?_
      refine bi_icmp_ne (tgt := 27) hx hb r_x3 r_u1 dX3_ofKind_20 (by decide) (fun c4 => ?_) (fun c4 => ?_)
      ·
        replace hw := hw.1 c4
        refine lv_iconst (v := I 0) hx hb dX3_ofKind_27 rfl ?_
        refine bi_iadd hx hb dX3_ofKind_28 ?_
        refine lv_istore_n (lv' := [(2, .int (I (u2 + 0))), (0, .ref (q 1)), (1, .int (I u1)), (3, .int (I u3))]) hx hb dX3_ofKind_29 rfl hl (by decide) rfl (fun ls hl => ?_)
        refine lv_iinc (v := I (u3 + 1)) (lv' := [(3, .int (I (u3 + 1))), (2, .int (I (u2 + 0))), (0, .ref (q 1)), (1, .int (I u1))]) hx hb dX3_ofKind_30 hl (k := 3) rfl (I_add _ _) (by decide) rfl (fun ls hl => ?_)
        refine lv_goto (tgt := 4) hx hb dX3_ofKind_33 (by decide) ?_
        obtain ⟨c5, hw⟩ := hw
        obtain ⟨c6, hw⟩ := hw
        exact (hP4 _ _ _).mp hw r_u1 c5 c6  H locs ls hP hD hS (lv_sub hl [2, 3, 1, 0] rfl)
      ·
        replace hw := hw.2 c4
        refine lv_iconst (v := I 1) hx hb dX3_ofKind_23 rfl ?_
        refine lv_goto (tgt := 28) hx hb dX3_ofKind_24 (by decide) ?_
        refine bi_iadd hx hb dX3_ofKind_28 ?_
        refine lv_istore_n (lv' := [(2, .int (I (u2 + 1))), (0, .ref (q 1)), (1, .int (I u1)), (3, .int (I u3))]) hx hb dX3_ofKind_29 rfl hl (by decide) rfl (fun ls hl => ?_)
        refine lv_iinc (v := I (u3 + 1)) (lv' := [(3, .int (I (u3 + 1))), (2, .int (I (u2 + 1))), (0, .ref (q 1)), (1, .int (I u1))]) hx hb dX3_ofKind_30 hl (k := 3) rfl (I_add _ _) (by decide) rfl (fun ls hl => ?_)
        refine lv_goto (tgt := 4) hx hb dX3_ofKind_33 (by decide) ?_
        obtain ⟨c7, hw⟩ := hw
        obtain ⟨c8, hw⟩ := hw
        exact (hP4 _ _ _).mp hw r_u1 c7 c8  H locs ls hP hD hS (lv_sub hl [2, 3, 1, 0] rfl)
def W_X3_keep (σ : S0) (Q : S0 → Prop) : Prop :=
  Q (s_a (s_a (s_a (s_a (s_a σ 17 0 (σ.1 7)) 17 1 (σ.1 5)) 17 2 (σ.1 3)) 17 3 (σ.1 4)) 17 4 (σ.1 6))
set_option maxRecDepth 100000 in
set_option maxHeartbeats 4000000 in
theorem L_X3_keep (l : Launch) (g : gG) (q : Nat → Nat) (lb : Nat) (hlb : lb < 2 ^ 31) {σ : S0} {Q : S0 → Prop} (hN : n_m σ) (hw : W_X3_keep σ Q) (sz : Nat) : MetV l yX3_keep cX3_keep 1 { frames := 0, cells := 0, slots := 0, locals := 0 } g [.ref (q 1)] (CX g q lb σ) sz xT (p_V (CX g q lb) [] [17] [] σ Q) 0 0 := by
  refine mkMet (Qc := fun A => QV g A (p_V (CX g q lb) [] [17] [] σ Q)) (by decide) (Nat.le_of_ble_eq_true rfl) ?_
  intro p e s m below meth c A H ls hx hb hr hml hown hts hlk hnm hsz hP hK hNb hD hA hAe hS hX hl
  have hl : lv_has ls 1 [(0, .ref (q 1))] := hl
  have hB := hN
  have hF : f_r [] [17] [] σ σ := f_0
  obtain ⟨locs, hlocs⟩ : ∃ z : List Loc, z = [] := ⟨_, rfl⟩
  rw [← hlocs] at hS ⊢
  refine lv_aload_n hx hb dX3_keep_0 rfl (lv_at hl 0 rfl) ?_
  refine gfX3_kept hx hb hts hK hP hown (hts _ tw_109) dX3_keep_1 ?_
  refine lv_iconst (v := I 0) hx hb dX3_keep_4 rfl ?_
  refine lv_aload_n hx hb dX3_keep_5 rfl (lv_at hl 0 rfl) ?_
  refine gfX3_statements hx hb hts hK hP hown (hts _ tw_106) (x := σ.1 7) rfl dX3_keep_6 ?_
  refine sdCX3_kept hx hb hK hP hD hS (by decide) dX3_keep_9 (fun H locs hP hD hS => ?_)
  have hN : n_m (s_a σ 17 0 (σ.1 7)) := n_a (k := 17) (j := 0) hN ((hB.1 7) : rg (σ.1 7))
  have hF : f_r [] [17] [] σ (s_a σ 17 0 (σ.1 7)) := f_a hF (by decide)
  refine lv_aload_n hx hb dX3_keep_10 rfl (lv_at hl 0 rfl) ?_
  refine gfX3_kept hx hb hts hK hP hown (hts _ tw_109) dX3_keep_11 ?_
  refine lv_iconst (v := I 1) hx hb dX3_keep_14 rfl ?_
  refine lv_aload_n hx hb dX3_keep_15 rfl (lv_at hl 0 rfl) ?_
  refine gfX3_symbols hx hb hts hK hP hown (hts _ tw_64) (x := σ.1 5) rfl dX3_keep_16 ?_
  refine sdCX3_kept hx hb hK hP hD hS (by decide) dX3_keep_19 (fun H locs hP hD hS => ?_)
  have hN : n_m (s_a (s_a σ 17 0 (σ.1 7)) 17 1 (σ.1 5)) := n_a (k := 17) (j := 1) hN ((hB.1 5) : rg (σ.1 5))
  have hF : f_r [] [17] [] σ (s_a (s_a σ 17 0 (σ.1 7)) 17 1 (σ.1 5)) := f_a hF (by decide)
  refine lv_aload_n hx hb dX3_keep_20 rfl (lv_at hl 0 rfl) ?_
  refine gfX3_kept hx hb hts hK hP hown (hts _ tw_109) dX3_keep_21 ?_
  refine lv_iconst (v := I 2) hx hb dX3_keep_24 rfl ?_
  refine lv_aload_n hx hb dX3_keep_25 rfl (lv_at hl 0 rfl) ?_
  refine gfX3_names hx hb hts hK hP hown (hts _ tw_43) (x := σ.1 3) rfl dX3_keep_26 ?_
  refine sdCX3_kept hx hb hK hP hD hS (by decide) dX3_keep_29 (fun H locs hP hD hS => ?_)
  have hN : n_m (s_a (s_a (s_a σ 17 0 (σ.1 7)) 17 1 (σ.1 5)) 17 2 (σ.1 3)) := n_a (k := 17) (j := 2) hN ((hB.1 3) : rg (σ.1 3))
  have hF : f_r [] [17] [] σ (s_a (s_a (s_a σ 17 0 (σ.1 7)) 17 1 (σ.1 5)) 17 2 (σ.1 3)) := f_a hF (by decide)
  refine lv_aload_n hx hb dX3_keep_30 rfl (lv_at hl 0 rfl) ?_
  refine gfX3_kept hx hb hts hK hP hown (hts _ tw_109) dX3_keep_31 ?_
  refine lv_iconst (v := I 3) hx hb dX3_keep_34 rfl ?_
  refine lv_aload_n hx hb dX3_keep_35 rfl (lv_at hl 0 rfl) ?_
  refine gfX3_ranks hx hb hts hK hP hown (hts _ tw_61) (x := σ.1 4) rfl dX3_keep_36 ?_
  refine sdCX3_kept hx hb hK hP hD hS (by decide) dX3_keep_39 (fun H locs hP hD hS => ?_)
  have hN : n_m (s_a (s_a (s_a (s_a σ 17 0 (σ.1 7)) 17 1 (σ.1 5)) 17 2 (σ.1 3)) 17 3 (σ.1 4)) := n_a (k := 17) (j := 3) hN ((hB.1 4) : rg (σ.1 4))
  have hF : f_r [] [17] [] σ (s_a (s_a (s_a (s_a σ 17 0 (σ.1 7)) 17 1 (σ.1 5)) 17 2 (σ.1 3)) 17 3 (σ.1 4)) := f_a hF (by decide)
  refine lv_aload_n hx hb dX3_keep_40 rfl (lv_at hl 0 rfl) ?_
  refine gfX3_kept hx hb hts hK hP hown (hts _ tw_109) dX3_keep_41 ?_
  refine lv_iconst (v := I 4) hx hb dX3_keep_44 rfl ?_
  refine lv_aload_n hx hb dX3_keep_45 rfl (lv_at hl 0 rfl) ?_
  refine gfX3_used hx hb hts hK hP hown (hts _ tw_101) (x := σ.1 6) rfl dX3_keep_46 ?_
  refine sdCX3_kept hx hb hK hP hD hS (by decide) dX3_keep_49 (fun H locs hP hD hS => ?_)
  have hN : n_m (s_a (s_a (s_a (s_a (s_a σ 17 0 (σ.1 7)) 17 1 (σ.1 5)) 17 2 (σ.1 3)) 17 3 (σ.1 4)) 17 4 (σ.1 6)) := n_a (k := 17) (j := 4) hN ((hB.1 6) : rg (σ.1 6))
  have hF : f_r [] [17] [] σ (s_a (s_a (s_a (s_a (s_a σ 17 0 (σ.1 7)) 17 1 (σ.1 5)) 17 2 (σ.1 3)) 17 3 (σ.1 4)) 17 4 (σ.1 6)) := f_a hF (by decide)
  exact xrv hx hb hr hlk hP hK hD hS ⟨_, hN, hF, rfl, hw⟩ (Nat.le_of_ble_eq_true rfl) (Nat.le_of_ble_eq_true rfl) dX3_keep_50
def W_X3_bucket_q15 (n1 : Int) (n2 : Int) (σ : S0) (Q : Int → Prop) : Prop :=
  ∀ (P5 : Int → Int → Int → Int → Prop),
  (∀ (u1 : Int) (u2 : Int) (u3 : Int) (u4 : Int), ((u2 ≤ u4 → ∀ (x2 : Int), rg x2 → x2 = h_u u3 12 → (∀ (x3 : Int), rg x3 → x3 = h_x u3 x2 → (Q (x3 % 4096)))) ∧ (u4 < u2 → (0 ≤ (u1 + u4) ∧ (u1 + u4) < 30000) ∧ (∀ (x5 : Int), rg x5 → x5 = σ.2.1 2 (u1 + u4) → (∀ (x6 : Int), rg x6 → x6 = h_s ((u3 * 31) + x5) → (rg (u4 + 1) ∧ P5 u1 u2 x6 (u4 + 1)))))) → P5 u1 u2 u3 u4) →
  P5 n1 n2 0 0
set_option maxRecDepth 100000 in
set_option maxHeartbeats 4000000 in
theorem L_X3_bucket_q15 (l : Launch) (g : gG) (q : Nat → Nat) (lb : Nat) (hlb : lb < 2 ^ 31) {n1 : Int} {n2 : Int} {σ : S0} {Q : Int → Prop} (r_n1 : rg n1) (r_n2 : rg n2) (hN : n_m σ) (hw : W_X3_bucket_q15 n1 n2 σ Q) (sz : Nat) : MetI l yX3_bucket cX3_bucket 5 (some .int) { frames := 0, cells := 0, slots := 0, locals := 0 } g [.ref (q 15), .int (I n1), .int (I n2)] (CX g q lb σ) sz xT (p_i (CX g q lb) σ Q) 0 0 := by
  refine mkMet (Qc := fun A => QI g A (p_i (CX g q lb) σ Q)) (by decide) (Nat.le_of_ble_eq_true rfl) ?_
  intro p e s m below meth c A H ls hx hb hr hml hown hts hlk hnm hsz hP hK hNb hD hA hAe hS hX hl
  have hl : lv_has ls 5 [(0, .ref (q 15)), (1, .int (I n1)), (2, .int (I n2))] := hl
  have hB := hN
  obtain ⟨locs, hlocs⟩ : ∃ z : List Loc, z = [] := ⟨_, rfl⟩
  rw [← hlocs] at hS ⊢
  obtain ⟨P5, hP5⟩ : ∃ P : Int → Int → Int → Int → Prop, ∀ (u1 : Int) (u2 : Int) (u3 : Int) (u4 : Int), (P u1 u2 u3 u4 ↔ (rg u1 → rg u2 → rg u3 → rg u4 → ∀ (H : Heap) (locs : List Loc) (ls : Array Slot), KP g (CX g q lb σ) H → va_D A (CX g q lb σ) → va_S A s.heap H locs → lv_has ls 5 [(0, .ref (q 15)), (1, .int (I u1)), (2, .int (I u2)), (3, .int (I u3)), (4, .int (I u4))] → W p l e ({ frames := 0, cells := 0, slots := 0, locals := 0 }) s m [.ref (q 15), .int (I n1), .int (I n2)].toArray below meth c H locs 0 0 (MQ below (QI g A (p_i (CX g q lb) σ Q)) [.ref (q 15), .int (I n1), .int (I n2)].toArray s 0 0 A) (F0 m 5 ls []))) := ⟨_, fun _ _ _ _ => Iff.rfl⟩
  refine (fun hw => ?_) (hw P5 ?_)
  ·
    refine lv_iconst (v := I 0) hx hb dX3_bucket_0 rfl ?_
    refine lv_istore_n (lv' := [(3, .int (I 0)), (0, .ref (q 15)), (1, .int (I n1)), (2, .int (I n2))]) hx hb dX3_bucket_1 rfl hl (by decide) rfl (fun ls hl => ?_)
    refine lv_iconst (v := I 0) hx hb dX3_bucket_2 rfl ?_
    refine lv_istore (lv' := [(4, .int (I 0)), (3, .int (I 0)), (0, .ref (q 15)), (1, .int (I n1)), (2, .int (I n2))]) hx hb dX3_bucket_3 hl (by decide) rfl (fun ls hl => ?_)
    exact (hP5 _ _ _ _).mp hw r_n1 r_n2 (by decide) (by decide)  H locs ls hP hD hS (lv_sub hl [2, 3, 4, 1, 0] rfl)
  ·
    intro u1 u2 u3 u4 hw
    refine (hP5 _ _ _ _).mpr ?_
    intro r_u1 r_u2 r_u3 r_u4 H locs ls hP hD hS hl
    refine lv_iload hx hb dX3_bucket_5 (lv_at hl 4 rfl) ?_
    refine lv_iload_n hx hb dX3_bucket_7 rfl (lv_at hl 2 rfl) ?_
    refine bi_icmp_ge (tgt := 29) hx hb r_u4 r_u2 dX3_bucket_8 (by decide) (fun c1 => ?_) (fun c1 => ?_)
    ·
      replace hw := hw.1 c1
      refine lv_iload_n hx hb dX3_bucket_29 rfl (lv_at hl 3 rfl) ?_
      refine lv_iload_n hx hb dX3_bucket_30 rfl (lv_at hl 3 rfl) ?_
      refine lv_bipush (v := I 12) hx hb dX3_bucket_31 (by decide) ?_
      refine lv_iushr (v := _) hx hb dX3_bucket_33 rfl ?_
      refine bi_hve (fun x2 r_x2 e_x2 => ?_)
      replace hw := hw x2 r_x2 e_x2
      refine lv_ixor hx hb dX3_bucket_34 ?_
      refine bi_hve (fun x3 r_x3 e_x3 => ?_)
      replace hw := hw x3 r_x3 e_x3
      refine lv_sipush (v := I 4095) hx hb dX3_bucket_35 (by decide) ?_
      refine bi_iandm hx hb 4095 12 4096 (by decide) (by decide) (by omega) dX3_bucket_38 ?_
      exact xri hx hb hr hlk hP hK hD hS ⟨_, (⟨by omega, by omega⟩ : rg (x3 % 4096)), rfl, rfl, hw⟩ (Nat.le_of_ble_eq_true rfl) (Nat.le_of_ble_eq_true rfl) dX3_bucket_39
    ·
      replace hw := hw.2 c1
      refine lv_iload_n hx hb dX3_bucket_11 rfl (lv_at hl 3 rfl) ?_
      refine lv_bipush (v := I 31) hx hb dX3_bucket_12 (by decide) ?_
      refine bi_imul hx hb dX3_bucket_14 ?_
      refine lv_aload_n hx hb dX3_bucket_15 rfl (lv_at hl 0 rfl) ?_
      refine lv_iload_n hx hb dX3_bucket_16 rfl (lv_at hl 1 rfl) ?_
      refine lv_iload hx hb dX3_bucket_17 (lv_at hl 4 rfl) ?_
      refine bi_iadd hx hb dX3_bucket_19 ?_
      obtain ⟨c4, hw⟩ := hw
      refine ldCX3_letters hx hb hK hP hN c4 dX3_bucket_20 (fun x5 r_x5 e_x5 => ?_)
      replace hw := hw x5 r_x5 e_x5
      refine bi_iadd hx hb dX3_bucket_21 ?_
      refine bi_hve (fun x6 r_x6 e_x6 => ?_)
      replace hw := hw x6 r_x6 e_x6
      refine lv_istore_n (lv' := [(3, .int (I x6)), (0, .ref (q 15)), (1, .int (I u1)), (2, .int (I u2)), (4, .int (I u4))]) hx hb dX3_bucket_22 rfl hl (by decide) rfl (fun ls hl => ?_)
      refine lv_iinc (v := I (u4 + 1)) (lv' := [(4, .int (I (u4 + 1))), (3, .int (I x6)), (0, .ref (q 15)), (1, .int (I u1)), (2, .int (I u2))]) hx hb dX3_bucket_23 hl (k := 4) rfl (I_add _ _) (by decide) rfl (fun ls hl => ?_)
      refine lv_goto (tgt := 5) hx hb dX3_bucket_26 (by decide) ?_
      obtain ⟨c7, hw⟩ := hw
      exact (hP5 _ _ _ _).mp hw r_u1 r_u2 r_x6 c7  H locs ls hP hD hS (lv_sub hl [2, 3, 4, 1, 0] rfl)
def W_X3_goBack (σ : S0) (Q : S0 → Prop) : Prop :=
  ∀ (P7 : Int → S0 → Prop) (P62 : Int → S0 → Prop) (P95 : Int → S0 → Prop),
  (∀ (u1 : Int) (τ : S0), ((τ.1 7 ≤ u1 → ∀ (x3 : Int), rg x3 → x3 = τ.2.1 17 3 → (P62 x3 τ)) ∧ (u1 < τ.1 7 → (0 ≤ u1 ∧ u1 < 1500) ∧ (∀ (x5 : Int), rg x5 → x5 = τ.2.1 13 u1 → ((¬ x5 = 0 → rg (u1 + 1) ∧ P7 (u1 + 1) τ) ∧ (x5 = 0 → ∃ (Q8 : Int → Prop), W_X3_variableOf u1 τ Q8 ∧ ∀ (x9 : Int), rg x9 → Q8 x9 → ((0 ≤ x9 ∧ x9 < 1000) ∧ (∀ (x12 : Int), rg x12 → x12 = τ.2.1 9 x9 → ((¬ x12 = u1 → rg (u1 + 1) ∧ P7 (u1 + 1) τ) ∧ (x12 = u1 → ∃ (Q15 : Int → Prop), W_X3_variableOf u1 τ Q15 ∧ ∀ (x16 : Int), rg x16 → Q15 x16 → ((0 ≤ x16 ∧ x16 < 1000) ∧ (rg (u1 + 1) ∧ P7 (u1 + 1) (s_a τ 9 x16 (-1))))))))))))) → P7 u1 τ) →
  (∀ (u1 : Int) (τ : S0), ((τ.1 4 ≤ u1 → rg (τ.1 3 - 1) ∧ P95 (τ.1 3 - 1) τ) ∧ (u1 < τ.1 4 → (0 ≤ u1 ∧ u1 < 100) ∧ (∀ (x23 : Int), rg x23 → x23 = τ.2.1 11 u1 → ((0 ≤ x23 ∧ x23 < 1000) ∧ (rg (u1 + 1) ∧ P62 (u1 + 1) (s_a τ 10 x23 (-1))))))) → P62 u1 τ) →
  (∀ (u1 : Int) (τ : S0), (∀ (x26 : Int), rg x26 → x26 = τ.2.1 17 2 → ((u1 < x26 → ∀ (x28 : Int), rg x28 → x28 = τ.2.1 17 0 → (∀ (x29 : Int), rg x29 → x29 = τ.2.1 17 1 → (∀ (x30 : Int), rg x30 → x30 = τ.2.1 17 2 → (∀ (x31 : Int), rg x31 → x31 = τ.2.1 17 3 → (∀ (x32 : Int), rg x32 → x32 = τ.2.1 17 4 → (Q (s_v (s_v (s_v (s_v (s_v τ 7 x28) 5 x29) 3 x30) 4 x31) 6 x32))))))) ∧ (x26 ≤ u1 → (0 ≤ u1 ∧ u1 < 2501) ∧ (∀ (x34 : Int), rg x34 → x34 = τ.2.1 3 u1 → ((0 ≤ (u1 + 1) ∧ (u1 + 1) < 2501) ∧ (∀ (x36 : Int), rg x36 → x36 = τ.2.1 3 (u1 + 1) → (∀ (x37 : Int), rg x37 → x37 = τ.2.1 3 u1 → (rg (x36 - x37) ∧ ∃ (Q39 : Int → Prop), W_X3_bucket_q15 x34 (x36 - x37) τ Q39 ∧ ∀ (x40 : Int), rg x40 → Q39 x40 → ((0 ≤ u1 ∧ u1 < 2500) ∧ (∀ (x43 : Int), rg x43 → x43 = τ.2.1 5 u1 → ((0 ≤ x40 ∧ x40 < 4096) ∧ (rg (u1 + (-1)) ∧ P95 (u1 + (-1)) (s_a τ 6 x40 x43))))))))))))) → P95 u1 τ) →
  ∀ (x1 : Int), rg x1 → x1 = σ.2.1 17 0 → (P7 x1 σ)
set_option maxRecDepth 100000 in
set_option maxHeartbeats 4000000 in
theorem L_X3_goBack (l : Launch) (g : gG) (q : Nat → Nat) (lb : Nat) (hlb : lb < 2 ^ 31) {σ : S0} {Q : S0 → Prop} (hN : n_m σ) (hw : W_X3_goBack σ Q) (sz : Nat) : MetV l yX3_goBack cX3_goBack 2 { frames := 1, cells := 0, slots := 0, locals := 24 } g [.ref (q 1)] (CX g q lb σ) sz xT (p_V (CX g q lb) [3, 4, 5, 6, 7] [6, 9, 10] [] σ Q) 0 0 := by
  refine mkMet (Qc := fun A => QV g A (p_V (CX g q lb) [3, 4, 5, 6, 7] [6, 9, 10] [] σ Q)) (by decide) (Nat.le_of_ble_eq_true rfl) ?_
  intro p e s m below meth c A H ls hx hb hr hml hown hts hlk hnm hsz hP hK hNb hD hA hAe hS hX hl
  have hl : lv_has ls 2 [(0, .ref (q 1))] := hl
  have hB := hN
  have hF : f_r [3, 4, 5, 6, 7] [6, 9, 10] [] σ σ := f_0
  obtain ⟨locs, hlocs⟩ : ∃ z : List Loc, z = [] := ⟨_, rfl⟩
  rw [← hlocs] at hS ⊢
  obtain ⟨P7, hP7⟩ : ∃ P : Int → S0 → Prop, ∀ (u1 : Int) (τ : S0), (P u1 τ ↔ (rg u1 → n_m τ → f_r [3, 4, 5, 6, 7] [6, 9, 10] [] σ τ → ∀ (H : Heap) (locs : List Loc) (ls : Array Slot), KP g (CX g q lb τ) H → va_D A (CX g q lb τ) → va_S A s.heap H locs → lv_has ls 2 [(0, .ref (q 1)), (1, .int (I u1))] → W p l e ({ frames := 1, cells := 0, slots := 0, locals := 24 }) s m [.ref (q 1)].toArray below meth c H locs 0 0 (MQ below (QV g A (p_V (CX g q lb) [3, 4, 5, 6, 7] [6, 9, 10] [] σ Q)) [.ref (q 1)].toArray s 0 0 A) (F0 m 7 ls []))) := ⟨_, fun _ _ => Iff.rfl⟩
  obtain ⟨P62, hP62⟩ : ∃ P : Int → S0 → Prop, ∀ (u1 : Int) (τ : S0), (P u1 τ ↔ (rg u1 → n_m τ → f_r [3, 4, 5, 6, 7] [6, 9, 10] [] σ τ → ∀ (H : Heap) (locs : List Loc) (ls : Array Slot), KP g (CX g q lb τ) H → va_D A (CX g q lb τ) → va_S A s.heap H locs → lv_has ls 2 [(0, .ref (q 1)), (1, .int (I u1))] → W p l e ({ frames := 1, cells := 0, slots := 0, locals := 24 }) s m [.ref (q 1)].toArray below meth c H locs 0 0 (MQ below (QV g A (p_V (CX g q lb) [3, 4, 5, 6, 7] [6, 9, 10] [] σ Q)) [.ref (q 1)].toArray s 0 0 A) (F0 m 62 ls []))) := ⟨_, fun _ _ => Iff.rfl⟩
  obtain ⟨P95, hP95⟩ : ∃ P : Int → S0 → Prop, ∀ (u1 : Int) (τ : S0), (P u1 τ ↔ (rg u1 → n_m τ → f_r [3, 4, 5, 6, 7] [6, 9, 10] [] σ τ → ∀ (H : Heap) (locs : List Loc) (ls : Array Slot), KP g (CX g q lb τ) H → va_D A (CX g q lb τ) → va_S A s.heap H locs → lv_has ls 2 [(0, .ref (q 1)), (1, .int (I u1))] → W p l e ({ frames := 1, cells := 0, slots := 0, locals := 24 }) s m [.ref (q 1)].toArray below meth c H locs 0 0 (MQ below (QV g A (p_V (CX g q lb) [3, 4, 5, 6, 7] [6, 9, 10] [] σ Q)) [.ref (q 1)].toArray s 0 0 A) (F0 m 95 ls []))) := ⟨_, fun _ _ => Iff.rfl⟩
  refine (fun hw => ?_) (hw P7 P62 P95 ?_ ?_ ?_)
  ·
    refine lv_aload_n hx hb dX3_goBack_0 rfl (lv_at hl 0 rfl) ?_
    refine gfX3_kept hx hb hts hK hP hown (hts _ tw_109) dX3_goBack_1 ?_
    refine lv_iconst (v := I 0) hx hb dX3_goBack_4 rfl ?_
    refine ldCX3_kept hx hb hK hP hN (by decide) dX3_goBack_5 (fun x1 r_x1 e_x1 => ?_)
    replace hw := hw x1 r_x1 e_x1
    refine lv_istore_n (lv' := [(1, .int (I x1)), (0, .ref (q 1))]) hx hb dX3_goBack_6 rfl hl (by decide) rfl (fun ls hl => ?_)
    exact (hP7 _ _).mp hw r_x1 hN hF H locs ls hP hD hS (lv_sub hl [1, 0] rfl)
  ·
    intro u1 τ hw
    refine (hP7 _ _).mpr ?_
    intro r_u1 hN hF H locs ls hP hD hS hl
    have hB := hN
    refine lv_iload_n hx hb dX3_goBack_7 rfl (lv_at hl 1 rfl) ?_
    refine lv_aload_n hx hb dX3_goBack_8 rfl (lv_at hl 0 rfl) ?_
    refine gfX3_statements hx hb hts hK hP hown (hts _ tw_106) (x := τ.1 7) rfl dX3_goBack_9 ?_
    refine bi_icmp_ge (tgt := 55) hx hb r_u1 (hB.1 7) dX3_goBack_12 (by decide) (fun c2 => ?_) (fun c2 => ?_)
    ·
      replace hw := hw.1 c2
      refine lv_aload_n hx hb dX3_goBack_55 rfl (lv_at hl 0 rfl) ?_
      refine gfX3_kept hx hb hts hK hP hown (hts _ tw_109) dX3_goBack_56 ?_
      refine lv_iconst (v := I 3) hx hb dX3_goBack_59 rfl ?_
      refine ldCX3_kept hx hb hK hP hN (by decide) dX3_goBack_60 (fun x3 r_x3 e_x3 => ?_)
      replace hw := hw x3 r_x3 e_x3
      refine lv_istore_n (lv' := [(1, .int (I x3)), (0, .ref (q 1))]) hx hb dX3_goBack_61 rfl hl (by decide) rfl (fun ls hl => ?_)
      exact (hP62 _ _).mp hw r_x3 hN hF H locs ls hP hD hS (lv_sub hl [1, 0] rfl)
    ·
      replace hw := hw.2 c2
      refine lv_aload_n hx hb dX3_goBack_15 rfl (lv_at hl 0 rfl) ?_
      refine gfX3_kind hx hb hts hK hP hown (hts _ tw_68) dX3_goBack_16 ?_
      refine lv_iload_n hx hb dX3_goBack_19 rfl (lv_at hl 1 rfl) ?_
      obtain ⟨c4, hw⟩ := hw
      refine ldCX3_kind hx hb hK hP hN c4 dX3_goBack_20 (fun x5 r_x5 e_x5 => ?_)
      replace hw := hw x5 r_x5 e_x5
      refine bi_if_ne (tgt := 49) hx hb r_x5 dX3_goBack_21 (by decide) (fun c6 => ?_) (fun c6 => ?_)
      ·
        replace hw := hw.1 c6
        refine lv_iinc (v := I (u1 + 1)) (lv' := [(1, .int (I (u1 + 1))), (0, .ref (q 1))]) hx hb dX3_goBack_49 hl (k := 1) rfl (I_add _ _) (by decide) rfl (fun ls hl => ?_)
        refine lv_goto (tgt := 7) hx hb dX3_goBack_52 (by decide) ?_
        obtain ⟨c7, hw⟩ := hw
        exact (hP7 _ _).mp hw c7 hN hF H locs ls hP hD hS (lv_sub hl [1, 0] rfl)
      ·
        replace hw := hw.2 c6
        refine lv_aload_n hx hb dX3_goBack_24 rfl (lv_at hl 0 rfl) ?_
        refine gfX3_firstFloat hx hb hts hK hP hown (hts _ tw_52) dX3_goBack_25 ?_
        refine lv_aload_n hx hb dX3_goBack_28 rfl (lv_at hl 0 rfl) ?_
        refine lv_iload_n hx hb dX3_goBack_29 rfl (lv_at hl 1 rfl) ?_
        obtain ⟨Q8, hc, hw⟩ := hw
        refine wc_i (X := CX g q lb) (va_runV (As := [.int (I u1)]) (rest := [.ref (q 22)]) ⟨hx, hb, hml, hown, hts⟩ (L_X3_variableOf l g q lb hlb r_u1 hN hc H.size) (cwV 1 hts (TB_V tw_1037 tw_1022 tw_1023 tw_2 co_X3_variableOf) rfl rfl rfl (by decide +kernel) ⟨Nat.le_of_ble_eq_true rfl, Nat.le_of_ble_eq_true rfl⟩) (preV (q0 := 1) (ci := 3) rfl xT_bl hP hK hNb hD rfl rfl xT_at) rfl rfl hl.1 rfl (lv_room (Nat.le_of_ble_eq_true rfl)) dX3_goBack_30 ⟨Nat.le_of_ble_eq_true rfl, Nat.le_of_ble_eq_true rfl⟩) hP hD hS hA (fun x9 H locs r_x9 hq hP hD hS => ?_)
        replace hw := hw x9 r_x9 hq
        obtain ⟨c11, hw⟩ := hw
        refine ldCX3_firstFloat hx hb hK hP hN c11 dX3_goBack_33 (fun x12 r_x12 e_x12 => ?_)
        replace hw := hw x12 r_x12 e_x12
        refine lv_iload_n hx hb dX3_goBack_34 rfl (lv_at hl 1 rfl) ?_
        refine bi_icmp_ne (tgt := 49) hx hb r_x12 r_u1 dX3_goBack_35 (by decide) (fun c13 => ?_) (fun c13 => ?_)
        ·
          replace hw := hw.1 c13
          refine lv_iinc (v := I (u1 + 1)) (lv' := [(1, .int (I (u1 + 1))), (0, .ref (q 1))]) hx hb dX3_goBack_49 hl (k := 1) rfl (I_add _ _) (by decide) rfl (fun ls hl => ?_)
          refine lv_goto (tgt := 7) hx hb dX3_goBack_52 (by decide) ?_
          obtain ⟨c14, hw⟩ := hw
          exact (hP7 _ _).mp hw c14 hN hF H locs ls hP hD hS (lv_sub hl [1, 0] rfl)
        ·
          replace hw := hw.2 c13
          refine lv_aload_n hx hb dX3_goBack_38 rfl (lv_at hl 0 rfl) ?_
          refine gfX3_firstFloat hx hb hts hK hP hown (hts _ tw_52) dX3_goBack_39 ?_
          refine lv_aload_n hx hb dX3_goBack_42 rfl (lv_at hl 0 rfl) ?_
          refine lv_iload_n hx hb dX3_goBack_43 rfl (lv_at hl 1 rfl) ?_
          obtain ⟨Q15, hc, hw⟩ := hw
          refine wc_i (X := CX g q lb) (va_runV (As := [.int (I u1)]) (rest := [.ref (q 22)]) ⟨hx, hb, hml, hown, hts⟩ (L_X3_variableOf l g q lb hlb r_u1 hN hc H.size) (cwV 1 hts (TB_V tw_1037 tw_1022 tw_1023 tw_2 co_X3_variableOf) rfl rfl rfl (by decide +kernel) ⟨Nat.le_of_ble_eq_true rfl, Nat.le_of_ble_eq_true rfl⟩) (preV (q0 := 1) (ci := 3) rfl xT_bl hP hK hNb hD rfl rfl xT_at) rfl rfl hl.1 rfl (lv_room (Nat.le_of_ble_eq_true rfl)) dX3_goBack_44 ⟨Nat.le_of_ble_eq_true rfl, Nat.le_of_ble_eq_true rfl⟩) hP hD hS hA (fun x16 H locs r_x16 hq hP hD hS => ?_)
          replace hw := hw x16 r_x16 hq
          refine lv_iconst (v := I (-1)) hx hb dX3_goBack_47 rfl ?_
          obtain ⟨c18, hw⟩ := hw
          refine sdCX3_firstFloat hx hb hK hP hD hS c18 dX3_goBack_48 (fun H locs hP hD hS => ?_)
          have hN : n_m (s_a τ 9 x16 (-1)) := n_a (k := 9) (j := x16) hN ((by decide) : rg (-1))
          have hF : f_r [3, 4, 5, 6, 7] [6, 9, 10] [] σ (s_a τ 9 x16 (-1)) := f_a hF (by decide)
          refine lv_iinc (v := I (u1 + 1)) (lv' := [(1, .int (I (u1 + 1))), (0, .ref (q 1))]) hx hb dX3_goBack_49 hl (k := 1) rfl (I_add _ _) (by decide) rfl (fun ls hl => ?_)
          refine lv_goto (tgt := 7) hx hb dX3_goBack_52 (by decide) ?_
          obtain ⟨c19, hw⟩ := hw
          exact (hP7 _ _).mp hw c19 hN hF H locs ls hP hD hS (lv_sub hl [1, 0] rfl)
  ·
    intro u1 τ hw
    refine (hP62 _ _).mpr ?_
    intro r_u1 hN hF H locs ls hP hD hS hl
    have hB := hN
    refine lv_iload_n hx hb dX3_goBack_62 rfl (lv_at hl 1 rfl) ?_
    refine lv_aload_n hx hb dX3_goBack_63 rfl (lv_at hl 0 rfl) ?_
    refine gfX3_ranks hx hb hts hK hP hown (hts _ tw_61) (x := τ.1 4) rfl dX3_goBack_64 ?_
    refine bi_icmp_ge (tgt := 88) hx hb r_u1 (hB.1 4) dX3_goBack_67 (by decide) (fun c20 => ?_) (fun c20 => ?_)
    ·
      replace hw := hw.1 c20
      refine lv_aload_n hx hb dX3_goBack_88 rfl (lv_at hl 0 rfl) ?_
      refine gfX3_names hx hb hts hK hP hown (hts _ tw_43) (x := τ.1 3) rfl dX3_goBack_89 ?_
      refine lv_iconst (v := I 1) hx hb dX3_goBack_92 rfl ?_
      refine bi_isub hx hb dX3_goBack_93 ?_
      refine lv_istore_n (lv' := [(1, .int (I (τ.1 3 - 1))), (0, .ref (q 1))]) hx hb dX3_goBack_94 rfl hl (by decide) rfl (fun ls hl => ?_)
      obtain ⟨c21, hw⟩ := hw
      exact (hP95 _ _).mp hw c21 hN hF H locs ls hP hD hS (lv_sub hl [1, 0] rfl)
    ·
      replace hw := hw.2 c20
      refine lv_aload_n hx hb dX3_goBack_70 rfl (lv_at hl 0 rfl) ?_
      refine gfX3_rank hx hb hts hK hP hown (hts _ tw_55) dX3_goBack_71 ?_
      refine lv_aload_n hx hb dX3_goBack_74 rfl (lv_at hl 0 rfl) ?_
      refine gfX3_ranked hx hb hts hK hP hown (hts _ tw_59) dX3_goBack_75 ?_
      refine lv_iload_n hx hb dX3_goBack_78 rfl (lv_at hl 1 rfl) ?_
      obtain ⟨c22, hw⟩ := hw
      refine ldCX3_ranked hx hb hK hP hN c22 dX3_goBack_79 (fun x23 r_x23 e_x23 => ?_)
      replace hw := hw x23 r_x23 e_x23
      refine lv_iconst (v := I (-1)) hx hb dX3_goBack_80 rfl ?_
      obtain ⟨c24, hw⟩ := hw
      refine sdCX3_rank hx hb hK hP hD hS c24 dX3_goBack_81 (fun H locs hP hD hS => ?_)
      have hN : n_m (s_a τ 10 x23 (-1)) := n_a (k := 10) (j := x23) hN ((by decide) : rg (-1))
      have hF : f_r [3, 4, 5, 6, 7] [6, 9, 10] [] σ (s_a τ 10 x23 (-1)) := f_a hF (by decide)
      refine lv_iinc (v := I (u1 + 1)) (lv' := [(1, .int (I (u1 + 1))), (0, .ref (q 1))]) hx hb dX3_goBack_82 hl (k := 1) rfl (I_add _ _) (by decide) rfl (fun ls hl => ?_)
      refine lv_goto (tgt := 62) hx hb dX3_goBack_85 (by decide) ?_
      obtain ⟨c25, hw⟩ := hw
      exact (hP62 _ _).mp hw c25 hN hF H locs ls hP hD hS (lv_sub hl [1, 0] rfl)
  ·
    intro u1 τ hw
    refine (hP95 _ _).mpr ?_
    intro r_u1 hN hF H locs ls hP hD hS hl
    have hB := hN
    refine lv_iload_n hx hb dX3_goBack_95 rfl (lv_at hl 1 rfl) ?_
    refine lv_aload_n hx hb dX3_goBack_96 rfl (lv_at hl 0 rfl) ?_
    refine gfX3_kept hx hb hts hK hP hown (hts _ tw_109) dX3_goBack_97 ?_
    refine lv_iconst (v := I 2) hx hb dX3_goBack_100 rfl ?_
    refine ldCX3_kept hx hb hK hP hN (by decide) dX3_goBack_101 (fun x26 r_x26 e_x26 => ?_)
    replace hw := hw x26 r_x26 e_x26
    refine bi_icmp_lt (tgt := 150) hx hb r_u1 r_x26 dX3_goBack_102 (by decide) (fun c27 => ?_) (fun c27 => ?_)
    ·
      replace hw := hw.1 c27
      refine lv_aload_n hx hb dX3_goBack_150 rfl (lv_at hl 0 rfl) ?_
      refine lv_aload_n hx hb dX3_goBack_151 rfl (lv_at hl 0 rfl) ?_
      refine gfX3_kept hx hb hts hK hP hown (hts _ tw_109) dX3_goBack_152 ?_
      refine lv_iconst (v := I 0) hx hb dX3_goBack_155 rfl ?_
      refine ldCX3_kept hx hb hK hP hN (by decide) dX3_goBack_156 (fun x28 r_x28 e_x28 => ?_)
      replace hw := hw x28 r_x28 e_x28
      refine pfX3_statements hx hb hts hK hP hD hS hown (hts _ tw_106) dX3_goBack_157 (fun H locs hP hD hS => ?_)
      have hN : n_m (s_v τ 7 x28) := n_v (i := 7) hN (r_x28 : rg x28)
      have hF : f_r [3, 4, 5, 6, 7] [6, 9, 10] [] σ (s_v τ 7 x28) := f_v hF (by decide)
      refine lv_aload_n hx hb dX3_goBack_160 rfl (lv_at hl 0 rfl) ?_
      refine lv_aload_n hx hb dX3_goBack_161 rfl (lv_at hl 0 rfl) ?_
      refine gfX3_kept hx hb hts hK hP hown (hts _ tw_109) dX3_goBack_162 ?_
      refine lv_iconst (v := I 1) hx hb dX3_goBack_165 rfl ?_
      refine ldCX3_kept hx hb hK hP hN (by decide) dX3_goBack_166 (fun x29 r_x29 e_x29 => ?_)
      replace hw := hw x29 r_x29 e_x29
      refine pfX3_symbols hx hb hts hK hP hD hS hown (hts _ tw_64) dX3_goBack_167 (fun H locs hP hD hS => ?_)
      have hN : n_m (s_v (s_v τ 7 x28) 5 x29) := n_v (i := 5) hN (r_x29 : rg x29)
      have hF : f_r [3, 4, 5, 6, 7] [6, 9, 10] [] σ (s_v (s_v τ 7 x28) 5 x29) := f_v hF (by decide)
      refine lv_aload_n hx hb dX3_goBack_170 rfl (lv_at hl 0 rfl) ?_
      refine lv_aload_n hx hb dX3_goBack_171 rfl (lv_at hl 0 rfl) ?_
      refine gfX3_kept hx hb hts hK hP hown (hts _ tw_109) dX3_goBack_172 ?_
      refine lv_iconst (v := I 2) hx hb dX3_goBack_175 rfl ?_
      refine ldCX3_kept hx hb hK hP hN (by decide) dX3_goBack_176 (fun x30 r_x30 e_x30 => ?_)
      replace hw := hw x30 r_x30 e_x30
      refine pfX3_names hx hb hts hK hP hD hS hown (hts _ tw_43) dX3_goBack_177 (fun H locs hP hD hS => ?_)
      have hN : n_m (s_v (s_v (s_v τ 7 x28) 5 x29) 3 x30) := n_v (i := 3) hN (r_x30 : rg x30)
      have hF : f_r [3, 4, 5, 6, 7] [6, 9, 10] [] σ (s_v (s_v (s_v τ 7 x28) 5 x29) 3 x30) := f_v hF (by decide)
      refine lv_aload_n hx hb dX3_goBack_180 rfl (lv_at hl 0 rfl) ?_
      refine lv_aload_n hx hb dX3_goBack_181 rfl (lv_at hl 0 rfl) ?_
      refine gfX3_kept hx hb hts hK hP hown (hts _ tw_109) dX3_goBack_182 ?_
      refine lv_iconst (v := I 3) hx hb dX3_goBack_185 rfl ?_
      refine ldCX3_kept hx hb hK hP hN (by decide) dX3_goBack_186 (fun x31 r_x31 e_x31 => ?_)
      replace hw := hw x31 r_x31 e_x31
      refine pfX3_ranks hx hb hts hK hP hD hS hown (hts _ tw_61) dX3_goBack_187 (fun H locs hP hD hS => ?_)
      have hN : n_m (s_v (s_v (s_v (s_v τ 7 x28) 5 x29) 3 x30) 4 x31) := n_v (i := 4) hN (r_x31 : rg x31)
      have hF : f_r [3, 4, 5, 6, 7] [6, 9, 10] [] σ (s_v (s_v (s_v (s_v τ 7 x28) 5 x29) 3 x30) 4 x31) := f_v hF (by decide)
      refine lv_aload_n hx hb dX3_goBack_190 rfl (lv_at hl 0 rfl) ?_
      refine lv_aload_n hx hb dX3_goBack_191 rfl (lv_at hl 0 rfl) ?_
      refine gfX3_kept hx hb hts hK hP hown (hts _ tw_109) dX3_goBack_192 ?_
      refine lv_iconst (v := I 4) hx hb dX3_goBack_195 rfl ?_
      refine ldCX3_kept hx hb hK hP hN (by decide) dX3_goBack_196 (fun x32 r_x32 e_x32 => ?_)
      replace hw := hw x32 r_x32 e_x32
      refine pfX3_used hx hb hts hK hP hD hS hown (hts _ tw_101) dX3_goBack_197 (fun H locs hP hD hS => ?_)
      have hN : n_m (s_v (s_v (s_v (s_v (s_v τ 7 x28) 5 x29) 3 x30) 4 x31) 6 x32) := n_v (i := 6) hN (r_x32 : rg x32)
      have hF : f_r [3, 4, 5, 6, 7] [6, 9, 10] [] σ (s_v (s_v (s_v (s_v (s_v τ 7 x28) 5 x29) 3 x30) 4 x31) 6 x32) := f_v hF (by decide)
      exact xrv hx hb hr hlk hP hK hD hS ⟨_, hN, hF, rfl, hw⟩ (Nat.le_of_ble_eq_true rfl) (Nat.le_of_ble_eq_true rfl) dX3_goBack_200
    ·
      replace hw := hw.2 c27
      refine lv_aload_n hx hb dX3_goBack_105 rfl (lv_at hl 0 rfl) ?_
      refine gfX3_heads hx hb hts hK hP hown (hts _ tw_42) dX3_goBack_106 ?_
      refine lv_aload_n hx hb dX3_goBack_109 rfl (lv_at hl 0 rfl) ?_
      refine gfX3_letters hx hb hts hK hP hown (hts _ tw_36) dX3_goBack_110 ?_
      refine lv_aload_n hx hb dX3_goBack_113 rfl (lv_at hl 0 rfl) ?_
      refine gfX3_nameAt hx hb hts hK hP hown (hts _ tw_38) dX3_goBack_114 ?_
      refine lv_iload_n hx hb dX3_goBack_117 rfl (lv_at hl 1 rfl) ?_
      obtain ⟨c33, hw⟩ := hw
      refine ldCX3_nameAt hx hb hK hP hN c33 dX3_goBack_118 (fun x34 r_x34 e_x34 => ?_)
      replace hw := hw x34 r_x34 e_x34
      refine lv_aload_n hx hb dX3_goBack_119 rfl (lv_at hl 0 rfl) ?_
      refine gfX3_nameAt hx hb hts hK hP hown (hts _ tw_38) dX3_goBack_120 ?_
      refine lv_iload_n hx hb dX3_goBack_123 rfl (lv_at hl 1 rfl) ?_
      refine lv_iconst (v := I 1) hx hb dX3_goBack_124 rfl ?_
      refine bi_iadd hx hb dX3_goBack_125 ?_
      obtain ⟨c35, hw⟩ := hw
      refine ldCX3_nameAt hx hb hK hP hN c35 dX3_goBack_126 (fun x36 r_x36 e_x36 => ?_)
      replace hw := hw x36 r_x36 e_x36
      refine lv_aload_n hx hb dX3_goBack_127 rfl (lv_at hl 0 rfl) ?_
      refine gfX3_nameAt hx hb hts hK hP hown (hts _ tw_38) dX3_goBack_128 ?_
      refine lv_iload_n hx hb dX3_goBack_131 rfl (lv_at hl 1 rfl) ?_
      refine ldCX3_nameAt hx hb hK hP hN c33 dX3_goBack_132 (fun x37 r_x37 e_x37 => ?_)
      replace hw := hw x37 r_x37 e_x37
      refine bi_isub hx hb dX3_goBack_133 ?_
      obtain ⟨c38, hw⟩ := hw
      obtain ⟨Q39, hc, hw⟩ := hw
      refine wc_i (X := CX g q lb) (va_runS (As := [.ref (q 15), .int (I x34), .int (I (x36 - x37))]) (rest := [.ref (q 19)]) ⟨hx, hb, hml, hown, hts⟩ (L_X3_bucket_q15 l g q lb hlb r_x34 c38 hN hc H.size) (cwS 3 hts (TB_S tw_1107 tw_1108 tw_2 co_X3_bucket) rfl rfl rfl (by decide +kernel) ⟨Nat.le_of_ble_eq_true rfl, Nat.le_of_ble_eq_true rfl⟩) (preS xT_bl hP hK hNb hD xT_at) rfl rfl hl.1 rfl (lv_room (Nat.le_of_ble_eq_true rfl)) dX3_goBack_134 ⟨Nat.le_of_ble_eq_true rfl, Nat.le_of_ble_eq_true rfl⟩) hP hD hS hA (fun x40 H locs r_x40 hq hP hD hS => ?_)
      replace hw := hw x40 r_x40 hq
      refine lv_aload_n hx hb dX3_goBack_137 rfl (lv_at hl 0 rfl) ?_
      refine gfX3_nextName hx hb hts hK hP hown (hts _ tw_41) dX3_goBack_138 ?_
      refine lv_iload_n hx hb dX3_goBack_141 rfl (lv_at hl 1 rfl) ?_
      obtain ⟨c42, hw⟩ := hw
      refine ldCX3_nextName hx hb hK hP hN c42 dX3_goBack_142 (fun x43 r_x43 e_x43 => ?_)
      replace hw := hw x43 r_x43 e_x43
      obtain ⟨c44, hw⟩ := hw
      refine sdCX3_heads hx hb hK hP hD hS c44 dX3_goBack_143 (fun H locs hP hD hS => ?_)
      have hN : n_m (s_a τ 6 x40 x43) := n_a (k := 6) (j := x40) hN (r_x43 : rg x43)
      have hF : f_r [3, 4, 5, 6, 7] [6, 9, 10] [] σ (s_a τ 6 x40 x43) := f_a hF (by decide)
      refine lv_iinc (v := I (u1 + (-1))) (lv' := [(1, .int (I (u1 + (-1)))), (0, .ref (q 1))]) hx hb dX3_goBack_144 hl (k := 1) rfl (I_add _ _) (by decide) rfl (fun ls hl => ?_)
      refine lv_goto (tgt := 95) hx hb dX3_goBack_147 (by decide) ?_
      obtain ⟨c45, hw⟩ := hw
      exact (hP95 _ _).mp hw c45 hN hF H locs ls hP hD hS (lv_sub hl [1, 0] rfl)
def W_J7_rangeCheck_23922 (n0 : Int) (n1 : Int) (n2 : Int) (σ : S0) (Q : S0 → Prop) : Prop :=
  (n1 ≤ n2 → (0 ≤ n1 → (n2 ≤ n0 → Q σ) ∧ (n0 < n2 → False)) ∧ (n1 < 0 → False)) ∧ (n2 < n1 → False)
set_option maxRecDepth 100000 in
set_option maxHeartbeats 4000000 in
theorem L_J7_rangeCheck_23922 (l : Launch) (g : gG) (q : Nat → Nat) (lb : Nat) (hlb : lb < 2 ^ 31) {n0 : Int} {n1 : Int} {n2 : Int} {σ : S0} {Q : S0 → Prop} (r_n0 : rg n0) (r_n1 : rg n1) (r_n2 : rg n2) (hN : n_m σ) (hw : W_J7_rangeCheck_23922 n0 n1 n2 σ Q) (sz : Nat) : MetV l yJ7_rangeCheck_23922 cJ7_rangeCheck_23922 3 { frames := 0, cells := 0, slots := 0, locals := 0 } g [.int (I n0), .int (I n1), .int (I n2)] (CX g q lb σ) sz xT (p_V (CX g q lb) [] [] [] σ Q) 0 0 := by
  refine mkMet (Qc := fun A => QV g A (p_V (CX g q lb) [] [] [] σ Q)) (by decide) (Nat.le_of_ble_eq_true rfl) ?_
  intro p e s m below meth c A H ls hx hb hr hml hown hts hlk hnm hsz hP hK hNb hD hA hAe hS hX hl
  have hl : lv_has ls 3 [(0, .int (I n0)), (1, .int (I n1)), (2, .int (I n2))] := hl
  have hB := hN
  obtain ⟨locs, hlocs⟩ : ∃ z : List Loc, z = [] := ⟨_, rfl⟩
  rw [← hlocs] at hS ⊢
  refine lv_iload_n hx hb dJ7_rangeCheck_23922_0 rfl (lv_at hl 1 rfl) ?_
  refine lv_iload_n hx hb dJ7_rangeCheck_23922_1 rfl (lv_at hl 2 rfl) ?_
  refine bi_icmp_le (tgt := 46) hx hb r_n1 r_n2 dJ7_rangeCheck_23922_2 (by decide) (fun c1 => ?_) (fun c1 => ?_)
  ·
    replace hw := hw.1 c1
    refine lv_iload_n hx hb dJ7_rangeCheck_23922_46 rfl (lv_at hl 1 rfl) ?_
    refine bi_if_ge (tgt := 59) hx hb r_n1 dJ7_rangeCheck_23922_47 (by decide) (fun c2 => ?_) (fun c2 => ?_)
    ·
      replace hw := hw.1 c2
      refine lv_iload_n hx hb dJ7_rangeCheck_23922_59 rfl (lv_at hl 2 rfl) ?_
      refine lv_iload_n hx hb dJ7_rangeCheck_23922_60 rfl (lv_at hl 0 rfl) ?_
      refine bi_icmp_le (tgt := 73) hx hb r_n2 r_n0 dJ7_rangeCheck_23922_61 (by decide) (fun c3 => ?_) (fun c3 => ?_)
      ·
        replace hw := hw.1 c3
        exact xrv hx hb hr hlk hP hK hD hS ⟨_, hN, f_0, rfl, hw⟩ (Nat.le_of_ble_eq_true rfl) (Nat.le_of_ble_eq_true rfl) dJ7_rangeCheck_23922_73
      ·
        replace hw := hw.2 c3
        exact hw.elim
    ·
      replace hw := hw.2 c2
      exact hw.elim
  ·
    replace hw := hw.2 c1
    exact hw.elim
def W_J7_fill_fda19_q72 (n1 : Int) (n2 : Int) (n3 : Int) (σ : S0) (Q : S0 → Prop) : Prop :=
  ∀ (P10 : Int → Int → Int → S0 → Prop),
  (∀ (u2 : Int) (u3 : Int) (u4 : Int) (τ : S0), ((u2 ≤ u4 → Q τ) ∧ (u4 < u2 → (0 ≤ u4 ∧ u4 < 32768) ∧ (rg (u4 + 1) ∧ P10 u2 u3 (u4 + 1) (s_a τ 56 u4 u3)))) → P10 u2 u3 u4 τ) →
  ∃ (Q1 : S0 → Prop), W_J7_rangeCheck_23922 32768 n1 n2 σ Q1 ∧ ∀ (τ3 : S0), n_m τ3 → f_r [] [] [] σ τ3 → Q1 τ3 → (P10 n2 n3 n1 τ3)
set_option maxRecDepth 100000 in
set_option maxHeartbeats 4000000 in
theorem L_J7_fill_fda19_q72 (l : Launch) (g : gG) (q : Nat → Nat) (lb : Nat) (hlb : lb < 2 ^ 31) {n1 : Int} {n2 : Int} {n3 : Int} {σ : S0} {Q : S0 → Prop} (r_n1 : rg n1) (r_n2 : rg n2) (r_n3 : rg n3) (hN : n_m σ) (hw : W_J7_fill_fda19_q72 n1 n2 n3 σ Q) (sz : Nat) : MetV l yJ7_fill_fda19 cJ7_fill_fda19 5 { frames := 1, cells := 0, slots := 0, locals := 22 } g [.ref (q 72), .int (I n1), .int (I n2), .int (I n3)] (CX g q lb σ) sz xT (p_V (CX g q lb) [] [56] [] σ Q) 0 0 := by
  refine mkMet (Qc := fun A => QV g A (p_V (CX g q lb) [] [56] [] σ Q)) (by decide) (Nat.le_of_ble_eq_true rfl) ?_
  intro p e s m below meth c A H ls hx hb hr hml hown hts hlk hnm hsz hP hK hNb hD hA hAe hS hX hl
  have hl : lv_has ls 5 [(0, .ref (q 72)), (1, .int (I n1)), (2, .int (I n2)), (3, .int (I n3))] := hl
  have hB := hN
  have hF : f_r [] [56] [] σ σ := f_0
  obtain ⟨locs, hlocs⟩ : ∃ z : List Loc, z = [] := ⟨_, rfl⟩
  rw [← hlocs] at hS ⊢
  obtain ⟨P10, hP10⟩ : ∃ P : Int → Int → Int → S0 → Prop, ∀ (u2 : Int) (u3 : Int) (u4 : Int) (τ : S0), (P u2 u3 u4 τ ↔ (rg u2 → rg u3 → rg u4 → n_m τ → f_r [] [56] [] σ τ → ∀ (H : Heap) (locs : List Loc) (ls : Array Slot), KP g (CX g q lb τ) H → va_D A (CX g q lb τ) → va_S A s.heap H locs → lv_has ls 5 [(0, .ref (q 72)), (2, .int (I u2)), (3, .int (I u3)), (4, .int (I u4))] → W p l e ({ frames := 1, cells := 0, slots := 0, locals := 22 }) s m [.ref (q 72), .int (I n1), .int (I n2), .int (I n3)].toArray below meth c H locs 0 0 (MQ below (QV g A (p_V (CX g q lb) [] [56] [] σ Q)) [.ref (q 72), .int (I n1), .int (I n2), .int (I n3)].toArray s 0 0 A) (F0 m 10 ls []))) := ⟨_, fun _ _ _ _ => Iff.rfl⟩
  refine (fun hw => ?_) (hw P10 ?_)
  ·
    refine lv_aload_n hx hb dJ7_fill_fda19_0 rfl (lv_at hl 0 rfl) ?_
    refine va_alen hx hb hK hP 72 0 rfl rfl (v := I 32768) rfl dJ7_fill_fda19_1 ?_
    refine lv_iload_n hx hb dJ7_fill_fda19_2 rfl (lv_at hl 1 rfl) ?_
    refine lv_iload_n hx hb dJ7_fill_fda19_3 rfl (lv_at hl 2 rfl) ?_
    obtain ⟨Q1, hc, hw⟩ := hw
    refine wc_V (X := CX g q lb) (va_runS (As := [.int (I 32768), .int (I n1), .int (I n2)]) (rest := []) ⟨hx, hb, hml, hown, hts⟩ (L_J7_rangeCheck_23922 l g q lb hlb (by decide) r_n1 r_n2 hN hc H.size) (cwS 3 hts (TB_S tw_1573 tw_1574 tw_4 co_J7_rangeCheck_23922) rfl rfl rfl (by decide +kernel) ⟨Nat.le_of_ble_eq_true rfl, Nat.le_of_ble_eq_true rfl⟩) (preS xT_bl hP hK hNb hD xT_at) rfl rfl hl.1 rfl (lv_room (Nat.le_of_ble_eq_true rfl)) dJ7_fill_fda19_4 ⟨Nat.le_of_ble_eq_true rfl, Nat.le_of_ble_eq_true rfl⟩) hP hD hS hA (fun τ3 H locs hN hf hq hP hD hS => ?_)
    replace hw := hw τ3 hN hf hq
    have hF : f_r [] [56] [] σ τ3 := f_t hF hf (by decide) (by decide) (by decide)
    have hB := hN
    refine lv_iload_n hx hb dJ7_fill_fda19_7 rfl (lv_at hl 1 rfl) ?_
    refine lv_istore (lv' := [(4, .int (I n1)), (0, .ref (q 72)), (1, .int (I n1)), (2, .int (I n2)), (3, .int (I n3))]) hx hb dJ7_fill_fda19_8 hl (by decide) rfl (fun ls hl => ?_)
    exact (hP10 _ _ _ _).mp hw r_n2 r_n3 r_n1 hN hF H locs ls hP hD hS (lv_sub hl [1, 3, 4, 0] rfl)
  ·
    intro u2 u3 u4 τ hw
    refine (hP10 _ _ _ _).mpr ?_
    intro r_u2 r_u3 r_u4 hN hF H locs ls hP hD hS hl
    have hB := hN
    refine lv_iload hx hb dJ7_fill_fda19_10 (lv_at hl 3 rfl) ?_
    refine lv_iload_n hx hb dJ7_fill_fda19_12 rfl (lv_at hl 1 rfl) ?_
    refine bi_icmp_ge (tgt := 27) hx hb r_u4 r_u2 dJ7_fill_fda19_13 (by decide) (fun c4 => ?_) (fun c4 => ?_)
    ·
      replace hw := hw.1 c4
      exact xrv hx hb hr hlk hP hK hD hS ⟨_, hN, hF, rfl, hw⟩ (Nat.le_of_ble_eq_true rfl) (Nat.le_of_ble_eq_true rfl) dJ7_fill_fda19_27
    ·
      replace hw := hw.2 c4
      refine lv_aload_n hx hb dJ7_fill_fda19_16 rfl (lv_at hl 0 rfl) ?_
      refine lv_iload hx hb dJ7_fill_fda19_17 (lv_at hl 3 rfl) ?_
      refine lv_iload_n hx hb dJ7_fill_fda19_19 rfl (lv_at hl 2 rfl) ?_
      obtain ⟨c5, hw⟩ := hw
      refine sdCX4_heads hx hb hK hP hD hS c5 dJ7_fill_fda19_20 (fun H locs hP hD hS => ?_)
      have hN : n_m (s_a τ 56 u4 u3) := n_a (k := 56) (j := u4) hN (r_u3 : rg u3)
      have hF : f_r [] [56] [] σ (s_a τ 56 u4 u3) := f_a hF (by decide)
      refine lv_iinc (v := I (u4 + 1)) (lv' := [(4, .int (I (u4 + 1))), (0, .ref (q 72)), (2, .int (I u2)), (3, .int (I u3))]) hx hb dJ7_fill_fda19_21 hl (k := 3) rfl (I_add _ _) (by decide) rfl (fun ls hl => ?_)
      refine lv_goto (tgt := 10) hx hb dJ7_fill_fda19_24 (by decide) ?_
      obtain ⟨c6, hw⟩ := hw
      exact (hP10 _ _ _ _).mp hw r_u2 r_u3 c6 hN hF H locs ls hP hD hS (lv_sub hl [1, 2, 3, 0] rfl)
