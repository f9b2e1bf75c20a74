-- methods told as propositions, and tied to the machine
def W_X7_faultAtEnd (σ : S0) (Q : Int → Prop) : Prop :=
  (σ.1 34 = 0 → (¬ σ.1 35 = 0 → Q 4) ∧ (σ.1 35 = 0 → (σ.1 11 ≤ 0 → Q 0) ∧ (0 < σ.1 11 → Q 4))) ∧ (¬ σ.1 34 = 0 → Q 2)
set_option maxRecDepth 100000 in
set_option maxHeartbeats 4000000 in
theorem L_X7_faultAtEnd (l : Launch) (g : gG) (q : Nat → Nat) (lb : Nat) (hlb : lb < 2 ^ 31) {σ : S0} {Q : Int → Prop} (hN : n_m σ) (hw : W_X7_faultAtEnd σ Q) (sz : Nat) : MetI l yX7_faultAtEnd cX7_faultAtEnd 1 (some .int) { frames := 0, cells := 0, slots := 0, locals := 0 } g [.ref (q 6)] (CX g q lb σ) sz xT (p_i (CX g q lb) σ Q) 0 0 := by
  refine mkMet (Qc := fun A => QI g A (p_i (CX g q lb) σ Q)) (by decide) (Nat.le_of_ble_eq_true rfl) ?_
  intro p e s m below meth c A H ls hx hb hr hml hown hts hlk hnm hsz hP hK hNb hD hA hAe hS hX hl
  have hl : lv_has ls 1 [(0, .ref (q 6))] := hl
  have hB := hN
  obtain ⟨locs, hlocs⟩ : ∃ z : List Loc, z = [] := ⟨_, rfl⟩
  rw [← hlocs] at hS ⊢
  refine lv_aload_n hx hb dX7_faultAtEnd_0 rfl (lv_at hl 0 rfl) ?_
  refine gfX7_comment hx hb hts hK hP hown (hts _ tw_492) (x := σ.1 34) rfl dX7_faultAtEnd_1 ?_
  refine bi_if_eq (tgt := 9) hx hb (hB.1 34) dX7_faultAtEnd_4 (by decide) (fun c1 => ?_) (fun c1 => ?_)
  ·
    replace hw := hw.1 c1
    refine lv_aload_n hx hb dX7_faultAtEnd_9 rfl (lv_at hl 0 rfl) ?_
    refine gfX7_state hx hb hts hK hP hown (hts _ tw_493) (x := σ.1 35) rfl dX7_faultAtEnd_10 ?_
    refine bi_if_ne (tgt := 26) hx hb (hB.1 35) dX7_faultAtEnd_13 (by decide) (fun c2 => ?_) (fun c2 => ?_)
    ·
      replace hw := hw.1 c2
      refine lv_iconst (v := I 4) hx hb dX7_faultAtEnd_26 rfl ?_
      refine lv_goto (tgt := 31) hx hb dX7_faultAtEnd_27 (by decide) ?_
      exact xri hx hb hr hlk hP hK hD hS ⟨_, (by decide), rfl, rfl, hw⟩ (Nat.le_of_ble_eq_true rfl) (Nat.le_of_ble_eq_true rfl) dX7_faultAtEnd_31
    ·
      replace hw := hw.2 c2
      refine lv_aload_n hx hb dX7_faultAtEnd_16 rfl (lv_at hl 0 rfl) ?_
      refine gfX7_scopes hx hb hts hK hP hown (hts _ tw_486) dX7_faultAtEnd_17 ?_
      refine gfNX9_depth hx hb hts hK hP hown (nb_use hNb tn_187) (x := σ.1 11) rfl dX7_faultAtEnd_20 ?_
      refine bi_if_le (tgt := 30) hx hb (hB.1 11) dX7_faultAtEnd_23 (by decide) (fun c3 => ?_) (fun c3 => ?_)
      ·
        replace hw := hw.1 c3
        refine lv_iconst (v := I 0) hx hb dX7_faultAtEnd_30 rfl ?_
        exact xri hx hb hr hlk hP hK hD hS ⟨_, (by decide), rfl, rfl, hw⟩ (Nat.le_of_ble_eq_true rfl) (Nat.le_of_ble_eq_true rfl) dX7_faultAtEnd_31
      ·
        replace hw := hw.2 c3
        refine lv_iconst (v := I 4) hx hb dX7_faultAtEnd_26 rfl ?_
        refine lv_goto (tgt := 31) hx hb dX7_faultAtEnd_27 (by decide) ?_
        exact xri hx hb hr hlk hP hK hD hS ⟨_, (by decide), rfl, rfl, hw⟩ (Nat.le_of_ble_eq_true rfl) (Nat.le_of_ble_eq_true rfl) dX7_faultAtEnd_31
  ·
    replace hw := hw.2 c1
    refine lv_iconst (v := I 2) hx hb dX7_faultAtEnd_7 rfl ?_
    exact xri hx hb hr hlk hP hK hD hS ⟨_, (by decide), rfl, rfl, hw⟩ (Nat.le_of_ble_eq_true rfl) (Nat.le_of_ble_eq_true rfl) dX7_faultAtEnd_8
def W_X7_hasDollar (n1 : Int) (n2 : Int) (σ : S0) (Q : Int → Prop) : Prop :=
  ∀ (P2 : Int → Int → Int → Prop),
  (∀ (u1 : Int) (u2 : Int) (u3 : Int), (rg (u1 + u2) ∧ ((u1 + u2) ≤ u3 → Q 0) ∧ (u3 < (u1 + u2) → (¬ σ.1 66 = 0) ∧ ((0 ≤ u3 ∧ u3 < 60000) ∧ (∀ (x5 : Int), rg x5 → x5 = σ.2.1 0 u3 → ((¬ x5 = 36 → rg (u3 + 1) ∧ P2 u1 u2 (u3 + 1)) ∧ (x5 = 36 → Q 1)))))) → P2 u1 u2 u3) →
  P2 n1 n2 n1
set_option maxRecDepth 100000 in
set_option maxHeartbeats 4000000 in
theorem L_X7_hasDollar (l : Launch) (g : gG) (q : Nat → Nat) (lb : Nat) (hlb : lb < 2 ^ 31) {n1 : Int} {n2 : Int} {σ : S0} {Q : Int → Prop} (r_n1 : rg n1) (r_n2 : rg n2) (hN : n_m σ) (hw : W_X7_hasDollar n1 n2 σ Q) (sz : Nat) : MetI l yX7_hasDollar cX7_hasDollar 4 (some .boolean) { frames := 0, cells := 0, slots := 0, locals := 0 } g [.ref (q 6), .int (I n1), .int (I n2)] (CX g q lb σ) sz xT (p_i (CX g q lb) σ Q) 0 0 := by
  refine mkMet (Qc := fun A => QI g A (p_i (CX g q lb) σ Q)) (by decide) (Nat.le_of_ble_eq_true rfl) ?_
  intro p e s m below meth c A H ls hx hb hr hml hown hts hlk hnm hsz hP hK hNb hD hA hAe hS hX hl
  have hl : lv_has ls 4 [(0, .ref (q 6)), (1, .int (I n1)), (2, .int (I n2))] := hl
  have hB := hN
  obtain ⟨locs, hlocs⟩ : ∃ z : List Loc, z = [] := ⟨_, rfl⟩
  rw [← hlocs] at hS ⊢
  obtain ⟨P2, hP2⟩ : ∃ P : Int → Int → Int → Prop, ∀ (u1 : Int) (u2 : Int) (u3 : Int), (P u1 u2 u3 ↔ (rg u1 → rg u2 → rg u3 → ∀ (H : Heap) (locs : List Loc) (ls : Array Slot), KP g (CX g q lb σ) H → va_D A (CX g q lb σ) → va_S A s.heap H locs → lv_has ls 4 [(0, .ref (q 6)), (1, .int (I u1)), (2, .int (I u2)), (3, .int (I u3))] → W p l e ({ frames := 0, cells := 0, slots := 0, locals := 0 }) s m [.ref (q 6), .int (I n1), .int (I n2)].toArray below meth c H locs 0 0 (MQ below (QI g A (p_i (CX g q lb) σ Q)) [.ref (q 6), .int (I n1), .int (I n2)].toArray s 0 0 A) (F0 m 2 ls []))) := ⟨_, fun _ _ _ => Iff.rfl⟩
  refine (fun hw => ?_) (hw P2 ?_)
  ·
    refine lv_iload_n hx hb dX7_hasDollar_0 rfl (lv_at hl 1 rfl) ?_
    refine lv_istore_n (lv' := [(3, .int (I n1)), (0, .ref (q 6)), (1, .int (I n1)), (2, .int (I n2))]) hx hb dX7_hasDollar_1 rfl hl (by decide) rfl (fun ls hl => ?_)
    exact (hP2 _ _ _).mp hw r_n1 r_n2 r_n1  H locs ls hP hD hS (lv_sub hl [1, 2, 3, 0] rfl)
  ·
    intro u1 u2 u3 hw
    refine (hP2 _ _ _).mpr ?_
    intro r_u1 r_u2 r_u3 H locs ls hP hD hS hl
    refine lv_iload_n hx hb dX7_hasDollar_2 rfl (lv_at hl 3 rfl) ?_
    refine lv_iload_n hx hb dX7_hasDollar_3 rfl (lv_at hl 1 rfl) ?_
    refine lv_iload_n hx hb dX7_hasDollar_4 rfl (lv_at hl 2 rfl) ?_
    refine bi_iadd hx hb dX7_hasDollar_5 ?_
    obtain ⟨c1, hw⟩ := hw
    refine bi_icmp_ge (tgt := 28) hx hb r_u3 c1 dX7_hasDollar_6 (by decide) (fun c2 => ?_) (fun c2 => ?_)
    ·
      replace hw := hw.1 c2
      refine lv_iconst (v := I 0) hx hb dX7_hasDollar_28 rfl ?_
      exact xrz hx hb hr (by decide) hlk hP hK hD hS ⟨_, (by decide), rfl, rfl, hw⟩ (Nat.le_of_ble_eq_true rfl) (Nat.le_of_ble_eq_true rfl) dX7_hasDollar_29
    ·
      replace hw := hw.2 c2
      refine lv_aload_n hx hb dX7_hasDollar_9 rfl (lv_at hl 0 rfl) ?_
      obtain ⟨c3, hw⟩ := hw
      refine gfX7_source hx hb hts hK hP hown (hts _ tw_489) c3 dX7_hasDollar_10 ?_
      refine lv_iload_n hx hb dX7_hasDollar_13 rfl (lv_at hl 3 rfl) ?_
      obtain ⟨c4, hw⟩ := hw
      refine ldCX12_tape hx hb hK hP hN c4 dX7_hasDollar_14 (fun x5 r_x5 e_x5 => ?_)
      replace hw := hw x5 r_x5 e_x5
      refine lv_bipush (v := I 36) hx hb dX7_hasDollar_15 (by decide) ?_
      refine bi_icmp_ne (tgt := 22) hx hb r_x5 (by decide) dX7_hasDollar_17 (by decide) (fun c6 => ?_) (fun c6 => ?_)
      ·
        replace hw := hw.1 c6
        refine lv_iinc (v := I (u3 + 1)) (lv' := [(3, .int (I (u3 + 1))), (0, .ref (q 6)), (1, .int (I u1)), (2, .int (I u2))]) hx hb dX7_hasDollar_22 hl (k := 3) rfl (I_add _ _) (by decide) rfl (fun ls hl => ?_)
        refine lv_goto (tgt := 2) hx hb dX7_hasDollar_25 (by decide) ?_
        obtain ⟨c7, hw⟩ := hw
        exact (hP2 _ _ _).mp hw r_u1 r_u2 c7  H locs ls hP hD hS (lv_sub hl [1, 2, 3, 0] rfl)
      ·
        replace hw := hw.2 c6
        refine lv_iconst (v := I 1) hx hb dX7_hasDollar_20 rfl ?_
        exact xrz hx hb hr (by decide) hlk hP hK hD hS ⟨_, (by decide), rfl, rfl, hw⟩ (Nat.le_of_ble_eq_true rfl) (Nat.le_of_ble_eq_true rfl) dX7_hasDollar_21
def W_X3_bucket_q13 (n1 : Int) (n2 : Int) (σ : S0) (Q : Int → Prop) : Prop :=
  ∀ (P5 : Int → Int → Int → Int → Prop),
  (∀ (u1 : Int) (u2 : Int) (u3 : Int) (u4 : Int), ((u2 ≤ u4 → ∀ (x2 : Int), rg x2 → x2 = h_u u3 12 → (∀ (x3 : Int), rg x3 → x3 = h_x u3 x2 → (Q (x3 % 4096)))) ∧ (u4 < u2 → (0 ≤ (u1 + u4) ∧ (u1 + u4) < 60000) ∧ (∀ (x5 : Int), rg x5 → x5 = σ.2.1 0 (u1 + u4) → (∀ (x6 : Int), rg x6 → x6 = h_s ((u3 * 31) + x5) → (rg (u4 + 1) ∧ P5 u1 u2 x6 (u4 + 1)))))) → P5 u1 u2 u3 u4) →
  P5 n1 n2 0 0
set_option maxRecDepth 100000 in
set_option maxHeartbeats 4000000 in
theorem L_X3_bucket_q13 (l : Launch) (g : gG) (q : Nat → Nat) (lb : Nat) (hlb : lb < 2 ^ 31) {n1 : Int} {n2 : Int} {σ : S0} {Q : Int → Prop} (r_n1 : rg n1) (r_n2 : rg n2) (hN : n_m σ) (hw : W_X3_bucket_q13 n1 n2 σ Q) (sz : Nat) : MetI l yX3_bucket cX3_bucket 5 (some .int) { frames := 0, cells := 0, slots := 0, locals := 0 } g [.ref (q 13), .int (I n1), .int (I n2)] (CX g q lb σ) sz xT (p_i (CX g q lb) σ Q) 0 0 := by
  refine mkMet (Qc := fun A => QI g A (p_i (CX g q lb) σ Q)) (by decide) (Nat.le_of_ble_eq_true rfl) ?_
  intro p e s m below meth c A H ls hx hb hr hml hown hts hlk hnm hsz hP hK hNb hD hA hAe hS hX hl
  have hl : lv_has ls 5 [(0, .ref (q 13)), (1, .int (I n1)), (2, .int (I n2))] := hl
  have hB := hN
  obtain ⟨locs, hlocs⟩ : ∃ z : List Loc, z = [] := ⟨_, rfl⟩
  rw [← hlocs] at hS ⊢
  obtain ⟨P5, hP5⟩ : ∃ P : Int → Int → Int → Int → Prop, ∀ (u1 : Int) (u2 : Int) (u3 : Int) (u4 : Int), (P u1 u2 u3 u4 ↔ (rg u1 → rg u2 → rg u3 → rg u4 → ∀ (H : Heap) (locs : List Loc) (ls : Array Slot), KP g (CX g q lb σ) H → va_D A (CX g q lb σ) → va_S A s.heap H locs → lv_has ls 5 [(0, .ref (q 13)), (1, .int (I u1)), (2, .int (I u2)), (3, .int (I u3)), (4, .int (I u4))] → W p l e ({ frames := 0, cells := 0, slots := 0, locals := 0 }) s m [.ref (q 13), .int (I n1), .int (I n2)].toArray below meth c H locs 0 0 (MQ below (QI g A (p_i (CX g q lb) σ Q)) [.ref (q 13), .int (I n1), .int (I n2)].toArray s 0 0 A) (F0 m 5 ls []))) := ⟨_, fun _ _ _ _ => Iff.rfl⟩
  refine (fun hw => ?_) (hw P5 ?_)
  ·
    refine lv_iconst (v := I 0) hx hb dX3_bucket_0 rfl ?_
    refine lv_istore_n (lv' := [(3, .int (I 0)), (0, .ref (q 13)), (1, .int (I n1)), (2, .int (I n2))]) hx hb dX3_bucket_1 rfl hl (by decide) rfl (fun ls hl => ?_)
    refine lv_iconst (v := I 0) hx hb dX3_bucket_2 rfl ?_
    refine lv_istore (lv' := [(4, .int (I 0)), (3, .int (I 0)), (0, .ref (q 13)), (1, .int (I n1)), (2, .int (I n2))]) hx hb dX3_bucket_3 hl (by decide) rfl (fun ls hl => ?_)
    exact (hP5 _ _ _ _).mp hw r_n1 r_n2 (by decide) (by decide)  H locs ls hP hD hS (lv_sub hl [2, 3, 4, 1, 0] rfl)
  ·
    intro u1 u2 u3 u4 hw
    refine (hP5 _ _ _ _).mpr ?_
    intro r_u1 r_u2 r_u3 r_u4 H locs ls hP hD hS hl
    refine lv_iload hx hb dX3_bucket_5 (lv_at hl 4 rfl) ?_
    refine lv_iload_n hx hb dX3_bucket_7 rfl (lv_at hl 2 rfl) ?_
    refine bi_icmp_ge (tgt := 29) hx hb r_u4 r_u2 dX3_bucket_8 (by decide) (fun c1 => ?_) (fun c1 => ?_)
    ·
      replace hw := hw.1 c1
      refine lv_iload_n hx hb dX3_bucket_29 rfl (lv_at hl 3 rfl) ?_
      refine lv_iload_n hx hb dX3_bucket_30 rfl (lv_at hl 3 rfl) ?_
      refine lv_bipush (v := I 12) hx hb dX3_bucket_31 (by decide) ?_
      refine lv_iushr (v := _) hx hb dX3_bucket_33 rfl ?_
      refine bi_hve (fun x2 r_x2 e_x2 => ?_)
      replace hw := hw x2 r_x2 e_x2
      refine lv_ixor hx hb dX3_bucket_34 ?_
      refine bi_hve (fun x3 r_x3 e_x3 => ?_)
      replace hw := hw x3 r_x3 e_x3
      refine lv_sipush (v := I 4095) hx hb dX3_bucket_35 (by decide) ?_
      refine bi_iandm hx hb 4095 12 4096 (by decide) (by decide) (by omega) dX3_bucket_38 ?_
      exact xri hx hb hr hlk hP hK hD hS ⟨_, (⟨by omega, by omega⟩ : rg (x3 % 4096)), rfl, rfl, hw⟩ (Nat.le_of_ble_eq_true rfl) (Nat.le_of_ble_eq_true rfl) dX3_bucket_39
    ·
      replace hw := hw.2 c1
      refine lv_iload_n hx hb dX3_bucket_11 rfl (lv_at hl 3 rfl) ?_
      refine lv_bipush (v := I 31) hx hb dX3_bucket_12 (by decide) ?_
      refine bi_imul hx hb dX3_bucket_14 ?_
      refine lv_aload_n hx hb dX3_bucket_15 rfl (lv_at hl 0 rfl) ?_
      refine lv_iload_n hx hb dX3_bucket_16 rfl (lv_at hl 1 rfl) ?_
      refine lv_iload hx hb dX3_bucket_17 (lv_at hl 4 rfl) ?_
      refine bi_iadd hx hb dX3_bucket_19 ?_
      obtain ⟨c4, hw⟩ := hw
      refine ldCX12_tape hx hb hK hP hN c4 dX3_bucket_20 (fun x5 r_x5 e_x5 => ?_)
      replace hw := hw x5 r_x5 e_x5
      refine bi_iadd hx hb dX3_bucket_21 ?_
      refine bi_hve (fun x6 r_x6 e_x6 => ?_)
      replace hw := hw x6 r_x6 e_x6
      refine lv_istore_n (lv' := [(3, .int (I x6)), (0, .ref (q 13)), (1, .int (I u1)), (2, .int (I u2)), (4, .int (I u4))]) hx hb dX3_bucket_22 rfl hl (by decide) rfl (fun ls hl => ?_)
      refine lv_iinc (v := I (u4 + 1)) (lv' := [(4, .int (I (u4 + 1))), (3, .int (I x6)), (0, .ref (q 13)), (1, .int (I u1)), (2, .int (I u2))]) hx hb dX3_bucket_23 hl (k := 4) rfl (I_add _ _) (by decide) rfl (fun ls hl => ?_)
      refine lv_goto (tgt := 5) hx hb dX3_bucket_26 (by decide) ?_
      obtain ⟨c7, hw⟩ := hw
      exact (hP5 _ _ _ _).mp hw r_u1 r_u2 r_x6 c7  H locs ls hP hD hS (lv_sub hl [2, 3, 4, 1, 0] rfl)
def W_X3_isName_q13 (n1 : Int) (n3 : Int) (n4 : Int) (σ : S0) (Q : Int → Prop) : Prop :=
  ∀ (P29 : Int → Int → Int → Int → Prop),
  (∀ (u3 : Int) (u4 : Int) (u5 : Int) (u6 : Int), ((u4 ≤ u6 → Q 1) ∧ (u6 < u4 → (0 ≤ (u5 + u6) ∧ (u5 + u6) < 30000) ∧ (∀ (x9 : Int), rg x9 → x9 = σ.2.1 2 (u5 + u6) → ((0 ≤ (u3 + u6) ∧ (u3 + u6) < 60000) ∧ (∀ (x11 : Int), rg x11 → x11 = σ.2.1 0 (u3 + u6) → ((x9 = x11 → rg (u6 + 1) ∧ P29 u3 u4 u5 (u6 + 1)) ∧ (¬ x9 = x11 → Q 0))))))) → P29 u3 u4 u5 u6) →
  (0 ≤ n1 ∧ n1 < 2501) ∧ (∀ (x2 : Int), rg x2 → x2 = σ.2.1 3 n1 → ((0 ≤ (n1 + 1) ∧ (n1 + 1) < 2501) ∧ (∀ (x4 : Int), rg x4 → x4 = σ.2.1 3 (n1 + 1) → (rg (x4 - x2) ∧ ((x4 - x2) = n4 → P29 n3 n4 x2 0) ∧ (¬ (x4 - x2) = n4 → Q 0)))))
set_option maxRecDepth 100000 in
set_option maxHeartbeats 4000000 in
theorem L_X3_isName_q13 (l : Launch) (g : gG) (q : Nat → Nat) (lb : Nat) (hlb : lb < 2 ^ 31) {n1 : Int} {n3 : Int} {n4 : Int} {σ : S0} {Q : Int → Prop} (r_n1 : rg n1) (r_n3 : rg n3) (r_n4 : rg n4) (hN : n_m σ) (hw : W_X3_isName_q13 n1 n3 n4 σ Q) (sz : Nat) : MetI l yX3_isName cX3_isName 7 (some .boolean) { frames := 0, cells := 0, slots := 0, locals := 0 } g [.ref (q 1), .int (I n1), .ref (q 13), .int (I n3), .int (I n4)] (CX g q lb σ) sz xT (p_i (CX g q lb) σ Q) 0 0 := by
  refine mkMet (Qc := fun A => QI g A (p_i (CX g q lb) σ Q)) (by decide) (Nat.le_of_ble_eq_true rfl) ?_
  intro p e s m below meth c A H ls hx hb hr hml hown hts hlk hnm hsz hP hK hNb hD hA hAe hS hX hl
  have hl : lv_has ls 7 [(0, .ref (q 1)), (1, .int (I n1)), (2, .ref (q 13)), (3, .int (I n3)), (4, .int (I n4))] := hl
  have hB := hN
  obtain ⟨locs, hlocs⟩ : ∃ z : List Loc, z = [] := ⟨_, rfl⟩
  rw [← hlocs] at hS ⊢
  obtain ⟨P29, hP29⟩ : ∃ P : Int → Int → Int → Int → Prop, ∀ (u3 : Int) (u4 : Int) (u5 : Int) (u6 : Int), (P u3 u4 u5 u6 ↔ (rg u3 → rg u4 → rg u5 → rg u6 → ∀ (H : Heap) (locs : List Loc) (ls : Array Slot), KP g (CX g q lb σ) H → va_D A (CX g q lb σ) → va_S A s.heap H locs → lv_has ls 7 [(0, .ref (q 1)), (2, .ref (q 13)), (3, .int (I u3)), (4, .int (I u4)), (5, .int (I u5)), (6, .int (I u6))] → W p l e ({ frames := 0, cells := 0, slots := 0, locals := 0 }) s m [.ref (q 1), .int (I n1), .ref (q 13), .int (I n3), .int (I n4)].toArray below meth c H locs 0 0 (MQ below (QI g A (p_i (CX g q lb) σ Q)) [.ref (q 1), .int (I n1), .ref (q 13), .int (I n3), .int (I n4)].toArray s 0 0 A) (F0 m 29 ls []))) := ⟨_, fun _ _ _ _ => Iff.rfl⟩
  refine (fun hw => ?_) (hw P29 ?_)
  ·
    refine lv_aload_n hx hb dX3_isName_0 rfl (lv_at hl 0 rfl) ?_
    refine gfX3_nameAt hx hb hts hK hP hown (hts _ tw_38) dX3_isName_1 ?_
    refine lv_iload_n hx hb dX3_isName_4 rfl (lv_at hl 1 rfl) ?_
    obtain ⟨c1, hw⟩ := hw
    refine ldCX3_nameAt hx hb hK hP hN c1 dX3_isName_5 (fun x2 r_x2 e_x2 => ?_)
    replace hw := hw x2 r_x2 e_x2
    refine lv_istore (lv' := [(5, .int (I x2)), (0, .ref (q 1)), (1, .int (I n1)), (2, .ref (q 13)), (3, .int (I n3)), (4, .int (I n4))]) hx hb dX3_isName_6 hl (by decide) rfl (fun ls hl => ?_)
    refine lv_aload_n hx hb dX3_isName_8 rfl (lv_at hl 1 rfl) ?_
    refine gfX3_nameAt hx hb hts hK hP hown (hts _ tw_38) dX3_isName_9 ?_
    refine lv_iload_n hx hb dX3_isName_12 rfl (lv_at hl 2 rfl) ?_
    refine lv_iconst (v := I 1) hx hb dX3_isName_13 rfl ?_
    refine bi_iadd hx hb dX3_isName_14 ?_
    obtain ⟨c3, hw⟩ := hw
    refine ldCX3_nameAt hx hb hK hP hN c3 dX3_isName_15 (fun x4 r_x4 e_x4 => ?_)
    replace hw := hw x4 r_x4 e_x4
    refine lv_iload hx hb dX3_isName_16 (lv_at hl 0 rfl) ?_
    refine bi_isub hx hb dX3_isName_18 ?_
    refine lv_iload hx hb dX3_isName_19 (lv_at hl 5 rfl) ?_
    obtain ⟨c5, hw⟩ := hw
    refine bi_icmp_eq (tgt := 26) hx hb c5 r_n4 dX3_isName_21 (by decide) (fun c6 => ?_) (fun c6 => ?_)
    ·
      replace hw := hw.1 c6
      refine lv_iconst (v := I 0) hx hb dX3_isName_26 rfl ?_
      refine lv_istore (lv' := [(6, .int (I 0)), (5, .int (I x2)), (0, .ref (q 1)), (1, .int (I n1)), (2, .ref (q 13)), (3, .int (I n3)), (4, .int (I n4))]) hx hb dX3_isName_27 hl (by decide) rfl (fun ls hl => ?_)
      exact (hP29 _ _ _ _).mp hw r_n3 r_n4 r_x2 (by decide)  H locs ls hP hD hS (lv_sub hl [2, 4, 5, 6, 1, 0] rfl)
    ·
      replace hw := hw.2 c6
      refine lv_iconst (v := I 0) hx hb dX3_isName_24 rfl ?_
      exact xrz hx hb hr (by decide) hlk hP hK hD hS ⟨_, (by decide), rfl, rfl, hw⟩ (Nat.le_of_ble_eq_true rfl) (Nat.le_of_ble_eq_true rfl) dX3_isName_25
  ·
    intro u3 u4 u5 u6 hw
    refine (hP29 _ _ _ _).mpr ?_
    intro r_u3 r_u4 r_u5 r_u6 H locs ls hP hD hS hl
    refine lv_iload hx hb dX3_isName_29 (lv_at hl 5 rfl) ?_
    refine lv_iload hx hb dX3_isName_31 (lv_at hl 3 rfl) ?_
    refine bi_icmp_ge (tgt := 63) hx hb r_u6 r_u4 dX3_isName_33 (by decide) (fun c7 => ?_) (fun c7 => ?_)
    ·
      replace hw := hw.1 c7
      refine lv_iconst (v := I 1) hx hb dX3_isName_63 rfl ?_
      exact xrz hx hb hr (by decide) hlk hP hK hD hS ⟨_, (by decide), rfl, rfl, hw⟩ (Nat.le_of_ble_eq_true rfl) (Nat.le_of_ble_eq_true rfl) dX3_isName_64
    ·
      replace hw := hw.2 c7
      refine lv_aload_n hx hb dX3_isName_36 rfl (lv_at hl 0 rfl) ?_
      refine gfX3_letters hx hb hts hK hP hown (hts _ tw_36) dX3_isName_37 ?_
      refine lv_iload hx hb dX3_isName_40 (lv_at hl 4 rfl) ?_
      refine lv_iload hx hb dX3_isName_42 (lv_at hl 5 rfl) ?_
      refine bi_iadd hx hb dX3_isName_44 ?_
      obtain ⟨c8, hw⟩ := hw
      refine ldCX3_letters hx hb hK hP hN c8 dX3_isName_45 (fun x9 r_x9 e_x9 => ?_)
      replace hw := hw x9 r_x9 e_x9
      refine lv_aload_n hx hb dX3_isName_46 rfl (lv_at hl 1 rfl) ?_
      refine lv_iload_n hx hb dX3_isName_47 rfl (lv_at hl 2 rfl) ?_
      refine lv_iload hx hb dX3_isName_48 (lv_at hl 5 rfl) ?_
      refine bi_iadd hx hb dX3_isName_50 ?_
      obtain ⟨c10, hw⟩ := hw
      refine ldCX12_tape hx hb hK hP hN c10 dX3_isName_51 (fun x11 r_x11 e_x11 => ?_)
      replace hw := hw x11 r_x11 e_x11
      refine bi_icmp_eq (tgt := 57) hx hb r_x9 r_x11 dX3_isName_52 (by decide) (fun c12 => ?_) (fun c12 => ?_)
      ·
        replace hw := hw.1 c12
        refine lv_iinc (v := I (u6 + 1)) (lv' := [(6, .int (I (u6 + 1))), (0, .ref (q 1)), (2, .ref (q 13)), (3, .int (I u3)), (4, .int (I u4)), (5, .int (I u5))]) hx hb dX3_isName_57 hl (k := 5) rfl (I_add _ _) (by decide) rfl (fun ls hl => ?_)
        refine lv_goto (tgt := 29) hx hb dX3_isName_60 (by decide) ?_
        obtain ⟨c13, hw⟩ := hw
        exact (hP29 _ _ _ _).mp hw r_u3 r_u4 r_u5 c13  H locs ls hP hD hS (lv_sub hl [1, 2, 3, 4, 5, 0] rfl)
      ·
        replace hw := hw.2 c12
        refine lv_iconst (v := I 0) hx hb dX3_isName_55 rfl ?_
        exact xrz hx hb hr (by decide) hlk hP hK hD hS ⟨_, (by decide), rfl, rfl, hw⟩ (Nat.le_of_ble_eq_true rfl) (Nat.le_of_ble_eq_true rfl) dX3_isName_56
def W_X3_nameOf_q13 (n2 : Int) (n3 : Int) (σ : S0) (Q : Int → Prop) : Prop :=
  ∀ (P16 : Int → Int → Int → Int → Prop),
  (∀ (u2 : Int) (u3 : Int) (u4 : Int) (u5 : Int), ((2500 ≤ u5 → Q (-1)) ∧ (u5 < 2500 → (u4 ≤ 0 → Q (-1)) ∧ (0 < u4 → rg (u4 - 1) ∧ ∃ (Q9 : Int → Prop), W_X3_isName_q13 (u4 - 1) u2 u3 σ Q9 ∧ ∀ (x10 : Int), rg x10 → Q9 x10 → ((x10 = 0 → (0 ≤ (u4 - 1) ∧ (u4 - 1) < 2500) ∧ (∀ (x14 : Int), rg x14 → x14 = σ.2.1 5 (u4 - 1) → (rg (u5 + 1) ∧ P16 u2 u3 x14 (u5 + 1)))) ∧ (¬ x10 = 0 → Q (u4 - 1)))))) → P16 u2 u3 u4 u5) →
  ∃ (Q1 : Int → Prop), W_X3_bucket_q13 n2 n3 σ Q1 ∧ ∀ (x2 : Int), rg x2 → Q1 x2 → ((0 ≤ x2 ∧ x2 < 4096) ∧ (∀ (x5 : Int), rg x5 → x5 = σ.2.1 6 x2 → (P16 n2 n3 x5 0)))
set_option maxRecDepth 100000 in
set_option maxHeartbeats 4000000 in
theorem L_X3_nameOf_q13 (l : Launch) (g : gG) (q : Nat → Nat) (lb : Nat) (hlb : lb < 2 ^ 31) {n2 : Int} {n3 : Int} {σ : S0} {Q : Int → Prop} (r_n2 : rg n2) (r_n3 : rg n3) (hN : n_m σ) (hw : W_X3_nameOf_q13 n2 n3 σ Q) (sz : Nat) : MetI l yX3_nameOf cX3_nameOf 6 (some .int) { frames := 1, cells := 0, slots := 0, locals := 26 } g [.ref (q 1), .ref (q 13), .int (I n2), .int (I n3)] (CX g q lb σ) sz xT (p_i (CX g q lb) σ Q) 0 0 := by
  refine mkMet (Qc := fun A => QI g A (p_i (CX g q lb) σ Q)) (by decide) (Nat.le_of_ble_eq_true rfl) ?_
  intro p e s m below meth c A H ls hx hb hr hml hown hts hlk hnm hsz hP hK hNb hD hA hAe hS hX hl
  have hl : lv_has ls 6 [(0, .ref (q 1)), (1, .ref (q 13)), (2, .int (I n2)), (3, .int (I n3))] := hl
  have hB := hN
  obtain ⟨locs, hlocs⟩ : ∃ z : List Loc, z = [] := ⟨_, rfl⟩
  rw [← hlocs] at hS ⊢
  obtain ⟨P16, hP16⟩ : ∃ P : Int → Int → Int → Int → Prop, ∀ (u2 : Int) (u3 : Int) (u4 : Int) (u5 : Int), (P u2 u3 u4 u5 ↔ (rg u2 → rg u3 → rg u4 → rg u5 → ∀ (H : Heap) (locs : List Loc) (ls : Array Slot), KP g (CX g q lb σ) H → va_D A (CX g q lb σ) → va_S A s.heap H locs → lv_has ls 6 [(0, .ref (q 1)), (1, .ref (q 13)), (2, .int (I u2)), (3, .int (I u3)), (4, .int (I u4)), (5, .int (I u5))] → W p l e ({ frames := 1, cells := 0, slots := 0, locals := 26 }) s m [.ref (q 1), .ref (q 13), .int (I n2), .int (I n3)].toArray below meth c H locs 0 0 (MQ below (QI g A (p_i (CX g q lb) σ Q)) [.ref (q 1), .ref (q 13), .int (I n2), .int (I n3)].toArray s 0 0 A) (F0 m 16 ls []))) := ⟨_, fun _ _ _ _ => Iff.rfl⟩
  refine (fun hw => ?_) (hw P16 ?_)
  ·
    refine lv_aload_n hx hb dX3_nameOf_0 rfl (lv_at hl 0 rfl) ?_
    refine gfX3_heads hx hb hts hK hP hown (hts _ tw_42) dX3_nameOf_1 ?_
    refine lv_aload_n hx hb dX3_nameOf_4 rfl (lv_at hl 1 rfl) ?_
    refine lv_iload_n hx hb dX3_nameOf_5 rfl (lv_at hl 2 rfl) ?_
    refine lv_iload_n hx hb dX3_nameOf_6 rfl (lv_at hl 3 rfl) ?_
    obtain ⟨Q1, hc, hw⟩ := hw
    refine wc_i (X := CX g q lb) (va_runS (As := [.ref (q 13), .int (I n2), .int (I n3)]) (rest := [.ref (q 19)]) ⟨hx, hb, hml, hown, hts⟩ (L_X3_bucket_q13 l g q lb hlb r_n2 r_n3 hN hc H.size) (cwS 3 hts (TB_S tw_1107 tw_1108 tw_2 co_X3_bucket) rfl rfl rfl (by decide +kernel) ⟨Nat.le_of_ble_eq_true rfl, Nat.le_of_ble_eq_true rfl⟩) (preS xT_bl hP hK hNb hD xT_at) rfl rfl hl.1 rfl (lv_room (Nat.le_of_ble_eq_true rfl)) dX3_nameOf_7 ⟨Nat.le_of_ble_eq_true rfl, Nat.le_of_ble_eq_true rfl⟩) hP hD hS hA (fun x2 H locs r_x2 hq hP hD hS => ?_)
    replace hw := hw x2 r_x2 hq
    obtain ⟨c4, hw⟩ := hw
    refine ldCX3_heads hx hb hK hP hN c4 dX3_nameOf_10 (fun x5 r_x5 e_x5 => ?_)
    replace hw := hw x5 r_x5 e_x5
    refine lv_istore (lv' := [(4, .int (I x5)), (0, .ref (q 1)), (1, .ref (q 13)), (2, .int (I n2)), (3, .int (I n3))]) hx hb dX3_nameOf_11 hl (by decide) rfl (fun ls hl => ?_)
    refine lv_iconst (v := I 0) hx hb dX3_nameOf_13 rfl ?_
    refine lv_istore (lv' := [(5, .int (I 0)), (4, .int (I x5)), (0, .ref (q 1)), (1, .ref (q 13)), (2, .int (I n2)), (3, .int (I n3))]) hx hb dX3_nameOf_14 hl (by decide) rfl (fun ls hl => ?_)
    exact (hP16 _ _ _ _).mp hw r_n2 r_n3 r_x5 (by decide)  H locs ls hP hD hS (lv_sub hl [2, 3, 4, 5, 1, 0] rfl)
  ·
    intro u2 u3 u4 u5 hw
    refine (hP16 _ _ _ _).mpr ?_
    intro r_u2 r_u3 r_u4 r_u5 H locs ls hP hD hS hl
    refine lv_iload hx hb dX3_nameOf_16 (lv_at hl 5 rfl) ?_
    refine lv_sipush (v := I 2500) hx hb dX3_nameOf_18 (by decide) ?_
    refine bi_icmp_ge (tgt := 65) hx hb r_u5 (by decide) dX3_nameOf_21 (by decide) (fun c6 => ?_) (fun c6 => ?_)
    ·
      replace hw := hw.1 c6
      refine lv_iconst (v := I (-1)) hx hb dX3_nameOf_65 rfl ?_
      exact xri hx hb hr hlk hP hK hD hS ⟨_, (by decide), rfl, rfl, hw⟩ (Nat.le_of_ble_eq_true rfl) (Nat.le_of_ble_eq_true rfl) dX3_nameOf_66
    ·
      replace hw := hw.2 c6
      refine lv_iload hx hb dX3_nameOf_24 (lv_at hl 4 rfl) ?_
      refine bi_if_le (tgt := 65) hx hb r_u4 dX3_nameOf_26 (by decide) (fun c7 => ?_) (fun c7 => ?_)
      ·
        replace hw := hw.1 c7
        refine lv_iconst (v := I (-1)) hx hb dX3_nameOf_65 rfl ?_
        exact xri hx hb hr hlk hP hK hD hS ⟨_, (by decide), rfl, rfl, hw⟩ (Nat.le_of_ble_eq_true rfl) (Nat.le_of_ble_eq_true rfl) dX3_nameOf_66
      ·
        replace hw := hw.2 c7
        refine lv_aload_n hx hb dX3_nameOf_29 rfl (lv_at hl 0 rfl) ?_
        refine lv_iload hx hb dX3_nameOf_30 (lv_at hl 4 rfl) ?_
        refine lv_iconst (v := I 1) hx hb dX3_nameOf_32 rfl ?_
        refine bi_isub hx hb dX3_nameOf_33 ?_
        refine lv_aload_n hx hb dX3_nameOf_34 rfl (lv_at hl 1 rfl) ?_
        refine lv_iload_n hx hb dX3_nameOf_35 rfl (lv_at hl 2 rfl) ?_
        refine lv_iload_n hx hb dX3_nameOf_36 rfl (lv_at hl 3 rfl) ?_
        obtain ⟨c8, hw⟩ := hw
        obtain ⟨Q9, hc, hw⟩ := hw
        refine wc_i (X := CX g q lb) (va_runV (As := [.int (I (u4 - 1)), .ref (q 13), .int (I u2), .int (I u3)]) (rest := []) ⟨hx, hb, hml, hown, hts⟩ (L_X3_isName_q13 l g q lb hlb c8 r_u2 r_u3 hN hc H.size) (cwV 4 hts (TB_V tw_1110 tw_1112 ts_21 tw_2 co_X3_isName) rfl rfl rfl (by decide +kernel) ⟨Nat.le_of_ble_eq_true rfl, Nat.le_of_ble_eq_true rfl⟩) (preV (q0 := 1) (ci := 3) rfl xT_bl hP hK hNb hD rfl rfl xT_at) rfl rfl hl.1 rfl (lv_room (Nat.le_of_ble_eq_true rfl)) dX3_nameOf_37 ⟨Nat.le_of_ble_eq_true rfl, Nat.le_of_ble_eq_true rfl⟩) hP hD hS hA (fun x10 H locs r_x10 hq hP hD hS => ?_)
        replace hw := hw x10 r_x10 hq
        refine bi_if_eq (tgt := 48) hx hb r_x10 dX3_nameOf_40 (by decide) (fun c12 => ?_) (fun c12 => ?_)
        ·
          replace hw := hw.1 c12
          refine lv_aload_n hx hb dX3_nameOf_48 rfl (lv_at hl 0 rfl) ?_
          refine gfX3_nextName hx hb hts hK hP hown (hts _ tw_41) dX3_nameOf_49 ?_
          refine lv_iload hx hb dX3_nameOf_52 (lv_at hl 4 rfl) ?_
          refine lv_iconst (v := I 1) hx hb dX3_nameOf_54 rfl ?_
          refine bi_isub hx hb dX3_nameOf_55 ?_
          obtain ⟨c13, hw⟩ := hw
          refine ldCX3_nextName hx hb hK hP hN c13 dX3_nameOf_56 (fun x14 r_x14 e_x14 => ?_)
          replace hw := hw x14 r_x14 e_x14
          refine lv_istore (lv' := [(4, .int (I x14)), (0, .ref (q 1)), (1, .ref (q 13)), (2, .int (I u2)), (3, .int (I u3)), (5, .int (I u5))]) hx hb dX3_nameOf_57 hl (by decide) rfl (fun ls hl => ?_)
          refine lv_iinc (v := I (u5 + 1)) (lv' := [(5, .int (I (u5 + 1))), (4, .int (I x14)), (0, .ref (q 1)), (1, .ref (q 13)), (2, .int (I u2)), (3, .int (I u3))]) hx hb dX3_nameOf_59 hl (k := 5) rfl (I_add _ _) (by decide) rfl (fun ls hl => ?_)
          refine lv_goto (tgt := 16) hx hb dX3_nameOf_62 (by decide) ?_
          obtain ⟨c15, hw⟩ := hw
          exact (hP16 _ _ _ _).mp hw r_u2 r_u3 r_x14 c15  H locs ls hP hD hS (lv_sub hl [2, 3, 4, 5, 1, 0] rfl)
        ·
          replace hw := hw.2 c12
          refine lv_iload hx hb dX3_nameOf_43 (lv_at hl 4 rfl) ?_
          refine lv_iconst (v := I 1) hx hb dX3_nameOf_45 rfl ?_
          refine bi_isub hx hb dX3_nameOf_46 ?_
          exact xri hx hb hr hlk hP hK hD hS ⟨_, c8, rfl, rfl, hw⟩ (Nat.le_of_ble_eq_true rfl) (Nat.le_of_ble_eq_true rfl) dX3_nameOf_47
def W_X10_isOne_q13 (n1 : Int) (n2 : Int) (n3 : Int) (σ : S0) (Q : Int → Prop) : Prop :=
  (¬ n2 = 1 → Q 0) ∧ (n2 = 1 → (0 ≤ n1 ∧ n1 < 60000) ∧ (∀ (x3 : Int), rg x3 → x3 = σ.2.1 0 n1 → ((¬ x3 = n3 → Q 0) ∧ (x3 = n3 → Q 1))))
set_option maxRecDepth 100000 in
set_option maxHeartbeats 4000000 in
theorem L_X10_isOne_q13 (l : Launch) (g : gG) (q : Nat → Nat) (lb : Nat) (hlb : lb < 2 ^ 31) {n1 : Int} {n2 : Int} {n3 : Int} {σ : S0} {Q : Int → Prop} (r_n1 : rg n1) (r_n2 : rg n2) (r_n3 : rg n3) (hN : n_m σ) (hw : W_X10_isOne_q13 n1 n2 n3 σ Q) (sz : Nat) : MetI l yX10_isOne cX10_isOne 4 (some .boolean) { frames := 0, cells := 0, slots := 0, locals := 0 } g [.ref (q 13), .int (I n1), .int (I n2), .int (I n3)] (CX g q lb σ) sz xT (p_i (CX g q lb) σ Q) 0 0 := by
  refine mkMet (Qc := fun A => QI g A (p_i (CX g q lb) σ Q)) (by decide) (Nat.le_of_ble_eq_true rfl) ?_
  intro p e s m below meth c A H ls hx hb hr hml hown hts hlk hnm hsz hP hK hNb hD hA hAe hS hX hl
  have hl : lv_has ls 4 [(0, .ref (q 13)), (1, .int (I n1)), (2, .int (I n2)), (3, .int (I n3))] := hl
  have hB := hN
  obtain ⟨locs, hlocs⟩ : ∃ z : List Loc, z = [] := ⟨_, rfl⟩
  rw [← hlocs] at hS ⊢
  refine lv_iload_n hx hb dX10_isOne_0 rfl (lv_at hl 2 rfl) ?_
  refine lv_iconst (v := I 1) hx hb dX10_isOne_1 rfl ?_
  refine bi_icmp_ne (tgt := 16) hx hb r_n2 (by decide) dX10_isOne_2 (by decide) (fun c1 => ?_) (fun c1 => ?_)
  ·
    replace hw := hw.1 c1
    refine lv_iconst (v := I 0) hx hb dX10_isOne_16 rfl ?_
    exact xrz hx hb hr (by decide) hlk hP hK hD hS ⟨_, (by decide), rfl, rfl, hw⟩ (Nat.le_of_ble_eq_true rfl) (Nat.le_of_ble_eq_true rfl) dX10_isOne_17
  ·
    replace hw := hw.2 c1
    refine lv_aload_n hx hb dX10_isOne_5 rfl (lv_at hl 0 rfl) ?_
    refine lv_iload_n hx hb dX10_isOne_6 rfl (lv_at hl 1 rfl) ?_
    obtain ⟨c2, hw⟩ := hw
    refine ldCX12_tape hx hb hK hP hN c2 dX10_isOne_7 (fun x3 r_x3 e_x3 => ?_)
    replace hw := hw x3 r_x3 e_x3
    refine lv_iload_n hx hb dX10_isOne_8 rfl (lv_at hl 3 rfl) ?_
    refine bi_icmp_ne (tgt := 16) hx hb r_x3 r_n3 dX10_isOne_9 (by decide) (fun c4 => ?_) (fun c4 => ?_)
    ·
      replace hw := hw.1 c4
      refine lv_iconst (v := I 0) hx hb dX10_isOne_16 rfl ?_
      exact xrz hx hb hr (by decide) hlk hP hK hD hS ⟨_, (by decide), rfl, rfl, hw⟩ (Nat.le_of_ble_eq_true rfl) (Nat.le_of_ble_eq_true rfl) dX10_isOne_17
    ·
      replace hw := hw.2 c4
      refine lv_iconst (v := I 1) hx hb dX10_isOne_12 rfl ?_
      refine lv_goto (tgt := 17) hx hb dX10_isOne_13 (by decide) ?_
      exact xrz hx hb hr (by decide) hlk hP hK hD hS ⟨_, (by decide), rfl, rfl, hw⟩ (Nat.le_of_ble_eq_true rfl) (Nat.le_of_ble_eq_true rfl) dX10_isOne_17
def W_X10_isFull (σ : S0) (Q : Int → Prop) : Prop :=
  rg (σ.1 16 + σ.1 21) ∧ ((σ.1 16 + σ.1 21) < 20000 → Q 0) ∧ (20000 ≤ (σ.1 16 + σ.1 21) → Q 1)
set_option maxRecDepth 100000 in
set_option maxHeartbeats 4000000 in
theorem L_X10_isFull (l : Launch) (g : gG) (q : Nat → Nat) (lb : Nat) (hlb : lb < 2 ^ 31) {σ : S0} {Q : Int → Prop} (hN : n_m σ) (hw : W_X10_isFull σ Q) (sz : Nat) : MetI l yX10_isFull cX10_isFull 1 (some .boolean) { frames := 0, cells := 0, slots := 0, locals := 0 } g [.ref (q 5)] (CX g q lb σ) sz xT (p_i (CX g q lb) σ Q) 0 0 := by
  refine mkMet (Qc := fun A => QI g A (p_i (CX g q lb) σ Q)) (by decide) (Nat.le_of_ble_eq_true rfl) ?_
  intro p e s m below meth c A H ls hx hb hr hml hown hts hlk hnm hsz hP hK hNb hD hA hAe hS hX hl
  have hl : lv_has ls 1 [(0, .ref (q 5))] := hl
  have hB := hN
  obtain ⟨locs, hlocs⟩ : ∃ z : List Loc, z = [] := ⟨_, rfl⟩
  rw [← hlocs] at hS ⊢
  refine lv_aload_n hx hb dX10_isFull_0 rfl (lv_at hl 0 rfl) ?_
  refine gfX10_assertions hx hb hts hK hP hown (hts _ tw_415) dX10_isFull_1 ?_
  refine gfNX0_steps hx hb hts hK hP hown (nb_use hNb tn_291) (x := σ.1 16) rfl dX10_isFull_4 ?_
  refine lv_aload_n hx hb dX10_isFull_7 rfl (lv_at hl 0 rfl) ?_
  refine gfX10_count hx hb hts hK hP hown (hts _ tw_420) (x := σ.1 21) rfl dX10_isFull_8 ?_
  refine bi_iadd hx hb dX10_isFull_11 ?_
  refine lv_sipush (v := I 20000) hx hb dX10_isFull_12 (by decide) ?_
  obtain ⟨c1, hw⟩ := hw
  refine bi_icmp_lt (tgt := 22) hx hb c1 (by decide) dX10_isFull_15 (by decide) (fun c2 => ?_) (fun c2 => ?_)
  ·
    replace hw := hw.1 c2
    refine lv_iconst (v := I 0) hx hb dX10_isFull_22 rfl ?_
    exact xrz hx hb hr (by decide) hlk hP hK hD hS ⟨_, (by decide), rfl, rfl, hw⟩ (Nat.le_of_ble_eq_true rfl) (Nat.le_of_ble_eq_true rfl) dX10_isFull_23
  ·
    replace hw := hw.2 c2
    refine lv_iconst (v := I 1) hx hb dX10_isFull_18 rfl ?_
    refine lv_goto (tgt := 23) hx hb dX10_isFull_19 (by decide) ?_
    exact xrz hx hb hr (by decide) hlk hP hK hD hS ⟨_, (by decide), rfl, rfl, hw⟩ (Nat.le_of_ble_eq_true rfl) (Nat.le_of_ble_eq_true rfl) dX10_isFull_23
def W_X10_addStep (n1 : Int) (σ : S0) (Q : S0 → Prop) : Prop :=
  (0 ≤ σ.1 21 ∧ σ.1 21 < 20000) ∧ (rg (σ.1 21 + 1) ∧ Q (s_v (s_a (s_a σ 49 (σ.1 21) n1) 50 (σ.1 21) (σ.1 29)) 21 (σ.1 21 + 1)))
set_option maxRecDepth 100000 in
set_option maxHeartbeats 4000000 in
theorem L_X10_addStep (l : Launch) (g : gG) (q : Nat → Nat) (lb : Nat) (hlb : lb < 2 ^ 31) {n1 : Int} {σ : S0} {Q : S0 → Prop} (r_n1 : rg n1) (hN : n_m σ) (hw : W_X10_addStep n1 σ Q) (sz : Nat) : MetV l yX10_addStep cX10_addStep 2 { frames := 0, cells := 0, slots := 0, locals := 0 } g [.ref (q 5), .int (I n1)] (CX g q lb σ) sz xT (p_V (CX g q lb) [21] [49, 50] [] σ Q) 0 0 := by
  refine mkMet (Qc := fun A => QV g A (p_V (CX g q lb) [21] [49, 50] [] σ Q)) (by decide) (Nat.le_of_ble_eq_true rfl) ?_
  intro p e s m below meth c A H ls hx hb hr hml hown hts hlk hnm hsz hP hK hNb hD hA hAe hS hX hl
  have hl : lv_has ls 2 [(0, .ref (q 5)), (1, .int (I n1))] := hl
  have hB := hN
  have hF : f_r [21] [49, 50] [] σ σ := f_0
  obtain ⟨locs, hlocs⟩ : ∃ z : List Loc, z = [] := ⟨_, rfl⟩
  rw [← hlocs] at hS ⊢
  refine lv_aload_n hx hb dX10_addStep_0 rfl (lv_at hl 0 rfl) ?_
  refine gfX10_steps hx hb hts hK hP hown (hts _ tw_418) dX10_addStep_1 ?_
  refine lv_aload_n hx hb dX10_addStep_4 rfl (lv_at hl 0 rfl) ?_
  refine gfX10_count hx hb hts hK hP hown (hts _ tw_420) (x := σ.1 21) rfl dX10_addStep_5 ?_
  refine lv_iload_n hx hb dX10_addStep_8 rfl (lv_at hl 1 rfl) ?_
  obtain ⟨c1, hw⟩ := hw
  refine sdCX10_steps hx hb hK hP hD hS c1 dX10_addStep_9 (fun H locs hP hD hS => ?_)
  have hN : n_m (s_a σ 49 (σ.1 21) n1) := n_a (k := 49) (j := σ.1 21) hN (r_n1 : rg n1)
  have hF : f_r [21] [49, 50] [] σ (s_a σ 49 (σ.1 21) n1) := f_a hF (by decide)
  refine lv_aload_n hx hb dX10_addStep_10 rfl (lv_at hl 0 rfl) ?_
  refine gfX10_places hx hb hts hK hP hown (hts _ tw_419) dX10_addStep_11 ?_
  refine lv_aload_n hx hb dX10_addStep_14 rfl (lv_at hl 0 rfl) ?_
  refine gfX10_count hx hb hts hK hP hown (hts _ tw_420) (x := σ.1 21) rfl dX10_addStep_15 ?_
  refine lv_aload_n hx hb dX10_addStep_18 rfl (lv_at hl 0 rfl) ?_
  refine gfX10_place hx hb hts hK hP hown (hts _ tw_431) (x := σ.1 29) rfl dX10_addStep_19 ?_
  refine sdCX10_places hx hb hK hP hD hS c1 dX10_addStep_22 (fun H locs hP hD hS => ?_)
  have hN : n_m (s_a (s_a σ 49 (σ.1 21) n1) 50 (σ.1 21) (σ.1 29)) := n_a (k := 50) (j := σ.1 21) hN ((hB.1 29) : rg (σ.1 29))
  have hF : f_r [21] [49, 50] [] σ (s_a (s_a σ 49 (σ.1 21) n1) 50 (σ.1 21) (σ.1 29)) := f_a hF (by decide)
  refine lv_aload_n hx hb dX10_addStep_23 rfl (lv_at hl 0 rfl) ?_
  refine lv_dup hx hb dX10_addStep_24 rfl ?_
  refine gfX10_count hx hb hts hK hP hown (hts _ tw_420) (x := σ.1 21) rfl dX10_addStep_25 ?_
  refine lv_iconst (v := I 1) hx hb dX10_addStep_28 rfl ?_
  refine bi_iadd hx hb dX10_addStep_29 ?_
  obtain ⟨c2, hw⟩ := hw
  refine pfX10_count hx hb hts hK hP hD hS hown (hts _ tw_420) dX10_addStep_30 (fun H locs hP hD hS => ?_)
  have hN : n_m (s_v (s_a (s_a σ 49 (σ.1 21) n1) 50 (σ.1 21) (σ.1 29)) 21 (σ.1 21 + 1)) := n_v (i := 21) hN (c2 : rg (σ.1 21 + 1))
  have hF : f_r [21] [49, 50] [] σ (s_v (s_a (s_a σ 49 (σ.1 21) n1) 50 (σ.1 21) (σ.1 29)) 21 (σ.1 21 + 1)) := f_v hF (by decide)
  exact xrv hx hb hr hlk hP hK hD hS ⟨_, hN, hF, rfl, hw⟩ (Nat.le_of_ble_eq_true rfl) (Nat.le_of_ble_eq_true rfl) dX10_addStep_33
def W_X10_endNumber (n1 : Int) (σ : S0) (Q : Int → S0 → Prop) : Prop :=
  ∀ (P109 : Int → Int → S0 → Prop),
  (∀ (u3 : Int) (k1 : Int) (τ : S0), ((0 ≤ k1 ∧ k1 ≤ 1) ∧ (∃ (Q29 : S0 → Prop), W_X10_addStep u3 (s_v τ 27 k1) Q29 ∧ ∀ (τ31 : S0), n_m τ31 → f_r [21] [49, 50] [] (s_v τ 27 k1) τ31 → Q29 τ31 → (Q 0 τ31))) → P109 u3 k1 τ) →
  (1000000 < n1 → Q 5 (s_v σ 26 0)) ∧ (n1 ≤ 1000000 → ∃ (Q2 : Int → Prop), W_X10_isFull (s_v σ 26 0) Q2 ∧ ∀ (x3 : Int), rg x3 → Q2 x3 → ((x3 = 0 → (0 ≤ σ.1 24 ∧ σ.1 24 < 1500) ∧ (∀ (x7 : Int), rg x7 → x7 = σ.2.1 28 (σ.1 24) → ((x7 < n1 → rg (x7 + σ.1 22) ∧ ((x7 + σ.1 22) < n1 → rg ((x7 + σ.1 22) + σ.1 23) ∧ (((x7 + σ.1 22) + σ.1 23) < n1 → Q 14 (s_v σ 26 0)) ∧ (n1 ≤ ((x7 + σ.1 22) + σ.1 23) → rg (-1 - (((n1 - x7) - σ.1 22) - 1)) ∧ ∃ (Q14 : S0 → Prop), W_X10_addStep (-1 - (((n1 - x7) - σ.1 22) - 1)) (s_v σ 26 0) Q14 ∧ ∀ (τ16 : S0), n_m τ16 → f_r [21] [49, 50] [] (s_v σ 26 0) τ16 → Q14 τ16 → (Q 0 τ16))) ∧ (n1 ≤ (x7 + σ.1 22) → (0 ≤ ((n1 - x7) - 1) ∧ ((n1 - x7) - 1) < 300) ∧ (∀ (x18 : Int), rg x18 → x18 = σ.2.1 51 ((n1 - x7) - 1) → ((0 ≤ x18 ∧ x18 < 1500) ∧ (∀ (x20 : Int), rg x20 → x20 = σ.2.1 13 x18 → ((x20 < 2 → P109 x18 0 (s_v σ 26 0)) ∧ (2 ≤ x20 → P109 x18 1 (s_v σ 26 0)))))))) ∧ (n1 ≤ x7 → ∀ (x22 : Int), rg x22 → x22 = σ.2.1 27 (σ.1 24) → ((0 ≤ ((x22 + n1) - 1) ∧ ((x22 + n1) - 1) < 90000) ∧ (∀ (x24 : Int), rg x24 → x24 = σ.2.1 29 ((x22 + n1) - 1) → (∃ (Q25 : S0 → Prop), W_X10_addStep x24 (s_v σ 26 0) Q25 ∧ ∀ (τ27 : S0), n_m τ27 → f_r [21] [49, 50] [] (s_v σ 26 0) τ27 → Q25 τ27 → (Q 0 τ27)))))))) ∧ (¬ x3 = 0 → Q 5 (s_v σ 26 0))))
set_option maxRecDepth 100000 in
set_option maxHeartbeats 4000000 in
theorem L_X10_endNumber (l : Launch) (g : gG) (q : Nat → Nat) (lb : Nat) (hlb : lb < 2 ^ 31) {n1 : Int} {σ : S0} {Q : Int → S0 → Prop} (r_n1 : rg n1) (hN : n_m σ) (hw : W_X10_endNumber n1 σ Q) (sz : Nat) : MetI l yX10_endNumber cX10_endNumber 4 (some .int) { frames := 1, cells := 0, slots := 0, locals := 21 } g [.ref (q 5), .int (I n1)] (CX g q lb σ) sz xT (p_I (CX g q lb) [21, 26, 27] [49, 50] [] σ Q) 0 0 := by
  refine mkMet (Qc := fun A => QI g A (p_I (CX g q lb) [21, 26, 27] [49, 50] [] σ Q)) (by decide) (Nat.le_of_ble_eq_true rfl) ?_
  intro p e s m below meth c A H ls hx hb hr hml hown hts hlk hnm hsz hP hK hNb hD hA hAe hS hX hl
  have hl : lv_has ls 4 [(0, .ref (q 5)), (1, .int (I n1))] := hl
  have hB := hN
  have hF : f_r [21, 26, 27] [49, 50] [] σ σ := f_0
  obtain ⟨locs, hlocs⟩ : ∃ z : List Loc, z = [] := ⟨_, rfl⟩
  rw [← hlocs] at hS ⊢
  obtain ⟨P109, hP109⟩ : ∃ P : Int → Int → S0 → Prop, ∀ (u3 : Int) (k1 : Int) (τ : S0), (P u3 k1 τ ↔ (rg u3 → rg k1 → n_m τ → f_r [21, 26, 27] [49, 50] [] σ τ → ∀ (H : Heap) (locs : List Loc) (ls : Array Slot), KP g (CX g q lb τ) H → va_D A (CX g q lb τ) → va_S A s.heap H locs → lv_has ls 4 [(0, .ref (q 5)), (3, .int (I u3))] → W p l e ({ frames := 1, cells := 0, slots := 0, locals := 21 }) s m [.ref (q 5), .int (I n1)].toArray below meth c H locs 0 0 (MQ below (QI g A (p_I (CX g q lb) [21, 26, 27] [49, 50] [] σ Q)) [.ref (q 5), .int (I n1)].toArray s 0 0 A) (F0 m 109 ls [.int (I k1), .ref (q 5)]))) := ⟨_, fun _ _ _ => Iff.rfl⟩
  refine (fun hw => ?_) (hw P109 ?_)
  ·
    refine lv_aload_n hx hb dX10_endNumber_0 rfl (lv_at hl 0 rfl) ?_
    refine lv_iconst (v := I 0) hx hb dX10_endNumber_1 rfl ?_
    refine pfX10_number hx hb hts hK hP hD hS hown (hts _ tw_426) dX10_endNumber_2 (fun H locs hP hD hS => ?_)
    have hN : n_m (s_v σ 26 0) := n_v (i := 26) hN ((by decide) : rg 0)
    have hF : f_r [21, 26, 27] [49, 50] [] σ (s_v σ 26 0) := f_v hF (by decide)
    refine lv_iload_n hx hb dX10_endNumber_5 rfl (lv_at hl 1 rfl) ?_
    refine lv_ldc (own := RX10) (v := 1000000) hx hb hown (hts _ tw_1264) dX10_endNumber_6 ?_
    refine xtop (y := I 1000000) (by decide) ?_
    refine bi_icmp_gt (tgt := 18) hx hb r_n1 (by decide) dX10_endNumber_8 (by decide) (fun c1 => ?_) (fun c1 => ?_)
    ·
      replace hw := hw.1 c1
      refine lv_iconst (v := I 5) hx hb dX10_endNumber_18 rfl ?_
      exact xri hx hb hr hlk hP hK hD hS ⟨_, _, (by decide), rfl, hN, hF, rfl, hw⟩ (Nat.le_of_ble_eq_true rfl) (Nat.le_of_ble_eq_true rfl) dX10_endNumber_19
    ·
      replace hw := hw.2 c1
      refine lv_aload_n hx hb dX10_endNumber_11 rfl (lv_at hl 0 rfl) ?_
      obtain ⟨Q2, hc, hw⟩ := hw
      refine wc_i (X := CX g q lb) (va_runV (As := []) (rest := []) ⟨hx, hb, hml, hown, hts⟩ (L_X10_isFull l g q lb hlb  hN hc H.size) (cwV 0 hts (TB_V tw_1222 tw_1224 ts_33 tw_8 co_X10_isFull) rfl rfl rfl (by decide +kernel) ⟨Nat.le_of_ble_eq_true rfl, Nat.le_of_ble_eq_true rfl⟩) (preV (q0 := 5) (ci := 10) rfl xT_bl hP hK hNb hD rfl rfl xT_at) rfl rfl hl.1 rfl (lv_room (Nat.le_of_ble_eq_true rfl)) dX10_endNumber_12 ⟨Nat.le_of_ble_eq_true rfl, Nat.le_of_ble_eq_true rfl⟩) hP hD hS hA (fun x3 H locs r_x3 hq hP hD hS => ?_)
      replace hw := hw x3 r_x3 hq
      refine bi_if_eq (tgt := 20) hx hb r_x3 dX10_endNumber_15 (by decide) (fun c5 => ?_) (fun c5 => ?_)
      ·
        replace hw := hw.1 c5
        refine lv_aload_n hx hb dX10_endNumber_20 rfl (lv_at hl 0 rfl) ?_
        refine gfX10_assertions hx hb hts hK hP hown (hts _ tw_415) dX10_endNumber_21 ?_
        refine gfNX0_frameSize hx hb hts hK hP hown (nb_use hNb tn_248) dX10_endNumber_24 ?_
        refine lv_aload_n hx hb dX10_endNumber_27 rfl (lv_at hl 0 rfl) ?_
        refine gfX10_theorem hx hb hts hK hP hown (hts _ tw_424) (x := σ.1 24) rfl dX10_endNumber_28 ?_
        obtain ⟨c6, hw⟩ := hw
        refine ldCX0_frameSize hx hb hK hP hN c6 dX10_endNumber_31 (fun x7 r_x7 e_x7 => ?_)
        replace hw := hw x7 r_x7 e_x7
        refine lv_istore_n (lv' := [(2, .int (I x7)), (0, .ref (q 5)), (1, .int (I n1))]) hx hb dX10_endNumber_32 rfl hl (by decide) rfl (fun ls hl => ?_)
        refine lv_iload_n hx hb dX10_endNumber_33 rfl (lv_at hl 2 rfl) ?_
        refine lv_iload_n hx hb dX10_endNumber_34 rfl (lv_at hl 0 rfl) ?_
        refine bi_icmp_gt (tgt := 69) hx hb r_n1 r_x7 dX10_endNumber_35 (by decide) (fun c8 => ?_) (fun c8 => ?_)
        ·
          replace hw := hw.1 c8
          refine lv_iload_n hx hb dX10_endNumber_69 rfl (lv_at hl 2 rfl) ?_
          refine lv_iload_n hx hb dX10_endNumber_70 rfl (lv_at hl 0 rfl) ?_
          refine lv_aload_n hx hb dX10_endNumber_71 rfl (lv_at hl 1 rfl) ?_
          refine gfX10_listedCount hx hb hts hK hP hown (hts _ tw_422) (x := σ.1 22) rfl dX10_endNumber_72 ?_
          refine bi_iadd hx hb dX10_endNumber_75 ?_
          obtain ⟨c9, hw⟩ := hw
          refine bi_icmp_gt (tgt := 120) hx hb r_n1 c9 dX10_endNumber_76 (by decide) (fun c10 => ?_) (fun c10 => ?_)
          ·
            replace hw := hw.1 c10
            refine lv_iload_n hx hb dX10_endNumber_120 rfl (lv_at hl 2 rfl) ?_
            refine lv_iload_n hx hb dX10_endNumber_121 rfl (lv_at hl 0 rfl) ?_
            refine lv_aload_n hx hb dX10_endNumber_122 rfl (lv_at hl 1 rfl) ?_
            refine gfX10_listedCount hx hb hts hK hP hown (hts _ tw_422) (x := σ.1 22) rfl dX10_endNumber_123 ?_
            refine bi_iadd hx hb dX10_endNumber_126 ?_
            refine lv_aload_n hx hb dX10_endNumber_127 rfl (lv_at hl 1 rfl) ?_
            refine gfX10_savedCount hx hb hts hK hP hown (hts _ tw_423) (x := σ.1 23) rfl dX10_endNumber_128 ?_
            refine bi_iadd hx hb dX10_endNumber_131 ?_
            obtain ⟨c11, hw⟩ := hw
            refine bi_icmp_gt (tgt := 154) hx hb r_n1 c11 dX10_endNumber_132 (by decide) (fun c12 => ?_) (fun c12 => ?_)
            ·
              replace hw := hw.1 c12
              refine lv_bipush (v := I 14) hx hb dX10_endNumber_154 (by decide) ?_
              exact xri hx hb hr hlk hP hK hD hS ⟨_, _, (by decide), rfl, hN, hF, rfl, hw⟩ (Nat.le_of_ble_eq_true rfl) (Nat.le_of_ble_eq_true rfl) dX10_endNumber_156
            ·
              replace hw := hw.2 c12
              refine lv_aload_n hx hb dX10_endNumber_135 rfl (lv_at hl 1 rfl) ?_
              refine lv_iload_n hx hb dX10_endNumber_136 rfl (lv_at hl 2 rfl) ?_
              refine lv_iload_n hx hb dX10_endNumber_137 rfl (lv_at hl 0 rfl) ?_
              refine bi_isub hx hb dX10_endNumber_138 ?_
              refine lv_aload_n hx hb dX10_endNumber_139 rfl (lv_at hl 1 rfl) ?_
              refine gfX10_listedCount hx hb hts hK hP hown (hts _ tw_422) (x := σ.1 22) rfl dX10_endNumber_140 ?_
              refine bi_isub hx hb dX10_endNumber_143 ?_
              refine lv_iconst (v := I 1) hx hb dX10_endNumber_144 rfl ?_
              refine bi_isub hx hb dX10_endNumber_145 ?_
              refine lv_iconst (v := I (-1)) hx hb dX10_endNumber_146 rfl ?_
              refine bi_inot hx hb dX10_endNumber_147 ?_
              obtain ⟨c13, hw⟩ := hw
              obtain ⟨Q14, hc, hw⟩ := hw
              refine wc_V (X := CX g q lb) (va_runV (As := [.int (I (-1 - (((n1 - x7) - σ.1 22) - 1)))]) (rest := []) ⟨hx, hb, hml, hown, hts⟩ (L_X10_addStep l g q lb hlb c13 hN hc H.size) (cwV 1 hts (TB_V tw_1231 tw_1233 ts_35 tw_8 co_X10_addStep) rfl rfl rfl (by decide +kernel) ⟨Nat.le_of_ble_eq_true rfl, Nat.le_of_ble_eq_true rfl⟩) (preV (q0 := 5) (ci := 10) rfl xT_bl hP hK hNb hD rfl rfl xT_at) rfl rfl hl.1 rfl (lv_room (Nat.le_of_ble_eq_true rfl)) dX10_endNumber_148 ⟨Nat.le_of_ble_eq_true rfl, Nat.le_of_ble_eq_true rfl⟩) hP hD hS hA (fun τ16 H locs hN hf hq hP hD hS => ?_)
              replace hw := hw τ16 hN hf hq
              have hF : f_r [21, 26, 27] [49, 50] [] σ τ16 := f_t hF hf (by decide) (by decide) (by decide)
              have hB := hN
              refine lv_goto (tgt := 157) hx hb dX10_endNumber_151 (by decide) ?_
              refine lv_iconst (v := I 0) hx hb dX10_endNumber_157 rfl ?_
              exact xri hx hb hr hlk hP hK hD hS ⟨_, _, (by decide), rfl, hN, hF, rfl, hw⟩ (Nat.le_of_ble_eq_true rfl) (Nat.le_of_ble_eq_true rfl) dX10_endNumber_158
          ·
            replace hw := hw.2 c10
            refine lv_aload_n hx hb dX10_endNumber_79 rfl (lv_at hl 1 rfl) ?_
            refine gfX10_listed hx hb hts hK hP hown (hts _ tw_421) dX10_endNumber_80 ?_
            refine lv_iload_n hx hb dX10_endNumber_83 rfl (lv_at hl 2 rfl) ?_
            refine lv_iload_n hx hb dX10_endNumber_84 rfl (lv_at hl 0 rfl) ?_
            refine bi_isub hx hb dX10_endNumber_85 ?_
            refine lv_iconst (v := I 1) hx hb dX10_endNumber_86 rfl ?_
            refine bi_isub hx hb dX10_endNumber_87 ?_
            obtain ⟨c17, hw⟩ := hw
            refine ldCX10_listed hx hb hK hP hN c17 dX10_endNumber_88 (fun x18 r_x18 e_x18 => ?_)
            replace hw := hw x18 r_x18 e_x18
            refine lv_istore_n (lv' := [(3, .int (I x18)), (2, .int (I x7)), (0, .ref (q 5)), (1, .int (I n1))]) hx hb dX10_endNumber_89 rfl hl (by decide) rfl (fun ls hl => ?_)
            refine lv_aload_n hx hb dX10_endNumber_90 rfl (lv_at hl 2 rfl) ?_
            refine lv_aload_n hx hb dX10_endNumber_91 rfl (lv_at hl 2 rfl) ?_
            refine gfX10_library hx hb hts hK hP hown (hts _ tw_414) dX10_endNumber_92 ?_
            refine gfNX3_kind hx hb hts hK hP hown (nb_use hNb tn_76) dX10_endNumber_95 ?_
            refine lv_iload_n hx hb dX10_endNumber_98 rfl (lv_at hl 0 rfl) ?_
            obtain ⟨c19, hw⟩ := hw
            refine ldCX3_kind hx hb hK hP hN c19 dX10_endNumber_99 (fun x20 r_x20 e_x20 => ?_)
            replace hw := hw x20 r_x20 e_x20
            refine lv_iconst (v := I 2) hx hb dX10_endNumber_100 rfl ?_
            refine bi_icmp_lt (tgt := 108) hx hb r_x20 (by decide) dX10_endNumber_101 (by decide) (fun c21 => ?_) (fun c21 => ?_)
            ·
              replace hw := hw.1 c21
              refine lv_iconst (v := I 0) hx hb dX10_endNumber_108 rfl ?_
              exact (hP109 _ _ _).mp hw r_x18 (by decide) hN hF H locs ls hP hD hS (lv_sub hl [2, 0] rfl)
            ·
              replace hw := hw.2 c21
              refine lv_iconst (v := I 1) hx hb dX10_endNumber_104 rfl ?_
              refine lv_goto (tgt := 109) hx hb dX10_endNumber_105 (by decide) ?_
              exact (hP109 _ _ _).mp hw r_x18 (by decide) hN hF H locs ls hP hD hS (lv_sub hl [2, 0] rfl)
        ·
          replace hw := hw.2 c8
          refine lv_aload_n hx hb dX10_endNumber_38 rfl (lv_at hl 1 rfl) ?_
          refine lv_aload_n hx hb dX10_endNumber_39 rfl (lv_at hl 1 rfl) ?_
          refine gfX10_assertions hx hb hts hK hP hown (hts _ tw_415) dX10_endNumber_40 ?_
          refine gfNX0_hypotheses hx hb hts hK hP hown (nb_use hNb tn_255) dX10_endNumber_43 ?_
          refine lv_aload_n hx hb dX10_endNumber_46 rfl (lv_at hl 1 rfl) ?_
          refine gfX10_assertions hx hb hts hK hP hown (hts _ tw_415) dX10_endNumber_47 ?_
          refine gfNX0_frameAt hx hb hts hK hP hown (nb_use hNb tn_240) dX10_endNumber_50 ?_
          refine lv_aload_n hx hb dX10_endNumber_53 rfl (lv_at hl 1 rfl) ?_
          refine gfX10_theorem hx hb hts hK hP hown (hts _ tw_424) (x := σ.1 24) rfl dX10_endNumber_54 ?_
          refine ldCX0_frameAt hx hb hK hP hN c6 dX10_endNumber_57 (fun x22 r_x22 e_x22 => ?_)
          replace hw := hw x22 r_x22 e_x22
          refine lv_iload_n hx hb dX10_endNumber_58 rfl (lv_at hl 2 rfl) ?_
          refine bi_iadd hx hb dX10_endNumber_59 ?_
          refine lv_iconst (v := I 1) hx hb dX10_endNumber_60 rfl ?_
          refine bi_isub hx hb dX10_endNumber_61 ?_
          obtain ⟨c23, hw⟩ := hw
          refine ldCX0_hypotheses hx hb hK hP hN c23 dX10_endNumber_62 (fun x24 r_x24 e_x24 => ?_)
          replace hw := hw x24 r_x24 e_x24
          obtain ⟨Q25, hc, hw⟩ := hw
          refine wc_V (X := CX g q lb) (va_runV (As := [.int (I x24)]) (rest := []) ⟨hx, hb, hml, hown, hts⟩ (L_X10_addStep l g q lb hlb r_x24 hN hc H.size) (cwV 1 hts (TB_V tw_1231 tw_1233 ts_35 tw_8 co_X10_addStep) rfl rfl rfl (by decide +kernel) ⟨Nat.le_of_ble_eq_true rfl, Nat.le_of_ble_eq_true rfl⟩) (preV (q0 := 5) (ci := 10) rfl xT_bl hP hK hNb hD rfl rfl xT_at) rfl rfl hl.1 rfl (lv_room (Nat.le_of_ble_eq_true rfl)) dX10_endNumber_63 ⟨Nat.le_of_ble_eq_true rfl, Nat.le_of_ble_eq_true rfl⟩) hP hD hS hA (fun τ27 H locs hN hf hq hP hD hS => ?_)
          replace hw := hw τ27 hN hf hq
          have hF : f_r [21, 26, 27] [49, 50] [] σ τ27 := f_t hF hf (by decide) (by decide) (by decide)
          have hB := hN
          refine lv_goto (tgt := 157) hx hb dX10_endNumber_66 (by decide) ?_
          refine lv_iconst (v := I 0) hx hb dX10_endNumber_157 rfl ?_
          exact xri hx hb hr hlk hP hK hD hS ⟨_, _, (by decide), rfl, hN, hF, rfl, hw⟩ (Nat.le_of_ble_eq_true rfl) (Nat.le_of_ble_eq_true rfl) dX10_endNumber_158
      ·
        replace hw := hw.2 c5
        refine lv_iconst (v := I 5) hx hb dX10_endNumber_18 rfl ?_
        exact xri hx hb hr hlk hP hK hD hS ⟨_, _, (by decide), rfl, hN, hF, rfl, hw⟩ (Nat.le_of_ble_eq_true rfl) (Nat.le_of_ble_eq_true rfl) dX10_endNumber_19
  ·
    intro u3 k1 τ hw
    refine (hP109 _ _ _).mpr ?_
    intro r_u3 r_k1 hN hF H locs ls hP hD hS hl
    have hB := hN
    obtain ⟨c28, hw⟩ := hw
    refine pfX10_afterAssertion hx hb hts hK hP hD hS hown (hts _ tw_427) c28 dX10_endNumber_109 (fun H locs hP hD hS => ?_)
    have hN : n_m (s_v τ 27 k1) := n_v (i := 27) hN (r_k1 : rg k1)
    have hF : f_r [21, 26, 27] [49, 50] [] σ (s_v τ 27 k1) := f_v hF (by decide)
    refine lv_aload_n hx hb dX10_endNumber_112 rfl (lv_at hl 0 rfl) ?_
    refine lv_iload_n hx hb dX10_endNumber_113 rfl (lv_at hl 1 rfl) ?_
    obtain ⟨Q29, hc, hw⟩ := hw
    refine wc_V (X := CX g q lb) (va_runV (As := [.int (I u3)]) (rest := []) ⟨hx, hb, hml, hown, hts⟩ (L_X10_addStep l g q lb hlb r_u3 hN hc H.size) (cwV 1 hts (TB_V tw_1231 tw_1233 ts_35 tw_8 co_X10_addStep) rfl rfl rfl (by decide +kernel) ⟨Nat.le_of_ble_eq_true rfl, Nat.le_of_ble_eq_true rfl⟩) (preV (q0 := 5) (ci := 10) rfl xT_bl hP hK hNb hD rfl rfl xT_at) rfl rfl hl.1 rfl (lv_room (Nat.le_of_ble_eq_true rfl)) dX10_endNumber_114 ⟨Nat.le_of_ble_eq_true rfl, Nat.le_of_ble_eq_true rfl⟩) hP hD hS hA (fun τ31 H locs hN hf hq hP hD hS => ?_)
    replace hw := hw τ31 hN hf hq
    have hF : f_r [21, 26, 27] [49, 50] [] σ τ31 := f_t hF hf (by decide) (by decide) (by decide)
    have hB := hN
    refine lv_goto (tgt := 157) hx hb dX10_endNumber_117 (by decide) ?_
    refine lv_iconst (v := I 0) hx hb dX10_endNumber_157 rfl ?_
    exact xri hx hb hr hlk hP hK hD hS ⟨_, _, (by decide), rfl, hN, hF, rfl, hw⟩ (Nat.le_of_ble_eq_true rfl) (Nat.le_of_ble_eq_true rfl) dX10_endNumber_158
def W_X10_save (σ : S0) (Q : Int → S0 → Prop) : Prop :=
  (¬ σ.1 27 = 0 → (¬ σ.1 23 = 300 → (0 ≤ (σ.1 21 - 1) ∧ (σ.1 21 - 1) < 20000) ∧ (∀ (x4 : Int), rg x4 → x4 = σ.2.1 49 (σ.1 21 - 1) → (∀ (x5 : Int), rg x5 → ((0 : Int) ≤ x4 → (0 : Int) ≤ 65536 → x4 ≤ x5 ∧ 65536 ≤ x5) → ((0 : Int) ≤ x4 → x4 ≤ (1 : Int) → (0 : Int) ≤ 65536 → 65536 ≤ (1 : Int) → x5 ≤ 1) → ((0 : Int) ≤ x4 → x4 < (65536 : Int) → 65536 = (65536 : Int) → x5 = x4 + 65536) → (rg (σ.1 23 + 1) ∧ Q 0 (s_v (s_a (s_v σ 27 0) 49 (σ.1 21 - 1) x5) 23 (σ.1 23 + 1)))))) ∧ (σ.1 23 = 300 → Q 5 σ)) ∧ (σ.1 27 = 0 → Q 14 σ)
set_option maxRecDepth 100000 in
set_option maxHeartbeats 4000000 in
theorem L_X10_save (l : Launch) (g : gG) (q : Nat → Nat) (lb : Nat) (hlb : lb < 2 ^ 31) {σ : S0} {Q : Int → S0 → Prop} (hN : n_m σ) (hw : W_X10_save σ Q) (sz : Nat) : MetI l yX10_save cX10_save 1 (some .int) { frames := 0, cells := 0, slots := 0, locals := 0 } g [.ref (q 5)] (CX g q lb σ) sz xT (p_I (CX g q lb) [23, 27] [49] [] σ Q) 0 0 := by
  refine mkMet (Qc := fun A => QI g A (p_I (CX g q lb) [23, 27] [49] [] σ Q)) (by decide) (Nat.le_of_ble_eq_true rfl) ?_
  intro p e s m below meth c A H ls hx hb hr hml hown hts hlk hnm hsz hP hK hNb hD hA hAe hS hX hl
  have hl : lv_has ls 1 [(0, .ref (q 5))] := hl
  have hB := hN
  have hF : f_r [23, 27] [49] [] σ σ := f_0
  obtain ⟨locs, hlocs⟩ : ∃ z : List Loc, z = [] := ⟨_, rfl⟩
  rw [← hlocs] at hS ⊢
  refine lv_aload_n hx hb dX10_save_0 rfl (lv_at hl 0 rfl) ?_
  refine gfX10_afterAssertion hx hb hts hK hP hown (hts _ tw_427) (x := σ.1 27) rfl dX10_save_1 ?_
  refine bi_if_ne (tgt := 10) hx hb (hB.1 27) dX10_save_4 (by decide) (fun c1 => ?_) (fun c1 => ?_)
  ·
    replace hw := hw.1 c1
    refine lv_aload_n hx hb dX10_save_10 rfl (lv_at hl 0 rfl) ?_
    refine gfX10_savedCount hx hb hts hK hP hown (hts _ tw_423) (x := σ.1 23) rfl dX10_save_11 ?_
    refine lv_sipush (v := I 300) hx hb dX10_save_14 (by decide) ?_
    refine bi_icmp_ne (tgt := 22) hx hb (hB.1 23) (by decide) dX10_save_17 (by decide) (fun c2 => ?_) (fun c2 => ?_)
    ·
      replace hw := hw.1 c2
      refine lv_aload_n hx hb dX10_save_22 rfl (lv_at hl 0 rfl) ?_
      refine lv_iconst (v := I 0) hx hb dX10_save_23 rfl ?_
      refine pfX10_afterAssertion hx hb hts hK hP hD hS hown (hts _ tw_427) (by decide)  dX10_save_24 (fun H locs hP hD hS => ?_)
      have hN : n_m (s_v σ 27 0) := n_v (i := 27) hN ((by decide) : rg 0)
      have hF : f_r [23, 27] [49] [] σ (s_v σ 27 0) := f_v hF (by decide)
      refine lv_aload_n hx hb dX10_save_27 rfl (lv_at hl 0 rfl) ?_
      refine gfX10_steps hx hb hts hK hP hown (hts _ tw_418) dX10_save_28 ?_
      refine lv_aload_n hx hb dX10_save_31 rfl (lv_at hl 0 rfl) ?_
      refine gfX10_count hx hb hts hK hP hown (hts _ tw_420) (x := σ.1 21) rfl dX10_save_32 ?_
      refine lv_iconst (v := I 1) hx hb dX10_save_35 rfl ?_
      refine bi_isub hx hb dX10_save_36 ?_
      refine lv_dup2_11 hx hb dX10_save_37 rfl rfl ?_
      obtain ⟨c3, hw⟩ := hw
      refine ldCX10_steps hx hb hK hP hN c3 dX10_save_38 (fun x4 r_x4 e_x4 => ?_)
      replace hw := hw x4 r_x4 e_x4
      refine lv_ldc (own := RX10) (v := 65536) hx hb hown (hts _ tw_1259) dX10_save_39 ?_
      refine xtop (y := I 65536) (by decide) ?_
      refine bi_ior hx hb r_x4 (by decide) dX10_save_41 (fun x5 r_x5 p_x5 o1 o2 => ?_)
      replace hw := hw x5 r_x5 p_x5 o1 o2
      refine sdCX10_steps hx hb hK hP hD hS c3 dX10_save_42 (fun H locs hP hD hS => ?_)
      have hN : n_m (s_a (s_v σ 27 0) 49 (σ.1 21 - 1) x5) := n_a (k := 49) (j := (σ.1 21 - 1)) hN (r_x5 : rg x5)
      have hF : f_r [23, 27] [49] [] σ (s_a (s_v σ 27 0) 49 (σ.1 21 - 1) x5) := f_a hF (by decide)
      refine lv_aload_n hx hb dX10_save_43 rfl (lv_at hl 0 rfl) ?_
      refine lv_dup hx hb dX10_save_44 rfl ?_
      refine gfX10_savedCount hx hb hts hK hP hown (hts _ tw_423) (x := σ.1 23) rfl dX10_save_45 ?_
      refine lv_iconst (v := I 1) hx hb dX10_save_48 rfl ?_
      refine bi_iadd hx hb dX10_save_49 ?_
      obtain ⟨c6, hw⟩ := hw
      refine pfX10_savedCount hx hb hts hK hP hD hS hown (hts _ tw_423) dX10_save_50 (fun H locs hP hD hS => ?_)
      have hN : n_m (s_v (s_a (s_v σ 27 0) 49 (σ.1 21 - 1) x5) 23 (σ.1 23 + 1)) := n_v (i := 23) hN (c6 : rg (σ.1 23 + 1))
      have hF : f_r [23, 27] [49] [] σ (s_v (s_a (s_v σ 27 0) 49 (σ.1 21 - 1) x5) 23 (σ.1 23 + 1)) := f_v hF (by decide)
      refine lv_iconst (v := I 0) hx hb dX10_save_53 rfl ?_
      exact xri hx hb hr hlk hP hK hD hS ⟨_, _, (by decide), rfl, hN, hF, rfl, hw⟩ (Nat.le_of_ble_eq_true rfl) (Nat.le_of_ble_eq_true rfl) dX10_save_54
    ·
      replace hw := hw.2 c2
      refine lv_iconst (v := I 5) hx hb dX10_save_20 rfl ?_
      exact xri hx hb hr hlk hP hK hD hS ⟨_, _, (by decide), rfl, hN, hF, rfl, hw⟩ (Nat.le_of_ble_eq_true rfl) (Nat.le_of_ble_eq_true rfl) dX10_save_21
  ·
    replace hw := hw.2 c1
    refine lv_bipush (v := I 14) hx hb dX10_save_7 (by decide) ?_
    exact xri hx hb hr hlk hP hK hD hS ⟨_, _, (by decide), rfl, hN, hF, rfl, hw⟩ (Nat.le_of_ble_eq_true rfl) (Nat.le_of_ble_eq_true rfl) dX10_save_9
def W_X10_letter (n1 : Int) (σ : S0) (Q : Int → S0 → Prop) : Prop :=
  ∀ (P52 : Int → S0 → Prop) (P96 : Int → S0 → Prop),
  (∀ (u1 : Int) (τ : S0), ((u1 < 85 → P96 u1 τ) ∧ (85 ≤ u1 → (89 < u1 → P96 u1 τ) ∧ (u1 ≤ 89 → rg ((((τ.1 26 * 5) + u1) - 85) + 1) ∧ (((((τ.1 26 * 5) + u1) - 85) + 1) ≤ 1000000 → Q 0 (s_v τ 26 ((((τ.1 26 * 5) + u1) - 85) + 1))) ∧ (1000000 < ((((τ.1 26 * 5) + u1) - 85) + 1) → Q 5 (s_v τ 26 ((((τ.1 26 * 5) + u1) - 85) + 1)))))) → P52 u1 τ) →
  (∀ (u1 : Int) (τ : S0), ((¬ u1 = 63 → Q 14 τ) ∧ (u1 = 63 → (¬ τ.1 26 = 0 → Q 14 τ) ∧ (τ.1 26 = 0 → Q 0 (s_v τ 28 1)))) → P96 u1 τ) →
  (¬ n1 = 90 → (n1 < 65 → P52 n1 (s_v σ 27 0)) ∧ (65 ≤ n1 → (84 < n1 → P52 n1 (s_v σ 27 0)) ∧ (n1 ≤ 84 → rg ((((σ.1 26 * 20) + n1) - 65) + 1) ∧ ∃ (Q5 : Int → S0 → Prop), W_X10_endNumber ((((σ.1 26 * 20) + n1) - 65) + 1) (s_v σ 27 0) Q5 ∧ ∀ (x6 : Int) (τ7 : S0), rg x6 → n_m τ7 → f_r [21, 26, 27] [49, 50] [] (s_v σ 27 0) τ7 → Q5 x6 τ7 → (Q x6 τ7)))) ∧ (n1 = 90 → ∃ (Q8 : Int → S0 → Prop), W_X10_save σ Q8 ∧ ∀ (x9 : Int) (τ10 : S0), rg x9 → n_m τ10 → f_r [23, 27] [49] [] σ τ10 → Q8 x9 τ10 → (Q x9 τ10))
set_option maxRecDepth 100000 in
set_option maxHeartbeats 4000000 in
theorem L_X10_letter (l : Launch) (g : gG) (q : Nat → Nat) (lb : Nat) (hlb : lb < 2 ^ 31) {n1 : Int} {σ : S0} {Q : Int → S0 → Prop} (r_n1 : rg n1) (hN : n_m σ) (hw : W_X10_letter n1 σ Q) (sz : Nat) : MetI l yX10_letter cX10_letter 3 (some .int) { frames := 2, cells := 0, slots := 0, locals := 44 } g [.ref (q 5), .int (I n1)] (CX g q lb σ) sz xT (p_I (CX g q lb) [21, 23, 26, 27, 28] [49, 50] [] σ Q) 0 0 := by
  refine mkMet (Qc := fun A => QI g A (p_I (CX g q lb) [21, 23, 26, 27, 28] [49, 50] [] σ Q)) (by decide) (Nat.le_of_ble_eq_true rfl) ?_
  intro p e s m below meth c A H ls hx hb hr hml hown hts hlk hnm hsz hP hK hNb hD hA hAe hS hX hl
  have hl : lv_has ls 3 [(0, .ref (q 5)), (1, .int (I n1))] := hl
  have hB := hN
  have hF : f_r [21, 23, 26, 27, 28] [49, 50] [] σ σ := f_0
  obtain ⟨locs, hlocs⟩ : ∃ z : List Loc, z = [] := ⟨_, rfl⟩
  rw [← hlocs] at hS ⊢
  obtain ⟨P52, hP52⟩ : ∃ P : Int → S0 → Prop, ∀ (u1 : Int) (τ : S0), (P u1 τ ↔ (rg u1 → n_m τ → f_r [21, 23, 26, 27, 28] [49, 50] [] σ τ → ∀ (H : Heap) (locs : List Loc) (ls : Array Slot), KP g (CX g q lb τ) H → va_D A (CX g q lb τ) → va_S A s.heap H locs → lv_has ls 3 [(0, .ref (q 5)), (1, .int (I u1))] → W p l e ({ frames := 2, cells := 0, slots := 0, locals := 44 }) s m [.ref (q 5), .int (I n1)].toArray below meth c H locs 0 0 (MQ below (QI g A (p_I (CX g q lb) [21, 23, 26, 27, 28] [49, 50] [] σ Q)) [.ref (q 5), .int (I n1)].toArray s 0 0 A) (F0 m 52 ls []))) := ⟨_, fun _ _ => Iff.rfl⟩
  obtain ⟨P96, hP96⟩ : ∃ P : Int → S0 → Prop, ∀ (u1 : Int) (τ : S0), (P u1 τ ↔ (rg u1 → n_m τ → f_r [21, 23, 26, 27, 28] [49, 50] [] σ τ → ∀ (H : Heap) (locs : List Loc) (ls : Array Slot), KP g (CX g q lb τ) H → va_D A (CX g q lb τ) → va_S A s.heap H locs → lv_has ls 3 [(0, .ref (q 5)), (1, .int (I u1))] → W p l e ({ frames := 2, cells := 0, slots := 0, locals := 44 }) s m [.ref (q 5), .int (I n1)].toArray below meth c H locs 0 0 (MQ below (QI g A (p_I (CX g q lb) [21, 23, 26, 27, 28] [49, 50] [] σ Q)) [.ref (q 5), .int (I n1)].toArray s 0 0 A) (F0 m 96 ls []))) := ⟨_, fun _ _ => Iff.rfl⟩
  refine (fun hw => ?_) (hw P52 P96 ?_ ?_)
  ·
    refine lv_iload_n hx hb dX10_letter_0 rfl (lv_at hl 1 rfl) ?_
    refine lv_bipush (v := I 90) hx hb dX10_letter_1 (by decide) ?_
    refine bi_icmp_ne (tgt := 11) hx hb r_n1 (by decide) dX10_letter_3 (by decide) (fun c1 => ?_) (fun c1 => ?_)
    ·
      replace hw := hw.1 c1
      refine lv_aload_n hx hb dX10_letter_11 rfl (lv_at hl 0 rfl) ?_
      refine gfX10_afterAssertion hx hb hts hK hP hown (hts _ tw_427) (x := σ.1 27) rfl dX10_letter_12 ?_
      refine lv_istore_n (lv' := [(2, .int (I (σ.1 27))), (0, .ref (q 5)), (1, .int (I n1))]) hx hb dX10_letter_15 rfl hl (by decide) rfl (fun ls hl => ?_)
      refine lv_aload_n hx hb dX10_letter_16 rfl (lv_at hl 1 rfl) ?_
      refine lv_iconst (v := I 0) hx hb dX10_letter_17 rfl ?_
      refine pfX10_afterAssertion hx hb hts hK hP hD hS hown (hts _ tw_427) (by decide)  dX10_letter_18 (fun H locs hP hD hS => ?_)
      have hN : n_m (s_v σ 27 0) := n_v (i := 27) hN ((by decide) : rg 0)
      have hF : f_r [21, 23, 26, 27, 28] [49, 50] [] σ (s_v σ 27 0) := f_v hF (by decide)
      refine lv_iload_n hx hb dX10_letter_21 rfl (lv_at hl 2 rfl) ?_
      refine lv_bipush (v := I 65) hx hb dX10_letter_22 (by decide) ?_
      refine bi_icmp_lt (tgt := 52) hx hb r_n1 (by decide) dX10_letter_24 (by decide) (fun c2 => ?_) (fun c2 => ?_)
      ·
        replace hw := hw.1 c2
        exact (hP52 _ _).mp hw r_n1 hN hF H locs ls hP hD hS (lv_sub hl [1, 2] rfl)
      ·
        replace hw := hw.2 c2
        refine lv_iload_n hx hb dX10_letter_27 rfl (lv_at hl 2 rfl) ?_
        refine lv_bipush (v := I 84) hx hb dX10_letter_28 (by decide) ?_
        refine bi_icmp_gt (tgt := 52) hx hb r_n1 (by decide) dX10_letter_30 (by decide) (fun c3 => ?_) (fun c3 => ?_)
        ·
          replace hw := hw.1 c3
          exact (hP52 _ _).mp hw r_n1 hN hF H locs ls hP hD hS (lv_sub hl [1, 2] rfl)
        ·
          replace hw := hw.2 c3
          refine lv_aload_n hx hb dX10_letter_33 rfl (lv_at hl 1 rfl) ?_
          refine lv_aload_n hx hb dX10_letter_34 rfl (lv_at hl 1 rfl) ?_
          refine gfX10_number hx hb hts hK hP hown (hts _ tw_426) (x := σ.1 26) rfl dX10_letter_35 ?_
          refine lv_bipush (v := I 20) hx hb dX10_letter_38 (by decide) ?_
          refine bi_imul hx hb dX10_letter_40 ?_
          refine lv_iload_n hx hb dX10_letter_41 rfl (lv_at hl 2 rfl) ?_
          refine bi_iadd hx hb dX10_letter_42 ?_
          refine lv_bipush (v := I 65) hx hb dX10_letter_43 (by decide) ?_
          refine bi_isub hx hb dX10_letter_45 ?_
          refine lv_iconst (v := I 1) hx hb dX10_letter_46 rfl ?_
          refine bi_iadd hx hb dX10_letter_47 ?_
          obtain ⟨c4, hw⟩ := hw
          obtain ⟨Q5, hc, hw⟩ := hw
          refine wc_I (X := CX g q lb) (va_runV (As := [.int (I ((((σ.1 26 * 20) + n1) - 65) + 1))]) (rest := []) ⟨hx, hb, hml, hown, hts⟩ (L_X10_endNumber l g q lb hlb c4 hN hc H.size) (cwV 1 hts (TB_V tw_1260 tw_1262 ts_41 tw_8 co_X10_endNumber) rfl rfl rfl (by decide +kernel) ⟨Nat.le_of_ble_eq_true rfl, Nat.le_of_ble_eq_true rfl⟩) (preV (q0 := 5) (ci := 10) rfl xT_bl hP hK hNb hD rfl rfl xT_at) rfl rfl hl.1 rfl (lv_room (Nat.le_of_ble_eq_true rfl)) dX10_letter_48 ⟨Nat.le_of_ble_eq_true rfl, Nat.le_of_ble_eq_true rfl⟩) hP hD hS hA (fun x6 τ7 H locs r_x6 hN hf hq hP hD hS => ?_)
          replace hw := hw x6 τ7 r_x6 hN hf hq
          have hF : f_r [21, 23, 26, 27, 28] [49, 50] [] σ τ7 := f_t hF hf (by decide) (by decide) (by decide)
          have hB := hN
          exact xri hx hb hr hlk hP hK hD hS ⟨_, _, r_x6, rfl, hN, hF, rfl, hw⟩ (Nat.le_of_ble_eq_true rfl) (Nat.le_of_ble_eq_true rfl) dX10_letter_51
    ·
      replace hw := hw.2 c1
      refine lv_aload_n hx hb dX10_letter_6 rfl (lv_at hl 0 rfl) ?_
      obtain ⟨Q8, hc, hw⟩ := hw
      refine wc_I (X := CX g q lb) (va_runV (As := []) (rest := []) ⟨hx, hb, hml, hown, hts⟩ (L_X10_save l g q lb hlb  hN hc H.size) (cwV 0 hts (TB_V tw_1255 tw_1257 ts_40 tw_8 co_X10_save) rfl rfl rfl (by decide +kernel) ⟨Nat.le_of_ble_eq_true rfl, Nat.le_of_ble_eq_true rfl⟩) (preV (q0 := 5) (ci := 10) rfl xT_bl hP hK hNb hD rfl rfl xT_at) rfl rfl hl.1 rfl (lv_room (Nat.le_of_ble_eq_true rfl)) dX10_letter_7 ⟨Nat.le_of_ble_eq_true rfl, Nat.le_of_ble_eq_true rfl⟩) hP hD hS hA (fun x9 τ10 H locs r_x9 hN hf hq hP hD hS => ?_)
      replace hw := hw x9 τ10 r_x9 hN hf hq
      have hF : f_r [21, 23, 26, 27, 28] [49, 50] [] σ τ10 := f_t hF hf (by decide) (by decide) (by decide)
      have hB := hN
      exact xri hx hb hr hlk hP hK hD hS ⟨_, _, r_x9, rfl, hN, hF, rfl, hw⟩ (Nat.le_of_ble_eq_true rfl) (Nat.le_of_ble_eq_true rfl) dX10_letter_10
  ·
    intro u1 τ hw
    refine (hP52 _ _).mpr ?_
    intro r_u1 hN hF H locs ls hP hD hS hl
    have hB := hN
    refine lv_iload_n hx hb dX10_letter_52 rfl (lv_at hl 1 rfl) ?_
    refine lv_bipush (v := I 85) hx hb dX10_letter_53 (by decide) ?_
    refine bi_icmp_lt (tgt := 96) hx hb r_u1 (by decide) dX10_letter_55 (by decide) (fun c11 => ?_) (fun c11 => ?_)
    ·
      replace hw := hw.1 c11
      exact (hP96 _ _).mp hw r_u1 hN hF H locs ls hP hD hS (lv_sub hl [0, 1] rfl)
    ·
      replace hw := hw.2 c11
      refine lv_iload_n hx hb dX10_letter_58 rfl (lv_at hl 1 rfl) ?_
      refine lv_bipush (v := I 89) hx hb dX10_letter_59 (by decide) ?_
      refine bi_icmp_gt (tgt := 96) hx hb r_u1 (by decide) dX10_letter_61 (by decide) (fun c12 => ?_) (fun c12 => ?_)
      ·
        replace hw := hw.1 c12
        exact (hP96 _ _).mp hw r_u1 hN hF H locs ls hP hD hS (lv_sub hl [0, 1] rfl)
      ·
        replace hw := hw.2 c12
        refine lv_aload_n hx hb dX10_letter_64 rfl (lv_at hl 0 rfl) ?_
        refine lv_aload_n hx hb dX10_letter_65 rfl (lv_at hl 0 rfl) ?_
        refine gfX10_number hx hb hts hK hP hown (hts _ tw_426) (x := τ.1 26) rfl dX10_letter_66 ?_
        refine lv_iconst (v := I 5) hx hb dX10_letter_69 rfl ?_
        refine bi_imul hx hb dX10_letter_70 ?_
        refine lv_iload_n hx hb dX10_letter_71 rfl (lv_at hl 1 rfl) ?_
        refine bi_iadd hx hb dX10_letter_72 ?_
        refine lv_bipush (v := I 85) hx hb dX10_letter_73 (by decide) ?_
        refine bi_isub hx hb dX10_letter_75 ?_
        refine lv_iconst (v := I 1) hx hb dX10_letter_76 rfl ?_
        refine bi_iadd hx hb dX10_letter_77 ?_
        obtain ⟨c13, hw⟩ := hw
        refine pfX10_number hx hb hts hK hP hD hS hown (hts _ tw_426) dX10_letter_78 (fun H locs hP hD hS => ?_)
        have hN : n_m (s_v τ 26 ((((τ.1 26 * 5) + u1) - 85) + 1)) := n_v (i := 26) hN (c13 : rg ((((τ.1 26 * 5) + u1) - 85) + 1))
        have hF : f_r [21, 23, 26, 27, 28] [49, 50] [] σ (s_v τ 26 ((((τ.1 26 * 5) + u1) - 85) + 1)) := f_v hF (by decide)
        refine lv_aload_n hx hb dX10_letter_81 rfl (lv_at hl 0 rfl) ?_
        refine gfX10_number hx hb hts hK hP hown (hts _ tw_426) (x := ((((τ.1 26 * 5) + u1) - 85) + 1)) rfl dX10_letter_82 ?_
        refine lv_ldc (own := RX10) (v := 1000000) hx hb hown (hts _ tw_1264) dX10_letter_85 ?_
        refine xtop (y := I 1000000) (by decide) ?_
        refine bi_icmp_le (tgt := 94) hx hb c13 (by decide) dX10_letter_87 (by decide) (fun c14 => ?_) (fun c14 => ?_)
        ·
          replace hw := hw.1 c14
          refine lv_iconst (v := I 0) hx hb dX10_letter_94 rfl ?_
          exact xri hx hb hr hlk hP hK hD hS ⟨_, _, (by decide), rfl, hN, hF, rfl, hw⟩ (Nat.le_of_ble_eq_true rfl) (Nat.le_of_ble_eq_true rfl) dX10_letter_95
        ·
          replace hw := hw.2 c14
          refine lv_iconst (v := I 5) hx hb dX10_letter_90 rfl ?_
          refine lv_goto (tgt := 95) hx hb dX10_letter_91 (by decide) ?_
          exact xri hx hb hr hlk hP hK hD hS ⟨_, _, (by decide), rfl, hN, hF, rfl, hw⟩ (Nat.le_of_ble_eq_true rfl) (Nat.le_of_ble_eq_true rfl) dX10_letter_95
  ·
    intro u1 τ hw
    refine (hP96 _ _).mpr ?_
    intro r_u1 hN hF H locs ls hP hD hS hl
    have hB := hN
    refine lv_iload_n hx hb dX10_letter_96 rfl (lv_at hl 1 rfl) ?_
    refine lv_bipush (v := I 63) hx hb dX10_letter_97 (by decide) ?_
    refine bi_icmp_ne (tgt := 116) hx hb r_u1 (by decide) dX10_letter_99 (by decide) (fun c15 => ?_) (fun c15 => ?_)
    ·
      replace hw := hw.1 c15
      refine lv_bipush (v := I 14) hx hb dX10_letter_116 (by decide) ?_
      exact xri hx hb hr hlk hP hK hD hS ⟨_, _, (by decide), rfl, hN, hF, rfl, hw⟩ (Nat.le_of_ble_eq_true rfl) (Nat.le_of_ble_eq_true rfl) dX10_letter_118
    ·
      replace hw := hw.2 c15
      refine lv_aload_n hx hb dX10_letter_102 rfl (lv_at hl 0 rfl) ?_
      refine gfX10_number hx hb hts hK hP hown (hts _ tw_426) (x := τ.1 26) rfl dX10_letter_103 ?_
      refine bi_if_ne (tgt := 116) hx hb (hB.1 26) dX10_letter_106 (by decide) (fun c16 => ?_) (fun c16 => ?_)
      ·
        replace hw := hw.1 c16
        refine lv_bipush (v := I 14) hx hb dX10_letter_116 (by decide) ?_
        exact xri hx hb hr hlk hP hK hD hS ⟨_, _, (by decide), rfl, hN, hF, rfl, hw⟩ (Nat.le_of_ble_eq_true rfl) (Nat.le_of_ble_eq_true rfl) dX10_letter_118
      ·
        replace hw := hw.2 c16
        refine lv_aload_n hx hb dX10_letter_109 rfl (lv_at hl 0 rfl) ?_
        refine lv_iconst (v := I 1) hx hb dX10_letter_110 rfl ?_
        refine pfX10_open hx hb hts hK hP hD hS hown (hts _ tw_428) (by decide)  dX10_letter_111 (fun H locs hP hD hS => ?_)
        have hN : n_m (s_v τ 28 1) := n_v (i := 28) hN ((by decide) : rg 1)
        have hF : f_r [21, 23, 26, 27, 28] [49, 50] [] σ (s_v τ 28 1) := f_v hF (by decide)
        refine lv_iconst (v := I 0) hx hb dX10_letter_114 rfl ?_
        exact xri hx hb hr hlk hP hK hD hS ⟨_, _, (by decide), rfl, hN, hF, rfl, hw⟩ (Nat.le_of_ble_eq_true rfl) (Nat.le_of_ble_eq_true rfl) dX10_letter_115
def W_X10_letters_q13 (n2 : Int) (n3 : Int) (σ : S0) (Q : Int → S0 → Prop) : Prop :=
  ∀ (P6 : Int → Int → Int → Int → S0 → Prop),
  (∀ (u2 : Int) (u3 : Int) (u4 : Int) (u5 : Int) (τ : S0), (rg (u2 + u3) ∧ ((u2 + u3) ≤ u5 → Q u4 τ) ∧ (u5 < (u2 + u3) → (¬ u4 = 0 → Q u4 τ) ∧ (u4 = 0 → (0 ≤ u5 ∧ u5 < 60000) ∧ (∀ (x5 : Int), rg x5 → x5 = τ.2.1 0 u5 → (∃ (Q6 : Int → S0 → Prop), W_X10_letter x5 (s_v τ 29 u5) Q6 ∧ ∀ (x7 : Int) (τ8 : S0), rg x7 → n_m τ8 → f_r [21, 23, 26, 27, 28] [49, 50] [] (s_v τ 29 u5) τ8 → Q6 x7 τ8 → (rg (u5 + 1) ∧ P6 u2 u3 x7 (u5 + 1) τ8)))))) → P6 u2 u3 u4 u5 τ) →
  P6 n2 n3 0 n2 σ
set_option maxRecDepth 100000 in
set_option maxHeartbeats 4000000 in
theorem L_X10_letters_q13 (l : Launch) (g : gG) (q : Nat → Nat) (lb : Nat) (hlb : lb < 2 ^ 31) {n2 : Int} {n3 : Int} {σ : S0} {Q : Int → S0 → Prop} (r_n2 : rg n2) (r_n3 : rg n3) (hN : n_m σ) (hw : W_X10_letters_q13 n2 n3 σ Q) (sz : Nat) : MetI l yX10_letters cX10_letters 6 (some .int) { frames := 3, cells := 0, slots := 0, locals := 66 } g [.ref (q 5), .ref (q 13), .int (I n2), .int (I n3)] (CX g q lb σ) sz xT (p_I (CX g q lb) [21, 23, 26, 27, 28, 29] [49, 50] [] σ Q) 0 0 := by
  refine mkMet (Qc := fun A => QI g A (p_I (CX g q lb) [21, 23, 26, 27, 28, 29] [49, 50] [] σ Q)) (by decide) (Nat.le_of_ble_eq_true rfl) ?_
  intro p e s m below meth c A H ls hx hb hr hml hown hts hlk hnm hsz hP hK hNb hD hA hAe hS hX hl
  have hl : lv_has ls 6 [(0, .ref (q 5)), (1, .ref (q 13)), (2, .int (I n2)), (3, .int (I n3))] := hl
  have hB := hN
  have hF : f_r [21, 23, 26, 27, 28, 29] [49, 50] [] σ σ := f_0
  obtain ⟨locs, hlocs⟩ : ∃ z : List Loc, z = [] := ⟨_, rfl⟩
  rw [← hlocs] at hS ⊢
  obtain ⟨P6, hP6⟩ : ∃ P : Int → Int → Int → Int → S0 → Prop, ∀ (u2 : Int) (u3 : Int) (u4 : Int) (u5 : Int) (τ : S0), (P u2 u3 u4 u5 τ ↔ (rg u2 → rg u3 → rg u4 → rg u5 → n_m τ → f_r [21, 23, 26, 27, 28, 29] [49, 50] [] σ τ → ∀ (H : Heap) (locs : List Loc) (ls : Array Slot), KP g (CX g q lb τ) H → va_D A (CX g q lb τ) → va_S A s.heap H locs → lv_has ls 6 [(0, .ref (q 5)), (1, .ref (q 13)), (2, .int (I u2)), (3, .int (I u3)), (4, .int (I u4)), (5, .int (I u5))] → W p l e ({ frames := 3, cells := 0, slots := 0, locals := 66 }) s m [.ref (q 5), .ref (q 13), .int (I n2), .int (I n3)].toArray below meth c H locs 0 0 (MQ below (QI g A (p_I (CX g q lb) [21, 23, 26, 27, 28, 29] [49, 50] [] σ Q)) [.ref (q 5), .ref (q 13), .int (I n2), .int (I n3)].toArray s 0 0 A) (F0 m 6 ls []))) := ⟨_, fun _ _ _ _ _ => Iff.rfl⟩
  refine (fun hw => ?_) (hw P6 ?_)
  ·
    refine lv_iconst (v := I 0) hx hb dX10_letters_0 rfl ?_
    refine lv_istore (lv' := [(4, .int (I 0)), (0, .ref (q 5)), (1, .ref (q 13)), (2, .int (I n2)), (3, .int (I n3))]) hx hb dX10_letters_1 hl (by decide) rfl (fun ls hl => ?_)
    refine lv_iload_n hx hb dX10_letters_3 rfl (lv_at hl 3 rfl) ?_
    refine lv_istore (lv' := [(5, .int (I n2)), (4, .int (I 0)), (0, .ref (q 5)), (1, .ref (q 13)), (2, .int (I n2)), (3, .int (I n3))]) hx hb dX10_letters_4 hl (by decide) rfl (fun ls hl => ?_)
    exact (hP6 _ _ _ _ _).mp hw r_n2 r_n3 (by decide) r_n2 hN hF H locs ls hP hD hS (lv_sub hl [2, 3, 4, 5, 1, 0] rfl)
  ·
    intro u2 u3 u4 u5 τ hw
    refine (hP6 _ _ _ _ _).mpr ?_
    intro r_u2 r_u3 r_u4 r_u5 hN hF H locs ls hP hD hS hl
    have hB := hN
    refine lv_iload hx hb dX10_letters_6 (lv_at hl 5 rfl) ?_
    refine lv_iload_n hx hb dX10_letters_8 rfl (lv_at hl 2 rfl) ?_
    refine lv_iload_n hx hb dX10_letters_9 rfl (lv_at hl 3 rfl) ?_
    refine bi_iadd hx hb dX10_letters_10 ?_
    obtain ⟨c1, hw⟩ := hw
    refine bi_icmp_ge (tgt := 41) hx hb r_u5 c1 dX10_letters_11 (by decide) (fun c2 => ?_) (fun c2 => ?_)
    ·
      replace hw := hw.1 c2
      refine lv_iload hx hb dX10_letters_41 (lv_at hl 4 rfl) ?_
      exact xri hx hb hr hlk hP hK hD hS ⟨_, _, r_u4, rfl, hN, hF, rfl, hw⟩ (Nat.le_of_ble_eq_true rfl) (Nat.le_of_ble_eq_true rfl) dX10_letters_43
    ·
      replace hw := hw.2 c2
      refine lv_iload hx hb dX10_letters_14 (lv_at hl 4 rfl) ?_
      refine bi_if_ne (tgt := 41) hx hb r_u4 dX10_letters_16 (by decide) (fun c3 => ?_) (fun c3 => ?_)
      ·
        replace hw := hw.1 c3
        refine lv_iload hx hb dX10_letters_41 (lv_at hl 4 rfl) ?_
        exact xri hx hb hr hlk hP hK hD hS ⟨_, _, r_u4, rfl, hN, hF, rfl, hw⟩ (Nat.le_of_ble_eq_true rfl) (Nat.le_of_ble_eq_true rfl) dX10_letters_43
      ·
        replace hw := hw.2 c3
        refine lv_aload_n hx hb dX10_letters_19 rfl (lv_at hl 0 rfl) ?_
        refine lv_iload hx hb dX10_letters_20 (lv_at hl 5 rfl) ?_
        refine pfX10_place hx hb hts hK hP hD hS hown (hts _ tw_431) dX10_letters_22 (fun H locs hP hD hS => ?_)
        have hN : n_m (s_v τ 29 u5) := n_v (i := 29) hN (r_u5 : rg u5)
        have hF : f_r [21, 23, 26, 27, 28, 29] [49, 50] [] σ (s_v τ 29 u5) := f_v hF (by decide)
        refine lv_aload_n hx hb dX10_letters_25 rfl (lv_at hl 0 rfl) ?_
        refine lv_aload_n hx hb dX10_letters_26 rfl (lv_at hl 1 rfl) ?_
        refine lv_iload hx hb dX10_letters_27 (lv_at hl 5 rfl) ?_
        obtain ⟨c4, hw⟩ := hw
        refine ldCX12_tape hx hb hK hP hN c4 dX10_letters_29 (fun x5 r_x5 e_x5 => ?_)
        replace hw := hw x5 r_x5 e_x5
        obtain ⟨Q6, hc, hw⟩ := hw
        refine wc_I (X := CX g q lb) (va_runV (As := [.int (I x5)]) (rest := []) ⟨hx, hb, hml, hown, hts⟩ (L_X10_letter l g q lb hlb r_x5 hN hc H.size) (cwV 1 hts (TB_V tw_1251 tw_1253 ts_39 tw_8 co_X10_letter) rfl rfl rfl (by decide +kernel) ⟨Nat.le_of_ble_eq_true rfl, Nat.le_of_ble_eq_true rfl⟩) (preV (q0 := 5) (ci := 10) rfl xT_bl hP hK hNb hD rfl rfl xT_at) rfl rfl hl.1 rfl (lv_room (Nat.le_of_ble_eq_true rfl)) dX10_letters_30 ⟨Nat.le_of_ble_eq_true rfl, Nat.le_of_ble_eq_true rfl⟩) hP hD hS hA (fun x7 τ8 H locs r_x7 hN hf hq hP hD hS => ?_)
        replace hw := hw x7 τ8 r_x7 hN hf hq
        have hF : f_r [21, 23, 26, 27, 28, 29] [49, 50] [] σ τ8 := f_t hF hf (by decide) (by decide) (by decide)
        have hB := hN
        refine lv_istore (lv' := [(4, .int (I x7)), (0, .ref (q 5)), (1, .ref (q 13)), (2, .int (I u2)), (3, .int (I u3)), (5, .int (I u5))]) hx hb dX10_letters_33 hl (by decide) rfl (fun ls hl => ?_)
        refine lv_iinc (v := I (u5 + 1)) (lv' := [(5, .int (I (u5 + 1))), (4, .int (I x7)), (0, .ref (q 5)), (1, .ref (q 13)), (2, .int (I u2)), (3, .int (I u3))]) hx hb dX10_letters_35 hl (k := 5) rfl (I_add _ _) (by decide) rfl (fun ls hl => ?_)
        refine lv_goto (tgt := 6) hx hb dX10_letters_38 (by decide) ?_
        obtain ⟨c9, hw⟩ := hw
        exact (hP6 _ _ _ _ _).mp hw r_u2 r_u3 r_x7 c9 hN hF H locs ls hP hD hS (lv_sub hl [2, 3, 4, 5, 1, 0] rfl)
def W_X12_isLabelCharacter (n0 : Int) (σ : S0) (Q : Int → Prop) : Prop :=
  ∀ (P12 : Int → Prop) (P29 : Int → Int → Prop) (P46 : Int → Prop),
  (∀ (u0 : Int), ((u0 < 65 → P29 u0 0) ∧ (65 ≤ u0 → (90 < u0 → P29 u0 0) ∧ (u0 ≤ 90 → P29 u0 1))) → P12 u0) →
  (∀ (u0 : Int) (k0 : Int), ((¬ k0 = 0 → Q 1) ∧ (k0 = 0 → (u0 < 48 → P46 u0) ∧ (48 ≤ u0 → (u0 ≤ 57 → Q 1) ∧ (57 < u0 → P46 u0)))) → P29 u0 k0) →
  (∀ (u0 : Int), ((u0 = 46 → Q 1) ∧ (¬ u0 = 46 → (u0 = 45 → Q 1) ∧ (¬ u0 = 45 → (¬ u0 = 95 → Q 0) ∧ (u0 = 95 → Q 1)))) → P46 u0) →
  (n0 < 97 → P12 n0) ∧ (97 ≤ n0 → (n0 ≤ 122 → P29 n0 1) ∧ (122 < n0 → P12 n0))
set_option maxRecDepth 100000 in
set_option maxHeartbeats 4000000 in
theorem L_X12_isLabelCharacter (l : Launch) (g : gG) (q : Nat → Nat) (lb : Nat) (hlb : lb < 2 ^ 31) {n0 : Int} {σ : S0} {Q : Int → Prop} (r_n0 : rg n0) (hN : n_m σ) (hw : W_X12_isLabelCharacter n0 σ Q) (sz : Nat) : MetI l yX12_isLabelCharacter cX12_isLabelCharacter 2 (some .boolean) { frames := 0, cells := 0, slots := 0, locals := 0 } g [.int (I n0)] (CX g q lb σ) sz xT (p_i (CX g q lb) σ Q) 0 0 := by
  refine mkMet (Qc := fun A => QI g A (p_i (CX g q lb) σ Q)) (by decide) (Nat.le_of_ble_eq_true rfl) ?_
  intro p e s m below meth c A H ls hx hb hr hml hown hts hlk hnm hsz hP hK hNb hD hA hAe hS hX hl
  have hl : lv_has ls 2 [(0, .int (I n0))] := hl
  have hB := hN
  obtain ⟨locs, hlocs⟩ : ∃ z : List Loc, z = [] := ⟨_, rfl⟩
  rw [← hlocs] at hS ⊢
  obtain ⟨P12, hP12⟩ : ∃ P : Int → Prop, ∀ (u0 : Int), (P u0 ↔ (rg u0 → ∀ (H : Heap) (locs : List Loc) (ls : Array Slot), KP g (CX g q lb σ) H → va_D A (CX g q lb σ) → va_S A s.heap H locs → lv_has ls 2 [(0, .int (I u0))] → W p l e ({ frames := 0, cells := 0, slots := 0, locals := 0 }) s m [.int (I n0)].toArray below meth c H locs 0 0 (MQ below (QI g A (p_i (CX g q lb) σ Q)) [.int (I n0)].toArray s 0 0 A) (F0 m 12 ls []))) := ⟨_, fun _ => Iff.rfl⟩
  obtain ⟨P29, hP29⟩ : ∃ P : Int → Int → Prop, ∀ (u0 : Int) (k0 : Int), (P u0 k0 ↔ (rg u0 → rg k0 → ∀ (H : Heap) (locs : List Loc) (ls : Array Slot), KP g (CX g q lb σ) H → va_D A (CX g q lb σ) → va_S A s.heap H locs → lv_has ls 2 [(0, .int (I u0))] → W p l e ({ frames := 0, cells := 0, slots := 0, locals := 0 }) s m [.int (I n0)].toArray below meth c H locs 0 0 (MQ below (QI g A (p_i (CX g q lb) σ Q)) [.int (I n0)].toArray s 0 0 A) (F0 m 29 ls [.int (I k0)]))) := ⟨_, fun _ _ => Iff.rfl⟩
  obtain ⟨P46, hP46⟩ : ∃ P : Int → Prop, ∀ (u0 : Int), (P u0 ↔ (rg u0 → ∀ (H : Heap) (locs : List Loc) (ls : Array Slot), KP g (CX g q lb σ) H → va_D A (CX g q lb σ) → va_S A s.heap H locs → lv_has ls 2 [(0, .int (I u0))] → W p l e ({ frames := 0, cells := 0, slots := 0, locals := 0 }) s m [.int (I n0)].toArray below meth c H locs 0 0 (MQ below (QI g A (p_i (CX g q lb) σ Q)) [.int (I n0)].toArray s 0 0 A) (F0 m 46 ls []))) := ⟨_, fun _ => Iff.rfl⟩
  refine (fun hw => ?_) (hw P12 P29 P46 ?_ ?_ ?_)
  ·
    refine lv_iload_n hx hb dX12_isLabelCharacter_0 rfl (lv_at hl 0 rfl) ?_
    refine lv_bipush (v := I 97) hx hb dX12_isLabelCharacter_1 (by decide) ?_
    refine bi_icmp_lt (tgt := 12) hx hb r_n0 (by decide) dX12_isLabelCharacter_3 (by decide) (fun c1 => ?_) (fun c1 => ?_)
    ·
      replace hw := hw.1 c1
      exact (hP12 _).mp hw r_n0  H locs ls hP hD hS (lv_sub hl [0] rfl)
    ·
      replace hw := hw.2 c1
      refine lv_iload_n hx hb dX12_isLabelCharacter_6 rfl (lv_at hl 0 rfl) ?_
      refine lv_bipush (v := I 122) hx hb dX12_isLabelCharacter_7 (by decide) ?_
      refine bi_icmp_le (tgt := 24) hx hb r_n0 (by decide) dX12_isLabelCharacter_9 (by decide) (fun c2 => ?_) (fun c2 => ?_)
      ·
        replace hw := hw.1 c2
        refine lv_iconst (v := I 1) hx hb dX12_isLabelCharacter_24 rfl ?_
        refine lv_goto (tgt := 29) hx hb dX12_isLabelCharacter_25 (by decide) ?_
        exact (hP29 _ _).mp hw r_n0 (by decide)  H locs ls hP hD hS (lv_sub hl [0] rfl)
      ·
        replace hw := hw.2 c2
        exact (hP12 _).mp hw r_n0  H locs ls hP hD hS (lv_sub hl [0] rfl)
  ·
    intro u0 hw
    refine (hP12 _).mpr ?_
    intro r_u0 H locs ls hP hD hS hl
    refine lv_iload_n hx hb dX12_isLabelCharacter_12 rfl (lv_at hl 0 rfl) ?_
    refine lv_bipush (v := I 65) hx hb dX12_isLabelCharacter_13 (by decide) ?_
    refine bi_icmp_lt (tgt := 28) hx hb r_u0 (by decide) dX12_isLabelCharacter_15 (by decide) (fun c3 => ?_) (fun c3 => ?_)
    ·
      replace hw := hw.1 c3
      refine lv_iconst (v := I 0) hx hb dX12_isLabelCharacter_28 rfl ?_
      exact (hP29 _ _).mp hw r_u0 (by decide)  H locs ls hP hD hS (lv_sub hl [0] rfl)
    ·
      replace hw := hw.2 c3
      refine lv_iload_n hx hb dX12_isLabelCharacter_18 rfl (lv_at hl 0 rfl) ?_
      refine lv_bipush (v := I 90) hx hb dX12_isLabelCharacter_19 (by decide) ?_
      refine bi_icmp_gt (tgt := 28) hx hb r_u0 (by decide) dX12_isLabelCharacter_21 (by decide) (fun c4 => ?_) (fun c4 => ?_)
      ·
        replace hw := hw.1 c4
        refine lv_iconst (v := I 0) hx hb dX12_isLabelCharacter_28 rfl ?_
        exact (hP29 _ _).mp hw r_u0 (by decide)  H locs ls hP hD hS (lv_sub hl [0] rfl)
      ·
        replace hw := hw.2 c4
        refine lv_iconst (v := I 1) hx hb dX12_isLabelCharacter_24 rfl ?_
        refine lv_goto (tgt := 29) hx hb dX12_isLabelCharacter_25 (by decide) ?_
        exact (hP29 _ _).mp hw r_u0 (by decide)  H locs ls hP hD hS (lv_sub hl [0] rfl)
  ·
    intro u0 k0 hw
    refine (hP29 _ _).mpr ?_
    intro r_u0 r_k0 H locs ls hP hD hS hl
    refine lv_istore_n (lv' := [(1, .int (I k0)), (0, .int (I u0))]) hx hb dX12_isLabelCharacter_29 rfl hl (by decide) rfl (fun ls hl => ?_)
    refine lv_iload_n hx hb dX12_isLabelCharacter_30 rfl (lv_at hl 0 rfl) ?_
    refine bi_if_ne (tgt := 64) hx hb r_k0 dX12_isLabelCharacter_31 (by decide) (fun c5 => ?_) (fun c5 => ?_)
    ·
      replace hw := hw.1 c5
      refine lv_iconst (v := I 1) hx hb dX12_isLabelCharacter_64 rfl ?_
      refine lv_goto (tgt := 69) hx hb dX12_isLabelCharacter_65 (by decide) ?_
      exact xrz hx hb hr (by decide) hlk hP hK hD hS ⟨_, (by decide), rfl, rfl, hw⟩ (Nat.le_of_ble_eq_true rfl) (Nat.le_of_ble_eq_true rfl) dX12_isLabelCharacter_69
    ·
      replace hw := hw.2 c5
      refine lv_iload_n hx hb dX12_isLabelCharacter_34 rfl (lv_at hl 1 rfl) ?_
      refine lv_bipush (v := I 48) hx hb dX12_isLabelCharacter_35 (by decide) ?_
      refine bi_icmp_lt (tgt := 46) hx hb r_u0 (by decide) dX12_isLabelCharacter_37 (by decide) (fun c6 => ?_) (fun c6 => ?_)
      ·
        replace hw := hw.1 c6
        exact (hP46 _).mp hw r_u0  H locs ls hP hD hS (lv_sub hl [1] rfl)
      ·
        replace hw := hw.2 c6
        refine lv_iload_n hx hb dX12_isLabelCharacter_40 rfl (lv_at hl 1 rfl) ?_
        refine lv_bipush (v := I 57) hx hb dX12_isLabelCharacter_41 (by decide) ?_
        refine bi_icmp_le (tgt := 64) hx hb r_u0 (by decide) dX12_isLabelCharacter_43 (by decide) (fun c7 => ?_) (fun c7 => ?_)
        ·
          replace hw := hw.1 c7
          refine lv_iconst (v := I 1) hx hb dX12_isLabelCharacter_64 rfl ?_
          refine lv_goto (tgt := 69) hx hb dX12_isLabelCharacter_65 (by decide) ?_
          exact xrz hx hb hr (by decide) hlk hP hK hD hS ⟨_, (by decide), rfl, rfl, hw⟩ (Nat.le_of_ble_eq_true rfl) (Nat.le_of_ble_eq_true rfl) dX12_isLabelCharacter_69
        ·
          replace hw := hw.2 c7
          exact (hP46 _).mp hw r_u0  H locs ls hP hD hS (lv_sub hl [1] rfl)
  ·
    intro u0 hw
    refine (hP46 _).mpr ?_
    intro r_u0 H locs ls hP hD hS hl
    refine lv_iload_n hx hb dX12_isLabelCharacter_46 rfl (lv_at hl 0 rfl) ?_
    refine lv_bipush (v := I 46) hx hb dX12_isLabelCharacter_47 (by decide) ?_
    refine bi_icmp_eq (tgt := 64) hx hb r_u0 (by decide) dX12_isLabelCharacter_49 (by decide) (fun c8 => ?_) (fun c8 => ?_)
    ·
      replace hw := hw.1 c8
      refine lv_iconst (v := I 1) hx hb dX12_isLabelCharacter_64 rfl ?_
      refine lv_goto (tgt := 69) hx hb dX12_isLabelCharacter_65 (by decide) ?_
      exact xrz hx hb hr (by decide) hlk hP hK hD hS ⟨_, (by decide), rfl, rfl, hw⟩ (Nat.le_of_ble_eq_true rfl) (Nat.le_of_ble_eq_true rfl) dX12_isLabelCharacter_69
    ·
      replace hw := hw.2 c8
      refine lv_iload_n hx hb dX12_isLabelCharacter_52 rfl (lv_at hl 0 rfl) ?_
      refine lv_bipush (v := I 45) hx hb dX12_isLabelCharacter_53 (by decide) ?_
      refine bi_icmp_eq (tgt := 64) hx hb r_u0 (by decide) dX12_isLabelCharacter_55 (by decide) (fun c9 => ?_) (fun c9 => ?_)
      ·
        replace hw := hw.1 c9
        refine lv_iconst (v := I 1) hx hb dX12_isLabelCharacter_64 rfl ?_
        refine lv_goto (tgt := 69) hx hb dX12_isLabelCharacter_65 (by decide) ?_
        exact xrz hx hb hr (by decide) hlk hP hK hD hS ⟨_, (by decide), rfl, rfl, hw⟩ (Nat.le_of_ble_eq_true rfl) (Nat.le_of_ble_eq_true rfl) dX12_isLabelCharacter_69
      ·
        replace hw := hw.2 c9
        refine lv_iload_n hx hb dX12_isLabelCharacter_58 rfl (lv_at hl 0 rfl) ?_
        refine lv_bipush (v := I 95) hx hb dX12_isLabelCharacter_59 (by decide) ?_
        refine bi_icmp_ne (tgt := 68) hx hb r_u0 (by decide) dX12_isLabelCharacter_61 (by decide) (fun c10 => ?_) (fun c10 => ?_)
        ·
          replace hw := hw.1 c10
          refine lv_iconst (v := I 0) hx hb dX12_isLabelCharacter_68 rfl ?_
          exact xrz hx hb hr (by decide) hlk hP hK hD hS ⟨_, (by decide), rfl, rfl, hw⟩ (Nat.le_of_ble_eq_true rfl) (Nat.le_of_ble_eq_true rfl) dX12_isLabelCharacter_69
        ·
          replace hw := hw.2 c10
          refine lv_iconst (v := I 1) hx hb dX12_isLabelCharacter_64 rfl ?_
          refine lv_goto (tgt := 69) hx hb dX12_isLabelCharacter_65 (by decide) ?_
          exact xrz hx hb hr (by decide) hlk hP hK hD hS ⟨_, (by decide), rfl, rfl, hw⟩ (Nat.le_of_ble_eq_true rfl) (Nat.le_of_ble_eq_true rfl) dX12_isLabelCharacter_69
def W_X12_isLabel_q13 (n1 : Int) (n2 : Int) (σ : S0) (Q : Int → Prop) : Prop :=
  ∀ (P2 : Int → Int → Int → Prop),
  (∀ (u1 : Int) (u2 : Int) (u3 : Int), ((u2 ≤ u3 → Q 1) ∧ (u3 < u2 → (0 ≤ (u1 + u3) ∧ (u1 + u3) < 60000) ∧ (∀ (x3 : Int), rg x3 → x3 = σ.2.1 0 (u1 + u3) → (∃ (Q4 : Int → Prop), W_X12_isLabelCharacter x3 σ Q4 ∧ ∀ (x5 : Int), rg x5 → Q4 x5 → ((¬ x5 = 0 → rg (u3 + 1) ∧ P2 u1 u2 (u3 + 1)) ∧ (x5 = 0 → Q 0)))))) → P2 u1 u2 u3) →
  P2 n1 n2 0
set_option maxRecDepth 100000 in
set_option maxHeartbeats 4000000 in
theorem L_X12_isLabel_q13 (l : Launch) (g : gG) (q : Nat → Nat) (lb : Nat) (hlb : lb < 2 ^ 31) {n1 : Int} {n2 : Int} {σ : S0} {Q : Int → Prop} (r_n1 : rg n1) (r_n2 : rg n2) (hN : n_m σ) (hw : W_X12_isLabel_q13 n1 n2 σ Q) (sz : Nat) : MetI l yX12_isLabel cX12_isLabel 4 (some .boolean) { frames := 1, cells := 0, slots := 0, locals := 21 } g [.ref (q 13), .int (I n1), .int (I n2)] (CX g q lb σ) sz xT (p_i (CX g q lb) σ Q) 0 0 := by
  refine mkMet (Qc := fun A => QI g A (p_i (CX g q lb) σ Q)) (by decide) (Nat.le_of_ble_eq_true rfl) ?_
  intro p e s m below meth c A H ls hx hb hr hml hown hts hlk hnm hsz hP hK hNb hD hA hAe hS hX hl
  have hl : lv_has ls 4 [(0, .ref (q 13)), (1, .int (I n1)), (2, .int (I n2))] := hl
  have hB := hN
  obtain ⟨locs, hlocs⟩ : ∃ z : List Loc, z = [] := ⟨_, rfl⟩
  rw [← hlocs] at hS ⊢
  obtain ⟨P2, hP2⟩ : ∃ P : Int → Int → Int → Prop, ∀ (u1 : Int) (u2 : Int) (u3 : Int), (P u1 u2 u3 ↔ (rg u1 → rg u2 → rg u3 → ∀ (H : Heap) (locs : List Loc) (ls : Array Slot), KP g (CX g q lb σ) H → va_D A (CX g q lb σ) → va_S A s.heap H locs → lv_has ls 4 [(0, .ref (q 13)), (1, .int (I u1)), (2, .int (I u2)), (3, .int (I u3))] → W p l e ({ frames := 1, cells := 0, slots := 0, locals := 21 }) s m [.ref (q 13), .int (I n1), .int (I n2)].toArray below meth c H locs 0 0 (MQ below (QI g A (p_i (CX g q lb) σ Q)) [.ref (q 13), .int (I n1), .int (I n2)].toArray s 0 0 A) (F0 m 2 ls []))) := ⟨_, fun _ _ _ => Iff.rfl⟩
  refine (fun hw => ?_) (hw P2 ?_)
  ·
    refine lv_iconst (v := I 0) hx hb dX12_isLabel_0 rfl ?_
    refine lv_istore_n (lv' := [(3, .int (I 0)), (0, .ref (q 13)), (1, .int (I n1)), (2, .int (I n2))]) hx hb dX12_isLabel_1 rfl hl (by decide) rfl (fun ls hl => ?_)
    exact (hP2 _ _ _).mp hw r_n1 r_n2 (by decide)  H locs ls hP hD hS (lv_sub hl [1, 2, 3, 0] rfl)
  ·
    intro u1 u2 u3 hw
    refine (hP2 _ _ _).mpr ?_
    intro r_u1 r_u2 r_u3 H locs ls hP hD hS hl
    refine lv_iload_n hx hb dX12_isLabel_2 rfl (lv_at hl 3 rfl) ?_
    refine lv_iload_n hx hb dX12_isLabel_3 rfl (lv_at hl 2 rfl) ?_
    refine bi_icmp_ge (tgt := 26) hx hb r_u3 r_u2 dX12_isLabel_4 (by decide) (fun c1 => ?_) (fun c1 => ?_)
    ·
      replace hw := hw.1 c1
      refine lv_iconst (v := I 1) hx hb dX12_isLabel_26 rfl ?_
      exact xrz hx hb hr (by decide) hlk hP hK hD hS ⟨_, (by decide), rfl, rfl, hw⟩ (Nat.le_of_ble_eq_true rfl) (Nat.le_of_ble_eq_true rfl) dX12_isLabel_27
    ·
      replace hw := hw.2 c1
      refine lv_aload_n hx hb dX12_isLabel_7 rfl (lv_at hl 0 rfl) ?_
      refine lv_iload_n hx hb dX12_isLabel_8 rfl (lv_at hl 1 rfl) ?_
      refine lv_iload_n hx hb dX12_isLabel_9 rfl (lv_at hl 3 rfl) ?_
      refine bi_iadd hx hb dX12_isLabel_10 ?_
      obtain ⟨c2, hw⟩ := hw
      refine ldCX12_tape hx hb hK hP hN c2 dX12_isLabel_11 (fun x3 r_x3 e_x3 => ?_)
      replace hw := hw x3 r_x3 e_x3
      obtain ⟨Q4, hc, hw⟩ := hw
      refine wc_i (X := CX g q lb) (va_runS (As := [.int (I x3)]) (rest := []) ⟨hx, hb, hml, hown, hts⟩ (L_X12_isLabelCharacter l g q lb hlb r_x3 hN hc H.size) (cwS 1 hts (TB_S tw_1140 tw_1141 tw_1 co_X12_isLabelCharacter) rfl rfl rfl (by decide +kernel) ⟨Nat.le_of_ble_eq_true rfl, Nat.le_of_ble_eq_true rfl⟩) (preS xT_bl hP hK hNb hD xT_at) rfl rfl hl.1 rfl (lv_room (Nat.le_of_ble_eq_true rfl)) dX12_isLabel_12 ⟨Nat.le_of_ble_eq_true rfl, Nat.le_of_ble_eq_true rfl⟩) hP hD hS hA (fun x5 H locs r_x5 hq hP hD hS => ?_)
      replace hw := hw x5 r_x5 hq
      refine bi_if_ne (tgt := 20) hx hb r_x5 dX12_isLabel_15 (by decide) (fun c7 => ?_) (fun c7 => ?_)
      ·
        replace hw := hw.1 c7
        refine lv_iinc (v := I (u3 + 1)) (lv' := [(3, .int (I (u3 + 1))), (0, .ref (q 13)), (1, .int (I u1)), (2, .int (I u2))]) hx hb dX12_isLabel_20 hl (k := 3) rfl (I_add _ _) (by decide) rfl (fun ls hl => ?_)
        refine lv_goto (tgt := 2) hx hb dX12_isLabel_23 (by decide) ?_
        obtain ⟨c8, hw⟩ := hw
        exact (hP2 _ _ _).mp hw r_u1 r_u2 c8  H locs ls hP hD hS (lv_sub hl [1, 2, 3, 0] rfl)
      ·
        replace hw := hw.2 c7
        refine lv_iconst (v := I 0) hx hb dX12_isLabel_18 rfl ?_
        exact xrz hx hb hr (by decide) hlk hP hK hD hS ⟨_, (by decide), rfl, rfl, hw⟩ (Nat.le_of_ble_eq_true rfl) (Nat.le_of_ble_eq_true rfl) dX12_isLabel_19
def W_X10_isUsable (n1 : Int) (σ : S0) (Q : Int → Prop) : Prop :=
  (n1 = (-1) → Q 0) ∧ (¬ n1 = (-1) → (σ.1 24 ≤ n1 → Q 0) ∧ (n1 < σ.1 24 → (0 ≤ n1 ∧ n1 < 1500) ∧ (∀ (x4 : Int), rg x4 → x4 = σ.2.1 13 n1 → ((2 ≤ x4 → Q 1) ∧ (x4 < 2 → ∀ (x6 : Int), rg x6 → x6 = σ.2.1 21 n1 → ((x6 = 0 → Q 0) ∧ (¬ x6 = 0 → Q 1)))))))
set_option maxRecDepth 100000 in
set_option maxHeartbeats 4000000 in
theorem L_X10_isUsable (l : Launch) (g : gG) (q : Nat → Nat) (lb : Nat) (hlb : lb < 2 ^ 31) {n1 : Int} {σ : S0} {Q : Int → Prop} (r_n1 : rg n1) (hN : n_m σ) (hw : W_X10_isUsable n1 σ Q) (sz : Nat) : MetI l yX10_isUsable cX10_isUsable 2 (some .boolean) { frames := 0, cells := 0, slots := 0, locals := 0 } g [.ref (q 5), .int (I n1)] (CX g q lb σ) sz xT (p_i (CX g q lb) σ Q) 0 0 := by
  refine mkMet (Qc := fun A => QI g A (p_i (CX g q lb) σ Q)) (by decide) (Nat.le_of_ble_eq_true rfl) ?_
  intro p e s m below meth c A H ls hx hb hr hml hown hts hlk hnm hsz hP hK hNb hD hA hAe hS hX hl
  have hl : lv_has ls 2 [(0, .ref (q 5)), (1, .int (I n1))] := hl
  have hB := hN
  obtain ⟨locs, hlocs⟩ : ∃ z : List Loc, z = [] := ⟨_, rfl⟩
  rw [← hlocs] at hS ⊢
  refine lv_iload_n hx hb dX10_isUsable_0 rfl (lv_at hl 1 rfl) ?_
  refine lv_iconst (v := I (-1)) hx hb dX10_isUsable_1 rfl ?_
  refine bi_icmp_eq (tgt := 42) hx hb r_n1 (by decide) dX10_isUsable_2 (by decide) (fun c1 => ?_) (fun c1 => ?_)
  ·
    replace hw := hw.1 c1
    refine lv_iconst (v := I 0) hx hb dX10_isUsable_42 rfl ?_
    exact xrz hx hb hr (by decide) hlk hP hK hD hS ⟨_, (by decide), rfl, rfl, hw⟩ (Nat.le_of_ble_eq_true rfl) (Nat.le_of_ble_eq_true rfl) dX10_isUsable_43
  ·
    replace hw := hw.2 c1
    refine lv_iload_n hx hb dX10_isUsable_5 rfl (lv_at hl 1 rfl) ?_
    refine lv_aload_n hx hb dX10_isUsable_6 rfl (lv_at hl 0 rfl) ?_
    refine gfX10_theorem hx hb hts hK hP hown (hts _ tw_424) (x := σ.1 24) rfl dX10_isUsable_7 ?_
    refine bi_icmp_ge (tgt := 42) hx hb r_n1 (hB.1 24) dX10_isUsable_10 (by decide) (fun c2 => ?_) (fun c2 => ?_)
    ·
      replace hw := hw.1 c2
      refine lv_iconst (v := I 0) hx hb dX10_isUsable_42 rfl ?_
      exact xrz hx hb hr (by decide) hlk hP hK hD hS ⟨_, (by decide), rfl, rfl, hw⟩ (Nat.le_of_ble_eq_true rfl) (Nat.le_of_ble_eq_true rfl) dX10_isUsable_43
    ·
      replace hw := hw.2 c2
      refine lv_aload_n hx hb dX10_isUsable_13 rfl (lv_at hl 0 rfl) ?_
      refine gfX10_library hx hb hts hK hP hown (hts _ tw_414) dX10_isUsable_14 ?_
      refine gfNX3_kind hx hb hts hK hP hown (nb_use hNb tn_76) dX10_isUsable_17 ?_
      refine lv_iload_n hx hb dX10_isUsable_20 rfl (lv_at hl 1 rfl) ?_
      obtain ⟨c3, hw⟩ := hw
      refine ldCX3_kind hx hb hK hP hN c3 dX10_isUsable_21 (fun x4 r_x4 e_x4 => ?_)
      replace hw := hw x4 r_x4 e_x4
      refine lv_iconst (v := I 2) hx hb dX10_isUsable_22 rfl ?_
      refine bi_icmp_ge (tgt := 38) hx hb r_x4 (by decide) dX10_isUsable_23 (by decide) (fun c5 => ?_) (fun c5 => ?_)
      ·
        replace hw := hw.1 c5
        refine lv_iconst (v := I 1) hx hb dX10_isUsable_38 rfl ?_
        refine lv_goto (tgt := 43) hx hb dX10_isUsable_39 (by decide) ?_
        exact xrz hx hb hr (by decide) hlk hP hK hD hS ⟨_, (by decide), rfl, rfl, hw⟩ (Nat.le_of_ble_eq_true rfl) (Nat.le_of_ble_eq_true rfl) dX10_isUsable_43
      ·
        replace hw := hw.2 c5
        refine lv_aload_n hx hb dX10_isUsable_26 rfl (lv_at hl 0 rfl) ?_
        refine gfX10_scopes hx hb hts hK hP hown (hts _ tw_416) dX10_isUsable_27 ?_
        refine gfNX9_holds hx hb hts hK hP hown (nb_use hNb tn_172) dX10_isUsable_30 ?_
        refine lv_iload_n hx hb dX10_isUsable_33 rfl (lv_at hl 1 rfl) ?_
        refine ldCX9_holds hx hb hK hP hN c3 dX10_isUsable_34 (fun x6 r_x6 e_x6 => ?_)
        replace hw := hw x6 r_x6 e_x6
        refine bi_if_eq (tgt := 42) hx hb r_x6 dX10_isUsable_35 (by decide) (fun c7 => ?_) (fun c7 => ?_)
        ·
          replace hw := hw.1 c7
          refine lv_iconst (v := I 0) hx hb dX10_isUsable_42 rfl ?_
          exact xrz hx hb hr (by decide) hlk hP hK hD hS ⟨_, (by decide), rfl, rfl, hw⟩ (Nat.le_of_ble_eq_true rfl) (Nat.le_of_ble_eq_true rfl) dX10_isUsable_43
        ·
          replace hw := hw.2 c7
          refine lv_iconst (v := I 1) hx hb dX10_isUsable_38 rfl ?_
          refine lv_goto (tgt := 43) hx hb dX10_isUsable_39 (by decide) ?_
          exact xrz hx hb hr (by decide) hlk hP hK hD hS ⟨_, (by decide), rfl, rfl, hw⟩ (Nat.le_of_ble_eq_true rfl) (Nat.le_of_ble_eq_true rfl) dX10_isUsable_43
def W_X10_isListed (n1 : Int) (σ : S0) (Q : Int → Prop) : Prop :=
  ∀ (P2 : Int → Int → Prop),
  (∀ (u1 : Int) (u2 : Int), ((σ.1 22 ≤ u2 → Q 0) ∧ (u2 < σ.1 22 → (0 ≤ u2 ∧ u2 < 300) ∧ (∀ (x3 : Int), rg x3 → x3 = σ.2.1 51 u2 → ((¬ x3 = u1 → rg (u2 + 1) ∧ P2 u1 (u2 + 1)) ∧ (x3 = u1 → Q 1))))) → P2 u1 u2) →
  P2 n1 0
set_option maxRecDepth 100000 in
set_option maxHeartbeats 4000000 in
theorem L_X10_isListed (l : Launch) (g : gG) (q : Nat → Nat) (lb : Nat) (hlb : lb < 2 ^ 31) {n1 : Int} {σ : S0} {Q : Int → Prop} (r_n1 : rg n1) (hN : n_m σ) (hw : W_X10_isListed n1 σ Q) (sz : Nat) : MetI l yX10_isListed cX10_isListed 3 (some .boolean) { frames := 0, cells := 0, slots := 0, locals := 0 } g [.ref (q 5), .int (I n1)] (CX g q lb σ) sz xT (p_i (CX g q lb) σ Q) 0 0 := by
  refine mkMet (Qc := fun A => QI g A (p_i (CX g q lb) σ Q)) (by decide) (Nat.le_of_ble_eq_true rfl) ?_
  intro p e s m below meth c A H ls hx hb hr hml hown hts hlk hnm hsz hP hK hNb hD hA hAe hS hX hl
  have hl : lv_has ls 3 [(0, .ref (q 5)), (1, .int (I n1))] := hl
  have hB := hN
  obtain ⟨locs, hlocs⟩ : ∃ z : List Loc, z = [] := ⟨_, rfl⟩
  rw [← hlocs] at hS ⊢
  obtain ⟨P2, hP2⟩ : ∃ P : Int → Int → Prop, ∀ (u1 : Int) (u2 : Int), (P u1 u2 ↔ (rg u1 → rg u2 → ∀ (H : Heap) (locs : List Loc) (ls : Array Slot), KP g (CX g q lb σ) H → va_D A (CX g q lb σ) → va_S A s.heap H locs → lv_has ls 3 [(0, .ref (q 5)), (1, .int (I u1)), (2, .int (I u2))] → W p l e ({ frames := 0, cells := 0, slots := 0, locals := 0 }) s m [.ref (q 5), .int (I n1)].toArray below meth c H locs 0 0 (MQ below (QI g A (p_i (CX g q lb) σ Q)) [.ref (q 5), .int (I n1)].toArray s 0 0 A) (F0 m 2 ls []))) := ⟨_, fun _ _ => Iff.rfl⟩
  refine (fun hw => ?_) (hw P2 ?_)
  ·
    refine lv_iconst (v := I 0) hx hb dX10_isListed_0 rfl ?_
    refine lv_istore_n (lv' := [(2, .int (I 0)), (0, .ref (q 5)), (1, .int (I n1))]) hx hb dX10_isListed_1 rfl hl (by decide) rfl (fun ls hl => ?_)
    exact (hP2 _ _).mp hw r_n1 (by decide)  H locs ls hP hD hS (lv_sub hl [1, 2, 0] rfl)
  ·
    intro u1 u2 hw
    refine (hP2 _ _).mpr ?_
    intro r_u1 r_u2 H locs ls hP hD hS hl
    refine lv_iload_n hx hb dX10_isListed_2 rfl (lv_at hl 2 rfl) ?_
    refine lv_aload_n hx hb dX10_isListed_3 rfl (lv_at hl 0 rfl) ?_
    refine gfX10_listedCount hx hb hts hK hP hown (hts _ tw_422) (x := σ.1 22) rfl dX10_isListed_4 ?_
    refine bi_icmp_ge (tgt := 28) hx hb r_u2 (hB.1 22) dX10_isListed_7 (by decide) (fun c1 => ?_) (fun c1 => ?_)
    ·
      replace hw := hw.1 c1
      refine lv_iconst (v := I 0) hx hb dX10_isListed_28 rfl ?_
      exact xrz hx hb hr (by decide) hlk hP hK hD hS ⟨_, (by decide), rfl, rfl, hw⟩ (Nat.le_of_ble_eq_true rfl) (Nat.le_of_ble_eq_true rfl) dX10_isListed_29
    ·
      replace hw := hw.2 c1
      refine lv_aload_n hx hb dX10_isListed_10 rfl (lv_at hl 0 rfl) ?_
      refine gfX10_listed hx hb hts hK hP hown (hts _ tw_421) dX10_isListed_11 ?_
      refine lv_iload_n hx hb dX10_isListed_14 rfl (lv_at hl 2 rfl) ?_
      obtain ⟨c2, hw⟩ := hw
      refine ldCX10_listed hx hb hK hP hN c2 dX10_isListed_15 (fun x3 r_x3 e_x3 => ?_)
      replace hw := hw x3 r_x3 e_x3
      refine lv_iload_n hx hb dX10_isListed_16 rfl (lv_at hl 1 rfl) ?_
      refine bi_icmp_ne (tgt := 22) hx hb r_x3 r_u1 dX10_isListed_17 (by decide) (fun c4 => ?_) (fun c4 => ?_)
      ·
        replace hw := hw.1 c4
        refine lv_iinc (v := I (u2 + 1)) (lv' := [(2, .int (I (u2 + 1))), (0, .ref (q 5)), (1, .int (I u1))]) hx hb dX10_isListed_22 hl (k := 2) rfl (I_add _ _) (by decide) rfl (fun ls hl => ?_)
        refine lv_goto (tgt := 2) hx hb dX10_isListed_25 (by decide) ?_
        obtain ⟨c5, hw⟩ := hw
        exact (hP2 _ _).mp hw r_u1 c5  H locs ls hP hD hS (lv_sub hl [1, 2, 0] rfl)
      ·
        replace hw := hw.2 c4
        refine lv_iconst (v := I 1) hx hb dX10_isListed_20 rfl ?_
        exact xrz hx hb hr (by decide) hlk hP hK hD hS ⟨_, (by decide), rfl, rfl, hw⟩ (Nat.le_of_ble_eq_true rfl) (Nat.le_of_ble_eq_true rfl) dX10_isListed_21
def W_X10_listLabel_q13 (n2 : Int) (n3 : Int) (n4 : Int) (σ : S0) (Q : Int → S0 → Prop) : Prop :=
  ∀ (P39 : Int → S0 → Prop),
  (∀ (u4 : Int) (τ : S0), (∃ (Q10 : Int → Prop), W_X10_isUsable u4 τ Q10 ∧ ∀ (x11 : Int), rg x11 → Q10 x11 → ((¬ x11 = 0 → ∃ (Q14 : Int → Prop), W_X0_placeInFrame (τ.1 24) u4 τ Q14 ∧ ∀ (x15 : Int), rg x15 → Q14 x15 → ((¬ x15 = (-1) → Q 14 τ) ∧ (x15 = (-1) → ∃ (Q18 : Int → Prop), W_X10_isListed u4 τ Q18 ∧ ∀ (x19 : Int), rg x19 → Q18 x19 → ((x19 = 0 → (0 ≤ τ.1 22 ∧ τ.1 22 < 300) ∧ (rg (τ.1 22 + 1) ∧ Q 0 (s_v (s_a τ 51 (τ.1 22) u4) 22 (τ.1 22 + 1)))) ∧ (¬ x19 = 0 → Q 14 τ))))) ∧ (x11 = 0 → Q 13 τ))) → P39 u4 τ) →
  ∃ (Q1 : Int → Prop), W_X10_isOne_q13 n2 n3 41 σ Q1 ∧ ∀ (x2 : Int), rg x2 → Q1 x2 → ((x2 = 0 → (¬ σ.1 22 = 300 → P39 n4 σ) ∧ (σ.1 22 = 300 → ∃ (Q6 : Int → Prop), W_X12_isLabel_q13 n2 n3 σ Q6 ∧ ∀ (x7 : Int), rg x7 → Q6 x7 → ((x7 = 0 → P39 n4 σ) ∧ (¬ x7 = 0 → Q 5 σ)))) ∧ (¬ x2 = 0 → Q 0 (s_v σ 25 3)))
set_option maxRecDepth 100000 in
set_option maxHeartbeats 4000000 in
theorem L_X10_listLabel_q13 (l : Launch) (g : gG) (q : Nat → Nat) (lb : Nat) (hlb : lb < 2 ^ 31) {n2 : Int} {n3 : Int} {n4 : Int} {σ : S0} {Q : Int → S0 → Prop} (r_n2 : rg n2) (r_n3 : rg n3) (r_n4 : rg n4) (hN : n_m σ) (hw : W_X10_listLabel_q13 n2 n3 n4 σ Q) (sz : Nat) : MetI l yX10_listLabel cX10_listLabel 5 (some .int) { frames := 2, cells := 0, slots := 0, locals := 44 } g [.ref (q 5), .ref (q 13), .int (I n2), .int (I n3), .int (I n4)] (CX g q lb σ) sz xT (p_I (CX g q lb) [22, 25] [51] [] σ Q) 0 0 := by
  refine mkMet (Qc := fun A => QI g A (p_I (CX g q lb) [22, 25] [51] [] σ Q)) (by decide) (Nat.le_of_ble_eq_true rfl) ?_
  intro p e s m below meth c A H ls hx hb hr hml hown hts hlk hnm hsz hP hK hNb hD hA hAe hS hX hl
  have hl : lv_has ls 5 [(0, .ref (q 5)), (1, .ref (q 13)), (2, .int (I n2)), (3, .int (I n3)), (4, .int (I n4))] := hl
  have hB := hN
  have hF : f_r [22, 25] [51] [] σ σ := f_0
  obtain ⟨locs, hlocs⟩ : ∃ z : List Loc, z = [] := ⟨_, rfl⟩
  rw [← hlocs] at hS ⊢
  obtain ⟨P39, hP39⟩ : ∃ P : Int → S0 → Prop, ∀ (u4 : Int) (τ : S0), (P u4 τ ↔ (rg u4 → n_m τ → f_r [22, 25] [51] [] σ τ → ∀ (H : Heap) (locs : List Loc) (ls : Array Slot), KP g (CX g q lb τ) H → va_D A (CX g q lb τ) → va_S A s.heap H locs → lv_has ls 5 [(0, .ref (q 5)), (4, .int (I u4))] → W p l e ({ frames := 2, cells := 0, slots := 0, locals := 44 }) s m [.ref (q 5), .ref (q 13), .int (I n2), .int (I n3), .int (I n4)].toArray below meth c H locs 0 0 (MQ below (QI g A (p_I (CX g q lb) [22, 25] [51] [] σ Q)) [.ref (q 5), .ref (q 13), .int (I n2), .int (I n3), .int (I n4)].toArray s 0 0 A) (F0 m 39 ls []))) := ⟨_, fun _ _ => Iff.rfl⟩
  refine (fun hw => ?_) (hw P39 ?_)
  ·
    refine lv_aload_n hx hb dX10_listLabel_0 rfl (lv_at hl 1 rfl) ?_
    refine lv_iload_n hx hb dX10_listLabel_1 rfl (lv_at hl 2 rfl) ?_
    refine lv_iload_n hx hb dX10_listLabel_2 rfl (lv_at hl 3 rfl) ?_
    refine lv_bipush (v := I 41) hx hb dX10_listLabel_3 (by decide) ?_
    obtain ⟨Q1, hc, hw⟩ := hw
    refine wc_i (X := CX g q lb) (va_runS (As := [.ref (q 13), .int (I n2), .int (I n3), .int (I 41)]) (rest := []) ⟨hx, hb, hml, hown, hts⟩ (L_X10_isOne_q13 l g q lb hlb r_n2 r_n3 (by decide) hN hc H.size) (cwS 4 hts (TB_S tw_1215 tw_1216 tw_8 co_X10_isOne) rfl rfl rfl (by decide +kernel) ⟨Nat.le_of_ble_eq_true rfl, Nat.le_of_ble_eq_true rfl⟩) (preS xT_bl hP hK hNb hD xT_at) rfl rfl hl.1 rfl (lv_room (Nat.le_of_ble_eq_true rfl)) dX10_listLabel_5 ⟨Nat.le_of_ble_eq_true rfl, Nat.le_of_ble_eq_true rfl⟩) hP hD hS hA (fun x2 H locs r_x2 hq hP hD hS => ?_)
    replace hw := hw x2 r_x2 hq
    refine bi_if_eq (tgt := 18) hx hb r_x2 dX10_listLabel_8 (by decide) (fun c4 => ?_) (fun c4 => ?_)
    ·
      replace hw := hw.1 c4
      refine lv_aload_n hx hb dX10_listLabel_18 rfl (lv_at hl 0 rfl) ?_
      refine gfX10_listedCount hx hb hts hK hP hown (hts _ tw_422) (x := σ.1 22) rfl dX10_listLabel_19 ?_
      refine lv_sipush (v := I 300) hx hb dX10_listLabel_22 (by decide) ?_
      refine bi_icmp_ne (tgt := 39) hx hb (hB.1 22) (by decide) dX10_listLabel_25 (by decide) (fun c5 => ?_) (fun c5 => ?_)
      ·
        replace hw := hw.1 c5
        exact (hP39 _ _).mp hw r_n4 hN hF H locs ls hP hD hS (lv_sub hl [0, 4] rfl)
      ·
        replace hw := hw.2 c5
        refine lv_aload_n hx hb dX10_listLabel_28 rfl (lv_at hl 1 rfl) ?_
        refine lv_iload_n hx hb dX10_listLabel_29 rfl (lv_at hl 2 rfl) ?_
        refine lv_iload_n hx hb dX10_listLabel_30 rfl (lv_at hl 3 rfl) ?_
        obtain ⟨Q6, hc, hw⟩ := hw
        refine wc_i (X := CX g q lb) (va_runSN (As := [.ref (q 13), .int (I n2), .int (I n3)]) (rest := []) ⟨hx, hb, hml, hown, hts⟩ (L_X12_isLabel_q13 l g q lb hlb r_n2 r_n3 hN hc H.size) ⟨va_cnB 3 hts (TB_code co_X12_isLabel) rfl rfl rfl (hNb _ tn_1226) (hts _ tw_1) (by decide +kernel) ⟨Nat.le_of_ble_eq_true rfl, Nat.le_of_ble_eq_true rfl⟩, hts _ tw_1138, trivial⟩ (preS xT_bl hP hK hNb hD xT_at) rfl rfl hl.1 rfl (lv_room (Nat.le_of_ble_eq_true rfl)) dX10_listLabel_31 ⟨Nat.le_of_ble_eq_true rfl, Nat.le_of_ble_eq_true rfl⟩) hP hD hS hA (fun x7 H locs r_x7 hq hP hD hS => ?_)
        replace hw := hw x7 r_x7 hq
        refine bi_if_eq (tgt := 39) hx hb r_x7 dX10_listLabel_34 (by decide) (fun c9 => ?_) (fun c9 => ?_)
        ·
          replace hw := hw.1 c9
          exact (hP39 _ _).mp hw r_n4 hN hF H locs ls hP hD hS (lv_sub hl [0, 4] rfl)
        ·
          replace hw := hw.2 c9
          refine lv_iconst (v := I 5) hx hb dX10_listLabel_37 rfl ?_
          exact xri hx hb hr hlk hP hK hD hS ⟨_, _, (by decide), rfl, hN, hF, rfl, hw⟩ (Nat.le_of_ble_eq_true rfl) (Nat.le_of_ble_eq_true rfl) dX10_listLabel_38
    ·
      replace hw := hw.2 c4
      refine lv_aload_n hx hb dX10_listLabel_11 rfl (lv_at hl 0 rfl) ?_
      refine lv_iconst (v := I 3) hx hb dX10_listLabel_12 rfl ?_
      refine pfX10_form hx hb hts hK hP hD hS hown (hts _ tw_425) dX10_listLabel_13 (fun H locs hP hD hS => ?_)
      have hN : n_m (s_v σ 25 3) := n_v (i := 25) hN ((by decide) : rg 3)
      have hF : f_r [22, 25] [51] [] σ (s_v σ 25 3) := f_v hF (by decide)
      refine lv_iconst (v := I 0) hx hb dX10_listLabel_16 rfl ?_
      exact xri hx hb hr hlk hP hK hD hS ⟨_, _, (by decide), rfl, hN, hF, rfl, hw⟩ (Nat.le_of_ble_eq_true rfl) (Nat.le_of_ble_eq_true rfl) dX10_listLabel_17
  ·
    intro u4 τ hw
    refine (hP39 _ _).mpr ?_
    intro r_u4 hN hF H locs ls hP hD hS hl
    have hB := hN
    refine lv_aload_n hx hb dX10_listLabel_39 rfl (lv_at hl 0 rfl) ?_
    refine lv_iload hx hb dX10_listLabel_40 (lv_at hl 1 rfl) ?_
    obtain ⟨Q10, hc, hw⟩ := hw
    refine wc_i (X := CX g q lb) (va_runV (As := [.int (I u4)]) (rest := []) ⟨hx, hb, hml, hown, hts⟩ (L_X10_isUsable l g q lb hlb r_u4 hN hc H.size) (cwV 1 hts (TB_V tw_1227 tw_1229 ts_34 tw_8 co_X10_isUsable) rfl rfl rfl (by decide +kernel) ⟨Nat.le_of_ble_eq_true rfl, Nat.le_of_ble_eq_true rfl⟩) (preV (q0 := 5) (ci := 10) rfl xT_bl hP hK hNb hD rfl rfl xT_at) rfl rfl hl.1 rfl (lv_room (Nat.le_of_ble_eq_true rfl)) dX10_listLabel_42 ⟨Nat.le_of_ble_eq_true rfl, Nat.le_of_ble_eq_true rfl⟩) hP hD hS hA (fun x11 H locs r_x11 hq hP hD hS => ?_)
    replace hw := hw x11 r_x11 hq
    refine bi_if_ne (tgt := 51) hx hb r_x11 dX10_listLabel_45 (by decide) (fun c13 => ?_) (fun c13 => ?_)
    ·
      replace hw := hw.1 c13
      refine lv_aload_n hx hb dX10_listLabel_51 rfl (lv_at hl 0 rfl) ?_
      refine gfX10_assertions hx hb hts hK hP hown (hts _ tw_415) dX10_listLabel_52 ?_
      refine lv_aload_n hx hb dX10_listLabel_55 rfl (lv_at hl 0 rfl) ?_
      refine gfX10_theorem hx hb hts hK hP hown (hts _ tw_424) (x := τ.1 24) rfl dX10_listLabel_56 ?_
      refine lv_iload hx hb dX10_listLabel_59 (lv_at hl 1 rfl) ?_
      obtain ⟨Q14, hc, hw⟩ := hw
      refine wc_i (X := CX g q lb) (va_runV (As := [.int (I (τ.1 24)), .int (I u4)]) (rest := []) ⟨hx, hb, hml, hown, hts⟩ (L_X0_placeInFrame l g q lb hlb (hB.1 24) r_u4 hN hc H.size) (cwV 2 hts (TB_V tw_1239 tw_1240 tw_1241 tw_5 co_X0_placeInFrame) rfl rfl rfl (by decide +kernel) ⟨Nat.le_of_ble_eq_true rfl, Nat.le_of_ble_eq_true rfl⟩) (preV (q0 := 3) (ci := 0) rfl xT_bl hP hK hNb hD rfl rfl xT_at) rfl rfl hl.1 rfl (lv_room (Nat.le_of_ble_eq_true rfl)) dX10_listLabel_61 ⟨Nat.le_of_ble_eq_true rfl, Nat.le_of_ble_eq_true rfl⟩) hP hD hS hA (fun x15 H locs r_x15 hq hP hD hS => ?_)
      replace hw := hw x15 r_x15 hq
      refine lv_iconst (v := I (-1)) hx hb dX10_listLabel_64 rfl ?_
      refine bi_icmp_ne (tgt := 77) hx hb r_x15 (by decide) dX10_listLabel_65 (by decide) (fun c17 => ?_) (fun c17 => ?_)
      ·
        replace hw := hw.1 c17
        refine lv_bipush (v := I 14) hx hb dX10_listLabel_77 (by decide) ?_
        exact xri hx hb hr hlk hP hK hD hS ⟨_, _, (by decide), rfl, hN, hF, rfl, hw⟩ (Nat.le_of_ble_eq_true rfl) (Nat.le_of_ble_eq_true rfl) dX10_listLabel_79
      ·
        replace hw := hw.2 c17
        refine lv_aload_n hx hb dX10_listLabel_68 rfl (lv_at hl 0 rfl) ?_
        refine lv_iload hx hb dX10_listLabel_69 (lv_at hl 1 rfl) ?_
        obtain ⟨Q18, hc, hw⟩ := hw
        refine wc_i (X := CX g q lb) (va_runV (As := [.int (I u4)]) (rest := []) ⟨hx, hb, hml, hown, hts⟩ (L_X10_isListed l g q lb hlb r_u4 hN hc H.size) (cwV 1 hts (TB_V tw_1243 tw_1245 ts_37 tw_8 co_X10_isListed) rfl rfl rfl (by decide +kernel) ⟨Nat.le_of_ble_eq_true rfl, Nat.le_of_ble_eq_true rfl⟩) (preV (q0 := 5) (ci := 10) rfl xT_bl hP hK hNb hD rfl rfl xT_at) rfl rfl hl.1 rfl (lv_room (Nat.le_of_ble_eq_true rfl)) dX10_listLabel_71 ⟨Nat.le_of_ble_eq_true rfl, Nat.le_of_ble_eq_true rfl⟩) hP hD hS hA (fun x19 H locs r_x19 hq hP hD hS => ?_)
        replace hw := hw x19 r_x19 hq
        refine bi_if_eq (tgt := 80) hx hb r_x19 dX10_listLabel_74 (by decide) (fun c21 => ?_) (fun c21 => ?_)
        ·
          replace hw := hw.1 c21
          refine lv_aload_n hx hb dX10_listLabel_80 rfl (lv_at hl 0 rfl) ?_
          refine gfX10_listed hx hb hts hK hP hown (hts _ tw_421) dX10_listLabel_81 ?_
          refine lv_aload_n hx hb dX10_listLabel_84 rfl (lv_at hl 0 rfl) ?_
          refine gfX10_listedCount hx hb hts hK hP hown (hts _ tw_422) (x := τ.1 22) rfl dX10_listLabel_85 ?_
          refine lv_iload hx hb dX10_listLabel_88 (lv_at hl 1 rfl) ?_
          obtain ⟨c22, hw⟩ := hw
          refine sdCX10_listed hx hb hK hP hD hS c22 dX10_listLabel_90 (fun H locs hP hD hS => ?_)
          have hN : n_m (s_a τ 51 (τ.1 22) u4) := n_a (k := 51) (j := τ.1 22) hN (r_u4 : rg u4)
          have hF : f_r [22, 25] [51] [] σ (s_a τ 51 (τ.1 22) u4) := f_a hF (by decide)
          refine lv_aload_n hx hb dX10_listLabel_91 rfl (lv_at hl 0 rfl) ?_
          refine lv_dup hx hb dX10_listLabel_92 rfl ?_
          refine gfX10_listedCount hx hb hts hK hP hown (hts _ tw_422) (x := τ.1 22) rfl dX10_listLabel_93 ?_
          refine lv_iconst (v := I 1) hx hb dX10_listLabel_96 rfl ?_
          refine bi_iadd hx hb dX10_listLabel_97 ?_
          obtain ⟨c23, hw⟩ := hw
          refine pfX10_listedCount hx hb hts hK hP hD hS hown (hts _ tw_422) dX10_listLabel_98 (fun H locs hP hD hS => ?_)
          have hN : n_m (s_v (s_a τ 51 (τ.1 22) u4) 22 (τ.1 22 + 1)) := n_v (i := 22) hN (c23 : rg (τ.1 22 + 1))
          have hF : f_r [22, 25] [51] [] σ (s_v (s_a τ 51 (τ.1 22) u4) 22 (τ.1 22 + 1)) := f_v hF (by decide)
          refine lv_iconst (v := I 0) hx hb dX10_listLabel_101 rfl ?_
          exact xri hx hb hr hlk hP hK hD hS ⟨_, _, (by decide), rfl, hN, hF, rfl, hw⟩ (Nat.le_of_ble_eq_true rfl) (Nat.le_of_ble_eq_true rfl) dX10_listLabel_102
        ·
          replace hw := hw.2 c21
          refine lv_bipush (v := I 14) hx hb dX10_listLabel_77 (by decide) ?_
          exact xri hx hb hr hlk hP hK hD hS ⟨_, _, (by decide), rfl, hN, hF, rfl, hw⟩ (Nat.le_of_ble_eq_true rfl) (Nat.le_of_ble_eq_true rfl) dX10_listLabel_79
    ·
      replace hw := hw.2 c13
      refine lv_bipush (v := I 13) hx hb dX10_listLabel_48 (by decide) ?_
      exact xri hx hb hr hlk hP hK hD hS ⟨_, _, (by decide), rfl, hN, hF, rfl, hw⟩ (Nat.le_of_ble_eq_true rfl) (Nat.le_of_ble_eq_true rfl) dX10_listLabel_50
def W_X10_plainStep_q13 (n2 : Int) (n3 : Int) (n4 : Int) (σ : S0) (Q : Int → S0 → Prop) : Prop :=
  ∀ (P36 : Int → S0 → Prop),
  (∀ (u4 : Int) (τ : S0), (∃ (Q13 : Int → Prop), W_X10_isUsable u4 τ Q13 ∧ ∀ (x14 : Int), rg x14 → Q13 x14 → ((¬ x14 = 0 → ∃ (Q17 : S0 → Prop), W_X10_addStep u4 τ Q17 ∧ ∀ (τ19 : S0), n_m τ19 → f_r [21] [49, 50] [] τ τ19 → Q17 τ19 → (Q 0 τ19)) ∧ (x14 = 0 → Q 13 τ))) → P36 u4 τ) →
  ∃ (Q1 : Int → Prop), W_X10_isOne_q13 n2 n3 63 σ Q1 ∧ ∀ (x2 : Int), rg x2 → Q1 x2 → ((x2 = 0 → ∃ (Q5 : Int → Prop), W_X10_isFull σ Q5 ∧ ∀ (x6 : Int), rg x6 → Q5 x6 → ((x6 = 0 → P36 n4 σ) ∧ (¬ x6 = 0 → ∃ (Q9 : Int → Prop), W_X12_isLabel_q13 n2 n3 σ Q9 ∧ ∀ (x10 : Int), rg x10 → Q9 x10 → ((x10 = 0 → P36 n4 σ) ∧ (¬ x10 = 0 → Q 5 σ))))) ∧ (¬ x2 = 0 → Q 0 (s_v σ 28 1)))
set_option maxRecDepth 100000 in
set_option maxHeartbeats 4000000 in
theorem L_X10_plainStep_q13 (l : Launch) (g : gG) (q : Nat → Nat) (lb : Nat) (hlb : lb < 2 ^ 31) {n2 : Int} {n3 : Int} {n4 : Int} {σ : S0} {Q : Int → S0 → Prop} (r_n2 : rg n2) (r_n3 : rg n3) (r_n4 : rg n4) (hN : n_m σ) (hw : W_X10_plainStep_q13 n2 n3 n4 σ Q) (sz : Nat) : MetI l yX10_plainStep cX10_plainStep 5 (some .int) { frames := 2, cells := 0, slots := 0, locals := 44 } g [.ref (q 5), .ref (q 13), .int (I n2), .int (I n3), .int (I n4)] (CX g q lb σ) sz xT (p_I (CX g q lb) [21, 28] [49, 50] [] σ Q) 0 0 := by
  refine mkMet (Qc := fun A => QI g A (p_I (CX g q lb) [21, 28] [49, 50] [] σ Q)) (by decide) (Nat.le_of_ble_eq_true rfl) ?_
  intro p e s m below meth c A H ls hx hb hr hml hown hts hlk hnm hsz hP hK hNb hD hA hAe hS hX hl
  have hl : lv_has ls 5 [(0, .ref (q 5)), (1, .ref (q 13)), (2, .int (I n2)), (3, .int (I n3)), (4, .int (I n4))] := hl
  have hB := hN
  have hF : f_r [21, 28] [49, 50] [] σ σ := f_0
  obtain ⟨locs, hlocs⟩ : ∃ z : List Loc, z = [] := ⟨_, rfl⟩
  rw [← hlocs] at hS ⊢
  obtain ⟨P36, hP36⟩ : ∃ P : Int → S0 → Prop, ∀ (u4 : Int) (τ : S0), (P u4 τ ↔ (rg u4 → n_m τ → f_r [21, 28] [49, 50] [] σ τ → ∀ (H : Heap) (locs : List Loc) (ls : Array Slot), KP g (CX g q lb τ) H → va_D A (CX g q lb τ) → va_S A s.heap H locs → lv_has ls 5 [(0, .ref (q 5)), (4, .int (I u4))] → W p l e ({ frames := 2, cells := 0, slots := 0, locals := 44 }) s m [.ref (q 5), .ref (q 13), .int (I n2), .int (I n3), .int (I n4)].toArray below meth c H locs 0 0 (MQ below (QI g A (p_I (CX g q lb) [21, 28] [49, 50] [] σ Q)) [.ref (q 5), .ref (q 13), .int (I n2), .int (I n3), .int (I n4)].toArray s 0 0 A) (F0 m 36 ls []))) := ⟨_, fun _ _ => Iff.rfl⟩
  refine (fun hw => ?_) (hw P36 ?_)
  ·
    refine lv_aload_n hx hb dX10_plainStep_0 rfl (lv_at hl 1 rfl) ?_
    refine lv_iload_n hx hb dX10_plainStep_1 rfl (lv_at hl 2 rfl) ?_
    refine lv_iload_n hx hb dX10_plainStep_2 rfl (lv_at hl 3 rfl) ?_
    refine lv_bipush (v := I 63) hx hb dX10_plainStep_3 (by decide) ?_
    obtain ⟨Q1, hc, hw⟩ := hw
    refine wc_i (X := CX g q lb) (va_runS (As := [.ref (q 13), .int (I n2), .int (I n3), .int (I 63)]) (rest := []) ⟨hx, hb, hml, hown, hts⟩ (L_X10_isOne_q13 l g q lb hlb r_n2 r_n3 (by decide) hN hc H.size) (cwS 4 hts (TB_S tw_1215 tw_1216 tw_8 co_X10_isOne) rfl rfl rfl (by decide +kernel) ⟨Nat.le_of_ble_eq_true rfl, Nat.le_of_ble_eq_true rfl⟩) (preS xT_bl hP hK hNb hD xT_at) rfl rfl hl.1 rfl (lv_room (Nat.le_of_ble_eq_true rfl)) dX10_plainStep_5 ⟨Nat.le_of_ble_eq_true rfl, Nat.le_of_ble_eq_true rfl⟩) hP hD hS hA (fun x2 H locs r_x2 hq hP hD hS => ?_)
    replace hw := hw x2 r_x2 hq
    refine bi_if_eq (tgt := 18) hx hb r_x2 dX10_plainStep_8 (by decide) (fun c4 => ?_) (fun c4 => ?_)
    ·
      replace hw := hw.1 c4
      refine lv_aload_n hx hb dX10_plainStep_18 rfl (lv_at hl 0 rfl) ?_
      obtain ⟨Q5, hc, hw⟩ := hw
      refine wc_i (X := CX g q lb) (va_runV (As := []) (rest := []) ⟨hx, hb, hml, hown, hts⟩ (L_X10_isFull l g q lb hlb  hN hc H.size) (cwV 0 hts (TB_V tw_1222 tw_1224 ts_33 tw_8 co_X10_isFull) rfl rfl rfl (by decide +kernel) ⟨Nat.le_of_ble_eq_true rfl, Nat.le_of_ble_eq_true rfl⟩) (preV (q0 := 5) (ci := 10) rfl xT_bl hP hK hNb hD rfl rfl xT_at) rfl rfl hl.1 rfl (lv_room (Nat.le_of_ble_eq_true rfl)) dX10_plainStep_19 ⟨Nat.le_of_ble_eq_true rfl, Nat.le_of_ble_eq_true rfl⟩) hP hD hS hA (fun x6 H locs r_x6 hq hP hD hS => ?_)
      replace hw := hw x6 r_x6 hq
      refine bi_if_eq (tgt := 36) hx hb r_x6 dX10_plainStep_22 (by decide) (fun c8 => ?_) (fun c8 => ?_)
      ·
        replace hw := hw.1 c8
        exact (hP36 _ _).mp hw r_n4 hN hF H locs ls hP hD hS (lv_sub hl [0, 4] rfl)
      ·
        replace hw := hw.2 c8
        refine lv_aload_n hx hb dX10_plainStep_25 rfl (lv_at hl 1 rfl) ?_
        refine lv_iload_n hx hb dX10_plainStep_26 rfl (lv_at hl 2 rfl) ?_
        refine lv_iload_n hx hb dX10_plainStep_27 rfl (lv_at hl 3 rfl) ?_
        obtain ⟨Q9, hc, hw⟩ := hw
        refine wc_i (X := CX g q lb) (va_runSN (As := [.ref (q 13), .int (I n2), .int (I n3)]) (rest := []) ⟨hx, hb, hml, hown, hts⟩ (L_X12_isLabel_q13 l g q lb hlb r_n2 r_n3 hN hc H.size) ⟨va_cnB 3 hts (TB_code co_X12_isLabel) rfl rfl rfl (hNb _ tn_1226) (hts _ tw_1) (by decide +kernel) ⟨Nat.le_of_ble_eq_true rfl, Nat.le_of_ble_eq_true rfl⟩, hts _ tw_1138, trivial⟩ (preS xT_bl hP hK hNb hD xT_at) rfl rfl hl.1 rfl (lv_room (Nat.le_of_ble_eq_true rfl)) dX10_plainStep_28 ⟨Nat.le_of_ble_eq_true rfl, Nat.le_of_ble_eq_true rfl⟩) hP hD hS hA (fun x10 H locs r_x10 hq hP hD hS => ?_)
        replace hw := hw x10 r_x10 hq
        refine bi_if_eq (tgt := 36) hx hb r_x10 dX10_plainStep_31 (by decide) (fun c12 => ?_) (fun c12 => ?_)
        ·
          replace hw := hw.1 c12
          exact (hP36 _ _).mp hw r_n4 hN hF H locs ls hP hD hS (lv_sub hl [0, 4] rfl)
        ·
          replace hw := hw.2 c12
          refine lv_iconst (v := I 5) hx hb dX10_plainStep_34 rfl ?_
          exact xri hx hb hr hlk hP hK hD hS ⟨_, _, (by decide), rfl, hN, hF, rfl, hw⟩ (Nat.le_of_ble_eq_true rfl) (Nat.le_of_ble_eq_true rfl) dX10_plainStep_35
    ·
      replace hw := hw.2 c4
      refine lv_aload_n hx hb dX10_plainStep_11 rfl (lv_at hl 0 rfl) ?_
      refine lv_iconst (v := I 1) hx hb dX10_plainStep_12 rfl ?_
      refine pfX10_open hx hb hts hK hP hD hS hown (hts _ tw_428) (by decide)  dX10_plainStep_13 (fun H locs hP hD hS => ?_)
      have hN : n_m (s_v σ 28 1) := n_v (i := 28) hN ((by decide) : rg 1)
      have hF : f_r [21, 28] [49, 50] [] σ (s_v σ 28 1) := f_v hF (by decide)
      refine lv_iconst (v := I 0) hx hb dX10_plainStep_16 rfl ?_
      exact xri hx hb hr hlk hP hK hD hS ⟨_, _, (by decide), rfl, hN, hF, rfl, hw⟩ (Nat.le_of_ble_eq_true rfl) (Nat.le_of_ble_eq_true rfl) dX10_plainStep_17
  ·
    intro u4 τ hw
    refine (hP36 _ _).mpr ?_
    intro r_u4 hN hF H locs ls hP hD hS hl
    have hB := hN
    refine lv_aload_n hx hb dX10_plainStep_36 rfl (lv_at hl 0 rfl) ?_
    refine lv_iload hx hb dX10_plainStep_37 (lv_at hl 1 rfl) ?_
    obtain ⟨Q13, hc, hw⟩ := hw
    refine wc_i (X := CX g q lb) (va_runV (As := [.int (I u4)]) (rest := []) ⟨hx, hb, hml, hown, hts⟩ (L_X10_isUsable l g q lb hlb r_u4 hN hc H.size) (cwV 1 hts (TB_V tw_1227 tw_1229 ts_34 tw_8 co_X10_isUsable) rfl rfl rfl (by decide +kernel) ⟨Nat.le_of_ble_eq_true rfl, Nat.le_of_ble_eq_true rfl⟩) (preV (q0 := 5) (ci := 10) rfl xT_bl hP hK hNb hD rfl rfl xT_at) rfl rfl hl.1 rfl (lv_room (Nat.le_of_ble_eq_true rfl)) dX10_plainStep_39 ⟨Nat.le_of_ble_eq_true rfl, Nat.le_of_ble_eq_true rfl⟩) hP hD hS hA (fun x14 H locs r_x14 hq hP hD hS => ?_)
    replace hw := hw x14 r_x14 hq
    refine bi_if_ne (tgt := 48) hx hb r_x14 dX10_plainStep_42 (by decide) (fun c16 => ?_) (fun c16 => ?_)
    ·
      replace hw := hw.1 c16
      refine lv_aload_n hx hb dX10_plainStep_48 rfl (lv_at hl 0 rfl) ?_
      refine lv_iload hx hb dX10_plainStep_49 (lv_at hl 1 rfl) ?_
      obtain ⟨Q17, hc, hw⟩ := hw
      refine wc_V (X := CX g q lb) (va_runV (As := [.int (I u4)]) (rest := []) ⟨hx, hb, hml, hown, hts⟩ (L_X10_addStep l g q lb hlb r_u4 hN hc H.size) (cwV 1 hts (TB_V tw_1231 tw_1233 ts_35 tw_8 co_X10_addStep) rfl rfl rfl (by decide +kernel) ⟨Nat.le_of_ble_eq_true rfl, Nat.le_of_ble_eq_true rfl⟩) (preV (q0 := 5) (ci := 10) rfl xT_bl hP hK hNb hD rfl rfl xT_at) rfl rfl hl.1 rfl (lv_room (Nat.le_of_ble_eq_true rfl)) dX10_plainStep_51 ⟨Nat.le_of_ble_eq_true rfl, Nat.le_of_ble_eq_true rfl⟩) hP hD hS hA (fun τ19 H locs hN hf hq hP hD hS => ?_)
      replace hw := hw τ19 hN hf hq
      have hF : f_r [21, 28] [49, 50] [] σ τ19 := f_t hF hf (by decide) (by decide) (by decide)
      have hB := hN
      refine lv_iconst (v := I 0) hx hb dX10_plainStep_54 rfl ?_
      exact xri hx hb hr hlk hP hK hD hS ⟨_, _, (by decide), rfl, hN, hF, rfl, hw⟩ (Nat.le_of_ble_eq_true rfl) (Nat.le_of_ble_eq_true rfl) dX10_plainStep_55
    ·
      replace hw := hw.2 c16
      refine lv_bipush (v := I 13) hx hb dX10_plainStep_45 (by decide) ?_
      exact xri hx hb hr hlk hP hK hD hS ⟨_, _, (by decide), rfl, hN, hF, rfl, hw⟩ (Nat.le_of_ble_eq_true rfl) (Nat.le_of_ble_eq_true rfl) dX10_plainStep_47
def W_X10_word_q13 (n2 : Int) (n3 : Int) (n4 : Int) (σ : S0) (Q : Int → S0 → Prop) : Prop :=
  ∀ (P29 : Int → Int → Int → Int → S0 → Prop) (P42 : Int → Int → Int → S0 → Prop),
  (∀ (u2 : Int) (u3 : Int) (u4 : Int) (k1 : Int) (τ : S0), ((¬ k1 = 2 → P42 u2 u3 u4 (s_v τ 25 k1)) ∧ (k1 = 2 → Q 0 (s_v τ 25 k1))) → P29 u2 u3 u4 k1 τ) →
  (∀ (u2 : Int) (u3 : Int) (u4 : Int) (τ : S0), ((¬ τ.1 25 = 1 → (¬ τ.1 25 = 2 → ∃ (Q8 : Int → S0 → Prop), W_X10_letters_q13 u2 u3 τ Q8 ∧ ∀ (x9 : Int) (τ10 : S0), rg x9 → n_m τ10 → f_r [21, 23, 26, 27, 28, 29] [49, 50] [] τ τ10 → Q8 x9 τ10 → (Q x9 τ10)) ∧ (τ.1 25 = 2 → ∃ (Q11 : Int → S0 → Prop), W_X10_listLabel_q13 u2 u3 u4 τ Q11 ∧ ∀ (x12 : Int) (τ13 : S0), rg x12 → n_m τ13 → f_r [22, 25] [51] [] τ τ13 → Q11 x12 τ13 → (Q x12 τ13))) ∧ (τ.1 25 = 1 → ∃ (Q14 : Int → S0 → Prop), W_X10_plainStep_q13 u2 u3 u4 τ Q14 ∧ ∀ (x15 : Int) (τ16 : S0), rg x15 → n_m τ16 → f_r [21, 28] [49, 50] [] τ τ16 → Q14 x15 τ16 → (Q x15 τ16))) → P42 u2 u3 u4 τ) →
  (¬ σ.1 25 = 0 → P42 n2 n3 n4 (s_v σ 29 n2)) ∧ (σ.1 25 = 0 → ∃ (Q2 : Int → Prop), W_X10_isOne_q13 n2 n3 40 (s_v σ 29 n2) Q2 ∧ ∀ (x3 : Int), rg x3 → Q2 x3 → ((x3 = 0 → P29 n2 n3 n4 1 (s_v σ 29 n2)) ∧ (¬ x3 = 0 → P29 n2 n3 n4 2 (s_v σ 29 n2))))
set_option maxRecDepth 100000 in
set_option maxHeartbeats 4000000 in
theorem L_X10_word_q13 (l : Launch) (g : gG) (q : Nat → Nat) (lb : Nat) (hlb : lb < 2 ^ 31) {n2 : Int} {n3 : Int} {n4 : Int} {σ : S0} {Q : Int → S0 → Prop} (r_n2 : rg n2) (r_n3 : rg n3) (r_n4 : rg n4) (hN : n_m σ) (hw : W_X10_word_q13 n2 n3 n4 σ Q) (sz : Nat) : MetI l yX10_word cX10_word 5 (some .int) { frames := 4, cells := 0, slots := 0, locals := 91 } g [.ref (q 5), .ref (q 13), .int (I n2), .int (I n3), .int (I n4)] (CX g q lb σ) sz xT (p_I (CX g q lb) [21, 22, 23, 25, 26, 27, 28, 29] [49, 50, 51] [] σ Q) 0 0 := by
  refine mkMet (Qc := fun A => QI g A (p_I (CX g q lb) [21, 22, 23, 25, 26, 27, 28, 29] [49, 50, 51] [] σ Q)) (by decide) (Nat.le_of_ble_eq_true rfl) ?_
  intro p e s m below meth c A H ls hx hb hr hml hown hts hlk hnm hsz hP hK hNb hD hA hAe hS hX hl
  have hl : lv_has ls 5 [(0, .ref (q 5)), (1, .ref (q 13)), (2, .int (I n2)), (3, .int (I n3)), (4, .int (I n4))] := hl
  have hB := hN
  have hF : f_r [21, 22, 23, 25, 26, 27, 28, 29] [49, 50, 51] [] σ σ := f_0
  obtain ⟨locs, hlocs⟩ : ∃ z : List Loc, z = [] := ⟨_, rfl⟩
  rw [← hlocs] at hS ⊢
  obtain ⟨P29, hP29⟩ : ∃ P : Int → Int → Int → Int → S0 → Prop, ∀ (u2 : Int) (u3 : Int) (u4 : Int) (k1 : Int) (τ : S0), (P u2 u3 u4 k1 τ ↔ (rg u2 → rg u3 → rg u4 → rg k1 → n_m τ → f_r [21, 22, 23, 25, 26, 27, 28, 29] [49, 50, 51] [] σ τ → ∀ (H : Heap) (locs : List Loc) (ls : Array Slot), KP g (CX g q lb τ) H → va_D A (CX g q lb τ) → va_S A s.heap H locs → lv_has ls 5 [(0, .ref (q 5)), (1, .ref (q 13)), (2, .int (I u2)), (3, .int (I u3)), (4, .int (I u4))] → W p l e ({ frames := 4, cells := 0, slots := 0, locals := 91 }) s m [.ref (q 5), .ref (q 13), .int (I n2), .int (I n3), .int (I n4)].toArray below meth c H locs 0 0 (MQ below (QI g A (p_I (CX g q lb) [21, 22, 23, 25, 26, 27, 28, 29] [49, 50, 51] [] σ Q)) [.ref (q 5), .ref (q 13), .int (I n2), .int (I n3), .int (I n4)].toArray s 0 0 A) (F0 m 29 ls [.int (I k1), .ref (q 5)]))) := ⟨_, fun _ _ _ _ _ => Iff.rfl⟩
  obtain ⟨P42, hP42⟩ : ∃ P : Int → Int → Int → S0 → Prop, ∀ (u2 : Int) (u3 : Int) (u4 : Int) (τ : S0), (P u2 u3 u4 τ ↔ (rg u2 → rg u3 → rg u4 → n_m τ → f_r [21, 22, 23, 25, 26, 27, 28, 29] [49, 50, 51] [] σ τ → ∀ (H : Heap) (locs : List Loc) (ls : Array Slot), KP g (CX g q lb τ) H → va_D A (CX g q lb τ) → va_S A s.heap H locs → lv_has ls 5 [(0, .ref (q 5)), (1, .ref (q 13)), (2, .int (I u2)), (3, .int (I u3)), (4, .int (I u4))] → W p l e ({ frames := 4, cells := 0, slots := 0, locals := 91 }) s m [.ref (q 5), .ref (q 13), .int (I n2), .int (I n3), .int (I n4)].toArray below meth c H locs 0 0 (MQ below (QI g A (p_I (CX g q lb) [21, 22, 23, 25, 26, 27, 28, 29] [49, 50, 51] [] σ Q)) [.ref (q 5), .ref (q 13), .int (I n2), .int (I n3), .int (I n4)].toArray s 0 0 A) (F0 m 42 ls []))) := ⟨_, fun _ _ _ _ => Iff.rfl⟩
  refine (fun hw => ?_) (hw P29 P42 ?_ ?_)
  ·
    refine lv_aload_n hx hb dX10_word_0 rfl (lv_at hl 0 rfl) ?_
    refine lv_iload_n hx hb dX10_word_1 rfl (lv_at hl 2 rfl) ?_
    refine pfX10_place hx hb hts hK hP hD hS hown (hts _ tw_431) dX10_word_2 (fun H locs hP hD hS => ?_)
    have hN : n_m (s_v σ 29 n2) := n_v (i := 29) hN (r_n2 : rg n2)
    have hF : f_r [21, 22, 23, 25, 26, 27, 28, 29] [49, 50, 51] [] σ (s_v σ 29 n2) := f_v hF (by decide)
    refine lv_aload_n hx hb dX10_word_5 rfl (lv_at hl 0 rfl) ?_
    refine gfX10_form hx hb hts hK hP hown (hts _ tw_425) (x := σ.1 25) rfl dX10_word_6 ?_
    refine bi_if_ne (tgt := 42) hx hb (hB.1 25) dX10_word_9 (by decide) (fun c1 => ?_) (fun c1 => ?_)
    ·
      replace hw := hw.1 c1
      exact (hP42 _ _ _ _).mp hw r_n2 r_n3 r_n4 hN hF H locs ls hP hD hS (lv_sub hl [0, 1, 2, 3, 4] rfl)
    ·
      replace hw := hw.2 c1
      refine lv_aload_n hx hb dX10_word_12 rfl (lv_at hl 0 rfl) ?_
      refine lv_aload_n hx hb dX10_word_13 rfl (lv_at hl 1 rfl) ?_
      refine lv_iload_n hx hb dX10_word_14 rfl (lv_at hl 2 rfl) ?_
      refine lv_iload_n hx hb dX10_word_15 rfl (lv_at hl 3 rfl) ?_
      refine lv_bipush (v := I 40) hx hb dX10_word_16 (by decide) ?_
      obtain ⟨Q2, hc, hw⟩ := hw
      refine wc_i (X := CX g q lb) (va_runS (As := [.ref (q 13), .int (I n2), .int (I n3), .int (I 40)]) (rest := [.ref (q 5)]) ⟨hx, hb, hml, hown, hts⟩ (L_X10_isOne_q13 l g q lb hlb r_n2 r_n3 (by decide) hN hc H.size) (cwS 4 hts (TB_S tw_1215 tw_1216 tw_8 co_X10_isOne) rfl rfl rfl (by decide +kernel) ⟨Nat.le_of_ble_eq_true rfl, Nat.le_of_ble_eq_true rfl⟩) (preS xT_bl hP hK hNb hD xT_at) rfl rfl hl.1 rfl (lv_room (Nat.le_of_ble_eq_true rfl)) dX10_word_18 ⟨Nat.le_of_ble_eq_true rfl, Nat.le_of_ble_eq_true rfl⟩) hP hD hS hA (fun x3 H locs r_x3 hq hP hD hS => ?_)
      replace hw := hw x3 r_x3 hq
      refine bi_if_eq (tgt := 28) hx hb r_x3 dX10_word_21 (by decide) (fun c5 => ?_) (fun c5 => ?_)
      ·
        replace hw := hw.1 c5
        refine lv_iconst (v := I 1) hx hb dX10_word_28 rfl ?_
        exact (hP29 _ _ _ _ _).mp hw r_n2 r_n3 r_n4 (by decide) hN hF H locs ls hP hD hS (lv_sub hl [0, 1, 2, 3, 4] rfl)
      ·
        replace hw := hw.2 c5
        refine lv_iconst (v := I 2) hx hb dX10_word_24 rfl ?_
        refine lv_goto (tgt := 29) hx hb dX10_word_25 (by decide) ?_
        exact (hP29 _ _ _ _ _).mp hw r_n2 r_n3 r_n4 (by decide) hN hF H locs ls hP hD hS (lv_sub hl [0, 1, 2, 3, 4] rfl)
  ·
    intro u2 u3 u4 k1 τ hw
    refine (hP29 _ _ _ _ _).mpr ?_
    intro r_u2 r_u3 r_u4 r_k1 hN hF H locs ls hP hD hS hl
    have hB := hN
    refine pfX10_form hx hb hts hK hP hD hS hown (hts _ tw_425) dX10_word_29 (fun H locs hP hD hS => ?_)
    have hN : n_m (s_v τ 25 k1) := n_v (i := 25) hN (r_k1 : rg k1)
    have hF : f_r [21, 22, 23, 25, 26, 27, 28, 29] [49, 50, 51] [] σ (s_v τ 25 k1) := f_v hF (by decide)
    refine lv_aload_n hx hb dX10_word_32 rfl (lv_at hl 0 rfl) ?_
    refine gfX10_form hx hb hts hK hP hown (hts _ tw_425) (x := k1) rfl dX10_word_33 ?_
    refine lv_iconst (v := I 2) hx hb dX10_word_36 rfl ?_
    refine bi_icmp_ne (tgt := 42) hx hb r_k1 (by decide) dX10_word_37 (by decide) (fun c17 => ?_) (fun c17 => ?_)
    ·
      replace hw := hw.1 c17
      exact (hP42 _ _ _ _).mp hw r_u2 r_u3 r_u4 hN hF H locs ls hP hD hS (lv_sub hl [0, 1, 2, 3, 4] rfl)
    ·
      replace hw := hw.2 c17
      refine lv_iconst (v := I 0) hx hb dX10_word_40 rfl ?_
      exact xri hx hb hr hlk hP hK hD hS ⟨_, _, (by decide), rfl, hN, hF, rfl, hw⟩ (Nat.le_of_ble_eq_true rfl) (Nat.le_of_ble_eq_true rfl) dX10_word_41
  ·
    intro u2 u3 u4 τ hw
    refine (hP42 _ _ _ _).mpr ?_
    intro r_u2 r_u3 r_u4 hN hF H locs ls hP hD hS hl
    have hB := hN
    refine lv_aload_n hx hb dX10_word_42 rfl (lv_at hl 0 rfl) ?_
    refine gfX10_form hx hb hts hK hP hown (hts _ tw_425) (x := τ.1 25) rfl dX10_word_43 ?_
    refine lv_iconst (v := I 1) hx hb dX10_word_46 rfl ?_
    refine bi_icmp_ne (tgt := 60) hx hb (hB.1 25) (by decide) dX10_word_47 (by decide) (fun c6 => ?_) (fun c6 => ?_)
    ·
      replace hw := hw.1 c6
      refine lv_aload_n hx hb dX10_word_60 rfl (lv_at hl 0 rfl) ?_
      refine gfX10_form hx hb hts hK hP hown (hts _ tw_425) (x := τ.1 25) rfl dX10_word_61 ?_
      refine lv_iconst (v := I 2) hx hb dX10_word_64 rfl ?_
      refine bi_icmp_ne (tgt := 80) hx hb (hB.1 25) (by decide) dX10_word_65 (by decide) (fun c7 => ?_) (fun c7 => ?_)
      ·
        replace hw := hw.1 c7
        refine lv_aload_n hx hb dX10_word_80 rfl (lv_at hl 0 rfl) ?_
        refine lv_aload_n hx hb dX10_word_81 rfl (lv_at hl 1 rfl) ?_
        refine lv_iload_n hx hb dX10_word_82 rfl (lv_at hl 2 rfl) ?_
        refine lv_iload_n hx hb dX10_word_83 rfl (lv_at hl 3 rfl) ?_
        obtain ⟨Q8, hc, hw⟩ := hw
        refine wc_I (X := CX g q lb) (va_runV (As := [.ref (q 13), .int (I u2), .int (I u3)]) (rest := []) ⟨hx, hb, hml, hown, hts⟩ (L_X10_letters_q13 l g q lb hlb r_u2 r_u3 hN hc H.size) (cwV 3 hts (TB_V tw_1247 tw_1249 ts_38 tw_8 co_X10_letters) rfl rfl rfl (by decide +kernel) ⟨Nat.le_of_ble_eq_true rfl, Nat.le_of_ble_eq_true rfl⟩) (preV (q0 := 5) (ci := 10) rfl xT_bl hP hK hNb hD rfl rfl xT_at) rfl rfl hl.1 rfl (lv_room (Nat.le_of_ble_eq_true rfl)) dX10_word_84 ⟨Nat.le_of_ble_eq_true rfl, Nat.le_of_ble_eq_true rfl⟩) hP hD hS hA (fun x9 τ10 H locs r_x9 hN hf hq hP hD hS => ?_)
        replace hw := hw x9 τ10 r_x9 hN hf hq
        have hF : f_r [21, 22, 23, 25, 26, 27, 28, 29] [49, 50, 51] [] σ τ10 := f_t hF hf (by decide) (by decide) (by decide)
        have hB := hN
        exact xri hx hb hr hlk hP hK hD hS ⟨_, _, r_x9, rfl, hN, hF, rfl, hw⟩ (Nat.le_of_ble_eq_true rfl) (Nat.le_of_ble_eq_true rfl) dX10_word_87
      ·
        replace hw := hw.2 c7
        refine lv_aload_n hx hb dX10_word_68 rfl (lv_at hl 0 rfl) ?_
        refine lv_aload_n hx hb dX10_word_69 rfl (lv_at hl 1 rfl) ?_
        refine lv_iload_n hx hb dX10_word_70 rfl (lv_at hl 2 rfl) ?_
        refine lv_iload_n hx hb dX10_word_71 rfl (lv_at hl 3 rfl) ?_
        refine lv_iload hx hb dX10_word_72 (lv_at hl 4 rfl) ?_
        obtain ⟨Q11, hc, hw⟩ := hw
        refine wc_I (X := CX g q lb) (va_runV (As := [.ref (q 13), .int (I u2), .int (I u3), .int (I u4)]) (rest := []) ⟨hx, hb, hml, hown, hts⟩ (L_X10_listLabel_q13 l g q lb hlb r_u2 r_u3 r_u4 hN hc H.size) (cwV 4 hts (TB_V tw_1235 tw_1237 ts_36 tw_8 co_X10_listLabel) rfl rfl rfl (by decide +kernel) ⟨Nat.le_of_ble_eq_true rfl, Nat.le_of_ble_eq_true rfl⟩) (preV (q0 := 5) (ci := 10) rfl xT_bl hP hK hNb hD rfl rfl xT_at) rfl rfl hl.1 rfl (lv_room (Nat.le_of_ble_eq_true rfl)) dX10_word_74 ⟨Nat.le_of_ble_eq_true rfl, Nat.le_of_ble_eq_true rfl⟩) hP hD hS hA (fun x12 τ13 H locs r_x12 hN hf hq hP hD hS => ?_)
        replace hw := hw x12 τ13 r_x12 hN hf hq
        have hF : f_r [21, 22, 23, 25, 26, 27, 28, 29] [49, 50, 51] [] σ τ13 := f_t hF hf (by decide) (by decide) (by decide)
        have hB := hN
        refine lv_goto (tgt := 87) hx hb dX10_word_77 (by decide) ?_
        exact xri hx hb hr hlk hP hK hD hS ⟨_, _, r_x12, rfl, hN, hF, rfl, hw⟩ (Nat.le_of_ble_eq_true rfl) (Nat.le_of_ble_eq_true rfl) dX10_word_87
    ·
      replace hw := hw.2 c6
      refine lv_aload_n hx hb dX10_word_50 rfl (lv_at hl 0 rfl) ?_
      refine lv_aload_n hx hb dX10_word_51 rfl (lv_at hl 1 rfl) ?_
      refine lv_iload_n hx hb dX10_word_52 rfl (lv_at hl 2 rfl) ?_
      refine lv_iload_n hx hb dX10_word_53 rfl (lv_at hl 3 rfl) ?_
      refine lv_iload hx hb dX10_word_54 (lv_at hl 4 rfl) ?_
      obtain ⟨Q14, hc, hw⟩ := hw
      refine wc_I (X := CX g q lb) (va_runV (As := [.ref (q 13), .int (I u2), .int (I u3), .int (I u4)]) (rest := []) ⟨hx, hb, hml, hown, hts⟩ (L_X10_plainStep_q13 l g q lb hlb r_u2 r_u3 r_u4 hN hc H.size) (cwV 4 hts (TB_V tw_1218 tw_1220 ts_32 tw_8 co_X10_plainStep) rfl rfl rfl (by decide +kernel) ⟨Nat.le_of_ble_eq_true rfl, Nat.le_of_ble_eq_true rfl⟩) (preV (q0 := 5) (ci := 10) rfl xT_bl hP hK hNb hD rfl rfl xT_at) rfl rfl hl.1 rfl (lv_room (Nat.le_of_ble_eq_true rfl)) dX10_word_56 ⟨Nat.le_of_ble_eq_true rfl, Nat.le_of_ble_eq_true rfl⟩) hP hD hS hA (fun x15 τ16 H locs r_x15 hN hf hq hP hD hS => ?_)
      replace hw := hw x15 τ16 r_x15 hN hf hq
      have hF : f_r [21, 22, 23, 25, 26, 27, 28, 29] [49, 50, 51] [] σ τ16 := f_t hF hf (by decide) (by decide) (by decide)
      have hB := hN
      exact xri hx hb hr hlk hP hK hD hS ⟨_, _, r_x15, rfl, hN, hF, rfl, hw⟩ (Nat.le_of_ble_eq_true rfl) (Nat.le_of_ble_eq_true rfl) dX10_word_59
def W_X3_addName_q13 (n2 : Int) (n3 : Int) (n4 : Int) (σ : S0) (Q : S0 → Prop) : Prop :=
  ∀ (P14 : Int → Int → Int → Int → Int → S0 → Prop),
  (∀ (u2 : Int) (u3 : Int) (u4 : Int) (u5 : Int) (u6 : Int) (τ : S0), ((u3 ≤ u6 → ∃ (Q4 : Int → Prop), W_X3_bucket_q13 u2 u3 τ Q4 ∧ ∀ (x5 : Int), rg x5 → Q4 x5 → ((0 ≤ τ.1 3 ∧ τ.1 3 < 2500) ∧ ((0 ≤ x5 ∧ x5 < 4096) ∧ (∀ (x9 : Int), rg x9 → x9 = τ.2.1 6 x5 → (rg (τ.1 3 + 1) ∧ (0 ≤ (τ.1 3 + 1) ∧ (τ.1 3 + 1) < 2501) ∧ (rg (u5 + u3) ∧ Q (s_a (s_a (s_v (s_a (s_a τ 4 (τ.1 3) u4) 5 (τ.1 3) x9) 3 (τ.1 3 + 1)) 3 (τ.1 3 + 1) (u5 + u3)) 6 x5 (τ.1 3 + 1)))))))) ∧ (u6 < u3 → (0 ≤ (u2 + u6) ∧ (u2 + u6) < 60000) ∧ (∀ (x14 : Int), rg x14 → x14 = τ.2.1 0 (u2 + u6) → ((0 ≤ (u5 + u6) ∧ (u5 + u6) < 30000) ∧ ((0 ≤ x14 ∧ x14 ≤ 65535) ∧ (rg (u6 + 1) ∧ P14 u2 u3 u4 u5 (u6 + 1) (s_a τ 2 (u5 + u6) x14))))))) → P14 u2 u3 u4 u5 u6 τ) →
  (0 ≤ σ.1 3 ∧ σ.1 3 < 2501) ∧ (∀ (x2 : Int), rg x2 → x2 = σ.2.1 3 (σ.1 3) → (P14 n2 n3 n4 x2 0 σ))
set_option maxRecDepth 100000 in
set_option maxHeartbeats 4000000 in
theorem L_X3_addName_q13 (l : Launch) (g : gG) (q : Nat → Nat) (lb : Nat) (hlb : lb < 2 ^ 31) {n2 : Int} {n3 : Int} {n4 : Int} {σ : S0} {Q : S0 → Prop} (r_n2 : rg n2) (r_n3 : rg n3) (r_n4 : rg n4) (hN : n_m σ) (hw : W_X3_addName_q13 n2 n3 n4 σ Q) (sz : Nat) : MetV l yX3_addName cX3_addName 7 { frames := 1, cells := 0, slots := 0, locals := 24 } g [.ref (q 1), .ref (q 13), .int (I n2), .int (I n3), .int (I n4)] (CX g q lb σ) sz xT (p_V (CX g q lb) [3] [2, 3, 4, 5, 6] [] σ Q) 0 0 := by
  refine mkMet (Qc := fun A => QV g A (p_V (CX g q lb) [3] [2, 3, 4, 5, 6] [] σ Q)) (by decide) (Nat.le_of_ble_eq_true rfl) ?_
  intro p e s m below meth c A H ls hx hb hr hml hown hts hlk hnm hsz hP hK hNb hD hA hAe hS hX hl
  have hl : lv_has ls 7 [(0, .ref (q 1)), (1, .ref (q 13)), (2, .int (I n2)), (3, .int (I n3)), (4, .int (I n4))] := hl
  have hB := hN
  have hF : f_r [3] [2, 3, 4, 5, 6] [] σ σ := f_0
  obtain ⟨locs, hlocs⟩ : ∃ z : List Loc, z = [] := ⟨_, rfl⟩
  rw [← hlocs] at hS ⊢
  obtain ⟨P14, hP14⟩ : ∃ P : Int → Int → Int → Int → Int → S0 → Prop, ∀ (u2 : Int) (u3 : Int) (u4 : Int) (u5 : Int) (u6 : Int) (τ : S0), (P u2 u3 u4 u5 u6 τ ↔ (rg u2 → rg u3 → rg u4 → rg u5 → rg u6 → n_m τ → f_r [3] [2, 3, 4, 5, 6] [] σ τ → ∀ (H : Heap) (locs : List Loc) (ls : Array Slot), KP g (CX g q lb τ) H → va_D A (CX g q lb τ) → va_S A s.heap H locs → lv_has ls 7 [(0, .ref (q 1)), (1, .ref (q 13)), (2, .int (I u2)), (3, .int (I u3)), (4, .int (I u4)), (5, .int (I u5)), (6, .int (I u6))] → W p l e ({ frames := 1, cells := 0, slots := 0, locals := 24 }) s m [.ref (q 1), .ref (q 13), .int (I n2), .int (I n3), .int (I n4)].toArray below meth c H locs 0 0 (MQ below (QV g A (p_V (CX g q lb) [3] [2, 3, 4, 5, 6] [] σ Q)) [.ref (q 1), .ref (q 13), .int (I n2), .int (I n3), .int (I n4)].toArray s 0 0 A) (F0 m 14 ls []))) := ⟨_, fun _ _ _ _ _ _ => Iff.rfl⟩
  refine (fun hw => ?_) (hw P14 ?_)
  ·
    refine lv_aload_n hx hb dX3_addName_0 rfl (lv_at hl 0 rfl) ?_
    refine gfX3_nameAt hx hb hts hK hP hown (hts _ tw_38) dX3_addName_1 ?_
    refine lv_aload_n hx hb dX3_addName_4 rfl (lv_at hl 0 rfl) ?_
    refine gfX3_names hx hb hts hK hP hown (hts _ tw_43) (x := σ.1 3) rfl dX3_addName_5 ?_
    obtain ⟨c1, hw⟩ := hw
    refine ldCX3_nameAt hx hb hK hP hN c1 dX3_addName_8 (fun x2 r_x2 e_x2 => ?_)
    replace hw := hw x2 r_x2 e_x2
    refine lv_istore (lv' := [(5, .int (I x2)), (0, .ref (q 1)), (1, .ref (q 13)), (2, .int (I n2)), (3, .int (I n3)), (4, .int (I n4))]) hx hb dX3_addName_9 hl (by decide) rfl (fun ls hl => ?_)
    refine lv_iconst (v := I 0) hx hb dX3_addName_11 rfl ?_
    refine lv_istore (lv' := [(6, .int (I 0)), (5, .int (I x2)), (0, .ref (q 1)), (1, .ref (q 13)), (2, .int (I n2)), (3, .int (I n3)), (4, .int (I n4))]) hx hb dX3_addName_12 hl (by decide) rfl (fun ls hl => ?_)
    exact (hP14 _ _ _ _ _ _).mp hw r_n2 r_n3 r_n4 r_x2 (by decide) hN hF H locs ls hP hD hS (lv_sub hl [2, 3, 4, 5, 6, 1, 0] rfl)
  ·
    intro u2 u3 u4 u5 u6 τ hw
    refine (hP14 _ _ _ _ _ _).mpr ?_
    intro r_u2 r_u3 r_u4 r_u5 r_u6 hN hF H locs ls hP hD hS hl
    have hB := hN
    refine lv_iload hx hb dX3_addName_14 (lv_at hl 6 rfl) ?_
    refine lv_iload_n hx hb dX3_addName_16 rfl (lv_at hl 3 rfl) ?_
    refine bi_icmp_ge (tgt := 42) hx hb r_u6 r_u3 dX3_addName_17 (by decide) (fun c3 => ?_) (fun c3 => ?_)
    ·
      replace hw := hw.1 c3
      refine lv_aload_n hx hb dX3_addName_42 rfl (lv_at hl 1 rfl) ?_
      refine lv_iload_n hx hb dX3_addName_43 rfl (lv_at hl 2 rfl) ?_
      refine lv_iload_n hx hb dX3_addName_44 rfl (lv_at hl 3 rfl) ?_
      obtain ⟨Q4, hc, hw⟩ := hw
      refine wc_i (X := CX g q lb) (va_runS (As := [.ref (q 13), .int (I u2), .int (I u3)]) (rest := []) ⟨hx, hb, hml, hown, hts⟩ (L_X3_bucket_q13 l g q lb hlb r_u2 r_u3 hN hc H.size) (cwS 3 hts (TB_S tw_1107 tw_1108 tw_2 co_X3_bucket) rfl rfl rfl (by decide +kernel) ⟨Nat.le_of_ble_eq_true rfl, Nat.le_of_ble_eq_true rfl⟩) (preS xT_bl hP hK hNb hD xT_at) rfl rfl hl.1 rfl (lv_room (Nat.le_of_ble_eq_true rfl)) dX3_addName_45 ⟨Nat.le_of_ble_eq_true rfl, Nat.le_of_ble_eq_true rfl⟩) hP hD hS hA (fun x5 H locs r_x5 hq hP hD hS => ?_)
      replace hw := hw x5 r_x5 hq
      refine lv_istore (lv' := [(6, .int (I x5)), (0, .ref (q 1)), (1, .ref (q 13)), (2, .int (I u2)), (3, .int (I u3)), (4, .int (I u4)), (5, .int (I u5))]) hx hb dX3_addName_48 hl (by decide) rfl (fun ls hl => ?_)
      refine lv_aload_n hx hb dX3_addName_50 rfl (lv_at hl 1 rfl) ?_
      refine gfX3_meaning hx hb hts hK hP hown (hts _ tw_40) dX3_addName_51 ?_
      refine lv_aload_n hx hb dX3_addName_54 rfl (lv_at hl 1 rfl) ?_
      refine gfX3_names hx hb hts hK hP hown (hts _ tw_43) (x := τ.1 3) rfl dX3_addName_55 ?_
      refine lv_iload hx hb dX3_addName_58 (lv_at hl 5 rfl) ?_
      obtain ⟨c7, hw⟩ := hw
      refine sdCX3_meaning hx hb hK hP hD hS c7 dX3_addName_60 (fun H locs hP hD hS => ?_)
      have hN : n_m (s_a τ 4 (τ.1 3) u4) := n_a (k := 4) (j := τ.1 3) hN (r_u4 : rg u4)
      have hF : f_r [3] [2, 3, 4, 5, 6] [] σ (s_a τ 4 (τ.1 3) u4) := f_a hF (by decide)
      refine lv_aload_n hx hb dX3_addName_61 rfl (lv_at hl 1 rfl) ?_
      refine gfX3_nextName hx hb hts hK hP hown (hts _ tw_41) dX3_addName_62 ?_
      refine lv_aload_n hx hb dX3_addName_65 rfl (lv_at hl 1 rfl) ?_
      refine gfX3_names hx hb hts hK hP hown (hts _ tw_43) (x := τ.1 3) rfl dX3_addName_66 ?_
      refine lv_aload_n hx hb dX3_addName_69 rfl (lv_at hl 1 rfl) ?_
      refine gfX3_heads hx hb hts hK hP hown (hts _ tw_42) dX3_addName_70 ?_
      refine lv_iload hx hb dX3_addName_73 (lv_at hl 0 rfl) ?_
      obtain ⟨c8, hw⟩ := hw
      refine ldCX3_heads hx hb hK hP hN c8 dX3_addName_75 (fun x9 r_x9 e_x9 => ?_)
      replace hw := hw x9 r_x9 e_x9
      refine sdCX3_nextName hx hb hK hP hD hS c7 dX3_addName_76 (fun H locs hP hD hS => ?_)
      have hN : n_m (s_a (s_a τ 4 (τ.1 3) u4) 5 (τ.1 3) x9) := n_a (k := 5) (j := τ.1 3) hN (r_x9 : rg x9)
      have hF : f_r [3] [2, 3, 4, 5, 6] [] σ (s_a (s_a τ 4 (τ.1 3) u4) 5 (τ.1 3) x9) := f_a hF (by decide)
      refine lv_aload_n hx hb dX3_addName_77 rfl (lv_at hl 1 rfl) ?_
      refine lv_dup hx hb dX3_addName_78 rfl ?_
      refine gfX3_names hx hb hts hK hP hown (hts _ tw_43) (x := τ.1 3) rfl dX3_addName_79 ?_
      refine lv_iconst (v := I 1) hx hb dX3_addName_82 rfl ?_
      refine bi_iadd hx hb dX3_addName_83 ?_
      obtain ⟨c10, hw⟩ := hw
      refine pfX3_names hx hb hts hK hP hD hS hown (hts _ tw_43) dX3_addName_84 (fun H locs hP hD hS => ?_)
      have hN : n_m (s_v (s_a (s_a τ 4 (τ.1 3) u4) 5 (τ.1 3) x9) 3 (τ.1 3 + 1)) := n_v (i := 3) hN (c10 : rg (τ.1 3 + 1))
      have hF : f_r [3] [2, 3, 4, 5, 6] [] σ (s_v (s_a (s_a τ 4 (τ.1 3) u4) 5 (τ.1 3) x9) 3 (τ.1 3 + 1)) := f_v hF (by decide)
      refine lv_aload_n hx hb dX3_addName_87 rfl (lv_at hl 1 rfl) ?_
      refine gfX3_nameAt hx hb hts hK hP hown (hts _ tw_38) dX3_addName_88 ?_
      refine lv_aload_n hx hb dX3_addName_91 rfl (lv_at hl 1 rfl) ?_
      refine gfX3_names hx hb hts hK hP hown (hts _ tw_43) (x := (τ.1 3 + 1)) rfl dX3_addName_92 ?_
      refine lv_iload hx hb dX3_addName_95 (lv_at hl 6 rfl) ?_
      refine lv_iload_n hx hb dX3_addName_97 rfl (lv_at hl 4 rfl) ?_
      refine bi_iadd hx hb dX3_addName_98 ?_
      obtain ⟨c11, hw⟩ := hw
      obtain ⟨c12, hw⟩ := hw
      refine sdCX3_nameAt hx hb hK hP hD hS c11 dX3_addName_99 (fun H locs hP hD hS => ?_)
      have hN : n_m (s_a (s_v (s_a (s_a τ 4 (τ.1 3) u4) 5 (τ.1 3) x9) 3 (τ.1 3 + 1)) 3 (τ.1 3 + 1) (u5 + u3)) := n_a (k := 3) (j := (τ.1 3 + 1)) hN (c12 : rg (u5 + u3))
      have hF : f_r [3] [2, 3, 4, 5, 6] [] σ (s_a (s_v (s_a (s_a τ 4 (τ.1 3) u4) 5 (τ.1 3) x9) 3 (τ.1 3 + 1)) 3 (τ.1 3 + 1) (u5 + u3)) := f_a hF (by decide)
      refine lv_aload_n hx hb dX3_addName_100 rfl (lv_at hl 1 rfl) ?_
      refine gfX3_heads hx hb hts hK hP hown (hts _ tw_42) dX3_addName_101 ?_
      refine lv_iload hx hb dX3_addName_104 (lv_at hl 0 rfl) ?_
      refine lv_aload_n hx hb dX3_addName_106 rfl (lv_at hl 1 rfl) ?_
      refine gfX3_names hx hb hts hK hP hown (hts _ tw_43) (x := (τ.1 3 + 1)) rfl dX3_addName_107 ?_
      refine sdCX3_heads hx hb hK hP hD hS c8 dX3_addName_110 (fun H locs hP hD hS => ?_)
      have hN : n_m (s_a (s_a (s_v (s_a (s_a τ 4 (τ.1 3) u4) 5 (τ.1 3) x9) 3 (τ.1 3 + 1)) 3 (τ.1 3 + 1) (u5 + u3)) 6 x5 (τ.1 3 + 1)) := n_a (k := 6) (j := x5) hN (c10 : rg (τ.1 3 + 1))
      have hF : f_r [3] [2, 3, 4, 5, 6] [] σ (s_a (s_a (s_v (s_a (s_a τ 4 (τ.1 3) u4) 5 (τ.1 3) x9) 3 (τ.1 3 + 1)) 3 (τ.1 3 + 1) (u5 + u3)) 6 x5 (τ.1 3 + 1)) := f_a hF (by decide)
      exact xrv hx hb hr hlk hP hK hD hS ⟨_, hN, hF, rfl, hw⟩ (Nat.le_of_ble_eq_true rfl) (Nat.le_of_ble_eq_true rfl) dX3_addName_111
    ·
      replace hw := hw.2 c3
      refine lv_aload_n hx hb dX3_addName_20 rfl (lv_at hl 0 rfl) ?_
      refine gfX3_letters hx hb hts hK hP hown (hts _ tw_36) dX3_addName_21 ?_
      refine lv_iload hx hb dX3_addName_24 (lv_at hl 5 rfl) ?_
      refine lv_iload hx hb dX3_addName_26 (lv_at hl 6 rfl) ?_
      refine bi_iadd hx hb dX3_addName_28 ?_
      refine lv_aload_n hx hb dX3_addName_29 rfl (lv_at hl 1 rfl) ?_
      refine lv_iload_n hx hb dX3_addName_30 rfl (lv_at hl 2 rfl) ?_
      refine lv_iload hx hb dX3_addName_31 (lv_at hl 6 rfl) ?_
      refine bi_iadd hx hb dX3_addName_33 ?_
      obtain ⟨c13, hw⟩ := hw
      refine ldCX12_tape hx hb hK hP hN c13 dX3_addName_34 (fun x14 r_x14 e_x14 => ?_)
      replace hw := hw x14 r_x14 e_x14
      obtain ⟨c15, hw⟩ := hw
      obtain ⟨c16, hw⟩ := hw
      refine sdCX3_letters hx hb hK hP hD hS c15 c16 dX3_addName_35 (fun H locs hP hD hS => ?_)
      have hN : n_m (s_a τ 2 (u5 + u6) x14) := n_a (k := 2) (j := (u5 + u6)) hN (r_x14 : rg x14)
      have hF : f_r [3] [2, 3, 4, 5, 6] [] σ (s_a τ 2 (u5 + u6) x14) := f_a hF (by decide)
      refine lv_iinc (v := I (u6 + 1)) (lv' := [(6, .int (I (u6 + 1))), (0, .ref (q 1)), (1, .ref (q 13)), (2, .int (I u2)), (3, .int (I u3)), (4, .int (I u4)), (5, .int (I u5))]) hx hb dX3_addName_36 hl (k := 6) rfl (I_add _ _) (by decide) rfl (fun ls hl => ?_)
      refine lv_goto (tgt := 14) hx hb dX3_addName_39 (by decide) ?_
      obtain ⟨c17, hw⟩ := hw
      exact (hP14 _ _ _ _ _ _).mp hw r_u2 r_u3 r_u4 r_u5 c17 hN hF H locs ls hP hD hS (lv_sub hl [1, 2, 3, 4, 5, 6, 0] rfl)
def W_X3_addLabel_q13 (n2 : Int) (n3 : Int) (σ : S0) (Q : S0 → Prop) : Prop :=
  (0 ≤ σ.1 7 ∧ σ.1 7 < 1500) ∧ (∃ (Q2 : S0 → Prop), W_X3_addName_q13 n2 n3 (σ.1 7) (s_a σ 12 (σ.1 7) (σ.1 3)) Q2 ∧ ∀ (τ4 : S0), n_m τ4 → f_r [3] [2, 3, 4, 5, 6] [] (s_a σ 12 (σ.1 7) (σ.1 3)) τ4 → Q2 τ4 → (Q τ4))
set_option maxRecDepth 100000 in
set_option maxHeartbeats 4000000 in
theorem L_X3_addLabel_q13 (l : Launch) (g : gG) (q : Nat → Nat) (lb : Nat) (hlb : lb < 2 ^ 31) {n2 : Int} {n3 : Int} {σ : S0} {Q : S0 → Prop} (r_n2 : rg n2) (r_n3 : rg n3) (hN : n_m σ) (hw : W_X3_addLabel_q13 n2 n3 σ Q) (sz : Nat) : MetV l yX3_addLabel cX3_addLabel 4 { frames := 2, cells := 0, slots := 0, locals := 50 } g [.ref (q 1), .ref (q 13), .int (I n2), .int (I n3)] (CX g q lb σ) sz xT (p_V (CX g q lb) [3] [2, 3, 4, 5, 6, 12] [] σ Q) 0 0 := by
  refine mkMet (Qc := fun A => QV g A (p_V (CX g q lb) [3] [2, 3, 4, 5, 6, 12] [] σ Q)) (by decide) (Nat.le_of_ble_eq_true rfl) ?_
  intro p e s m below meth c A H ls hx hb hr hml hown hts hlk hnm hsz hP hK hNb hD hA hAe hS hX hl
  have hl : lv_has ls 4 [(0, .ref (q 1)), (1, .ref (q 13)), (2, .int (I n2)), (3, .int (I n3))] := hl
  have hB := hN
  have hF : f_r [3] [2, 3, 4, 5, 6, 12] [] σ σ := f_0
  obtain ⟨locs, hlocs⟩ : ∃ z : List Loc, z = [] := ⟨_, rfl⟩
  rw [← hlocs] at hS ⊢
  refine lv_aload_n hx hb dX3_addLabel_0 rfl (lv_at hl 0 rfl) ?_
  refine gfX3_labelName hx hb hts hK hP hown (hts _ tw_66) dX3_addLabel_1 ?_
  refine lv_aload_n hx hb dX3_addLabel_4 rfl (lv_at hl 0 rfl) ?_
  refine gfX3_statements hx hb hts hK hP hown (hts _ tw_106) (x := σ.1 7) rfl dX3_addLabel_5 ?_
  refine lv_aload_n hx hb dX3_addLabel_8 rfl (lv_at hl 0 rfl) ?_
  refine gfX3_names hx hb hts hK hP hown (hts _ tw_43) (x := σ.1 3) rfl dX3_addLabel_9 ?_
  obtain ⟨c1, hw⟩ := hw
  refine sdCX3_labelName hx hb hK hP hD hS c1 dX3_addLabel_12 (fun H locs hP hD hS => ?_)
  have hN : n_m (s_a σ 12 (σ.1 7) (σ.1 3)) := n_a (k := 12) (j := σ.1 7) hN ((hB.1 3) : rg (σ.1 3))
  have hF : f_r [3] [2, 3, 4, 5, 6, 12] [] σ (s_a σ 12 (σ.1 7) (σ.1 3)) := f_a hF (by decide)
  refine lv_aload_n hx hb dX3_addLabel_13 rfl (lv_at hl 0 rfl) ?_
  refine lv_aload_n hx hb dX3_addLabel_14 rfl (lv_at hl 1 rfl) ?_
  refine lv_iload_n hx hb dX3_addLabel_15 rfl (lv_at hl 2 rfl) ?_
  refine lv_iload_n hx hb dX3_addLabel_16 rfl (lv_at hl 3 rfl) ?_
  refine lv_aload_n hx hb dX3_addLabel_17 rfl (lv_at hl 0 rfl) ?_
  refine gfX3_statements hx hb hts hK hP hown (hts _ tw_106) (x := σ.1 7) rfl dX3_addLabel_18 ?_
  obtain ⟨Q2, hc, hw⟩ := hw
  refine wc_V (X := CX g q lb) (va_runV (As := [.ref (q 13), .int (I n2), .int (I n3), .int (I (σ.1 7))]) (rest := []) ⟨hx, hb, hml, hown, hts⟩ (L_X3_addName_q13 l g q lb hlb r_n2 r_n3 (rg_ix c1.1 c1.2 (by decide)) hN hc H.size) (cwV 4 hts (TB_V tw_1147 tw_1149 ts_24 tw_2 co_X3_addName) rfl rfl rfl (by decide +kernel) ⟨Nat.le_of_ble_eq_true rfl, Nat.le_of_ble_eq_true rfl⟩) (preV (q0 := 1) (ci := 3) rfl xT_bl hP hK hNb hD rfl rfl xT_at) rfl rfl hl.1 rfl (lv_room (Nat.le_of_ble_eq_true rfl)) dX3_addLabel_21 ⟨Nat.le_of_ble_eq_true rfl, Nat.le_of_ble_eq_true rfl⟩) hP hD hS hA (fun τ4 H locs hN hf hq hP hD hS => ?_)
  replace hw := hw τ4 hN hf hq
  have hF : f_r [3] [2, 3, 4, 5, 6, 12] [] σ τ4 := f_t hF hf (by decide) (by decide) (by decide)
  have hB := hN
  exact xrv hx hb hr hlk hP hK hD hS ⟨_, hN, hF, rfl, hw⟩ (Nat.le_of_ble_eq_true rfl) (Nat.le_of_ble_eq_true rfl) dX3_addLabel_24
def W_X7_label (n1 : Int) (n2 : Int) (σ : S0) (Q : Int → S0 → Prop) : Prop :=
  (σ.1 7 = 1500 → Q 5 σ) ∧ (¬ σ.1 7 = 1500 → ∃ (Q2 : Int → Prop), W_X3_hasRoomForName n2 σ Q2 ∧ ∀ (x3 : Int), rg x3 → Q2 x3 → ((¬ x3 = 0 → (¬ σ.1 66 = 0) ∧ (∃ (Q7 : Int → Prop), W_X12_isLabel_q13 n1 n2 σ Q7 ∧ ∀ (x8 : Int), rg x8 → Q7 x8 → ((¬ x8 = 0 → (¬ σ.1 38 = (-1) → Q 7 σ) ∧ (σ.1 38 = (-1) → (σ.1 39 = (-1) → (¬ σ.1 66 = 0) ∧ (∃ (Q14 : S0 → Prop), W_X3_addLabel_q13 n1 n2 σ Q14 ∧ ∀ (τ16 : S0), n_m τ16 → f_r [3] [2, 3, 4, 5, 6, 12] [] σ τ16 → Q14 τ16 → (Q 0 (s_v τ16 35 1)))) ∧ (¬ σ.1 39 = (-1) → Q 7 σ))) ∧ (x8 = 0 → Q 6 σ)))) ∧ (x3 = 0 → Q 5 σ)))
set_option maxRecDepth 100000 in
set_option maxHeartbeats 4000000 in
theorem L_X7_label (l : Launch) (g : gG) (q : Nat → Nat) (lb : Nat) (hlb : lb < 2 ^ 31) {n1 : Int} {n2 : Int} {σ : S0} {Q : Int → S0 → Prop} (r_n1 : rg n1) (r_n2 : rg n2) (hN : n_m σ) (hw : W_X7_label n1 n2 σ Q) (sz : Nat) : MetI l yX7_label cX7_label 3 (some .int) { frames := 3, cells := 0, slots := 0, locals := 73 } g [.ref (q 6), .int (I n1), .int (I n2)] (CX g q lb σ) sz xT (p_I (CX g q lb) [3, 35] [2, 3, 4, 5, 6, 12] [] σ Q) 0 0 := by
  refine mkMet (Qc := fun A => QI g A (p_I (CX g q lb) [3, 35] [2, 3, 4, 5, 6, 12] [] σ Q)) (by decide) (Nat.le_of_ble_eq_true rfl) ?_
  intro p e s m below meth c A H ls hx hb hr hml hown hts hlk hnm hsz hP hK hNb hD hA hAe hS hX hl
  have hl : lv_has ls 3 [(0, .ref (q 6)), (1, .int (I n1)), (2, .int (I n2))] := hl
  have hB := hN
  have hF : f_r [3, 35] [2, 3, 4, 5, 6, 12] [] σ σ := f_0
  obtain ⟨locs, hlocs⟩ : ∃ z : List Loc, z = [] := ⟨_, rfl⟩
  rw [← hlocs] at hS ⊢
  refine lv_aload_n hx hb dX7_label_0 rfl (lv_at hl 0 rfl) ?_
  refine gfX7_library hx hb hts hK hP hown (hts _ tw_484) dX7_label_1 ?_
  refine gfNX3_statements hx hb hts hK hP hown (nb_use hNb tn_107) (x := σ.1 7) rfl dX7_label_4 ?_
  refine lv_sipush (v := I 1500) hx hb dX7_label_7 (by decide) ?_
  refine bi_icmp_eq (tgt := 24) hx hb (hB.1 7) (by decide) dX7_label_10 (by decide) (fun c1 => ?_) (fun c1 => ?_)
  ·
    replace hw := hw.1 c1
    refine lv_iconst (v := I 5) hx hb dX7_label_24 rfl ?_
    exact xri hx hb hr hlk hP hK hD hS ⟨_, _, (by decide), rfl, hN, hF, rfl, hw⟩ (Nat.le_of_ble_eq_true rfl) (Nat.le_of_ble_eq_true rfl) dX7_label_25
  ·
    replace hw := hw.2 c1
    refine lv_aload_n hx hb dX7_label_13 rfl (lv_at hl 0 rfl) ?_
    refine gfX7_library hx hb hts hK hP hown (hts _ tw_484) dX7_label_14 ?_
    refine lv_iload_n hx hb dX7_label_17 rfl (lv_at hl 2 rfl) ?_
    obtain ⟨Q2, hc, hw⟩ := hw
    refine wc_i (X := CX g q lb) (va_runV (As := [.int (I n2)]) (rest := []) ⟨hx, hb, hml, hown, hts⟩ (L_X3_hasRoomForName l g q lb hlb r_n2 hN hc H.size) (cwV 1 hts (TB_V tw_1133 tw_1134 tw_1135 tw_2 co_X3_hasRoomForName) rfl rfl rfl (by decide +kernel) ⟨Nat.le_of_ble_eq_true rfl, Nat.le_of_ble_eq_true rfl⟩) (preV (q0 := 1) (ci := 3) rfl xT_bl hP hK hNb hD rfl rfl xT_at) rfl rfl hl.1 rfl (lv_room (Nat.le_of_ble_eq_true rfl)) dX7_label_18 ⟨Nat.le_of_ble_eq_true rfl, Nat.le_of_ble_eq_true rfl⟩) hP hD hS hA (fun x3 H locs r_x3 hq hP hD hS => ?_)
    replace hw := hw x3 r_x3 hq
    refine bi_if_ne (tgt := 26) hx hb r_x3 dX7_label_21 (by decide) (fun c5 => ?_) (fun c5 => ?_)
    ·
      replace hw := hw.1 c5
      refine lv_aload_n hx hb dX7_label_26 rfl (lv_at hl 0 rfl) ?_
      obtain ⟨c6, hw⟩ := hw
      refine gfX7_source hx hb hts hK hP hown (hts _ tw_489) c6 dX7_label_27 ?_
      refine lv_iload_n hx hb dX7_label_30 rfl (lv_at hl 1 rfl) ?_
      refine lv_iload_n hx hb dX7_label_31 rfl (lv_at hl 2 rfl) ?_
      obtain ⟨Q7, hc, hw⟩ := hw
      refine wc_i (X := CX g q lb) (va_runSN (As := [.ref (q 13), .int (I n1), .int (I n2)]) (rest := []) ⟨hx, hb, hml, hown, hts⟩ (L_X12_isLabel_q13 l g q lb hlb r_n1 r_n2 hN hc H.size) ⟨va_cnB 3 hts (TB_code co_X12_isLabel) rfl rfl rfl (hNb _ tn_1137) (hts _ tw_1) (by decide +kernel) ⟨Nat.le_of_ble_eq_true rfl, Nat.le_of_ble_eq_true rfl⟩, hts _ tw_1138, trivial⟩ (preS xT_bl hP hK hNb hD xT_at) rfl rfl hl.1 rfl (lv_room (Nat.le_of_ble_eq_true rfl)) dX7_label_32 ⟨Nat.le_of_ble_eq_true rfl, Nat.le_of_ble_eq_true rfl⟩) hP hD hS hA (fun x8 H locs r_x8 hq hP hD hS => ?_)
      replace hw := hw x8 r_x8 hq
      refine bi_if_ne (tgt := 41) hx hb r_x8 dX7_label_35 (by decide) (fun c10 => ?_) (fun c10 => ?_)
      ·
        replace hw := hw.1 c10
        refine lv_aload_n hx hb dX7_label_41 rfl (lv_at hl 0 rfl) ?_
        refine gfX7_namedSymbol hx hb hts hK hP hown (hts _ tw_496) (x := σ.1 38) rfl dX7_label_42 ?_
        refine lv_iconst (v := I (-1)) hx hb dX7_label_45 rfl ?_
        refine bi_icmp_ne (tgt := 57) hx hb (hB.1 38) (by decide) dX7_label_46 (by decide) (fun c11 => ?_) (fun c11 => ?_)
        ·
          replace hw := hw.1 c11
          refine lv_bipush (v := I 7) hx hb dX7_label_57 (by decide) ?_
          exact xri hx hb hr hlk hP hK hD hS ⟨_, _, (by decide), rfl, hN, hF, rfl, hw⟩ (Nat.le_of_ble_eq_true rfl) (Nat.le_of_ble_eq_true rfl) dX7_label_59
        ·
          replace hw := hw.2 c11
          refine lv_aload_n hx hb dX7_label_49 rfl (lv_at hl 0 rfl) ?_
          refine gfX7_namedStatement hx hb hts hK hP hown (hts _ tw_497) (x := σ.1 39) rfl dX7_label_50 ?_
          refine lv_iconst (v := I (-1)) hx hb dX7_label_53 rfl ?_
          refine bi_icmp_eq (tgt := 60) hx hb (hB.1 39) (by decide) dX7_label_54 (by decide) (fun c12 => ?_) (fun c12 => ?_)
          ·
            replace hw := hw.1 c12
            refine lv_aload_n hx hb dX7_label_60 rfl (lv_at hl 0 rfl) ?_
            refine gfX7_library hx hb hts hK hP hown (hts _ tw_484) dX7_label_61 ?_
            refine lv_aload_n hx hb dX7_label_64 rfl (lv_at hl 0 rfl) ?_
            obtain ⟨c13, hw⟩ := hw
            refine gfX7_source hx hb hts hK hP hown (hts _ tw_489) c13 dX7_label_65 ?_
            refine lv_iload_n hx hb dX7_label_68 rfl (lv_at hl 1 rfl) ?_
            refine lv_iload_n hx hb dX7_label_69 rfl (lv_at hl 2 rfl) ?_
            obtain ⟨Q14, hc, hw⟩ := hw
            refine wc_V (X := CX g q lb) (va_runV (As := [.ref (q 13), .int (I n1), .int (I n2)]) (rest := []) ⟨hx, hb, hml, hown, hts⟩ (L_X3_addLabel_q13 l g q lb hlb r_n1 r_n2 hN hc H.size) (cwV 3 hts (TB_V tw_1143 tw_1144 tw_1145 tw_2 co_X3_addLabel) rfl rfl rfl (by decide +kernel) ⟨Nat.le_of_ble_eq_true rfl, Nat.le_of_ble_eq_true rfl⟩) (preV (q0 := 1) (ci := 3) rfl xT_bl hP hK hNb hD rfl rfl xT_at) rfl rfl hl.1 rfl (lv_room (Nat.le_of_ble_eq_true rfl)) dX7_label_70 ⟨Nat.le_of_ble_eq_true rfl, Nat.le_of_ble_eq_true rfl⟩) hP hD hS hA (fun τ16 H locs hN hf hq hP hD hS => ?_)
            replace hw := hw τ16 hN hf hq
            have hF : f_r [3, 35] [2, 3, 4, 5, 6, 12] [] σ τ16 := f_t hF hf (by decide) (by decide) (by decide)
            have hB := hN
            refine lv_aload_n hx hb dX7_label_73 rfl (lv_at hl 0 rfl) ?_
            refine lv_iconst (v := I 1) hx hb dX7_label_74 rfl ?_
            refine pfX7_state hx hb hts hK hP hD hS hown (hts _ tw_493) dX7_label_75 (fun H locs hP hD hS => ?_)
            have hN : n_m (s_v τ16 35 1) := n_v (i := 35) hN ((by decide) : rg 1)
            have hF : f_r [3, 35] [2, 3, 4, 5, 6, 12] [] σ (s_v τ16 35 1) := f_v hF (by decide)
            refine lv_iconst (v := I 0) hx hb dX7_label_78 rfl ?_
            exact xri hx hb hr hlk hP hK hD hS ⟨_, _, (by decide), rfl, hN, hF, rfl, hw⟩ (Nat.le_of_ble_eq_true rfl) (Nat.le_of_ble_eq_true rfl) dX7_label_79
          ·
            replace hw := hw.2 c12
            refine lv_bipush (v := I 7) hx hb dX7_label_57 (by decide) ?_
            exact xri hx hb hr hlk hP hK hD hS ⟨_, _, (by decide), rfl, hN, hF, rfl, hw⟩ (Nat.le_of_ble_eq_true rfl) (Nat.le_of_ble_eq_true rfl) dX7_label_59
      ·
        replace hw := hw.2 c10
        refine lv_bipush (v := I 6) hx hb dX7_label_38 (by decide) ?_
        exact xri hx hb hr hlk hP hK hD hS ⟨_, _, (by decide), rfl, hN, hF, rfl, hw⟩ (Nat.le_of_ble_eq_true rfl) (Nat.le_of_ble_eq_true rfl) dX7_label_40
    ·
      replace hw := hw.2 c5
      refine lv_iconst (v := I 5) hx hb dX7_label_24 rfl ?_
      exact xri hx hb hr hlk hP hK hD hS ⟨_, _, (by decide), rfl, hN, hF, rfl, hw⟩ (Nat.le_of_ble_eq_true rfl) (Nat.le_of_ble_eq_true rfl) dX7_label_25
def W_X7_faultOfNewSymbol (n1 : Int) (σ : S0) (Q : Int → Prop) : Prop :=
  (σ.1 5 = 1000 → Q 5) ∧ (¬ σ.1 5 = 1000 → ∃ (Q2 : Int → Prop), W_X3_hasRoomForName n1 σ Q2 ∧ ∀ (x3 : Int), rg x3 → Q2 x3 → ((¬ x3 = 0 → (¬ σ.1 39 = (-1) → Q 7) ∧ (σ.1 39 = (-1) → Q 0)) ∧ (x3 = 0 → Q 5)))
set_option maxRecDepth 100000 in
set_option maxHeartbeats 4000000 in
theorem L_X7_faultOfNewSymbol (l : Launch) (g : gG) (q : Nat → Nat) (lb : Nat) (hlb : lb < 2 ^ 31) {n1 : Int} {σ : S0} {Q : Int → Prop} (r_n1 : rg n1) (hN : n_m σ) (hw : W_X7_faultOfNewSymbol n1 σ Q) (sz : Nat) : MetI l yX7_faultOfNewSymbol cX7_faultOfNewSymbol 2 (some .int) { frames := 1, cells := 0, slots := 0, locals := 21 } g [.ref (q 6), .int (I n1)] (CX g q lb σ) sz xT (p_i (CX g q lb) σ Q) 0 0 := by
  refine mkMet (Qc := fun A => QI g A (p_i (CX g q lb) σ Q)) (by decide) (Nat.le_of_ble_eq_true rfl) ?_
  intro p e s m below meth c A H ls hx hb hr hml hown hts hlk hnm hsz hP hK hNb hD hA hAe hS hX hl
  have hl : lv_has ls 2 [(0, .ref (q 6)), (1, .int (I n1))] := hl
  have hB := hN
  obtain ⟨locs, hlocs⟩ : ∃ z : List Loc, z = [] := ⟨_, rfl⟩
  rw [← hlocs] at hS ⊢
  refine lv_aload_n hx hb dX7_faultOfNewSymbol_0 rfl (lv_at hl 0 rfl) ?_
  refine gfX7_library hx hb hts hK hP hown (hts _ tw_484) dX7_faultOfNewSymbol_1 ?_
  refine gfNX3_symbols hx hb hts hK hP hown (nb_use hNb tn_65) (x := σ.1 5) rfl dX7_faultOfNewSymbol_4 ?_
  refine lv_sipush (v := I 1000) hx hb dX7_faultOfNewSymbol_7 (by decide) ?_
  refine bi_icmp_eq (tgt := 24) hx hb (hB.1 5) (by decide) dX7_faultOfNewSymbol_10 (by decide) (fun c1 => ?_) (fun c1 => ?_)
  ·
    replace hw := hw.1 c1
    refine lv_iconst (v := I 5) hx hb dX7_faultOfNewSymbol_24 rfl ?_
    exact xri hx hb hr hlk hP hK hD hS ⟨_, (by decide), rfl, rfl, hw⟩ (Nat.le_of_ble_eq_true rfl) (Nat.le_of_ble_eq_true rfl) dX7_faultOfNewSymbol_25
  ·
    replace hw := hw.2 c1
    refine lv_aload_n hx hb dX7_faultOfNewSymbol_13 rfl (lv_at hl 0 rfl) ?_
    refine gfX7_library hx hb hts hK hP hown (hts _ tw_484) dX7_faultOfNewSymbol_14 ?_
    refine lv_iload_n hx hb dX7_faultOfNewSymbol_17 rfl (lv_at hl 1 rfl) ?_
    obtain ⟨Q2, hc, hw⟩ := hw
    refine wc_i (X := CX g q lb) (va_runV (As := [.int (I n1)]) (rest := []) ⟨hx, hb, hml, hown, hts⟩ (L_X3_hasRoomForName l g q lb hlb r_n1 hN hc H.size) (cwV 1 hts (TB_V tw_1133 tw_1134 tw_1135 tw_2 co_X3_hasRoomForName) rfl rfl rfl (by decide +kernel) ⟨Nat.le_of_ble_eq_true rfl, Nat.le_of_ble_eq_true rfl⟩) (preV (q0 := 1) (ci := 3) rfl xT_bl hP hK hNb hD rfl rfl xT_at) rfl rfl hl.1 rfl (lv_room (Nat.le_of_ble_eq_true rfl)) dX7_faultOfNewSymbol_18 ⟨Nat.le_of_ble_eq_true rfl, Nat.le_of_ble_eq_true rfl⟩) hP hD hS hA (fun x3 H locs r_x3 hq hP hD hS => ?_)
    replace hw := hw x3 r_x3 hq
    refine bi_if_ne (tgt := 26) hx hb r_x3 dX7_faultOfNewSymbol_21 (by decide) (fun c5 => ?_) (fun c5 => ?_)
    ·
      replace hw := hw.1 c5
      refine lv_aload_n hx hb dX7_faultOfNewSymbol_26 rfl (lv_at hl 0 rfl) ?_
      refine gfX7_namedStatement hx hb hts hK hP hown (hts _ tw_497) (x := σ.1 39) rfl dX7_faultOfNewSymbol_27 ?_
      refine lv_iconst (v := I (-1)) hx hb dX7_faultOfNewSymbol_30 rfl ?_
      refine bi_icmp_ne (tgt := 38) hx hb (hB.1 39) (by decide) dX7_faultOfNewSymbol_31 (by decide) (fun c6 => ?_) (fun c6 => ?_)
      ·
        replace hw := hw.1 c6
        refine lv_bipush (v := I 7) hx hb dX7_faultOfNewSymbol_38 (by decide) ?_
        exact xri hx hb hr hlk hP hK hD hS ⟨_, (by decide), rfl, rfl, hw⟩ (Nat.le_of_ble_eq_true rfl) (Nat.le_of_ble_eq_true rfl) dX7_faultOfNewSymbol_40
      ·
        replace hw := hw.2 c6
        refine lv_iconst (v := I 0) hx hb dX7_faultOfNewSymbol_34 rfl ?_
        refine lv_goto (tgt := 40) hx hb dX7_faultOfNewSymbol_35 (by decide) ?_
        exact xri hx hb hr hlk hP hK hD hS ⟨_, (by decide), rfl, rfl, hw⟩ (Nat.le_of_ble_eq_true rfl) (Nat.le_of_ble_eq_true rfl) dX7_faultOfNewSymbol_40
    ·
      replace hw := hw.2 c5
      refine lv_iconst (v := I 5) hx hb dX7_faultOfNewSymbol_24 rfl ?_
      exact xri hx hb hr hlk hP hK hD hS ⟨_, (by decide), rfl, rfl, hw⟩ (Nat.le_of_ble_eq_true rfl) (Nat.le_of_ble_eq_true rfl) dX7_faultOfNewSymbol_25
def W_X3_addSymbol_q13 (n2 : Int) (n3 : Int) (n4 : Int) (σ : S0) (Q : Int → S0 → Prop) : Prop :=
  (0 ≤ σ.1 5 ∧ σ.1 5 < 1000) ∧ (∃ (Q2 : S0 → Prop), W_X3_addName_q13 n2 n3 (-1 - σ.1 5) (s_a σ 7 (σ.1 5) (σ.1 3)) Q2 ∧ ∀ (τ4 : S0), n_m τ4 → f_r [3] [2, 3, 4, 5, 6] [] (s_a σ 7 (σ.1 5) (σ.1 3)) τ4 → Q2 τ4 → ((0 ≤ τ4.1 5 ∧ τ4.1 5 < 1000) ∧ ((0 ≤ n4 ∧ n4 ≤ 1) ∧ (rg (τ4.1 5 + 1) ∧ rg ((τ4.1 5 + 1) - 1) ∧ Q ((τ4.1 5 + 1) - 1) (s_v (s_a (s_a (s_a τ4 8 (τ4.1 5) n4) 9 (τ4.1 5) (-1)) 10 (τ4.1 5) (-1)) 5 (τ4.1 5 + 1))))))
set_option maxRecDepth 100000 in
set_option maxHeartbeats 4000000 in
theorem L_X3_addSymbol_q13 (l : Launch) (g : gG) (q : Nat → Nat) (lb : Nat) (hlb : lb < 2 ^ 31) {n2 : Int} {n3 : Int} {n4 : Int} {σ : S0} {Q : Int → S0 → Prop} (r_n2 : rg n2) (r_n3 : rg n3) (r_n4 : rg n4) (hN : n_m σ) (hw : W_X3_addSymbol_q13 n2 n3 n4 σ Q) (sz : Nat) : MetI l yX3_addSymbol cX3_addSymbol 5 (some .int) { frames := 2, cells := 0, slots := 0, locals := 50 } g [.ref (q 1), .ref (q 13), .int (I n2), .int (I n3), .int (I n4)] (CX g q lb σ) sz xT (p_I (CX g q lb) [3, 5] [2, 3, 4, 5, 6, 7, 8, 9, 10] [] σ Q) 0 0 := by
  refine mkMet (Qc := fun A => QI g A (p_I (CX g q lb) [3, 5] [2, 3, 4, 5, 6, 7, 8, 9, 10] [] σ Q)) (by decide) (Nat.le_of_ble_eq_true rfl) ?_
  intro p e s m below meth c A H ls hx hb hr hml hown hts hlk hnm hsz hP hK hNb hD hA hAe hS hX hl
  have hl : lv_has ls 5 [(0, .ref (q 1)), (1, .ref (q 13)), (2, .int (I n2)), (3, .int (I n3)), (4, .int (I n4))] := hl
  have hB := hN
  have hF : f_r [3, 5] [2, 3, 4, 5, 6, 7, 8, 9, 10] [] σ σ := f_0
  obtain ⟨locs, hlocs⟩ : ∃ z : List Loc, z = [] := ⟨_, rfl⟩
  rw [← hlocs] at hS ⊢
  refine lv_aload_n hx hb dX3_addSymbol_0 rfl (lv_at hl 0 rfl) ?_
  refine gfX3_symbolName hx hb hts hK hP hown (hts _ tw_44) dX3_addSymbol_1 ?_
  refine lv_aload_n hx hb dX3_addSymbol_4 rfl (lv_at hl 0 rfl) ?_
  refine gfX3_symbols hx hb hts hK hP hown (hts _ tw_64) (x := σ.1 5) rfl dX3_addSymbol_5 ?_
  refine lv_aload_n hx hb dX3_addSymbol_8 rfl (lv_at hl 0 rfl) ?_
  refine gfX3_names hx hb hts hK hP hown (hts _ tw_43) (x := σ.1 3) rfl dX3_addSymbol_9 ?_
  obtain ⟨c1, hw⟩ := hw
  refine sdCX3_symbolName hx hb hK hP hD hS c1 dX3_addSymbol_12 (fun H locs hP hD hS => ?_)
  have hN : n_m (s_a σ 7 (σ.1 5) (σ.1 3)) := n_a (k := 7) (j := σ.1 5) hN ((hB.1 3) : rg (σ.1 3))
  have hF : f_r [3, 5] [2, 3, 4, 5, 6, 7, 8, 9, 10] [] σ (s_a σ 7 (σ.1 5) (σ.1 3)) := f_a hF (by decide)
  refine lv_aload_n hx hb dX3_addSymbol_13 rfl (lv_at hl 0 rfl) ?_
  refine lv_aload_n hx hb dX3_addSymbol_14 rfl (lv_at hl 1 rfl) ?_
  refine lv_iload_n hx hb dX3_addSymbol_15 rfl (lv_at hl 2 rfl) ?_
  refine lv_iload_n hx hb dX3_addSymbol_16 rfl (lv_at hl 3 rfl) ?_
  refine lv_aload_n hx hb dX3_addSymbol_17 rfl (lv_at hl 0 rfl) ?_
  refine gfX3_symbols hx hb hts hK hP hown (hts _ tw_64) (x := σ.1 5) rfl dX3_addSymbol_18 ?_
  refine lv_iconst (v := I (-1)) hx hb dX3_addSymbol_21 rfl ?_
  refine bi_inot hx hb dX3_addSymbol_22 ?_
  obtain ⟨Q2, hc, hw⟩ := hw
  refine wc_V (X := CX g q lb) (va_runV (As := [.ref (q 13), .int (I n2), .int (I n3), .int (I (-1 - σ.1 5))]) (rest := []) ⟨hx, hb, hml, hown, hts⟩ (L_X3_addName_q13 l g q lb hlb r_n2 r_n3 (⟨by have := ((rg_ix c1.1 c1.2 (by decide)) : rg (σ.1 5)).2; omega, by have := ((rg_ix c1.1 c1.2 (by decide)) : rg (σ.1 5)).1; omega⟩ : rg (-1 - σ.1 5)) hN hc H.size) (cwV 4 hts (TB_V tw_1147 tw_1149 ts_24 tw_2 co_X3_addName) rfl rfl rfl (by decide +kernel) ⟨Nat.le_of_ble_eq_true rfl, Nat.le_of_ble_eq_true rfl⟩) (preV (q0 := 1) (ci := 3) rfl xT_bl hP hK hNb hD rfl rfl xT_at) rfl rfl hl.1 rfl (lv_room (Nat.le_of_ble_eq_true rfl)) dX3_addSymbol_23 ⟨Nat.le_of_ble_eq_true rfl, Nat.le_of_ble_eq_true rfl⟩) hP hD hS hA (fun τ4 H locs hN hf hq hP hD hS => ?_)
  replace hw := hw τ4 hN hf hq
  have hF : f_r [3, 5] [2, 3, 4, 5, 6, 7, 8, 9, 10] [] σ τ4 := f_t hF hf (by decide) (by decide) (by decide)
  have hB := hN
  refine lv_aload_n hx hb dX3_addSymbol_26 rfl (lv_at hl 0 rfl) ?_
  refine gfX3_variable hx hb hts hK hP hown (hts _ tw_46) dX3_addSymbol_27 ?_
  refine lv_aload_n hx hb dX3_addSymbol_30 rfl (lv_at hl 0 rfl) ?_
  refine gfX3_symbols hx hb hts hK hP hown (hts _ tw_64) (x := τ4.1 5) rfl dX3_addSymbol_31 ?_
  refine lv_iload hx hb dX3_addSymbol_34 (lv_at hl 4 rfl) ?_
  obtain ⟨c5, hw⟩ := hw
  obtain ⟨c6, hw⟩ := hw
  refine sdCX3_variable hx hb hK hP hD hS c5 c6 dX3_addSymbol_36 (fun H locs hP hD hS => ?_)
  have hN : n_m (s_a τ4 8 (τ4.1 5) n4) := n_a (k := 8) (j := τ4.1 5) hN (r_n4 : rg n4)
  have hF : f_r [3, 5] [2, 3, 4, 5, 6, 7, 8, 9, 10] [] σ (s_a τ4 8 (τ4.1 5) n4) := f_a hF (by decide)
  refine lv_aload_n hx hb dX3_addSymbol_37 rfl (lv_at hl 0 rfl) ?_
  refine gfX3_firstFloat hx hb hts hK hP hown (hts _ tw_52) dX3_addSymbol_38 ?_
  refine lv_aload_n hx hb dX3_addSymbol_41 rfl (lv_at hl 0 rfl) ?_
  refine gfX3_symbols hx hb hts hK hP hown (hts _ tw_64) (x := τ4.1 5) rfl dX3_addSymbol_42 ?_
  refine lv_iconst (v := I (-1)) hx hb dX3_addSymbol_45 rfl ?_
  refine sdCX3_firstFloat hx hb hK hP hD hS c5 dX3_addSymbol_46 (fun H locs hP hD hS => ?_)
  have hN : n_m (s_a (s_a τ4 8 (τ4.1 5) n4) 9 (τ4.1 5) (-1)) := n_a (k := 9) (j := τ4.1 5) hN ((by decide) : rg (-1))
  have hF : f_r [3, 5] [2, 3, 4, 5, 6, 7, 8, 9, 10] [] σ (s_a (s_a τ4 8 (τ4.1 5) n4) 9 (τ4.1 5) (-1)) := f_a hF (by decide)
  refine lv_aload_n hx hb dX3_addSymbol_47 rfl (lv_at hl 0 rfl) ?_
  refine gfX3_rank hx hb hts hK hP hown (hts _ tw_55) dX3_addSymbol_48 ?_
  refine lv_aload_n hx hb dX3_addSymbol_51 rfl (lv_at hl 0 rfl) ?_
  refine gfX3_symbols hx hb hts hK hP hown (hts _ tw_64) (x := τ4.1 5) rfl dX3_addSymbol_52 ?_
  refine lv_iconst (v := I (-1)) hx hb dX3_addSymbol_55 rfl ?_
  refine sdCX3_rank hx hb hK hP hD hS c5 dX3_addSymbol_56 (fun H locs hP hD hS => ?_)
  have hN : n_m (s_a (s_a (s_a τ4 8 (τ4.1 5) n4) 9 (τ4.1 5) (-1)) 10 (τ4.1 5) (-1)) := n_a (k := 10) (j := τ4.1 5) hN ((by decide) : rg (-1))
  have hF : f_r [3, 5] [2, 3, 4, 5, 6, 7, 8, 9, 10] [] σ (s_a (s_a (s_a τ4 8 (τ4.1 5) n4) 9 (τ4.1 5) (-1)) 10 (τ4.1 5) (-1)) := f_a hF (by decide)
  refine lv_aload_n hx hb dX3_addSymbol_57 rfl (lv_at hl 0 rfl) ?_
  refine lv_dup hx hb dX3_addSymbol_58 rfl ?_
  refine gfX3_symbols hx hb hts hK hP hown (hts _ tw_64) (x := τ4.1 5) rfl dX3_addSymbol_59 ?_
  refine lv_iconst (v := I 1) hx hb dX3_addSymbol_62 rfl ?_
  refine bi_iadd hx hb dX3_addSymbol_63 ?_
  obtain ⟨c7, hw⟩ := hw
  refine pfX3_symbols hx hb hts hK hP hD hS hown (hts _ tw_64) dX3_addSymbol_64 (fun H locs hP hD hS => ?_)
  have hN : n_m (s_v (s_a (s_a (s_a τ4 8 (τ4.1 5) n4) 9 (τ4.1 5) (-1)) 10 (τ4.1 5) (-1)) 5 (τ4.1 5 + 1)) := n_v (i := 5) hN (c7 : rg (τ4.1 5 + 1))
  have hF : f_r [3, 5] [2, 3, 4, 5, 6, 7, 8, 9, 10] [] σ (s_v (s_a (s_a (s_a τ4 8 (τ4.1 5) n4) 9 (τ4.1 5) (-1)) 10 (τ4.1 5) (-1)) 5 (τ4.1 5 + 1)) := f_v hF (by decide)
  refine lv_aload_n hx hb dX3_addSymbol_67 rfl (lv_at hl 0 rfl) ?_
  refine gfX3_symbols hx hb hts hK hP hown (hts _ tw_64) (x := (τ4.1 5 + 1)) rfl dX3_addSymbol_68 ?_
  refine lv_iconst (v := I 1) hx hb dX3_addSymbol_71 rfl ?_
  refine bi_isub hx hb dX3_addSymbol_72 ?_
  obtain ⟨c8, hw⟩ := hw
  exact xri hx hb hr hlk hP hK hD hS ⟨_, _, c8, rfl, hN, hF, rfl, hw⟩ (Nat.le_of_ble_eq_true rfl) (Nat.le_of_ble_eq_true rfl) dX3_addSymbol_73
def W_X7_declareConstant (n1 : Int) (n2 : Int) (σ : S0) (Q : Int → S0 → Prop) : Prop :=
  rg (σ.1 36 + 1) ∧ (σ.1 38 = (-1) → ∃ (Q3 : Int → Prop), W_X7_faultOfNewSymbol n2 (s_v σ 36 (σ.1 36 + 1)) Q3 ∧ ∀ (x4 : Int), rg x4 → Q3 x4 → ((¬ x4 = 0 → Q x4 (s_v σ 36 (σ.1 36 + 1))) ∧ (x4 = 0 → (¬ σ.1 66 = 0) ∧ (∃ (Q8 : Int → S0 → Prop), W_X3_addSymbol_q13 n1 n2 0 (s_v σ 36 (σ.1 36 + 1)) Q8 ∧ ∀ (x9 : Int) (τ10 : S0), rg x9 → n_m τ10 → f_r [3, 5] [2, 3, 4, 5, 6, 7, 8, 9, 10] [] (s_v σ 36 (σ.1 36 + 1)) τ10 → Q8 x9 τ10 → (Q x4 τ10))))) ∧ (¬ σ.1 38 = (-1) → Q 7 (s_v σ 36 (σ.1 36 + 1)))
set_option maxRecDepth 100000 in
set_option maxHeartbeats 4000000 in
theorem L_X7_declareConstant (l : Launch) (g : gG) (q : Nat → Nat) (lb : Nat) (hlb : lb < 2 ^ 31) {n1 : Int} {n2 : Int} {σ : S0} {Q : Int → S0 → Prop} (r_n1 : rg n1) (r_n2 : rg n2) (hN : n_m σ) (hw : W_X7_declareConstant n1 n2 σ Q) (sz : Nat) : MetI l yX7_declareConstant cX7_declareConstant 4 (some .int) { frames := 3, cells := 0, slots := 0, locals := 74 } g [.ref (q 6), .int (I n1), .int (I n2)] (CX g q lb σ) sz xT (p_I (CX g q lb) [3, 5, 36] [2, 3, 4, 5, 6, 7, 8, 9, 10] [] σ Q) 0 0 := by
  refine mkMet (Qc := fun A => QI g A (p_I (CX g q lb) [3, 5, 36] [2, 3, 4, 5, 6, 7, 8, 9, 10] [] σ Q)) (by decide) (Nat.le_of_ble_eq_true rfl) ?_
  intro p e s m below meth c A H ls hx hb hr hml hown hts hlk hnm hsz hP hK hNb hD hA hAe hS hX hl
  have hl : lv_has ls 4 [(0, .ref (q 6)), (1, .int (I n1)), (2, .int (I n2))] := hl
  have hB := hN
  have hF : f_r [3, 5, 36] [2, 3, 4, 5, 6, 7, 8, 9, 10] [] σ σ := f_0
  obtain ⟨locs, hlocs⟩ : ∃ z : List Loc, z = [] := ⟨_, rfl⟩
  rw [← hlocs] at hS ⊢
  refine lv_aload_n hx hb dX7_declareConstant_0 rfl (lv_at hl 0 rfl) ?_
  refine lv_dup hx hb dX7_declareConstant_1 rfl ?_
  refine gfX7_items hx hb hts hK hP hown (hts _ tw_494) (x := σ.1 36) rfl dX7_declareConstant_2 ?_
  refine lv_iconst (v := I 1) hx hb dX7_declareConstant_5 rfl ?_
  refine bi_iadd hx hb dX7_declareConstant_6 ?_
  obtain ⟨c1, hw⟩ := hw
  refine pfX7_items hx hb hts hK hP hD hS hown (hts _ tw_494) dX7_declareConstant_7 (fun H locs hP hD hS => ?_)
  have hN : n_m (s_v σ 36 (σ.1 36 + 1)) := n_v (i := 36) hN (c1 : rg (σ.1 36 + 1))
  have hF : f_r [3, 5, 36] [2, 3, 4, 5, 6, 7, 8, 9, 10] [] σ (s_v σ 36 (σ.1 36 + 1)) := f_v hF (by decide)
  refine lv_aload_n hx hb dX7_declareConstant_10 rfl (lv_at hl 0 rfl) ?_
  refine gfX7_namedSymbol hx hb hts hK hP hown (hts _ tw_496) (x := σ.1 38) rfl dX7_declareConstant_11 ?_
  refine lv_iconst (v := I (-1)) hx hb dX7_declareConstant_14 rfl ?_
  refine bi_icmp_eq (tgt := 21) hx hb (hB.1 38) (by decide) dX7_declareConstant_15 (by decide) (fun c2 => ?_) (fun c2 => ?_)
  ·
    replace hw := hw.1 c2
    refine lv_aload_n hx hb dX7_declareConstant_21 rfl (lv_at hl 0 rfl) ?_
    refine lv_iload_n hx hb dX7_declareConstant_22 rfl (lv_at hl 2 rfl) ?_
    obtain ⟨Q3, hc, hw⟩ := hw
    refine wc_i (X := CX g q lb) (va_runV (As := [.int (I n2)]) (rest := []) ⟨hx, hb, hml, hown, hts⟩ (L_X7_faultOfNewSymbol l g q lb hlb r_n2 hN hc H.size) (cwV 1 hts (TB_V tw_1155 tw_1157 ts_26 tw_7 co_X7_faultOfNewSymbol) rfl rfl rfl (by decide +kernel) ⟨Nat.le_of_ble_eq_true rfl, Nat.le_of_ble_eq_true rfl⟩) (preV (q0 := 6) (ci := 7) rfl xT_bl hP hK hNb hD rfl rfl xT_at) rfl rfl hl.1 rfl (lv_room (Nat.le_of_ble_eq_true rfl)) dX7_declareConstant_23 ⟨Nat.le_of_ble_eq_true rfl, Nat.le_of_ble_eq_true rfl⟩) hP hD hS hA (fun x4 H locs r_x4 hq hP hD hS => ?_)
    replace hw := hw x4 r_x4 hq
    refine lv_istore_n (lv' := [(3, .int (I x4)), (0, .ref (q 6)), (1, .int (I n1)), (2, .int (I n2))]) hx hb dX7_declareConstant_26 rfl hl (by decide) rfl (fun ls hl => ?_)
    refine lv_iload_n hx hb dX7_declareConstant_27 rfl (lv_at hl 0 rfl) ?_
    refine bi_if_ne (tgt := 46) hx hb r_x4 dX7_declareConstant_28 (by decide) (fun c6 => ?_) (fun c6 => ?_)
    ·
      replace hw := hw.1 c6
      refine lv_iload_n hx hb dX7_declareConstant_46 rfl (lv_at hl 0 rfl) ?_
      exact xri hx hb hr hlk hP hK hD hS ⟨_, _, r_x4, rfl, hN, hF, rfl, hw⟩ (Nat.le_of_ble_eq_true rfl) (Nat.le_of_ble_eq_true rfl) dX7_declareConstant_47
    ·
      replace hw := hw.2 c6
      refine lv_aload_n hx hb dX7_declareConstant_31 rfl (lv_at hl 1 rfl) ?_
      refine gfX7_library hx hb hts hK hP hown (hts _ tw_484) dX7_declareConstant_32 ?_
      refine lv_aload_n hx hb dX7_declareConstant_35 rfl (lv_at hl 1 rfl) ?_
      obtain ⟨c7, hw⟩ := hw
      refine gfX7_source hx hb hts hK hP hown (hts _ tw_489) c7 dX7_declareConstant_36 ?_
      refine lv_iload_n hx hb dX7_declareConstant_39 rfl (lv_at hl 2 rfl) ?_
      refine lv_iload_n hx hb dX7_declareConstant_40 rfl (lv_at hl 3 rfl) ?_
      refine lv_iconst (v := I 0) hx hb dX7_declareConstant_41 rfl ?_
      obtain ⟨Q8, hc, hw⟩ := hw
      refine wc_I (X := CX g q lb) (va_runV (As := [.ref (q 13), .int (I n1), .int (I n2), .int (I 0)]) (rest := []) ⟨hx, hb, hml, hown, hts⟩ (L_X3_addSymbol_q13 l g q lb hlb r_n1 r_n2 (by decide) hN hc H.size) (cwV 4 hts (TB_V tw_1159 tw_1160 tw_1161 tw_2 co_X3_addSymbol) rfl rfl rfl (by decide +kernel) ⟨Nat.le_of_ble_eq_true rfl, Nat.le_of_ble_eq_true rfl⟩) (preV (q0 := 1) (ci := 3) rfl xT_bl hP hK hNb hD rfl rfl xT_at) rfl rfl hl.1 rfl (lv_room (Nat.le_of_ble_eq_true rfl)) dX7_declareConstant_42 ⟨Nat.le_of_ble_eq_true rfl, Nat.le_of_ble_eq_true rfl⟩) hP hD hS hA (fun x9 τ10 H locs r_x9 hN hf hq hP hD hS => ?_)
      replace hw := hw x9 τ10 r_x9 hN hf hq
      have hF : f_r [3, 5, 36] [2, 3, 4, 5, 6, 7, 8, 9, 10] [] σ τ10 := f_t hF hf (by decide) (by decide) (by decide)
      have hB := hN
      refine lv_pop hx hb dX7_declareConstant_45 rfl ?_
      refine lv_iload_n hx hb dX7_declareConstant_46 rfl (lv_at hl 0 rfl) ?_
      exact xri hx hb hr hlk hP hK hD hS ⟨_, _, r_x4, rfl, hN, hF, rfl, hw⟩ (Nat.le_of_ble_eq_true rfl) (Nat.le_of_ble_eq_true rfl) dX7_declareConstant_47
  ·
    replace hw := hw.2 c2
    refine lv_bipush (v := I 7) hx hb dX7_declareConstant_18 (by decide) ?_
    exact xri hx hb hr hlk hP hK hD hS ⟨_, _, (by decide), rfl, hN, hF, rfl, hw⟩ (Nat.le_of_ble_eq_true rfl) (Nat.le_of_ble_eq_true rfl) dX7_declareConstant_20
def W_X9_isKnown (n1 : Int) (σ : S0) (Q : Int → Prop) : Prop :=
  (n1 = (-1) → Q 0) ∧ (¬ n1 = (-1) → (0 ≤ n1 ∧ n1 < 1000) ∧ (∀ (x3 : Int), rg x3 → x3 = σ.2.1 8 n1 → ((x3 = 0 → Q 1) ∧ (¬ x3 = 0 → ∀ (x5 : Int), rg x5 → x5 = σ.2.1 18 n1 → ((x5 = 0 → Q 0) ∧ (¬ x5 = 0 → Q 1))))))
set_option maxRecDepth 100000 in
set_option maxHeartbeats 4000000 in
theorem L_X9_isKnown (l : Launch) (g : gG) (q : Nat → Nat) (lb : Nat) (hlb : lb < 2 ^ 31) {n1 : Int} {σ : S0} {Q : Int → Prop} (r_n1 : rg n1) (hN : n_m σ) (hw : W_X9_isKnown n1 σ Q) (sz : Nat) : MetI l yX9_isKnown cX9_isKnown 2 (some .boolean) { frames := 0, cells := 0, slots := 0, locals := 0 } g [.ref (q 2), .int (I n1)] (CX g q lb σ) sz xT (p_i (CX g q lb) σ Q) 0 0 := by
  refine mkMet (Qc := fun A => QI g A (p_i (CX g q lb) σ Q)) (by decide) (Nat.le_of_ble_eq_true rfl) ?_
  intro p e s m below meth c A H ls hx hb hr hml hown hts hlk hnm hsz hP hK hNb hD hA hAe hS hX hl
  have hl : lv_has ls 2 [(0, .ref (q 2)), (1, .int (I n1))] := hl
  have hB := hN
  obtain ⟨locs, hlocs⟩ : ∃ z : List Loc, z = [] := ⟨_, rfl⟩
  rw [← hlocs] at hS ⊢
  refine lv_iload_n hx hb dX9_isKnown_0 rfl (lv_at hl 1 rfl) ?_
  refine lv_iconst (v := I (-1)) hx hb dX9_isKnown_1 rfl ?_
  refine bi_icmp_eq (tgt := 30) hx hb r_n1 (by decide) dX9_isKnown_2 (by decide) (fun c1 => ?_) (fun c1 => ?_)
  ·
    replace hw := hw.1 c1
    refine lv_iconst (v := I 0) hx hb dX9_isKnown_30 rfl ?_
    exact xrz hx hb hr (by decide) hlk hP hK hD hS ⟨_, (by decide), rfl, rfl, hw⟩ (Nat.le_of_ble_eq_true rfl) (Nat.le_of_ble_eq_true rfl) dX9_isKnown_31
  ·
    replace hw := hw.2 c1
    refine lv_aload_n hx hb dX9_isKnown_5 rfl (lv_at hl 0 rfl) ?_
    refine gfX9_library hx hb hts hK hP hown (hts _ tw_165) dX9_isKnown_6 ?_
    refine gfNX3_variable hx hb hts hK hP hown (nb_use hNb tn_50) dX9_isKnown_9 ?_
    refine lv_iload_n hx hb dX9_isKnown_12 rfl (lv_at hl 1 rfl) ?_
    obtain ⟨c2, hw⟩ := hw
    refine ldCX3_variable hx hb hK hP hN c2 dX9_isKnown_13 (fun x3 r_x3 e_x3 => ?_)
    replace hw := hw x3 r_x3 e_x3
    refine bi_if_eq (tgt := 26) hx hb r_x3 dX9_isKnown_14 (by decide) (fun c4 => ?_) (fun c4 => ?_)
    ·
      replace hw := hw.1 c4
      refine lv_iconst (v := I 1) hx hb dX9_isKnown_26 rfl ?_
      refine lv_goto (tgt := 31) hx hb dX9_isKnown_27 (by decide) ?_
      exact xrz hx hb hr (by decide) hlk hP hK hD hS ⟨_, (by decide), rfl, rfl, hw⟩ (Nat.le_of_ble_eq_true rfl) (Nat.le_of_ble_eq_true rfl) dX9_isKnown_31
    ·
      replace hw := hw.2 c4
      refine lv_aload_n hx hb dX9_isKnown_17 rfl (lv_at hl 0 rfl) ?_
      refine gfX9_active hx hb hts hK hP hown (hts _ tw_166) dX9_isKnown_18 ?_
      refine lv_iload_n hx hb dX9_isKnown_21 rfl (lv_at hl 1 rfl) ?_
      refine ldCX9_active hx hb hK hP hN c2 dX9_isKnown_22 (fun x5 r_x5 e_x5 => ?_)
      replace hw := hw x5 r_x5 e_x5
      refine bi_if_eq (tgt := 30) hx hb r_x5 dX9_isKnown_23 (by decide) (fun c6 => ?_) (fun c6 => ?_)
      ·
        replace hw := hw.1 c6
        refine lv_iconst (v := I 0) hx hb dX9_isKnown_30 rfl ?_
        exact xrz hx hb hr (by decide) hlk hP hK hD hS ⟨_, (by decide), rfl, rfl, hw⟩ (Nat.le_of_ble_eq_true rfl) (Nat.le_of_ble_eq_true rfl) dX9_isKnown_31
      ·
        replace hw := hw.2 c6
        refine lv_iconst (v := I 1) hx hb dX9_isKnown_26 rfl ?_
        refine lv_goto (tgt := 31) hx hb dX9_isKnown_27 (by decide) ?_
        exact xrz hx hb hr (by decide) hlk hP hK hD hS ⟨_, (by decide), rfl, rfl, hw⟩ (Nat.le_of_ble_eq_true rfl) (Nat.le_of_ble_eq_true rfl) dX9_isKnown_31
def W_X9_addVariable (n1 : Int) (σ : S0) (Q : S0 → Prop) : Prop :=
  (0 ≤ n1 ∧ n1 < 1000) ∧ ((0 ≤ σ.1 8 ∧ σ.1 8 < 1000) ∧ (rg (σ.1 8 + 1) ∧ Q (s_v (s_a (s_a σ 18 n1 1) 20 (σ.1 8) n1) 8 (σ.1 8 + 1))))
set_option maxRecDepth 100000 in
set_option maxHeartbeats 4000000 in
theorem L_X9_addVariable (l : Launch) (g : gG) (q : Nat → Nat) (lb : Nat) (hlb : lb < 2 ^ 31) {n1 : Int} {σ : S0} {Q : S0 → Prop} (r_n1 : rg n1) (hN : n_m σ) (hw : W_X9_addVariable n1 σ Q) (sz : Nat) : MetV l yX9_addVariable cX9_addVariable 2 { frames := 0, cells := 0, slots := 0, locals := 0 } g [.ref (q 2), .int (I n1)] (CX g q lb σ) sz xT (p_V (CX g q lb) [8] [18, 20] [] σ Q) 0 0 := by
  refine mkMet (Qc := fun A => QV g A (p_V (CX g q lb) [8] [18, 20] [] σ Q)) (by decide) (Nat.le_of_ble_eq_true rfl) ?_
  intro p e s m below meth c A H ls hx hb hr hml hown hts hlk hnm hsz hP hK hNb hD hA hAe hS hX hl
  have hl : lv_has ls 2 [(0, .ref (q 2)), (1, .int (I n1))] := hl
  have hB := hN
  have hF : f_r [8] [18, 20] [] σ σ := f_0
  obtain ⟨locs, hlocs⟩ : ∃ z : List Loc, z = [] := ⟨_, rfl⟩
  rw [← hlocs] at hS ⊢
  refine lv_aload_n hx hb dX9_addVariable_0 rfl (lv_at hl 0 rfl) ?_
  refine gfX9_active hx hb hts hK hP hown (hts _ tw_166) dX9_addVariable_1 ?_
  refine lv_iload_n hx hb dX9_addVariable_4 rfl (lv_at hl 1 rfl) ?_
  refine lv_iconst (v := I 1) hx hb dX9_addVariable_5 rfl ?_
  obtain ⟨c1, hw⟩ := hw
  refine sdCX9_active hx hb hK hP hD hS c1 (by decide) dX9_addVariable_6 (fun H locs hP hD hS => ?_)
  have hN : n_m (s_a σ 18 n1 1) := n_a (k := 18) (j := n1) hN ((by decide) : rg 1)
  have hF : f_r [8] [18, 20] [] σ (s_a σ 18 n1 1) := f_a hF (by decide)
  refine lv_aload_n hx hb dX9_addVariable_7 rfl (lv_at hl 0 rfl) ?_
  refine gfX9_variables hx hb hts hK hP hown (hts _ tw_169) dX9_addVariable_8 ?_
  refine lv_aload_n hx hb dX9_addVariable_11 rfl (lv_at hl 0 rfl) ?_
  refine gfX9_variableCount hx hb hts hK hP hown (hts _ tw_170) (x := σ.1 8) rfl dX9_addVariable_12 ?_
  refine lv_iload_n hx hb dX9_addVariable_15 rfl (lv_at hl 1 rfl) ?_
  obtain ⟨c2, hw⟩ := hw
  refine sdCX9_variables hx hb hK hP hD hS c2 dX9_addVariable_16 (fun H locs hP hD hS => ?_)
  have hN : n_m (s_a (s_a σ 18 n1 1) 20 (σ.1 8) n1) := n_a (k := 20) (j := σ.1 8) hN (r_n1 : rg n1)
  have hF : f_r [8] [18, 20] [] σ (s_a (s_a σ 18 n1 1) 20 (σ.1 8) n1) := f_a hF (by decide)
  refine lv_aload_n hx hb dX9_addVariable_17 rfl (lv_at hl 0 rfl) ?_
  refine lv_dup hx hb dX9_addVariable_18 rfl ?_
  refine gfX9_variableCount hx hb hts hK hP hown (hts _ tw_170) (x := σ.1 8) rfl dX9_addVariable_19 ?_
  refine lv_iconst (v := I 1) hx hb dX9_addVariable_22 rfl ?_
  refine bi_iadd hx hb dX9_addVariable_23 ?_
  obtain ⟨c3, hw⟩ := hw
  refine pfX9_variableCount hx hb hts hK hP hD hS hown (hts _ tw_170) dX9_addVariable_24 (fun H locs hP hD hS => ?_)
  have hN : n_m (s_v (s_a (s_a σ 18 n1 1) 20 (σ.1 8) n1) 8 (σ.1 8 + 1)) := n_v (i := 8) hN (c3 : rg (σ.1 8 + 1))
  have hF : f_r [8] [18, 20] [] σ (s_v (s_a (s_a σ 18 n1 1) 20 (σ.1 8) n1) 8 (σ.1 8 + 1)) := f_v hF (by decide)
  exact xrv hx hb hr hlk hP hK hD hS ⟨_, hN, hF, rfl, hw⟩ (Nat.le_of_ble_eq_true rfl) (Nat.le_of_ble_eq_true rfl) dX9_addVariable_27
def W_X7_declareVariable (n1 : Int) (n2 : Int) (σ : S0) (Q : Int → S0 → Prop) : Prop :=
  ∀ (P67 : Int → S0 → Prop),
  (∀ (u3 : Int) (τ : S0), (∃ (Q15 : S0 → Prop), W_X9_addVariable u3 τ Q15 ∧ ∀ (τ17 : S0), n_m τ17 → f_r [8] [18, 20] [] τ τ17 → Q15 τ17 → (Q 0 τ17)) → P67 u3 τ) →
  rg (σ.1 36 + 1) ∧ (¬ σ.1 38 = (-1) → ∃ (Q3 : Int → Prop), W_X9_isKnown (σ.1 38) (s_v σ 36 (σ.1 36 + 1)) Q3 ∧ ∀ (x4 : Int), rg x4 → Q3 x4 → ((x4 = 0 → P67 (σ.1 38) (s_v σ 36 (σ.1 36 + 1))) ∧ (¬ x4 = 0 → Q 7 (s_v σ 36 (σ.1 36 + 1))))) ∧ (σ.1 38 = (-1) → ∃ (Q7 : Int → Prop), W_X7_faultOfNewSymbol n2 (s_v σ 36 (σ.1 36 + 1)) Q7 ∧ ∀ (x8 : Int), rg x8 → Q7 x8 → ((x8 = 0 → (¬ σ.1 66 = 0) ∧ (∃ (Q12 : Int → S0 → Prop), W_X3_addSymbol_q13 n1 n2 1 (s_v σ 36 (σ.1 36 + 1)) Q12 ∧ ∀ (x13 : Int) (τ14 : S0), rg x13 → n_m τ14 → f_r [3, 5] [2, 3, 4, 5, 6, 7, 8, 9, 10] [] (s_v σ 36 (σ.1 36 + 1)) τ14 → Q12 x13 τ14 → (P67 x13 τ14))) ∧ (¬ x8 = 0 → Q x8 (s_v σ 36 (σ.1 36 + 1)))))
set_option maxRecDepth 100000 in
set_option maxHeartbeats 4000000 in
theorem L_X7_declareVariable (l : Launch) (g : gG) (q : Nat → Nat) (lb : Nat) (hlb : lb < 2 ^ 31) {n1 : Int} {n2 : Int} {σ : S0} {Q : Int → S0 → Prop} (r_n1 : rg n1) (r_n2 : rg n2) (hN : n_m σ) (hw : W_X7_declareVariable n1 n2 σ Q) (sz : Nat) : MetI l yX7_declareVariable cX7_declareVariable 5 (some .int) { frames := 3, cells := 0, slots := 0, locals := 74 } g [.ref (q 6), .int (I n1), .int (I n2)] (CX g q lb σ) sz xT (p_I (CX g q lb) [3, 5, 8, 36] [2, 3, 4, 5, 6, 7, 8, 9, 10, 18, 20] [] σ Q) 0 0 := by
  refine mkMet (Qc := fun A => QI g A (p_I (CX g q lb) [3, 5, 8, 36] [2, 3, 4, 5, 6, 7, 8, 9, 10, 18, 20] [] σ Q)) (by decide) (Nat.le_of_ble_eq_true rfl) ?_
  intro p e s m below meth c A H ls hx hb hr hml hown hts hlk hnm hsz hP hK hNb hD hA hAe hS hX hl
  have hl : lv_has ls 5 [(0, .ref (q 6)), (1, .int (I n1)), (2, .int (I n2))] := hl
  have hB := hN
  have hF : f_r [3, 5, 8, 36] [2, 3, 4, 5, 6, 7, 8, 9, 10, 18, 20] [] σ σ := f_0
  obtain ⟨locs, hlocs⟩ : ∃ z : List Loc, z = [] := ⟨_, rfl⟩
  rw [← hlocs] at hS ⊢
  obtain ⟨P67, hP67⟩ : ∃ P : Int → S0 → Prop, ∀ (u3 : Int) (τ : S0), (P u3 τ ↔ (rg u3 → n_m τ → f_r [3, 5, 8, 36] [2, 3, 4, 5, 6, 7, 8, 9, 10, 18, 20] [] σ τ → ∀ (H : Heap) (locs : List Loc) (ls : Array Slot), KP g (CX g q lb τ) H → va_D A (CX g q lb τ) → va_S A s.heap H locs → lv_has ls 5 [(0, .ref (q 6)), (3, .int (I u3))] → W p l e ({ frames := 3, cells := 0, slots := 0, locals := 74 }) s m [.ref (q 6), .int (I n1), .int (I n2)].toArray below meth c H locs 0 0 (MQ below (QI g A (p_I (CX g q lb) [3, 5, 8, 36] [2, 3, 4, 5, 6, 7, 8, 9, 10, 18, 20] [] σ Q)) [.ref (q 6), .int (I n1), .int (I n2)].toArray s 0 0 A) (F0 m 67 ls []))) := ⟨_, fun _ _ => Iff.rfl⟩
  refine (fun hw => ?_) (hw P67 ?_)
  ·
    refine lv_aload_n hx hb dX7_declareVariable_0 rfl (lv_at hl 0 rfl) ?_
    refine lv_dup hx hb dX7_declareVariable_1 rfl ?_
    refine gfX7_items hx hb hts hK hP hown (hts _ tw_494) (x := σ.1 36) rfl dX7_declareVariable_2 ?_
    refine lv_iconst (v := I 1) hx hb dX7_declareVariable_5 rfl ?_
    refine bi_iadd hx hb dX7_declareVariable_6 ?_
    obtain ⟨c1, hw⟩ := hw
    refine pfX7_items hx hb hts hK hP hD hS hown (hts _ tw_494) dX7_declareVariable_7 (fun H locs hP hD hS => ?_)
    have hN : n_m (s_v σ 36 (σ.1 36 + 1)) := n_v (i := 36) hN (c1 : rg (σ.1 36 + 1))
    have hF : f_r [3, 5, 8, 36] [2, 3, 4, 5, 6, 7, 8, 9, 10, 18, 20] [] σ (s_v σ 36 (σ.1 36 + 1)) := f_v hF (by decide)
    refine lv_aload_n hx hb dX7_declareVariable_10 rfl (lv_at hl 0 rfl) ?_
    refine gfX7_namedSymbol hx hb hts hK hP hown (hts _ tw_496) (x := σ.1 38) rfl dX7_declareVariable_11 ?_
    refine lv_istore_n (lv' := [(3, .int (I (σ.1 38))), (0, .ref (q 6)), (1, .int (I n1)), (2, .int (I n2))]) hx hb dX7_declareVariable_14 rfl hl (by decide) rfl (fun ls hl => ?_)
    refine lv_iload_n hx hb dX7_declareVariable_15 rfl (lv_at hl 0 rfl) ?_
    refine lv_iconst (v := I (-1)) hx hb dX7_declareVariable_16 rfl ?_
    refine bi_icmp_ne (tgt := 53) hx hb (hB.1 38) (by decide) dX7_declareVariable_17 (by decide) (fun c2 => ?_) (fun c2 => ?_)
    ·
      replace hw := hw.1 c2
      refine lv_aload_n hx hb dX7_declareVariable_53 rfl (lv_at hl 1 rfl) ?_
      refine gfX7_scopes hx hb hts hK hP hown (hts _ tw_486) dX7_declareVariable_54 ?_
      refine lv_iload_n hx hb dX7_declareVariable_57 rfl (lv_at hl 0 rfl) ?_
      obtain ⟨Q3, hc, hw⟩ := hw
      refine wc_i (X := CX g q lb) (va_runV (As := [.int (I (σ.1 38))]) (rest := []) ⟨hx, hb, hml, hown, hts⟩ (L_X9_isKnown l g q lb hlb (hB.1 38) hN hc H.size) (cwV 1 hts (TB_V tw_1167 tw_1168 tw_1169 tw_3 co_X9_isKnown) rfl rfl rfl (by decide +kernel) ⟨Nat.le_of_ble_eq_true rfl, Nat.le_of_ble_eq_true rfl⟩) (preV (q0 := 2) (ci := 9) rfl xT_bl hP hK hNb hD rfl rfl xT_at) rfl rfl hl.1 rfl (lv_room (Nat.le_of_ble_eq_true rfl)) dX7_declareVariable_58 ⟨Nat.le_of_ble_eq_true rfl, Nat.le_of_ble_eq_true rfl⟩) hP hD hS hA (fun x4 H locs r_x4 hq hP hD hS => ?_)
      replace hw := hw x4 r_x4 hq
      refine bi_if_eq (tgt := 67) hx hb r_x4 dX7_declareVariable_61 (by decide) (fun c6 => ?_) (fun c6 => ?_)
      ·
        replace hw := hw.1 c6
        exact (hP67 _ _).mp hw (hB.1 38) hN hF H locs ls hP hD hS (lv_sub hl [1, 0] rfl)
      ·
        replace hw := hw.2 c6
        refine lv_bipush (v := I 7) hx hb dX7_declareVariable_64 (by decide) ?_
        exact xri hx hb hr hlk hP hK hD hS ⟨_, _, (by decide), rfl, hN, hF, rfl, hw⟩ (Nat.le_of_ble_eq_true rfl) (Nat.le_of_ble_eq_true rfl) dX7_declareVariable_66
    ·
      replace hw := hw.2 c2
      refine lv_aload_n hx hb dX7_declareVariable_20 rfl (lv_at hl 1 rfl) ?_
      refine lv_iload_n hx hb dX7_declareVariable_21 rfl (lv_at hl 3 rfl) ?_
      obtain ⟨Q7, hc, hw⟩ := hw
      refine wc_i (X := CX g q lb) (va_runV (As := [.int (I n2)]) (rest := []) ⟨hx, hb, hml, hown, hts⟩ (L_X7_faultOfNewSymbol l g q lb hlb r_n2 hN hc H.size) (cwV 1 hts (TB_V tw_1155 tw_1157 ts_26 tw_7 co_X7_faultOfNewSymbol) rfl rfl rfl (by decide +kernel) ⟨Nat.le_of_ble_eq_true rfl, Nat.le_of_ble_eq_true rfl⟩) (preV (q0 := 6) (ci := 7) rfl xT_bl hP hK hNb hD rfl rfl xT_at) rfl rfl hl.1 rfl (lv_room (Nat.le_of_ble_eq_true rfl)) dX7_declareVariable_22 ⟨Nat.le_of_ble_eq_true rfl, Nat.le_of_ble_eq_true rfl⟩) hP hD hS hA (fun x8 H locs r_x8 hq hP hD hS => ?_)
      replace hw := hw x8 r_x8 hq
      refine lv_istore (lv' := [(4, .int (I x8)), (3, .int (I (σ.1 38))), (0, .ref (q 6)), (1, .int (I n1)), (2, .int (I n2))]) hx hb dX7_declareVariable_25 hl (by decide) rfl (fun ls hl => ?_)
      refine lv_iload hx hb dX7_declareVariable_27 (lv_at hl 0 rfl) ?_
      refine bi_if_eq (tgt := 35) hx hb r_x8 dX7_declareVariable_29 (by decide) (fun c10 => ?_) (fun c10 => ?_)
      ·
        replace hw := hw.1 c10
        refine lv_aload_n hx hb dX7_declareVariable_35 rfl (lv_at hl 2 rfl) ?_
        refine gfX7_library hx hb hts hK hP hown (hts _ tw_484) dX7_declareVariable_36 ?_
        refine lv_aload_n hx hb dX7_declareVariable_39 rfl (lv_at hl 2 rfl) ?_
        obtain ⟨c11, hw⟩ := hw
        refine gfX7_source hx hb hts hK hP hown (hts _ tw_489) c11 dX7_declareVariable_40 ?_
        refine lv_iload_n hx hb dX7_declareVariable_43 rfl (lv_at hl 3 rfl) ?_
        refine lv_iload_n hx hb dX7_declareVariable_44 rfl (lv_at hl 4 rfl) ?_
        refine lv_iconst (v := I 1) hx hb dX7_declareVariable_45 rfl ?_
        obtain ⟨Q12, hc, hw⟩ := hw
        refine wc_I (X := CX g q lb) (va_runV (As := [.ref (q 13), .int (I n1), .int (I n2), .int (I 1)]) (rest := []) ⟨hx, hb, hml, hown, hts⟩ (L_X3_addSymbol_q13 l g q lb hlb r_n1 r_n2 (by decide) hN hc H.size) (cwV 4 hts (TB_V tw_1159 tw_1160 tw_1161 tw_2 co_X3_addSymbol) rfl rfl rfl (by decide +kernel) ⟨Nat.le_of_ble_eq_true rfl, Nat.le_of_ble_eq_true rfl⟩) (preV (q0 := 1) (ci := 3) rfl xT_bl hP hK hNb hD rfl rfl xT_at) rfl rfl hl.1 rfl (lv_room (Nat.le_of_ble_eq_true rfl)) dX7_declareVariable_46 ⟨Nat.le_of_ble_eq_true rfl, Nat.le_of_ble_eq_true rfl⟩) hP hD hS hA (fun x13 τ14 H locs r_x13 hN hf hq hP hD hS => ?_)
        replace hw := hw x13 τ14 r_x13 hN hf hq
        have hF : f_r [3, 5, 8, 36] [2, 3, 4, 5, 6, 7, 8, 9, 10, 18, 20] [] σ τ14 := f_t hF hf (by decide) (by decide) (by decide)
        have hB := hN
        refine lv_istore_n (lv' := [(3, .int (I x13)), (4, .int (I x8)), (0, .ref (q 6)), (1, .int (I n1)), (2, .int (I n2))]) hx hb dX7_declareVariable_49 rfl hl (by decide) rfl (fun ls hl => ?_)
        refine lv_goto (tgt := 67) hx hb dX7_declareVariable_50 (by decide) ?_
        exact (hP67 _ _).mp hw r_x13 hN hF H locs ls hP hD hS (lv_sub hl [2, 0] rfl)
      ·
        replace hw := hw.2 c10
        refine lv_iload hx hb dX7_declareVariable_32 (lv_at hl 0 rfl) ?_
        exact xri hx hb hr hlk hP hK hD hS ⟨_, _, r_x8, rfl, hN, hF, rfl, hw⟩ (Nat.le_of_ble_eq_true rfl) (Nat.le_of_ble_eq_true rfl) dX7_declareVariable_34
  ·
    intro u3 τ hw
    refine (hP67 _ _).mpr ?_
    intro r_u3 hN hF H locs ls hP hD hS hl
    have hB := hN
    refine lv_aload_n hx hb dX7_declareVariable_67 rfl (lv_at hl 0 rfl) ?_
    refine gfX7_scopes hx hb hts hK hP hown (hts _ tw_486) dX7_declareVariable_68 ?_
    refine lv_iload_n hx hb dX7_declareVariable_71 rfl (lv_at hl 1 rfl) ?_
    obtain ⟨Q15, hc, hw⟩ := hw
    refine wc_V (X := CX g q lb) (va_runV (As := [.int (I u3)]) (rest := []) ⟨hx, hb, hml, hown, hts⟩ (L_X9_addVariable l g q lb hlb r_u3 hN hc H.size) (cwV 1 hts (TB_V tw_1171 tw_1172 tw_1173 tw_3 co_X9_addVariable) rfl rfl rfl (by decide +kernel) ⟨Nat.le_of_ble_eq_true rfl, Nat.le_of_ble_eq_true rfl⟩) (preV (q0 := 2) (ci := 9) rfl xT_bl hP hK hNb hD rfl rfl xT_at) rfl rfl hl.1 rfl (lv_room (Nat.le_of_ble_eq_true rfl)) dX7_declareVariable_72 ⟨Nat.le_of_ble_eq_true rfl, Nat.le_of_ble_eq_true rfl⟩) hP hD hS hA (fun τ17 H locs hN hf hq hP hD hS => ?_)
    replace hw := hw τ17 hN hf hq
    have hF : f_r [3, 5, 8, 36] [2, 3, 4, 5, 6, 7, 8, 9, 10, 18, 20] [] σ τ17 := f_t hF hf (by decide) (by decide) (by decide)
    have hB := hN
    refine lv_iconst (v := I 0) hx hb dX7_declareVariable_75 rfl ?_
    exact xri hx hb hr hlk hP hK hD hS ⟨_, _, (by decide), rfl, hN, hF, rfl, hw⟩ (Nat.le_of_ble_eq_true rfl) (Nat.le_of_ble_eq_true rfl) dX7_declareVariable_76
def W_X9_turnPair (n1 : Int) (n2 : Int) (σ : S0) (Q : S0 → Prop) : Prop :=
  (0 ≤ n2 ∧ n2 ≤ 2147483647) ∧ ((0 ≤ ((n1 * 16) + (n2 / 64)) ∧ ((n1 * 16) + (n2 / 64)) < 16000) ∧ (∀ (x3 : Int64), x3 = σ.2.2 0 ((n1 * 16) + (n2 / 64)) → ((0 ≤ n1 ∧ n1 ≤ 2147483647) ∧ ((0 ≤ ((n2 * 16) + (n1 / 64)) ∧ ((n2 * 16) + (n1 / 64)) < 16000) ∧ (∀ (x6 : Int64), x6 = (st (σ.2.2 0) ((n1 * 16) + (n2 / 64)) (x3 ^^^ (j_shl 1 (n2 % 64)))) ((n2 * 16) + (n1 / 64)) → (Q (s_b (s_b σ 0 ((n1 * 16) + (n2 / 64)) (x3 ^^^ (j_shl 1 (n2 % 64)))) 0 ((n2 * 16) + (n1 / 64)) (x6 ^^^ (j_shl 1 (n1 % 64))))))))))
set_option maxRecDepth 100000 in
set_option maxHeartbeats 4000000 in
theorem L_X9_turnPair (l : Launch) (g : gG) (q : Nat → Nat) (lb : Nat) (hlb : lb < 2 ^ 31) {n1 : Int} {n2 : Int} {σ : S0} {Q : S0 → Prop} (r_n1 : rg n1) (r_n2 : rg n2) (hN : n_m σ) (hw : W_X9_turnPair n1 n2 σ Q) (sz : Nat) : MetV l yX9_turnPair cX9_turnPair 3 { frames := 0, cells := 0, slots := 0, locals := 0 } g [.ref (q 2), .int (I n1), .int (I n2)] (CX g q lb σ) sz xT (p_V (CX g q lb) [] [] [0] σ Q) 0 0 := by
  refine mkMet (Qc := fun A => QV g A (p_V (CX g q lb) [] [] [0] σ Q)) (by decide) (Nat.le_of_ble_eq_true rfl) ?_
  intro p e s m below meth c A H ls hx hb hr hml hown hts hlk hnm hsz hP hK hNb hD hA hAe hS hX hl
  have hl : lv_has ls 3 [(0, .ref (q 2)), (1, .int (I n1)), (2, .int (I n2))] := hl
  have hB := hN
  have hF : f_r [] [] [0] σ σ := f_0
  obtain ⟨locs, hlocs⟩ : ∃ z : List Loc, z = [] := ⟨_, rfl⟩
  rw [← hlocs] at hS ⊢
  refine lv_aload_n hx hb dX9_turnPair_0 rfl (lv_at hl 0 rfl) ?_
  refine gfX9_apartBits hx hb hts hK hP hown (hts _ tw_184) dX9_turnPair_1 ?_
  refine lv_iload_n hx hb dX9_turnPair_4 rfl (lv_at hl 1 rfl) ?_
  refine lv_bipush (v := I 16) hx hb dX9_turnPair_5 (by decide) ?_
  refine bi_imul hx hb dX9_turnPair_7 ?_
  refine lv_iload_n hx hb dX9_turnPair_8 rfl (lv_at hl 2 rfl) ?_
  refine lv_bipush (v := I 6) hx hb dX9_turnPair_9 (by decide) ?_
  obtain ⟨c1, hw⟩ := hw
  refine bi_ishr hx hb c1.1 c1.2 6 64 (by decide) (by decide) dX9_turnPair_11 ?_
  refine bi_iadd hx hb dX9_turnPair_12 ?_
  refine lv_dup2_11 hx hb dX9_turnPair_13 rfl rfl ?_
  obtain ⟨c2, hw⟩ := hw
  refine ldCX9_apartBits hx hb hK hP hN c2 dX9_turnPair_14 (fun x3 e_x3 => ?_)
  replace hw := hw x3 e_x3
  refine lv_lconst (v := 1) hx hb dX9_turnPair_15 (by decide) ?_
  refine lv_iload_n hx hb dX9_turnPair_16 rfl (lv_at hl 2 rfl) ?_
  refine lv_bipush (v := I 63) hx hb dX9_turnPair_17 (by decide) ?_
  refine bi_iandm hx hb 63 6 64 (by decide) (by decide) (by omega) dX9_turnPair_19 ?_
  refine bi_lshl hx hb dX9_turnPair_20 ?_
  refine lv_lxor hx hb dX9_turnPair_21 ?_
  refine sdCX9_apartBits hx hb hK hP hD hS c2 dX9_turnPair_22 (fun H locs hP hD hS => ?_)
  have hN : n_m (s_b σ 0 ((n1 * 16) + (n2 / 64)) (x3 ^^^ (j_shl 1 (n2 % 64)))) := n_b (k := 0) (j := ((n1 * 16) + (n2 / 64))) (x := (x3 ^^^ (j_shl 1 (n2 % 64)))) hN
  have hF : f_r [] [] [0] σ (s_b σ 0 ((n1 * 16) + (n2 / 64)) (x3 ^^^ (j_shl 1 (n2 % 64)))) := f_b hF (by decide)
  refine lv_aload_n hx hb dX9_turnPair_23 rfl (lv_at hl 0 rfl) ?_
  refine gfX9_apartBits hx hb hts hK hP hown (hts _ tw_184) dX9_turnPair_24 ?_
  refine lv_iload_n hx hb dX9_turnPair_27 rfl (lv_at hl 2 rfl) ?_
  refine lv_bipush (v := I 16) hx hb dX9_turnPair_28 (by decide) ?_
  refine bi_imul hx hb dX9_turnPair_30 ?_
  refine lv_iload_n hx hb dX9_turnPair_31 rfl (lv_at hl 1 rfl) ?_
  refine lv_bipush (v := I 6) hx hb dX9_turnPair_32 (by decide) ?_
  obtain ⟨c4, hw⟩ := hw
  refine bi_ishr hx hb c4.1 c4.2 6 64 (by decide) (by decide) dX9_turnPair_34 ?_
  refine bi_iadd hx hb dX9_turnPair_35 ?_
  refine lv_dup2_11 hx hb dX9_turnPair_36 rfl rfl ?_
  obtain ⟨c5, hw⟩ := hw
  refine ldCX9_apartBits hx hb hK hP hN c5 dX9_turnPair_37 (fun x6 e_x6 => ?_)
  replace hw := hw x6 e_x6
  refine lv_lconst (v := 1) hx hb dX9_turnPair_38 (by decide) ?_
  refine lv_iload_n hx hb dX9_turnPair_39 rfl (lv_at hl 1 rfl) ?_
  refine lv_bipush (v := I 63) hx hb dX9_turnPair_40 (by decide) ?_
  refine bi_iandm hx hb 63 6 64 (by decide) (by decide) (by omega) dX9_turnPair_42 ?_
  refine bi_lshl hx hb dX9_turnPair_43 ?_
  refine lv_lxor hx hb dX9_turnPair_44 ?_
  refine sdCX9_apartBits hx hb hK hP hD hS c5 dX9_turnPair_45 (fun H locs hP hD hS => ?_)
  have hN : n_m (s_b (s_b σ 0 ((n1 * 16) + (n2 / 64)) (x3 ^^^ (j_shl 1 (n2 % 64)))) 0 ((n2 * 16) + (n1 / 64)) (x6 ^^^ (j_shl 1 (n1 % 64)))) := n_b (k := 0) (j := ((n2 * 16) + (n1 / 64))) (x := (x6 ^^^ (j_shl 1 (n1 % 64)))) hN
  have hF : f_r [] [] [0] σ (s_b (s_b σ 0 ((n1 * 16) + (n2 / 64)) (x3 ^^^ (j_shl 1 (n2 % 64)))) 0 ((n2 * 16) + (n1 / 64)) (x6 ^^^ (j_shl 1 (n1 % 64)))) := f_b hF (by decide)
  exact xrv hx hb hr hlk hP hK hD hS ⟨_, hN, hF, rfl, hw⟩ (Nat.le_of_ble_eq_true rfl) (Nat.le_of_ble_eq_true rfl) dX9_turnPair_46
def W_X9_addPair (n1 : Int) (n2 : Int) (σ : S0) (Q : S0 → Prop) : Prop :=
  (0 ≤ σ.1 10 ∧ σ.1 10 < 1000) ∧ (rg (σ.1 10 + 1) ∧ ∃ (Q3 : S0 → Prop), W_X9_turnPair n1 n2 (s_v (s_a (s_a σ 23 (σ.1 10) n1) 24 (σ.1 10) n2) 10 (σ.1 10 + 1)) Q3 ∧ ∀ (τ5 : S0), n_m τ5 → f_r [] [] [0] (s_v (s_a (s_a σ 23 (σ.1 10) n1) 24 (σ.1 10) n2) 10 (σ.1 10 + 1)) τ5 → Q3 τ5 → (Q τ5))
set_option maxRecDepth 100000 in
set_option maxHeartbeats 4000000 in
theorem L_X9_addPair (l : Launch) (g : gG) (q : Nat → Nat) (lb : Nat) (hlb : lb < 2 ^ 31) {n1 : Int} {n2 : Int} {σ : S0} {Q : S0 → Prop} (r_n1 : rg n1) (r_n2 : rg n2) (hN : n_m σ) (hw : W_X9_addPair n1 n2 σ Q) (sz : Nat) : MetV l yX9_addPair cX9_addPair 3 { frames := 1, cells := 0, slots := 0, locals := 22 } g [.ref (q 2), .int (I n1), .int (I n2)] (CX g q lb σ) sz xT (p_V (CX g q lb) [10] [23, 24] [0] σ Q) 0 0 := by
  refine mkMet (Qc := fun A => QV g A (p_V (CX g q lb) [10] [23, 24] [0] σ Q)) (by decide) (Nat.le_of_ble_eq_true rfl) ?_
  intro p e s m below meth c A H ls hx hb hr hml hown hts hlk hnm hsz hP hK hNb hD hA hAe hS hX hl
  have hl : lv_has ls 3 [(0, .ref (q 2)), (1, .int (I n1)), (2, .int (I n2))] := hl
  have hB := hN
  have hF : f_r [10] [23, 24] [0] σ σ := f_0
  obtain ⟨locs, hlocs⟩ : ∃ z : List Loc, z = [] := ⟨_, rfl⟩
  rw [← hlocs] at hS ⊢
  refine lv_aload_n hx hb dX9_addPair_0 rfl (lv_at hl 0 rfl) ?_
  refine gfX9_pairX hx hb hts hK hP hown (hts _ tw_177) dX9_addPair_1 ?_
  refine lv_aload_n hx hb dX9_addPair_4 rfl (lv_at hl 0 rfl) ?_
  refine gfX9_pairCount hx hb hts hK hP hown (hts _ tw_182) (x := σ.1 10) rfl dX9_addPair_5 ?_
  refine lv_iload_n hx hb dX9_addPair_8 rfl (lv_at hl 1 rfl) ?_
  obtain ⟨c1, hw⟩ := hw
  refine sdCX9_pairX hx hb hK hP hD hS c1 dX9_addPair_9 (fun H locs hP hD hS => ?_)
  have hN : n_m (s_a σ 23 (σ.1 10) n1) := n_a (k := 23) (j := σ.1 10) hN (r_n1 : rg n1)
  have hF : f_r [10] [23, 24] [0] σ (s_a σ 23 (σ.1 10) n1) := f_a hF (by decide)
  refine lv_aload_n hx hb dX9_addPair_10 rfl (lv_at hl 0 rfl) ?_
  refine gfX9_pairY hx hb hts hK hP hown (hts _ tw_179) dX9_addPair_11 ?_
  refine lv_aload_n hx hb dX9_addPair_14 rfl (lv_at hl 0 rfl) ?_
  refine gfX9_pairCount hx hb hts hK hP hown (hts _ tw_182) (x := σ.1 10) rfl dX9_addPair_15 ?_
  refine lv_iload_n hx hb dX9_addPair_18 rfl (lv_at hl 2 rfl) ?_
  refine sdCX9_pairY hx hb hK hP hD hS c1 dX9_addPair_19 (fun H locs hP hD hS => ?_)
  have hN : n_m (s_a (s_a σ 23 (σ.1 10) n1) 24 (σ.1 10) n2) := n_a (k := 24) (j := σ.1 10) hN (r_n2 : rg n2)
  have hF : f_r [10] [23, 24] [0] σ (s_a (s_a σ 23 (σ.1 10) n1) 24 (σ.1 10) n2) := f_a hF (by decide)
  refine lv_aload_n hx hb dX9_addPair_20 rfl (lv_at hl 0 rfl) ?_
  refine lv_dup hx hb dX9_addPair_21 rfl ?_
  refine gfX9_pairCount hx hb hts hK hP hown (hts _ tw_182) (x := σ.1 10) rfl dX9_addPair_22 ?_
  refine lv_iconst (v := I 1) hx hb dX9_addPair_25 rfl ?_
  refine bi_iadd hx hb dX9_addPair_26 ?_
  obtain ⟨c2, hw⟩ := hw
  refine pfX9_pairCount hx hb hts hK hP hD hS hown (hts _ tw_182) dX9_addPair_27 (fun H locs hP hD hS => ?_)
  have hN : n_m (s_v (s_a (s_a σ 23 (σ.1 10) n1) 24 (σ.1 10) n2) 10 (σ.1 10 + 1)) := n_v (i := 10) hN (c2 : rg (σ.1 10 + 1))
  have hF : f_r [10] [23, 24] [0] σ (s_v (s_a (s_a σ 23 (σ.1 10) n1) 24 (σ.1 10) n2) 10 (σ.1 10 + 1)) := f_v hF (by decide)
  refine lv_aload_n hx hb dX9_addPair_30 rfl (lv_at hl 0 rfl) ?_
  refine lv_iload_n hx hb dX9_addPair_31 rfl (lv_at hl 1 rfl) ?_
  refine lv_iload_n hx hb dX9_addPair_32 rfl (lv_at hl 2 rfl) ?_
  obtain ⟨Q3, hc, hw⟩ := hw
  refine wc_V (X := CX g q lb) (va_runV (As := [.int (I n1), .int (I n2)]) (rest := []) ⟨hx, hb, hml, hown, hts⟩ (L_X9_turnPair l g q lb hlb r_n1 r_n2 hN hc H.size) (cwV 2 hts (TB_V tw_1095 tw_1097 ts_19 tw_3 co_X9_turnPair) rfl rfl rfl (by decide +kernel) ⟨Nat.le_of_ble_eq_true rfl, Nat.le_of_ble_eq_true rfl⟩) (preV (q0 := 2) (ci := 9) rfl xT_bl hP hK hNb hD rfl rfl xT_at) rfl rfl hl.1 rfl (lv_room (Nat.le_of_ble_eq_true rfl)) dX9_addPair_33 ⟨Nat.le_of_ble_eq_true rfl, Nat.le_of_ble_eq_true rfl⟩) hP hD hS hA (fun τ5 H locs hN hf hq hP hD hS => ?_)
  replace hw := hw τ5 hN hf hq
  have hF : f_r [10] [23, 24] [0] σ τ5 := f_t hF hf (by decide) (by decide) (by decide)
  have hB := hN
  exact xrv hx hb hr hlk hP hK hD hS ⟨_, hN, hF, rfl, hw⟩ (Nat.le_of_ble_eq_true rfl) (Nat.le_of_ble_eq_true rfl) dX9_addPair_36
def W_X7_takeApart (n1 : Int) (σ : S0) (Q : Int → S0 → Prop) : Prop :=
  ∀ (P31 : Int → Int → S0 → Prop) (P60 : Int → Int → S0 → Prop),
  (∀ (u1 : Int) (u2 : Int) (τ : S0), ((τ.1 36 ≤ u2 → P60 u1 0 τ) ∧ (u2 < τ.1 36 → (0 ≤ u2 ∧ u2 < 1000) ∧ (∀ (x10 : Int), rg x10 → x10 = τ.2.1 54 u2 → ((¬ x10 = u1 → rg (u2 + 1) ∧ P31 u1 (u2 + 1) τ) ∧ (x10 = u1 → Q 7 τ))))) → P31 u1 u2 τ) →
  (∀ (u1 : Int) (u2 : Int) (τ : S0), ((τ.1 36 ≤ u2 → (0 ≤ τ.1 36 ∧ τ.1 36 < 1000) ∧ (rg (τ.1 36 + 1) ∧ Q 0 (s_v (s_a τ 54 (τ.1 36) u1) 36 (τ.1 36 + 1)))) ∧ (u2 < τ.1 36 → (0 ≤ u2 ∧ u2 < 1000) ∧ (∀ (x17 : Int), rg x17 → x17 = τ.2.1 54 u2 → (∃ (Q18 : Int → Prop), W_X9_areApart x17 u1 τ Q18 ∧ ∀ (x19 : Int), rg x19 → Q18 x19 → ((x19 = 0 → (¬ τ.1 10 = 1000 → ∀ (x23 : Int), rg x23 → x23 = τ.2.1 54 u2 → (∃ (Q24 : S0 → Prop), W_X9_addPair x23 u1 τ Q24 ∧ ∀ (τ26 : S0), n_m τ26 → f_r [10] [23, 24] [0] τ τ26 → Q24 τ26 → (rg (u2 + 1) ∧ P60 u1 (u2 + 1) τ26))) ∧ (τ.1 10 = 1000 → Q 5 τ)) ∧ (¬ x19 = 0 → rg (u2 + 1) ∧ P60 u1 (u2 + 1) τ)))))) → P60 u1 u2 τ) →
  ∃ (Q1 : Int → Prop), W_X9_isKnown n1 σ Q1 ∧ ∀ (x2 : Int), rg x2 → Q1 x2 → ((¬ x2 = 0 → (0 ≤ n1 ∧ n1 < 1000) ∧ (∀ (x6 : Int), rg x6 → x6 = σ.2.1 8 n1 → ((¬ x6 = 0 → P31 n1 0 σ) ∧ (x6 = 0 → Q 10 σ)))) ∧ (x2 = 0 → Q 9 σ))
set_option maxRecDepth 100000 in
set_option maxHeartbeats 4000000 in
theorem L_X7_takeApart (l : Launch) (g : gG) (q : Nat → Nat) (lb : Nat) (hlb : lb < 2 ^ 31) {n1 : Int} {σ : S0} {Q : Int → S0 → Prop} (r_n1 : rg n1) (hN : n_m σ) (hw : W_X7_takeApart n1 σ Q) (sz : Nat) : MetI l yX7_takeApart cX7_takeApart 3 (some .int) { frames := 2, cells := 0, slots := 0, locals := 44 } g [.ref (q 6), .int (I n1)] (CX g q lb σ) sz xT (p_I (CX g q lb) [10, 36] [23, 24, 54] [0] σ Q) 0 0 := by
  refine mkMet (Qc := fun A => QI g A (p_I (CX g q lb) [10, 36] [23, 24, 54] [0] σ Q)) (by decide) (Nat.le_of_ble_eq_true rfl) ?_
  intro p e s m below meth c A H ls hx hb hr hml hown hts hlk hnm hsz hP hK hNb hD hA hAe hS hX hl
  have hl : lv_has ls 3 [(0, .ref (q 6)), (1, .int (I n1))] := hl
  have hB := hN
  have hF : f_r [10, 36] [23, 24, 54] [0] σ σ := f_0
  obtain ⟨locs, hlocs⟩ : ∃ z : List Loc, z = [] := ⟨_, rfl⟩
  rw [← hlocs] at hS ⊢
  obtain ⟨P31, hP31⟩ : ∃ P : Int → Int → S0 → Prop, ∀ (u1 : Int) (u2 : Int) (τ : S0), (P u1 u2 τ ↔ (rg u1 → rg u2 → n_m τ → f_r [10, 36] [23, 24, 54] [0] σ τ → ∀ (H : Heap) (locs : List Loc) (ls : Array Slot), KP g (CX g q lb τ) H → va_D A (CX g q lb τ) → va_S A s.heap H locs → lv_has ls 3 [(0, .ref (q 6)), (1, .int (I u1)), (2, .int (I u2))] → W p l e ({ frames := 2, cells := 0, slots := 0, locals := 44 }) s m [.ref (q 6), .int (I n1)].toArray below meth c H locs 0 0 (MQ below (QI g A (p_I (CX g q lb) [10, 36] [23, 24, 54] [0] σ Q)) [.ref (q 6), .int (I n1)].toArray s 0 0 A) (F0 m 31 ls []))) := ⟨_, fun _ _ _ => Iff.rfl⟩
  obtain ⟨P60, hP60⟩ : ∃ P : Int → Int → S0 → Prop, ∀ (u1 : Int) (u2 : Int) (τ : S0), (P u1 u2 τ ↔ (rg u1 → rg u2 → n_m τ → f_r [10, 36] [23, 24, 54] [0] σ τ → ∀ (H : Heap) (locs : List Loc) (ls : Array Slot), KP g (CX g q lb τ) H → va_D A (CX g q lb τ) → va_S A s.heap H locs → lv_has ls 3 [(0, .ref (q 6)), (1, .int (I u1)), (2, .int (I u2))] → W p l e ({ frames := 2, cells := 0, slots := 0, locals := 44 }) s m [.ref (q 6), .int (I n1)].toArray below meth c H locs 0 0 (MQ below (QI g A (p_I (CX g q lb) [10, 36] [23, 24, 54] [0] σ Q)) [.ref (q 6), .int (I n1)].toArray s 0 0 A) (F0 m 60 ls []))) := ⟨_, fun _ _ _ => Iff.rfl⟩
  refine (fun hw => ?_) (hw P31 P60 ?_ ?_)
  ·
    refine lv_aload_n hx hb dX7_takeApart_0 rfl (lv_at hl 0 rfl) ?_
    refine gfX7_scopes hx hb hts hK hP hown (hts _ tw_486) dX7_takeApart_1 ?_
    refine lv_iload_n hx hb dX7_takeApart_4 rfl (lv_at hl 1 rfl) ?_
    obtain ⟨Q1, hc, hw⟩ := hw
    refine wc_i (X := CX g q lb) (va_runV (As := [.int (I n1)]) (rest := []) ⟨hx, hb, hml, hown, hts⟩ (L_X9_isKnown l g q lb hlb r_n1 hN hc H.size) (cwV 1 hts (TB_V tw_1167 tw_1168 tw_1169 tw_3 co_X9_isKnown) rfl rfl rfl (by decide +kernel) ⟨Nat.le_of_ble_eq_true rfl, Nat.le_of_ble_eq_true rfl⟩) (preV (q0 := 2) (ci := 9) rfl xT_bl hP hK hNb hD rfl rfl xT_at) rfl rfl hl.1 rfl (lv_room (Nat.le_of_ble_eq_true rfl)) dX7_takeApart_5 ⟨Nat.le_of_ble_eq_true rfl, Nat.le_of_ble_eq_true rfl⟩) hP hD hS hA (fun x2 H locs r_x2 hq hP hD hS => ?_)
    replace hw := hw x2 r_x2 hq
    refine bi_if_ne (tgt := 14) hx hb r_x2 dX7_takeApart_8 (by decide) (fun c4 => ?_) (fun c4 => ?_)
    ·
      replace hw := hw.1 c4
      refine lv_aload_n hx hb dX7_takeApart_14 rfl (lv_at hl 0 rfl) ?_
      refine gfX7_library hx hb hts hK hP hown (hts _ tw_484) dX7_takeApart_15 ?_
      refine gfNX3_variable hx hb hts hK hP hown (nb_use hNb tn_51) dX7_takeApart_18 ?_
      refine lv_iload_n hx hb dX7_takeApart_21 rfl (lv_at hl 1 rfl) ?_
      obtain ⟨c5, hw⟩ := hw
      refine ldCX3_variable hx hb hK hP hN c5 dX7_takeApart_22 (fun x6 r_x6 e_x6 => ?_)
      replace hw := hw x6 r_x6 e_x6
      refine bi_if_ne (tgt := 29) hx hb r_x6 dX7_takeApart_23 (by decide) (fun c7 => ?_) (fun c7 => ?_)
      ·
        replace hw := hw.1 c7
        refine lv_iconst (v := I 0) hx hb dX7_takeApart_29 rfl ?_
        refine lv_istore_n (lv' := [(2, .int (I 0)), (0, .ref (q 6)), (1, .int (I n1))]) hx hb dX7_takeApart_30 rfl hl (by decide) rfl (fun ls hl => ?_)
        exact (hP31 _ _ _).mp hw r_n1 (by decide) hN hF H locs ls hP hD hS (lv_sub hl [1, 2, 0] rfl)
      ·
        replace hw := hw.2 c7
        refine lv_bipush (v := I 10) hx hb dX7_takeApart_26 (by decide) ?_
        exact xri hx hb hr hlk hP hK hD hS ⟨_, _, (by decide), rfl, hN, hF, rfl, hw⟩ (Nat.le_of_ble_eq_true rfl) (Nat.le_of_ble_eq_true rfl) dX7_takeApart_28
    ·
      replace hw := hw.2 c4
      refine lv_bipush (v := I 9) hx hb dX7_takeApart_11 (by decide) ?_
      exact xri hx hb hr hlk hP hK hD hS ⟨_, _, (by decide), rfl, hN, hF, rfl, hw⟩ (Nat.le_of_ble_eq_true rfl) (Nat.le_of_ble_eq_true rfl) dX7_takeApart_13
  ·
    intro u1 u2 τ hw
    refine (hP31 _ _ _).mpr ?_
    intro r_u1 r_u2 hN hF H locs ls hP hD hS hl
    have hB := hN
    refine lv_iload_n hx hb dX7_takeApart_31 rfl (lv_at hl 2 rfl) ?_
    refine lv_aload_n hx hb dX7_takeApart_32 rfl (lv_at hl 0 rfl) ?_
    refine gfX7_items hx hb hts hK hP hown (hts _ tw_494) (x := τ.1 36) rfl dX7_takeApart_33 ?_
    refine bi_icmp_ge (tgt := 58) hx hb r_u2 (hB.1 36) dX7_takeApart_36 (by decide) (fun c8 => ?_) (fun c8 => ?_)
    ·
      replace hw := hw.1 c8
      refine lv_iconst (v := I 0) hx hb dX7_takeApart_58 rfl ?_
      refine lv_istore_n (lv' := [(2, .int (I 0)), (0, .ref (q 6)), (1, .int (I u1))]) hx hb dX7_takeApart_59 rfl hl (by decide) rfl (fun ls hl => ?_)
      exact (hP60 _ _ _).mp hw r_u1 (by decide) hN hF H locs ls hP hD hS (lv_sub hl [1, 2, 0] rfl)
    ·
      replace hw := hw.2 c8
      refine lv_aload_n hx hb dX7_takeApart_39 rfl (lv_at hl 0 rfl) ?_
      refine gfX7_disjoint hx hb hts hK hP hown (hts _ tw_488) dX7_takeApart_40 ?_
      refine lv_iload_n hx hb dX7_takeApart_43 rfl (lv_at hl 2 rfl) ?_
      obtain ⟨c9, hw⟩ := hw
      refine ldCX7_disjoint hx hb hK hP hN c9 dX7_takeApart_44 (fun x10 r_x10 e_x10 => ?_)
      replace hw := hw x10 r_x10 e_x10
      refine lv_iload_n hx hb dX7_takeApart_45 rfl (lv_at hl 1 rfl) ?_
      refine bi_icmp_ne (tgt := 52) hx hb r_x10 r_u1 dX7_takeApart_46 (by decide) (fun c11 => ?_) (fun c11 => ?_)
      ·
        replace hw := hw.1 c11
        refine lv_iinc (v := I (u2 + 1)) (lv' := [(2, .int (I (u2 + 1))), (0, .ref (q 6)), (1, .int (I u1))]) hx hb dX7_takeApart_52 hl (k := 2) rfl (I_add _ _) (by decide) rfl (fun ls hl => ?_)
        refine lv_goto (tgt := 31) hx hb dX7_takeApart_55 (by decide) ?_
        obtain ⟨c12, hw⟩ := hw
        exact (hP31 _ _ _).mp hw r_u1 c12 hN hF H locs ls hP hD hS (lv_sub hl [1, 2, 0] rfl)
      ·
        replace hw := hw.2 c11
        refine lv_bipush (v := I 7) hx hb dX7_takeApart_49 (by decide) ?_
        exact xri hx hb hr hlk hP hK hD hS ⟨_, _, (by decide), rfl, hN, hF, rfl, hw⟩ (Nat.le_of_ble_eq_true rfl) (Nat.le_of_ble_eq_true rfl) dX7_takeApart_51
  ·
    intro u1 u2 τ hw
    refine (hP60 _ _ _).mpr ?_
    intro r_u1 r_u2 hN hF H locs ls hP hD hS hl
    have hB := hN
    refine lv_iload_n hx hb dX7_takeApart_60 rfl (lv_at hl 2 rfl) ?_
    refine lv_aload_n hx hb dX7_takeApart_61 rfl (lv_at hl 0 rfl) ?_
    refine gfX7_items hx hb hts hK hP hown (hts _ tw_494) (x := τ.1 36) rfl dX7_takeApart_62 ?_
    refine bi_icmp_ge (tgt := 123) hx hb r_u2 (hB.1 36) dX7_takeApart_65 (by decide) (fun c13 => ?_) (fun c13 => ?_)
    ·
      replace hw := hw.1 c13
      refine lv_aload_n hx hb dX7_takeApart_123 rfl (lv_at hl 0 rfl) ?_
      refine gfX7_disjoint hx hb hts hK hP hown (hts _ tw_488) dX7_takeApart_124 ?_
      refine lv_aload_n hx hb dX7_takeApart_127 rfl (lv_at hl 0 rfl) ?_
      refine gfX7_items hx hb hts hK hP hown (hts _ tw_494) (x := τ.1 36) rfl dX7_takeApart_128 ?_
      refine lv_iload_n hx hb dX7_takeApart_131 rfl (lv_at hl 1 rfl) ?_
      obtain ⟨c14, hw⟩ := hw
      refine sdCX7_disjoint hx hb hK hP hD hS c14 dX7_takeApart_132 (fun H locs hP hD hS => ?_)
      have hN : n_m (s_a τ 54 (τ.1 36) u1) := n_a (k := 54) (j := τ.1 36) hN (r_u1 : rg u1)
      have hF : f_r [10, 36] [23, 24, 54] [0] σ (s_a τ 54 (τ.1 36) u1) := f_a hF (by decide)
      refine lv_aload_n hx hb dX7_takeApart_133 rfl (lv_at hl 0 rfl) ?_
      refine lv_dup hx hb dX7_takeApart_134 rfl ?_
      refine gfX7_items hx hb hts hK hP hown (hts _ tw_494) (x := τ.1 36) rfl dX7_takeApart_135 ?_
      refine lv_iconst (v := I 1) hx hb dX7_takeApart_138 rfl ?_
      refine bi_iadd hx hb dX7_takeApart_139 ?_
      obtain ⟨c15, hw⟩ := hw
      refine pfX7_items hx hb hts hK hP hD hS hown (hts _ tw_494) dX7_takeApart_140 (fun H locs hP hD hS => ?_)
      have hN : n_m (s_v (s_a τ 54 (τ.1 36) u1) 36 (τ.1 36 + 1)) := n_v (i := 36) hN (c15 : rg (τ.1 36 + 1))
      have hF : f_r [10, 36] [23, 24, 54] [0] σ (s_v (s_a τ 54 (τ.1 36) u1) 36 (τ.1 36 + 1)) := f_v hF (by decide)
      refine lv_iconst (v := I 0) hx hb dX7_takeApart_143 rfl ?_
      exact xri hx hb hr hlk hP hK hD hS ⟨_, _, (by decide), rfl, hN, hF, rfl, hw⟩ (Nat.le_of_ble_eq_true rfl) (Nat.le_of_ble_eq_true rfl) dX7_takeApart_144
    ·
      replace hw := hw.2 c13
      refine lv_aload_n hx hb dX7_takeApart_68 rfl (lv_at hl 0 rfl) ?_
      refine gfX7_scopes hx hb hts hK hP hown (hts _ tw_486) dX7_takeApart_69 ?_
      refine lv_aload_n hx hb dX7_takeApart_72 rfl (lv_at hl 0 rfl) ?_
      refine gfX7_disjoint hx hb hts hK hP hown (hts _ tw_488) dX7_takeApart_73 ?_
      refine lv_iload_n hx hb dX7_takeApart_76 rfl (lv_at hl 2 rfl) ?_
      obtain ⟨c16, hw⟩ := hw
      refine ldCX7_disjoint hx hb hK hP hN c16 dX7_takeApart_77 (fun x17 r_x17 e_x17 => ?_)
      replace hw := hw x17 r_x17 e_x17
      refine lv_iload_n hx hb dX7_takeApart_78 rfl (lv_at hl 1 rfl) ?_
      obtain ⟨Q18, hc, hw⟩ := hw
      refine wc_i (X := CX g q lb) (va_runV (As := [.int (I x17), .int (I u1)]) (rest := []) ⟨hx, hb, hml, hown, hts⟩ (L_X9_areApart l g q lb hlb r_x17 r_u1 hN hc H.size) (cwV 2 hts (TB_V tw_1179 tw_1180 tw_1181 tw_3 co_X9_areApart) rfl rfl rfl (by decide +kernel) ⟨Nat.le_of_ble_eq_true rfl, Nat.le_of_ble_eq_true rfl⟩) (preV (q0 := 2) (ci := 9) rfl xT_bl hP hK hNb hD rfl rfl xT_at) rfl rfl hl.1 rfl (lv_room (Nat.le_of_ble_eq_true rfl)) dX7_takeApart_79 ⟨Nat.le_of_ble_eq_true rfl, Nat.le_of_ble_eq_true rfl⟩) hP hD hS hA (fun x19 H locs r_x19 hq hP hD hS => ?_)
      replace hw := hw x19 r_x19 hq
      refine bi_if_eq (tgt := 88) hx hb r_x19 dX7_takeApart_82 (by decide) (fun c21 => ?_) (fun c21 => ?_)
      ·
        replace hw := hw.1 c21
        refine lv_aload_n hx hb dX7_takeApart_88 rfl (lv_at hl 0 rfl) ?_
        refine gfX7_scopes hx hb hts hK hP hown (hts _ tw_486) dX7_takeApart_89 ?_
        refine gfNX9_pairCount hx hb hts hK hP hown (nb_use hNb tn_183) (x := τ.1 10) rfl dX7_takeApart_92 ?_
        refine lv_sipush (v := I 1000) hx hb dX7_takeApart_95 (by decide) ?_
        refine bi_icmp_ne (tgt := 103) hx hb (hB.1 10) (by decide) dX7_takeApart_98 (by decide) (fun c22 => ?_) (fun c22 => ?_)
        ·
          replace hw := hw.1 c22
          refine lv_aload_n hx hb dX7_takeApart_103 rfl (lv_at hl 0 rfl) ?_
          refine gfX7_scopes hx hb hts hK hP hown (hts _ tw_486) dX7_takeApart_104 ?_
          refine lv_aload_n hx hb dX7_takeApart_107 rfl (lv_at hl 0 rfl) ?_
          refine gfX7_disjoint hx hb hts hK hP hown (hts _ tw_488) dX7_takeApart_108 ?_
          refine lv_iload_n hx hb dX7_takeApart_111 rfl (lv_at hl 2 rfl) ?_
          refine ldCX7_disjoint hx hb hK hP hN c16 dX7_takeApart_112 (fun x23 r_x23 e_x23 => ?_)
          replace hw := hw x23 r_x23 e_x23
          refine lv_iload_n hx hb dX7_takeApart_113 rfl (lv_at hl 1 rfl) ?_
          obtain ⟨Q24, hc, hw⟩ := hw
          refine wc_V (X := CX g q lb) (va_runV (As := [.int (I x23), .int (I u1)]) (rest := []) ⟨hx, hb, hml, hown, hts⟩ (L_X9_addPair l g q lb hlb r_x23 r_u1 hN hc H.size) (cwV 2 hts (TB_V tw_1183 tw_1184 tw_1185 tw_3 co_X9_addPair) rfl rfl rfl (by decide +kernel) ⟨Nat.le_of_ble_eq_true rfl, Nat.le_of_ble_eq_true rfl⟩) (preV (q0 := 2) (ci := 9) rfl xT_bl hP hK hNb hD rfl rfl xT_at) rfl rfl hl.1 rfl (lv_room (Nat.le_of_ble_eq_true rfl)) dX7_takeApart_114 ⟨Nat.le_of_ble_eq_true rfl, Nat.le_of_ble_eq_true rfl⟩) hP hD hS hA (fun τ26 H locs hN hf hq hP hD hS => ?_)
          replace hw := hw τ26 hN hf hq
          have hF : f_r [10, 36] [23, 24, 54] [0] σ τ26 := f_t hF hf (by decide) (by decide) (by decide)
          have hB := hN
          refine lv_iinc (v := I (u2 + 1)) (lv' := [(2, .int (I (u2 + 1))), (0, .ref (q 6)), (1, .int (I u1))]) hx hb dX7_takeApart_117 hl (k := 2) rfl (I_add _ _) (by decide) rfl (fun ls hl => ?_)
          refine lv_goto (tgt := 60) hx hb dX7_takeApart_120 (by decide) ?_
          obtain ⟨c27, hw⟩ := hw
          exact (hP60 _ _ _).mp hw r_u1 c27 hN hF H locs ls hP hD hS (lv_sub hl [1, 2, 0] rfl)
        ·
          replace hw := hw.2 c22
          refine lv_iconst (v := I 5) hx hb dX7_takeApart_101 rfl ?_
          exact xri hx hb hr hlk hP hK hD hS ⟨_, _, (by decide), rfl, hN, hF, rfl, hw⟩ (Nat.le_of_ble_eq_true rfl) (Nat.le_of_ble_eq_true rfl) dX7_takeApart_102
      ·
        replace hw := hw.2 c21
        refine lv_goto (tgt := 117) hx hb dX7_takeApart_85 (by decide) ?_
        refine lv_iinc (v := I (u2 + 1)) (lv' := [(2, .int (I (u2 + 1))), (0, .ref (q 6)), (1, .int (I u1))]) hx hb dX7_takeApart_117 hl (k := 2) rfl (I_add _ _) (by decide) rfl (fun ls hl => ?_)
        refine lv_goto (tgt := 60) hx hb dX7_takeApart_120 (by decide) ?_
        obtain ⟨c28, hw⟩ := hw
        exact (hP60 _ _ _).mp hw r_u1 c28 hN hF H locs ls hP hD hS (lv_sub hl [1, 2, 0] rfl)
def W_X7_floatingVariable (n1 : Int) (σ : S0) (Q : Int → S0 → Prop) : Prop :=
  ∀ (P21 : Int → S0 → Prop) (P95 : Int → Int → S0 → Prop),
  (∀ (u1 : Int) (τ : S0), (∃ (Q5 : Int → Prop), W_X9_isKnown u1 τ Q5 ∧ ∀ (x6 : Int), rg x6 → Q5 x6 → ((¬ x6 = 0 → (0 ≤ u1 ∧ u1 < 1000) ∧ (∀ (x10 : Int), rg x10 → x10 = τ.2.1 8 u1 → ((¬ x10 = 0 → ∀ (x12 : Int), rg x12 → x12 = τ.2.1 9 u1 → ((x12 = (-1) → P95 u1 (τ.1 7) τ) ∧ (¬ x12 = (-1) → ∃ (Q14 : Int → Prop), W_X3_typeOf x12 τ Q14 ∧ ∀ (x15 : Int), rg x15 → Q14 x15 → (∃ (Q17 : Int → Prop), W_X3_typeOf (τ.1 7) τ Q17 ∧ ∀ (x18 : Int), rg x18 → Q17 x18 → ((x15 = x18 → P95 u1 (τ.1 7) τ) ∧ (¬ x15 = x18 → Q 12 τ)))))) ∧ (x10 = 0 → Q 10 τ)))) ∧ (x6 = 0 → Q 9 τ))) → P21 u1 τ) →
  (∀ (u1 : Int) (u2 : Int) (τ : S0), (∃ (Q21 : S0 → Prop), W_X3_append u1 u2 τ Q21 ∧ ∀ (τ23 : S0), n_m τ23 → f_r [6] [14, 15, 16] [] τ τ23 → Q21 τ23 → (Q 0 τ23)) → P95 u1 u2 τ) →
  (n1 = (-1) → P21 n1 σ) ∧ (¬ n1 = (-1) → (0 ≤ n1 ∧ n1 < 1000) ∧ (∀ (x3 : Int), rg x3 → x3 = σ.2.1 19 n1 → ((x3 = (-1) → P21 n1 σ) ∧ (¬ x3 = (-1) → Q 7 σ))))
set_option maxRecDepth 100000 in
set_option maxHeartbeats 4000000 in
theorem L_X7_floatingVariable (l : Launch) (g : gG) (q : Nat → Nat) (lb : Nat) (hlb : lb < 2 ^ 31) {n1 : Int} {σ : S0} {Q : Int → S0 → Prop} (r_n1 : rg n1) (hN : n_m σ) (hw : W_X7_floatingVariable n1 σ Q) (sz : Nat) : MetI l yX7_floatingVariable cX7_floatingVariable 4 (some .int) { frames := 1, cells := 0, slots := 0, locals := 22 } g [.ref (q 6), .int (I n1)] (CX g q lb σ) sz xT (p_I (CX g q lb) [6] [14, 15, 16] [] σ Q) 0 0 := by
  refine mkMet (Qc := fun A => QI g A (p_I (CX g q lb) [6] [14, 15, 16] [] σ Q)) (by decide) (Nat.le_of_ble_eq_true rfl) ?_
  intro p e s m below meth c A H ls hx hb hr hml hown hts hlk hnm hsz hP hK hNb hD hA hAe hS hX hl
  have hl : lv_has ls 4 [(0, .ref (q 6)), (1, .int (I n1))] := hl
  have hB := hN
  have hF : f_r [6] [14, 15, 16] [] σ σ := f_0
  obtain ⟨locs, hlocs⟩ : ∃ z : List Loc, z = [] := ⟨_, rfl⟩
  rw [← hlocs] at hS ⊢
  obtain ⟨P21, hP21⟩ : ∃ P : Int → S0 → Prop, ∀ (u1 : Int) (τ : S0), (P u1 τ ↔ (rg u1 → n_m τ → f_r [6] [14, 15, 16] [] σ τ → ∀ (H : Heap) (locs : List Loc) (ls : Array Slot), KP g (CX g q lb τ) H → va_D A (CX g q lb τ) → va_S A s.heap H locs → lv_has ls 4 [(0, .ref (q 6)), (1, .int (I u1))] → W p l e ({ frames := 1, cells := 0, slots := 0, locals := 22 }) s m [.ref (q 6), .int (I n1)].toArray below meth c H locs 0 0 (MQ below (QI g A (p_I (CX g q lb) [6] [14, 15, 16] [] σ Q)) [.ref (q 6), .int (I n1)].toArray s 0 0 A) (F0 m 21 ls []))) := ⟨_, fun _ _ => Iff.rfl⟩
  obtain ⟨P95, hP95⟩ : ∃ P : Int → Int → S0 → Prop, ∀ (u1 : Int) (u2 : Int) (τ : S0), (P u1 u2 τ ↔ (rg u1 → rg u2 → n_m τ → f_r [6] [14, 15, 16] [] σ τ → ∀ (H : Heap) (locs : List Loc) (ls : Array Slot), KP g (CX g q lb τ) H → va_D A (CX g q lb τ) → va_S A s.heap H locs → lv_has ls 4 [(0, .ref (q 6)), (1, .int (I u1)), (2, .int (I u2))] → W p l e ({ frames := 1, cells := 0, slots := 0, locals := 22 }) s m [.ref (q 6), .int (I n1)].toArray below meth c H locs 0 0 (MQ below (QI g A (p_I (CX g q lb) [6] [14, 15, 16] [] σ Q)) [.ref (q 6), .int (I n1)].toArray s 0 0 A) (F0 m 95 ls []))) := ⟨_, fun _ _ _ => Iff.rfl⟩
  refine (fun hw => ?_) (hw P21 P95 ?_ ?_)
  ·
    refine lv_iload_n hx hb dX7_floatingVariable_0 rfl (lv_at hl 1 rfl) ?_
    refine lv_iconst (v := I (-1)) hx hb dX7_floatingVariable_1 rfl ?_
    refine bi_icmp_eq (tgt := 21) hx hb r_n1 (by decide) dX7_floatingVariable_2 (by decide) (fun c1 => ?_) (fun c1 => ?_)
    ·
      replace hw := hw.1 c1
      exact (hP21 _ _).mp hw r_n1 hN hF H locs ls hP hD hS (lv_sub hl [0, 1] rfl)
    ·
      replace hw := hw.2 c1
      refine lv_aload_n hx hb dX7_floatingVariable_5 rfl (lv_at hl 0 rfl) ?_
      refine gfX7_scopes hx hb hts hK hP hown (hts _ tw_486) dX7_floatingVariable_6 ?_
      refine gfNX9_activeFloat hx hb hts hK hP hown (nb_use hNb tn_168) dX7_floatingVariable_9 ?_
      refine lv_iload_n hx hb dX7_floatingVariable_12 rfl (lv_at hl 1 rfl) ?_
      obtain ⟨c2, hw⟩ := hw
      refine ldCX9_activeFloat hx hb hK hP hN c2 dX7_floatingVariable_13 (fun x3 r_x3 e_x3 => ?_)
      replace hw := hw x3 r_x3 e_x3
      refine lv_iconst (v := I (-1)) hx hb dX7_floatingVariable_14 rfl ?_
      refine bi_icmp_eq (tgt := 21) hx hb r_x3 (by decide) dX7_floatingVariable_15 (by decide) (fun c4 => ?_) (fun c4 => ?_)
      ·
        replace hw := hw.1 c4
        exact (hP21 _ _).mp hw r_n1 hN hF H locs ls hP hD hS (lv_sub hl [0, 1] rfl)
      ·
        replace hw := hw.2 c4
        refine lv_bipush (v := I 7) hx hb dX7_floatingVariable_18 (by decide) ?_
        exact xri hx hb hr hlk hP hK hD hS ⟨_, _, (by decide), rfl, hN, hF, rfl, hw⟩ (Nat.le_of_ble_eq_true rfl) (Nat.le_of_ble_eq_true rfl) dX7_floatingVariable_20
  ·
    intro u1 τ hw
    refine (hP21 _ _).mpr ?_
    intro r_u1 hN hF H locs ls hP hD hS hl
    have hB := hN
    refine lv_aload_n hx hb dX7_floatingVariable_21 rfl (lv_at hl 0 rfl) ?_
    refine gfX7_scopes hx hb hts hK hP hown (hts _ tw_486) dX7_floatingVariable_22 ?_
    refine lv_iload_n hx hb dX7_floatingVariable_25 rfl (lv_at hl 1 rfl) ?_
    obtain ⟨Q5, hc, hw⟩ := hw
    refine wc_i (X := CX g q lb) (va_runV (As := [.int (I u1)]) (rest := []) ⟨hx, hb, hml, hown, hts⟩ (L_X9_isKnown l g q lb hlb r_u1 hN hc H.size) (cwV 1 hts (TB_V tw_1167 tw_1168 tw_1169 tw_3 co_X9_isKnown) rfl rfl rfl (by decide +kernel) ⟨Nat.le_of_ble_eq_true rfl, Nat.le_of_ble_eq_true rfl⟩) (preV (q0 := 2) (ci := 9) rfl xT_bl hP hK hNb hD rfl rfl xT_at) rfl rfl hl.1 rfl (lv_room (Nat.le_of_ble_eq_true rfl)) dX7_floatingVariable_26 ⟨Nat.le_of_ble_eq_true rfl, Nat.le_of_ble_eq_true rfl⟩) hP hD hS hA (fun x6 H locs r_x6 hq hP hD hS => ?_)
    replace hw := hw x6 r_x6 hq
    refine bi_if_ne (tgt := 35) hx hb r_x6 dX7_floatingVariable_29 (by decide) (fun c8 => ?_) (fun c8 => ?_)
    ·
      replace hw := hw.1 c8
      refine lv_aload_n hx hb dX7_floatingVariable_35 rfl (lv_at hl 0 rfl) ?_
      refine gfX7_library hx hb hts hK hP hown (hts _ tw_484) dX7_floatingVariable_36 ?_
      refine gfNX3_variable hx hb hts hK hP hown (nb_use hNb tn_51) dX7_floatingVariable_39 ?_
      refine lv_iload_n hx hb dX7_floatingVariable_42 rfl (lv_at hl 1 rfl) ?_
      obtain ⟨c9, hw⟩ := hw
      refine ldCX3_variable hx hb hK hP hN c9 dX7_floatingVariable_43 (fun x10 r_x10 e_x10 => ?_)
      replace hw := hw x10 r_x10 e_x10
      refine bi_if_ne (tgt := 50) hx hb r_x10 dX7_floatingVariable_44 (by decide) (fun c11 => ?_) (fun c11 => ?_)
      ·
        replace hw := hw.1 c11
        refine lv_aload_n hx hb dX7_floatingVariable_50 rfl (lv_at hl 0 rfl) ?_
        refine gfX7_library hx hb hts hK hP hown (hts _ tw_484) dX7_floatingVariable_51 ?_
        refine gfNX3_statements hx hb hts hK hP hown (nb_use hNb tn_107) (x := τ.1 7) rfl dX7_floatingVariable_54 ?_
        refine lv_istore_n (lv' := [(2, .int (I (τ.1 7))), (0, .ref (q 6)), (1, .int (I u1))]) hx hb dX7_floatingVariable_57 rfl hl (by decide) rfl (fun ls hl => ?_)
        refine lv_aload_n hx hb dX7_floatingVariable_58 rfl (lv_at hl 1 rfl) ?_
        refine gfX7_library hx hb hts hK hP hown (hts _ tw_484) dX7_floatingVariable_59 ?_
        refine gfNX3_firstFloat hx hb hts hK hP hown (nb_use hNb tn_54) dX7_floatingVariable_62 ?_
        refine lv_iload_n hx hb dX7_floatingVariable_65 rfl (lv_at hl 2 rfl) ?_
        refine ldCX3_firstFloat hx hb hK hP hN c9 dX7_floatingVariable_66 (fun x12 r_x12 e_x12 => ?_)
        replace hw := hw x12 r_x12 e_x12
        refine lv_istore_n (lv' := [(3, .int (I x12)), (2, .int (I (τ.1 7))), (0, .ref (q 6)), (1, .int (I u1))]) hx hb dX7_floatingVariable_67 rfl hl (by decide) rfl (fun ls hl => ?_)
        refine lv_iload_n hx hb dX7_floatingVariable_68 rfl (lv_at hl 0 rfl) ?_
        refine lv_iconst (v := I (-1)) hx hb dX7_floatingVariable_69 rfl ?_
        refine bi_icmp_eq (tgt := 95) hx hb r_x12 (by decide) dX7_floatingVariable_70 (by decide) (fun c13 => ?_) (fun c13 => ?_)
        ·
          replace hw := hw.1 c13
          exact (hP95 _ _ _).mp hw r_u1 (hB.1 7) hN hF H locs ls hP hD hS (lv_sub hl [2, 3, 1] rfl)
        ·
          replace hw := hw.2 c13
          refine lv_aload_n hx hb dX7_floatingVariable_73 rfl (lv_at hl 2 rfl) ?_
          refine gfX7_library hx hb hts hK hP hown (hts _ tw_484) dX7_floatingVariable_74 ?_
          refine lv_iload_n hx hb dX7_floatingVariable_77 rfl (lv_at hl 0 rfl) ?_
          obtain ⟨Q14, hc, hw⟩ := hw
          refine wc_i (X := CX g q lb) (va_runV (As := [.int (I x12)]) (rest := []) ⟨hx, hb, hml, hown, hts⟩ (L_X3_typeOf l g q lb hlb r_x12 hN hc H.size) (cwV 1 hts (TB_V tw_1207 tw_1208 tw_1209 tw_2 co_X3_typeOf) rfl rfl rfl (by decide +kernel) ⟨Nat.le_of_ble_eq_true rfl, Nat.le_of_ble_eq_true rfl⟩) (preV (q0 := 1) (ci := 3) rfl xT_bl hP hK hNb hD rfl rfl xT_at) rfl rfl hl.1 rfl (lv_room (Nat.le_of_ble_eq_true rfl)) dX7_floatingVariable_78 ⟨Nat.le_of_ble_eq_true rfl, Nat.le_of_ble_eq_true rfl⟩) hP hD hS hA (fun x15 H locs r_x15 hq hP hD hS => ?_)
          replace hw := hw x15 r_x15 hq
          refine lv_aload_n hx hb dX7_floatingVariable_81 rfl (lv_at hl 2 rfl) ?_
          refine gfX7_library hx hb hts hK hP hown (hts _ tw_484) dX7_floatingVariable_82 ?_
          refine lv_iload_n hx hb dX7_floatingVariable_85 rfl (lv_at hl 1 rfl) ?_
          obtain ⟨Q17, hc, hw⟩ := hw
          refine wc_i (X := CX g q lb) (va_runV (As := [.int (I (τ.1 7))]) (rest := [.int (I x15)]) ⟨hx, hb, hml, hown, hts⟩ (L_X3_typeOf l g q lb hlb (hB.1 7) hN hc H.size) (cwV 1 hts (TB_V tw_1207 tw_1208 tw_1209 tw_2 co_X3_typeOf) rfl rfl rfl (by decide +kernel) ⟨Nat.le_of_ble_eq_true rfl, Nat.le_of_ble_eq_true rfl⟩) (preV (q0 := 1) (ci := 3) rfl xT_bl hP hK hNb hD rfl rfl xT_at) rfl rfl hl.1 rfl (lv_room (Nat.le_of_ble_eq_true rfl)) dX7_floatingVariable_86 ⟨Nat.le_of_ble_eq_true rfl, Nat.le_of_ble_eq_true rfl⟩) hP hD hS hA (fun x18 H locs r_x18 hq hP hD hS => ?_)
          replace hw := hw x18 r_x18 hq
          refine bi_icmp_eq (tgt := 95) hx hb r_x15 r_x18 dX7_floatingVariable_89 (by decide) (fun c20 => ?_) (fun c20 => ?_)
          ·
            replace hw := hw.1 c20
            exact (hP95 _ _ _).mp hw r_u1 (hB.1 7) hN hF H locs ls hP hD hS (lv_sub hl [2, 3, 1] rfl)
          ·
            replace hw := hw.2 c20
            refine lv_bipush (v := I 12) hx hb dX7_floatingVariable_92 (by decide) ?_
            exact xri hx hb hr hlk hP hK hD hS ⟨_, _, (by decide), rfl, hN, hF, rfl, hw⟩ (Nat.le_of_ble_eq_true rfl) (Nat.le_of_ble_eq_true rfl) dX7_floatingVariable_94
      ·
        replace hw := hw.2 c11
        refine lv_bipush (v := I 10) hx hb dX7_floatingVariable_47 (by decide) ?_
        exact xri hx hb hr hlk hP hK hD hS ⟨_, _, (by decide), rfl, hN, hF, rfl, hw⟩ (Nat.le_of_ble_eq_true rfl) (Nat.le_of_ble_eq_true rfl) dX7_floatingVariable_49
    ·
      replace hw := hw.2 c8
      refine lv_bipush (v := I 9) hx hb dX7_floatingVariable_32 (by decide) ?_
      exact xri hx hb hr hlk hP hK hD hS ⟨_, _, (by decide), rfl, hN, hF, rfl, hw⟩ (Nat.le_of_ble_eq_true rfl) (Nat.le_of_ble_eq_true rfl) dX7_floatingVariable_34
  ·
    intro u1 u2 τ hw
    refine (hP95 _ _ _).mpr ?_
    intro r_u1 r_u2 hN hF H locs ls hP hD hS hl
    have hB := hN
    refine lv_aload_n hx hb dX7_floatingVariable_95 rfl (lv_at hl 0 rfl) ?_
    refine gfX7_library hx hb hts hK hP hown (hts _ tw_484) dX7_floatingVariable_96 ?_
    refine lv_iload_n hx hb dX7_floatingVariable_99 rfl (lv_at hl 1 rfl) ?_
    refine lv_iload_n hx hb dX7_floatingVariable_100 rfl (lv_at hl 2 rfl) ?_
    obtain ⟨Q21, hc, hw⟩ := hw
    refine wc_V (X := CX g q lb) (va_runV (As := [.int (I u1), .int (I u2)]) (rest := []) ⟨hx, hb, hml, hown, hts⟩ (L_X3_append l g q lb hlb r_u1 r_u2 hN hc H.size) (cwV 2 hts (TB_V tw_1199 tw_1200 tw_1201 tw_2 co_X3_append) rfl rfl rfl (by decide +kernel) ⟨Nat.le_of_ble_eq_true rfl, Nat.le_of_ble_eq_true rfl⟩) (preV (q0 := 1) (ci := 3) rfl xT_bl hP hK hNb hD rfl rfl xT_at) rfl rfl hl.1 rfl (lv_room (Nat.le_of_ble_eq_true rfl)) dX7_floatingVariable_101 ⟨Nat.le_of_ble_eq_true rfl, Nat.le_of_ble_eq_true rfl⟩) hP hD hS hA (fun τ23 H locs hN hf hq hP hD hS => ?_)
    replace hw := hw τ23 hN hf hq
    have hF : f_r [6] [14, 15, 16] [] σ τ23 := f_t hF hf (by decide) (by decide) (by decide)
    have hB := hN
    refine lv_iconst (v := I 0) hx hb dX7_floatingVariable_104 rfl ?_
    exact xri hx hb hr hlk hP hK hD hS ⟨_, _, (by decide), rfl, hN, hF, rfl, hw⟩ (Nat.le_of_ble_eq_true rfl) (Nat.le_of_ble_eq_true rfl) dX7_floatingVariable_105
def W_X7_firstSymbol (n1 : Int) (σ : S0) (Q : Int → S0 → Prop) : Prop :=
  ∀ (P22 : Int → Int → S0 → Prop) (P54 : Int → Int → S0 → Prop),
  (∀ (u1 : Int) (k0 : Int) (τ : S0), ((k0 = 0 → P54 u1 k0 τ) ∧ (¬ k0 = 0 → (0 ≤ u1 ∧ u1 < 1000) ∧ (∀ (x7 : Int), rg x7 → x7 = τ.2.1 10 u1 → ((¬ x7 = (-1) → P54 u1 k0 τ) ∧ (x7 = (-1) → (¬ τ.1 4 = 100 → P54 u1 k0 τ) ∧ (τ.1 4 = 100 → Q 5 τ)))))) → P22 u1 k0 τ) →
  (∀ (u1 : Int) (u2 : Int) (τ : S0), ((¬ u2 = 0 → ∃ (Q11 : S0 → Prop), W_X3_giveRank u1 τ Q11 ∧ ∀ (τ13 : S0), n_m τ13 → f_r [4] [10, 11] [] τ τ13 → Q11 τ13 → (∃ (Q14 : S0 → Prop), W_X3_append u1 (-1) τ13 Q14 ∧ ∀ (τ16 : S0), n_m τ16 → f_r [6] [14, 15, 16] [] τ13 τ16 → Q14 τ16 → (Q 0 τ16))) ∧ (u2 = 0 → ∃ (Q17 : Int → Prop), W_X9_isKnown u1 τ Q17 ∧ ∀ (x18 : Int), rg x18 → Q17 x18 → ((x18 = 0 → Q 9 τ) ∧ (¬ x18 = 0 → Q 10 τ)))) → P54 u1 u2 τ) →
  (n1 = (-1) → P22 n1 0 σ) ∧ (¬ n1 = (-1) → (0 ≤ n1 ∧ n1 < 1000) ∧ (∀ (x3 : Int), rg x3 → x3 = σ.2.1 8 n1 → ((¬ x3 = 0 → P22 n1 0 σ) ∧ (x3 = 0 → P22 n1 1 σ))))
set_option maxRecDepth 100000 in
set_option maxHeartbeats 4000000 in
theorem L_X7_firstSymbol (l : Launch) (g : gG) (q : Nat → Nat) (lb : Nat) (hlb : lb < 2 ^ 31) {n1 : Int} {σ : S0} {Q : Int → S0 → Prop} (r_n1 : rg n1) (hN : n_m σ) (hw : W_X7_firstSymbol n1 σ Q) (sz : Nat) : MetI l yX7_firstSymbol cX7_firstSymbol 3 (some .int) { frames := 1, cells := 0, slots := 0, locals := 22 } g [.ref (q 6), .int (I n1)] (CX g q lb σ) sz xT (p_I (CX g q lb) [4, 6] [10, 11, 14, 15, 16] [] σ Q) 0 0 := by
  refine mkMet (Qc := fun A => QI g A (p_I (CX g q lb) [4, 6] [10, 11, 14, 15, 16] [] σ Q)) (by decide) (Nat.le_of_ble_eq_true rfl) ?_
  intro p e s m below meth c A H ls hx hb hr hml hown hts hlk hnm hsz hP hK hNb hD hA hAe hS hX hl
  have hl : lv_has ls 3 [(0, .ref (q 6)), (1, .int (I n1))] := hl
  have hB := hN
  have hF : f_r [4, 6] [10, 11, 14, 15, 16] [] σ σ := f_0
  obtain ⟨locs, hlocs⟩ : ∃ z : List Loc, z = [] := ⟨_, rfl⟩
  rw [← hlocs] at hS ⊢
  obtain ⟨P22, hP22⟩ : ∃ P : Int → Int → S0 → Prop, ∀ (u1 : Int) (k0 : Int) (τ : S0), (P u1 k0 τ ↔ (rg u1 → rg k0 → n_m τ → f_r [4, 6] [10, 11, 14, 15, 16] [] σ τ → ∀ (H : Heap) (locs : List Loc) (ls : Array Slot), KP g (CX g q lb τ) H → va_D A (CX g q lb τ) → va_S A s.heap H locs → lv_has ls 3 [(0, .ref (q 6)), (1, .int (I u1))] → W p l e ({ frames := 1, cells := 0, slots := 0, locals := 22 }) s m [.ref (q 6), .int (I n1)].toArray below meth c H locs 0 0 (MQ below (QI g A (p_I (CX g q lb) [4, 6] [10, 11, 14, 15, 16] [] σ Q)) [.ref (q 6), .int (I n1)].toArray s 0 0 A) (F0 m 22 ls [.int (I k0)]))) := ⟨_, fun _ _ _ => Iff.rfl⟩
  obtain ⟨P54, hP54⟩ : ∃ P : Int → Int → S0 → Prop, ∀ (u1 : Int) (u2 : Int) (τ : S0), (P u1 u2 τ ↔ (rg u1 → rg u2 → n_m τ → f_r [4, 6] [10, 11, 14, 15, 16] [] σ τ → ∀ (H : Heap) (locs : List Loc) (ls : Array Slot), KP g (CX g q lb τ) H → va_D A (CX g q lb τ) → va_S A s.heap H locs → lv_has ls 3 [(0, .ref (q 6)), (1, .int (I u1)), (2, .int (I u2))] → W p l e ({ frames := 1, cells := 0, slots := 0, locals := 22 }) s m [.ref (q 6), .int (I n1)].toArray below meth c H locs 0 0 (MQ below (QI g A (p_I (CX g q lb) [4, 6] [10, 11, 14, 15, 16] [] σ Q)) [.ref (q 6), .int (I n1)].toArray s 0 0 A) (F0 m 54 ls []))) := ⟨_, fun _ _ _ => Iff.rfl⟩
  refine (fun hw => ?_) (hw P22 P54 ?_ ?_)
  ·
    refine lv_iload_n hx hb dX7_firstSymbol_0 rfl (lv_at hl 1 rfl) ?_
    refine lv_iconst (v := I (-1)) hx hb dX7_firstSymbol_1 rfl ?_
    refine bi_icmp_eq (tgt := 21) hx hb r_n1 (by decide) dX7_firstSymbol_2 (by decide) (fun c1 => ?_) (fun c1 => ?_)
    ·
      replace hw := hw.1 c1
      refine lv_iconst (v := I 0) hx hb dX7_firstSymbol_21 rfl ?_
      exact (hP22 _ _ _).mp hw r_n1 (by decide) hN hF H locs ls hP hD hS (lv_sub hl [0, 1] rfl)
    ·
      replace hw := hw.2 c1
      refine lv_aload_n hx hb dX7_firstSymbol_5 rfl (lv_at hl 0 rfl) ?_
      refine gfX7_library hx hb hts hK hP hown (hts _ tw_484) dX7_firstSymbol_6 ?_
      refine gfNX3_variable hx hb hts hK hP hown (nb_use hNb tn_51) dX7_firstSymbol_9 ?_
      refine lv_iload_n hx hb dX7_firstSymbol_12 rfl (lv_at hl 1 rfl) ?_
      obtain ⟨c2, hw⟩ := hw
      refine ldCX3_variable hx hb hK hP hN c2 dX7_firstSymbol_13 (fun x3 r_x3 e_x3 => ?_)
      replace hw := hw x3 r_x3 e_x3
      refine bi_if_ne (tgt := 21) hx hb r_x3 dX7_firstSymbol_14 (by decide) (fun c4 => ?_) (fun c4 => ?_)
      ·
        replace hw := hw.1 c4
        refine lv_iconst (v := I 0) hx hb dX7_firstSymbol_21 rfl ?_
        exact (hP22 _ _ _).mp hw r_n1 (by decide) hN hF H locs ls hP hD hS (lv_sub hl [0, 1] rfl)
      ·
        replace hw := hw.2 c4
        refine lv_iconst (v := I 1) hx hb dX7_firstSymbol_17 rfl ?_
        refine lv_goto (tgt := 22) hx hb dX7_firstSymbol_18 (by decide) ?_
        exact (hP22 _ _ _).mp hw r_n1 (by decide) hN hF H locs ls hP hD hS (lv_sub hl [0, 1] rfl)
  ·
    intro u1 k0 τ hw
    refine (hP22 _ _ _).mpr ?_
    intro r_u1 r_k0 hN hF H locs ls hP hD hS hl
    have hB := hN
    refine lv_istore_n (lv' := [(2, .int (I k0)), (0, .ref (q 6)), (1, .int (I u1))]) hx hb dX7_firstSymbol_22 rfl hl (by decide) rfl (fun ls hl => ?_)
    refine lv_iload_n hx hb dX7_firstSymbol_23 rfl (lv_at hl 0 rfl) ?_
    refine bi_if_eq (tgt := 54) hx hb r_k0 dX7_firstSymbol_24 (by decide) (fun c5 => ?_) (fun c5 => ?_)
    ·
      replace hw := hw.1 c5
      exact (hP54 _ _ _).mp hw r_u1 r_k0 hN hF H locs ls hP hD hS (lv_sub hl [1, 2, 0] rfl)
    ·
      replace hw := hw.2 c5
      refine lv_aload_n hx hb dX7_firstSymbol_27 rfl (lv_at hl 1 rfl) ?_
      refine gfX7_library hx hb hts hK hP hown (hts _ tw_484) dX7_firstSymbol_28 ?_
      refine gfNX3_rank hx hb hts hK hP hown (nb_use hNb tn_58) dX7_firstSymbol_31 ?_
      refine lv_iload_n hx hb dX7_firstSymbol_34 rfl (lv_at hl 2 rfl) ?_
      obtain ⟨c6, hw⟩ := hw
      refine ldCX3_rank hx hb hK hP hN c6 dX7_firstSymbol_35 (fun x7 r_x7 e_x7 => ?_)
      replace hw := hw x7 r_x7 e_x7
      refine lv_iconst (v := I (-1)) hx hb dX7_firstSymbol_36 rfl ?_
      refine bi_icmp_ne (tgt := 54) hx hb r_x7 (by decide) dX7_firstSymbol_37 (by decide) (fun c8 => ?_) (fun c8 => ?_)
      ·
        replace hw := hw.1 c8
        exact (hP54 _ _ _).mp hw r_u1 r_k0 hN hF H locs ls hP hD hS (lv_sub hl [1, 2, 0] rfl)
      ·
        replace hw := hw.2 c8
        refine lv_aload_n hx hb dX7_firstSymbol_40 rfl (lv_at hl 1 rfl) ?_
        refine gfX7_library hx hb hts hK hP hown (hts _ tw_484) dX7_firstSymbol_41 ?_
        refine gfNX3_ranks hx hb hts hK hP hown (nb_use hNb tn_62) (x := τ.1 4) rfl dX7_firstSymbol_44 ?_
        refine lv_bipush (v := I 100) hx hb dX7_firstSymbol_47 (by decide) ?_
        refine bi_icmp_ne (tgt := 54) hx hb (hB.1 4) (by decide) dX7_firstSymbol_49 (by decide) (fun c9 => ?_) (fun c9 => ?_)
        ·
          replace hw := hw.1 c9
          exact (hP54 _ _ _).mp hw r_u1 r_k0 hN hF H locs ls hP hD hS (lv_sub hl [1, 2, 0] rfl)
        ·
          replace hw := hw.2 c9
          refine lv_iconst (v := I 5) hx hb dX7_firstSymbol_52 rfl ?_
          exact xri hx hb hr hlk hP hK hD hS ⟨_, _, (by decide), rfl, hN, hF, rfl, hw⟩ (Nat.le_of_ble_eq_true rfl) (Nat.le_of_ble_eq_true rfl) dX7_firstSymbol_53
  ·
    intro u1 u2 τ hw
    refine (hP54 _ _ _).mpr ?_
    intro r_u1 r_u2 hN hF H locs ls hP hD hS hl
    have hB := hN
    refine lv_iload_n hx hb dX7_firstSymbol_54 rfl (lv_at hl 2 rfl) ?_
    refine bi_if_ne (tgt := 77) hx hb r_u2 dX7_firstSymbol_55 (by decide) (fun c10 => ?_) (fun c10 => ?_)
    ·
      replace hw := hw.1 c10
      refine lv_aload_n hx hb dX7_firstSymbol_77 rfl (lv_at hl 0 rfl) ?_
      refine gfX7_library hx hb hts hK hP hown (hts _ tw_484) dX7_firstSymbol_78 ?_
      refine lv_iload_n hx hb dX7_firstSymbol_81 rfl (lv_at hl 1 rfl) ?_
      obtain ⟨Q11, hc, hw⟩ := hw
      refine wc_V (X := CX g q lb) (va_runV (As := [.int (I u1)]) (rest := []) ⟨hx, hb, hml, hown, hts⟩ (L_X3_giveRank l g q lb hlb r_u1 hN hc H.size) (cwV 1 hts (TB_V tw_1195 tw_1196 tw_1197 tw_2 co_X3_giveRank) rfl rfl rfl (by decide +kernel) ⟨Nat.le_of_ble_eq_true rfl, Nat.le_of_ble_eq_true rfl⟩) (preV (q0 := 1) (ci := 3) rfl xT_bl hP hK hNb hD rfl rfl xT_at) rfl rfl hl.1 rfl (lv_room (Nat.le_of_ble_eq_true rfl)) dX7_firstSymbol_82 ⟨Nat.le_of_ble_eq_true rfl, Nat.le_of_ble_eq_true rfl⟩) hP hD hS hA (fun τ13 H locs hN hf hq hP hD hS => ?_)
      replace hw := hw τ13 hN hf hq
      have hF : f_r [4, 6] [10, 11, 14, 15, 16] [] σ τ13 := f_t hF hf (by decide) (by decide) (by decide)
      have hB := hN
      refine lv_aload_n hx hb dX7_firstSymbol_85 rfl (lv_at hl 0 rfl) ?_
      refine gfX7_library hx hb hts hK hP hown (hts _ tw_484) dX7_firstSymbol_86 ?_
      refine lv_iload_n hx hb dX7_firstSymbol_89 rfl (lv_at hl 1 rfl) ?_
      refine lv_iconst (v := I (-1)) hx hb dX7_firstSymbol_90 rfl ?_
      obtain ⟨Q14, hc, hw⟩ := hw
      refine wc_V (X := CX g q lb) (va_runV (As := [.int (I u1), .int (I (-1))]) (rest := []) ⟨hx, hb, hml, hown, hts⟩ (L_X3_append l g q lb hlb r_u1 (by decide) hN hc H.size) (cwV 2 hts (TB_V tw_1199 tw_1200 tw_1201 tw_2 co_X3_append) rfl rfl rfl (by decide +kernel) ⟨Nat.le_of_ble_eq_true rfl, Nat.le_of_ble_eq_true rfl⟩) (preV (q0 := 1) (ci := 3) rfl xT_bl hP hK hNb hD rfl rfl xT_at) rfl rfl hl.1 rfl (lv_room (Nat.le_of_ble_eq_true rfl)) dX7_firstSymbol_91 ⟨Nat.le_of_ble_eq_true rfl, Nat.le_of_ble_eq_true rfl⟩) hP hD hS hA (fun τ16 H locs hN hf hq hP hD hS => ?_)
      replace hw := hw τ16 hN hf hq
      have hF : f_r [4, 6] [10, 11, 14, 15, 16] [] σ τ16 := f_t hF hf (by decide) (by decide) (by decide)
      have hB := hN
      refine lv_iconst (v := I 0) hx hb dX7_firstSymbol_94 rfl ?_
      exact xri hx hb hr hlk hP hK hD hS ⟨_, _, (by decide), rfl, hN, hF, rfl, hw⟩ (Nat.le_of_ble_eq_true rfl) (Nat.le_of_ble_eq_true rfl) dX7_firstSymbol_95
    ·
      replace hw := hw.2 c10
      refine lv_aload_n hx hb dX7_firstSymbol_58 rfl (lv_at hl 0 rfl) ?_
      refine gfX7_scopes hx hb hts hK hP hown (hts _ tw_486) dX7_firstSymbol_59 ?_
      refine lv_iload_n hx hb dX7_firstSymbol_62 rfl (lv_at hl 1 rfl) ?_
      obtain ⟨Q17, hc, hw⟩ := hw
      refine wc_i (X := CX g q lb) (va_runV (As := [.int (I u1)]) (rest := []) ⟨hx, hb, hml, hown, hts⟩ (L_X9_isKnown l g q lb hlb r_u1 hN hc H.size) (cwV 1 hts (TB_V tw_1167 tw_1168 tw_1169 tw_3 co_X9_isKnown) rfl rfl rfl (by decide +kernel) ⟨Nat.le_of_ble_eq_true rfl, Nat.le_of_ble_eq_true rfl⟩) (preV (q0 := 2) (ci := 9) rfl xT_bl hP hK hNb hD rfl rfl xT_at) rfl rfl hl.1 rfl (lv_room (Nat.le_of_ble_eq_true rfl)) dX7_firstSymbol_63 ⟨Nat.le_of_ble_eq_true rfl, Nat.le_of_ble_eq_true rfl⟩) hP hD hS hA (fun x18 H locs r_x18 hq hP hD hS => ?_)
      replace hw := hw x18 r_x18 hq
      refine bi_if_eq (tgt := 74) hx hb r_x18 dX7_firstSymbol_66 (by decide) (fun c20 => ?_) (fun c20 => ?_)
      ·
        replace hw := hw.1 c20
        refine lv_bipush (v := I 9) hx hb dX7_firstSymbol_74 (by decide) ?_
        exact xri hx hb hr hlk hP hK hD hS ⟨_, _, (by decide), rfl, hN, hF, rfl, hw⟩ (Nat.le_of_ble_eq_true rfl) (Nat.le_of_ble_eq_true rfl) dX7_firstSymbol_76
      ·
        replace hw := hw.2 c20
        refine lv_bipush (v := I 10) hx hb dX7_firstSymbol_69 (by decide) ?_
        refine lv_goto (tgt := 76) hx hb dX7_firstSymbol_71 (by decide) ?_
        exact xri hx hb hr hlk hP hK hD hS ⟨_, _, (by decide), rfl, hN, hF, rfl, hw⟩ (Nat.le_of_ble_eq_true rfl) (Nat.le_of_ble_eq_true rfl) dX7_firstSymbol_76
def W_X7_takeSymbol (n1 : Int) (σ : S0) (Q : Int → S0 → Prop) : Prop :=
  ∀ (P17 : Int → S0 → Prop) (P121 : Int → S0 → Prop) (P151 : Int → Int → S0 → Prop),
  (∀ (u1 : Int) (τ : S0), ((τ.1 36 = 300 → Q 5 τ) ∧ (¬ τ.1 36 = 300 → (¬ τ.1 6 = 30000 → rg (τ.1 36 + 1) ∧ (¬ (τ.1 36 + 1) = 1 → (¬ τ.1 37 = 0 → ∃ (Q8 : Int → Prop), W_X9_isKnown u1 (s_v τ 36 (τ.1 36 + 1)) Q8 ∧ ∀ (x9 : Int), rg x9 → Q8 x9 → ((¬ x9 = 0 → (0 ≤ u1 ∧ u1 < 1000) ∧ (∀ (x13 : Int), rg x13 → x13 = τ.2.1 8 u1 → ((x13 = 0 → P121 u1 (s_v τ 36 (τ.1 36 + 1))) ∧ (¬ x13 = 0 → ∀ (x15 : Int), rg x15 → x15 = τ.2.1 19 u1 → ((¬ x15 = (-1) → P121 u1 (s_v τ 36 (τ.1 36 + 1))) ∧ (x15 = (-1) → Q 11 (s_v τ 36 (τ.1 36 + 1)))))))) ∧ (x9 = 0 → Q 9 (s_v τ 36 (τ.1 36 + 1))))) ∧ (τ.1 37 = 0 → ∃ (Q17 : Int → S0 → Prop), W_X7_floatingVariable u1 (s_v τ 36 (τ.1 36 + 1)) Q17 ∧ ∀ (x18 : Int) (τ19 : S0), rg x18 → n_m τ19 → f_r [6] [14, 15, 16] [] (s_v τ 36 (τ.1 36 + 1)) τ19 → Q17 x18 τ19 → (Q x18 τ19))) ∧ ((τ.1 36 + 1) = 1 → ∃ (Q20 : Int → S0 → Prop), W_X7_firstSymbol u1 (s_v τ 36 (τ.1 36 + 1)) Q20 ∧ ∀ (x21 : Int) (τ22 : S0), rg x21 → n_m τ22 → f_r [4, 6] [10, 11, 14, 15, 16] [] (s_v τ 36 (τ.1 36 + 1)) τ22 → Q20 x21 τ22 → (Q x21 τ22))) ∧ (τ.1 6 = 30000 → Q 5 τ))) → P17 u1 τ) →
  (∀ (u1 : Int) (τ : S0), ((0 ≤ u1 ∧ u1 < 1000) ∧ (∀ (x24 : Int), rg x24 → x24 = τ.2.1 8 u1 → ((x24 = 0 → P151 u1 (-1) τ) ∧ (¬ x24 = 0 → ∀ (x26 : Int), rg x26 → x26 = τ.2.1 19 u1 → (P151 u1 x26 τ))))) → P121 u1 τ) →
  (∀ (k1 : Int) (k2 : Int) (τ : S0), (∃ (Q27 : S0 → Prop), W_X3_append k1 k2 τ Q27 ∧ ∀ (τ29 : S0), n_m τ29 → f_r [6] [14, 15, 16] [] τ τ29 → Q27 τ29 → (Q 0 τ29)) → P151 k1 k2 τ) →
  (¬ σ.1 37 = 0 → P17 n1 σ) ∧ (σ.1 37 = 0 → (¬ σ.1 36 = 2 → P17 n1 σ) ∧ (σ.1 36 = 2 → Q 4 σ))
set_option maxRecDepth 100000 in
set_option maxHeartbeats 4000000 in
theorem L_X7_takeSymbol (l : Launch) (g : gG) (q : Nat → Nat) (lb : Nat) (hlb : lb < 2 ^ 31) {n1 : Int} {σ : S0} {Q : Int → S0 → Prop} (r_n1 : rg n1) (hN : n_m σ) (hw : W_X7_takeSymbol n1 σ Q) (sz : Nat) : MetI l yX7_takeSymbol cX7_takeSymbol 2 (some .int) { frames := 2, cells := 0, slots := 0, locals := 45 } g [.ref (q 6), .int (I n1)] (CX g q lb σ) sz xT (p_I (CX g q lb) [4, 6, 36] [10, 11, 14, 15, 16] [] σ Q) 0 0 := by
  refine mkMet (Qc := fun A => QI g A (p_I (CX g q lb) [4, 6, 36] [10, 11, 14, 15, 16] [] σ Q)) (by decide) (Nat.le_of_ble_eq_true rfl) ?_
  intro p e s m below meth c A H ls hx hb hr hml hown hts hlk hnm hsz hP hK hNb hD hA hAe hS hX hl
  have hl : lv_has ls 2 [(0, .ref (q 6)), (1, .int (I n1))] := hl
  have hB := hN
  have hF : f_r [4, 6, 36] [10, 11, 14, 15, 16] [] σ σ := f_0
  obtain ⟨locs, hlocs⟩ : ∃ z : List Loc, z = [] := ⟨_, rfl⟩
  rw [← hlocs] at hS ⊢
  obtain ⟨P17, hP17⟩ : ∃ P : Int → S0 → Prop, ∀ (u1 : Int) (τ : S0), (P u1 τ ↔ (rg u1 → n_m τ → f_r [4, 6, 36] [10, 11, 14, 15, 16] [] σ τ → ∀ (H : Heap) (locs : List Loc) (ls : Array Slot), KP g (CX g q lb τ) H → va_D A (CX g q lb τ) → va_S A s.heap H locs → lv_has ls 2 [(0, .ref (q 6)), (1, .int (I u1))] → W p l e ({ frames := 2, cells := 0, slots := 0, locals := 45 }) s m [.ref (q 6), .int (I n1)].toArray below meth c H locs 0 0 (MQ below (QI g A (p_I (CX g q lb) [4, 6, 36] [10, 11, 14, 15, 16] [] σ Q)) [.ref (q 6), .int (I n1)].toArray s 0 0 A) (F0 m 17 ls []))) := ⟨_, fun _ _ => Iff.rfl⟩
  obtain ⟨P121, hP121⟩ : ∃ P : Int → S0 → Prop, ∀ (u1 : Int) (τ : S0), (P u1 τ ↔ (rg u1 → n_m τ → f_r [4, 6, 36] [10, 11, 14, 15, 16] [] σ τ → ∀ (H : Heap) (locs : List Loc) (ls : Array Slot), KP g (CX g q lb τ) H → va_D A (CX g q lb τ) → va_S A s.heap H locs → lv_has ls 2 [(0, .ref (q 6)), (1, .int (I u1))] → W p l e ({ frames := 2, cells := 0, slots := 0, locals := 45 }) s m [.ref (q 6), .int (I n1)].toArray below meth c H locs 0 0 (MQ below (QI g A (p_I (CX g q lb) [4, 6, 36] [10, 11, 14, 15, 16] [] σ Q)) [.ref (q 6), .int (I n1)].toArray s 0 0 A) (F0 m 121 ls []))) := ⟨_, fun _ _ => Iff.rfl⟩
  obtain ⟨P151, hP151⟩ : ∃ P : Int → Int → S0 → Prop, ∀ (k1 : Int) (k2 : Int) (τ : S0), (P k1 k2 τ ↔ (rg k1 → rg k2 → n_m τ → f_r [4, 6, 36] [10, 11, 14, 15, 16] [] σ τ → ∀ (H : Heap) (locs : List Loc) (ls : Array Slot), KP g (CX g q lb τ) H → va_D A (CX g q lb τ) → va_S A s.heap H locs → lv_has ls 2 [] → W p l e ({ frames := 2, cells := 0, slots := 0, locals := 45 }) s m [.ref (q 6), .int (I n1)].toArray below meth c H locs 0 0 (MQ below (QI g A (p_I (CX g q lb) [4, 6, 36] [10, 11, 14, 15, 16] [] σ Q)) [.ref (q 6), .int (I n1)].toArray s 0 0 A) (F0 m 151 ls [.int (I k2), .int (I k1), .ref (q 1)]))) := ⟨_, fun _ _ _ => Iff.rfl⟩
  refine (fun hw => ?_) (hw P17 P121 P151 ?_ ?_ ?_)
  ·
    refine lv_aload_n hx hb dX7_takeSymbol_0 rfl (lv_at hl 0 rfl) ?_
    refine gfX7_kind hx hb hts hK hP hown (hts _ tw_495) (x := σ.1 37) rfl dX7_takeSymbol_1 ?_
    refine bi_if_ne (tgt := 17) hx hb (hB.1 37) dX7_takeSymbol_4 (by decide) (fun c1 => ?_) (fun c1 => ?_)
    ·
      replace hw := hw.1 c1
      exact (hP17 _ _).mp hw r_n1 hN hF H locs ls hP hD hS (lv_sub hl [0, 1] rfl)
    ·
      replace hw := hw.2 c1
      refine lv_aload_n hx hb dX7_takeSymbol_7 rfl (lv_at hl 0 rfl) ?_
      refine gfX7_items hx hb hts hK hP hown (hts _ tw_494) (x := σ.1 36) rfl dX7_takeSymbol_8 ?_
      refine lv_iconst (v := I 2) hx hb dX7_takeSymbol_11 rfl ?_
      refine bi_icmp_ne (tgt := 17) hx hb (hB.1 36) (by decide) dX7_takeSymbol_12 (by decide) (fun c2 => ?_) (fun c2 => ?_)
      ·
        replace hw := hw.1 c2
        exact (hP17 _ _).mp hw r_n1 hN hF H locs ls hP hD hS (lv_sub hl [0, 1] rfl)
      ·
        replace hw := hw.2 c2
        refine lv_iconst (v := I 4) hx hb dX7_takeSymbol_15 rfl ?_
        exact xri hx hb hr hlk hP hK hD hS ⟨_, _, (by decide), rfl, hN, hF, rfl, hw⟩ (Nat.le_of_ble_eq_true rfl) (Nat.le_of_ble_eq_true rfl) dX7_takeSymbol_16
  ·
    intro u1 τ hw
    refine (hP17 _ _).mpr ?_
    intro r_u1 hN hF H locs ls hP hD hS hl
    have hB := hN
    refine lv_aload_n hx hb dX7_takeSymbol_17 rfl (lv_at hl 0 rfl) ?_
    refine gfX7_items hx hb hts hK hP hown (hts _ tw_494) (x := τ.1 36) rfl dX7_takeSymbol_18 ?_
    refine lv_sipush (v := I 300) hx hb dX7_takeSymbol_21 (by decide) ?_
    refine bi_icmp_eq (tgt := 40) hx hb (hB.1 36) (by decide) dX7_takeSymbol_24 (by decide) (fun c3 => ?_) (fun c3 => ?_)
    ·
      replace hw := hw.1 c3
      refine lv_iconst (v := I 5) hx hb dX7_takeSymbol_40 rfl ?_
      exact xri hx hb hr hlk hP hK hD hS ⟨_, _, (by decide), rfl, hN, hF, rfl, hw⟩ (Nat.le_of_ble_eq_true rfl) (Nat.le_of_ble_eq_true rfl) dX7_takeSymbol_41
    ·
      replace hw := hw.2 c3
      refine lv_aload_n hx hb dX7_takeSymbol_27 rfl (lv_at hl 0 rfl) ?_
      refine gfX7_library hx hb hts hK hP hown (hts _ tw_484) dX7_takeSymbol_28 ?_
      refine gfNX3_used hx hb hts hK hP hown (nb_use hNb tn_102) (x := τ.1 6) rfl dX7_takeSymbol_31 ?_
      refine lv_sipush (v := I 30000) hx hb dX7_takeSymbol_34 (by decide) ?_
      refine bi_icmp_ne (tgt := 42) hx hb (hB.1 6) (by decide) dX7_takeSymbol_37 (by decide) (fun c4 => ?_) (fun c4 => ?_)
      ·
        replace hw := hw.1 c4
        refine lv_aload_n hx hb dX7_takeSymbol_42 rfl (lv_at hl 0 rfl) ?_
        refine lv_dup hx hb dX7_takeSymbol_43 rfl ?_
        refine gfX7_items hx hb hts hK hP hown (hts _ tw_494) (x := τ.1 36) rfl dX7_takeSymbol_44 ?_
        refine lv_iconst (v := I 1) hx hb dX7_takeSymbol_47 rfl ?_
        refine bi_iadd hx hb dX7_takeSymbol_48 ?_
        obtain ⟨c5, hw⟩ := hw
        refine pfX7_items hx hb hts hK hP hD hS hown (hts _ tw_494) dX7_takeSymbol_49 (fun H locs hP hD hS => ?_)
        have hN : n_m (s_v τ 36 (τ.1 36 + 1)) := n_v (i := 36) hN (c5 : rg (τ.1 36 + 1))
        have hF : f_r [4, 6, 36] [10, 11, 14, 15, 16] [] σ (s_v τ 36 (τ.1 36 + 1)) := f_v hF (by decide)
        refine lv_aload_n hx hb dX7_takeSymbol_52 rfl (lv_at hl 0 rfl) ?_
        refine gfX7_items hx hb hts hK hP hown (hts _ tw_494) (x := (τ.1 36 + 1)) rfl dX7_takeSymbol_53 ?_
        refine lv_iconst (v := I 1) hx hb dX7_takeSymbol_56 rfl ?_
        refine bi_icmp_ne (tgt := 66) hx hb c5 (by decide) dX7_takeSymbol_57 (by decide) (fun c6 => ?_) (fun c6 => ?_)
        ·
          replace hw := hw.1 c6
          refine lv_aload_n hx hb dX7_takeSymbol_66 rfl (lv_at hl 0 rfl) ?_
          refine gfX7_kind hx hb hts hK hP hown (hts _ tw_495) (x := τ.1 37) rfl dX7_takeSymbol_67 ?_
          refine bi_if_ne (tgt := 79) hx hb (hB.1 37) dX7_takeSymbol_70 (by decide) (fun c7 => ?_) (fun c7 => ?_)
          ·
            replace hw := hw.1 c7
            refine lv_aload_n hx hb dX7_takeSymbol_79 rfl (lv_at hl 0 rfl) ?_
            refine gfX7_scopes hx hb hts hK hP hown (hts _ tw_486) dX7_takeSymbol_80 ?_
            refine lv_iload_n hx hb dX7_takeSymbol_83 rfl (lv_at hl 1 rfl) ?_
            obtain ⟨Q8, hc, hw⟩ := hw
            refine wc_i (X := CX g q lb) (va_runV (As := [.int (I u1)]) (rest := []) ⟨hx, hb, hml, hown, hts⟩ (L_X9_isKnown l g q lb hlb r_u1 hN hc H.size) (cwV 1 hts (TB_V tw_1167 tw_1168 tw_1169 tw_3 co_X9_isKnown) rfl rfl rfl (by decide +kernel) ⟨Nat.le_of_ble_eq_true rfl, Nat.le_of_ble_eq_true rfl⟩) (preV (q0 := 2) (ci := 9) rfl xT_bl hP hK hNb hD rfl rfl xT_at) rfl rfl hl.1 rfl (lv_room (Nat.le_of_ble_eq_true rfl)) dX7_takeSymbol_84 ⟨Nat.le_of_ble_eq_true rfl, Nat.le_of_ble_eq_true rfl⟩) hP hD hS hA (fun x9 H locs r_x9 hq hP hD hS => ?_)
            replace hw := hw x9 r_x9 hq
            refine bi_if_ne (tgt := 93) hx hb r_x9 dX7_takeSymbol_87 (by decide) (fun c11 => ?_) (fun c11 => ?_)
            ·
              replace hw := hw.1 c11
              refine lv_aload_n hx hb dX7_takeSymbol_93 rfl (lv_at hl 0 rfl) ?_
              refine gfX7_library hx hb hts hK hP hown (hts _ tw_484) dX7_takeSymbol_94 ?_
              refine gfNX3_variable hx hb hts hK hP hown (nb_use hNb tn_51) dX7_takeSymbol_97 ?_
              refine lv_iload_n hx hb dX7_takeSymbol_100 rfl (lv_at hl 1 rfl) ?_
              obtain ⟨c12, hw⟩ := hw
              refine ldCX3_variable hx hb hK hP hN c12 dX7_takeSymbol_101 (fun x13 r_x13 e_x13 => ?_)
              replace hw := hw x13 r_x13 e_x13
              refine bi_if_eq (tgt := 121) hx hb r_x13 dX7_takeSymbol_102 (by decide) (fun c14 => ?_) (fun c14 => ?_)
              ·
                replace hw := hw.1 c14
                exact (hP121 _ _).mp hw r_u1 hN hF H locs ls hP hD hS (lv_sub hl [0, 1] rfl)
              ·
                replace hw := hw.2 c14
                refine lv_aload_n hx hb dX7_takeSymbol_105 rfl (lv_at hl 0 rfl) ?_
                refine gfX7_scopes hx hb hts hK hP hown (hts _ tw_486) dX7_takeSymbol_106 ?_
                refine gfNX9_activeFloat hx hb hts hK hP hown (nb_use hNb tn_168) dX7_takeSymbol_109 ?_
                refine lv_iload_n hx hb dX7_takeSymbol_112 rfl (lv_at hl 1 rfl) ?_
                refine ldCX9_activeFloat hx hb hK hP hN c12 dX7_takeSymbol_113 (fun x15 r_x15 e_x15 => ?_)
                replace hw := hw x15 r_x15 e_x15
                refine lv_iconst (v := I (-1)) hx hb dX7_takeSymbol_114 rfl ?_
                refine bi_icmp_ne (tgt := 121) hx hb r_x15 (by decide) dX7_takeSymbol_115 (by decide) (fun c16 => ?_) (fun c16 => ?_)
                ·
                  replace hw := hw.1 c16
                  exact (hP121 _ _).mp hw r_u1 hN hF H locs ls hP hD hS (lv_sub hl [0, 1] rfl)
                ·
                  replace hw := hw.2 c16
                  refine lv_bipush (v := I 11) hx hb dX7_takeSymbol_118 (by decide) ?_
                  exact xri hx hb hr hlk hP hK hD hS ⟨_, _, (by decide), rfl, hN, hF, rfl, hw⟩ (Nat.le_of_ble_eq_true rfl) (Nat.le_of_ble_eq_true rfl) dX7_takeSymbol_120
            ·
              replace hw := hw.2 c11
              refine lv_bipush (v := I 9) hx hb dX7_takeSymbol_90 (by decide) ?_
              exact xri hx hb hr hlk hP hK hD hS ⟨_, _, (by decide), rfl, hN, hF, rfl, hw⟩ (Nat.le_of_ble_eq_true rfl) (Nat.le_of_ble_eq_true rfl) dX7_takeSymbol_92
          ·
            replace hw := hw.2 c7
            refine lv_aload_n hx hb dX7_takeSymbol_73 rfl (lv_at hl 0 rfl) ?_
            refine lv_iload_n hx hb dX7_takeSymbol_74 rfl (lv_at hl 1 rfl) ?_
            obtain ⟨Q17, hc, hw⟩ := hw
            refine wc_I (X := CX g q lb) (va_runV (As := [.int (I u1)]) (rest := []) ⟨hx, hb, hml, hown, hts⟩ (L_X7_floatingVariable l g q lb hlb r_u1 hN hc H.size) (cwV 1 hts (TB_V tw_1203 tw_1205 ts_31 tw_7 co_X7_floatingVariable) rfl rfl rfl (by decide +kernel) ⟨Nat.le_of_ble_eq_true rfl, Nat.le_of_ble_eq_true rfl⟩) (preV (q0 := 6) (ci := 7) rfl xT_bl hP hK hNb hD rfl rfl xT_at) rfl rfl hl.1 rfl (lv_room (Nat.le_of_ble_eq_true rfl)) dX7_takeSymbol_75 ⟨Nat.le_of_ble_eq_true rfl, Nat.le_of_ble_eq_true rfl⟩) hP hD hS hA (fun x18 τ19 H locs r_x18 hN hf hq hP hD hS => ?_)
            replace hw := hw x18 τ19 r_x18 hN hf hq
            have hF : f_r [4, 6, 36] [10, 11, 14, 15, 16] [] σ τ19 := f_t hF hf (by decide) (by decide) (by decide)
            have hB := hN
            exact xri hx hb hr hlk hP hK hD hS ⟨_, _, r_x18, rfl, hN, hF, rfl, hw⟩ (Nat.le_of_ble_eq_true rfl) (Nat.le_of_ble_eq_true rfl) dX7_takeSymbol_78
        ·
          replace hw := hw.2 c6
          refine lv_aload_n hx hb dX7_takeSymbol_60 rfl (lv_at hl 0 rfl) ?_
          refine lv_iload_n hx hb dX7_takeSymbol_61 rfl (lv_at hl 1 rfl) ?_
          obtain ⟨Q20, hc, hw⟩ := hw
          refine wc_I (X := CX g q lb) (va_runV (As := [.int (I u1)]) (rest := []) ⟨hx, hb, hml, hown, hts⟩ (L_X7_firstSymbol l g q lb hlb r_u1 hN hc H.size) (cwV 1 hts (TB_V tw_1191 tw_1193 ts_30 tw_7 co_X7_firstSymbol) rfl rfl rfl (by decide +kernel) ⟨Nat.le_of_ble_eq_true rfl, Nat.le_of_ble_eq_true rfl⟩) (preV (q0 := 6) (ci := 7) rfl xT_bl hP hK hNb hD rfl rfl xT_at) rfl rfl hl.1 rfl (lv_room (Nat.le_of_ble_eq_true rfl)) dX7_takeSymbol_62 ⟨Nat.le_of_ble_eq_true rfl, Nat.le_of_ble_eq_true rfl⟩) hP hD hS hA (fun x21 τ22 H locs r_x21 hN hf hq hP hD hS => ?_)
          replace hw := hw x21 τ22 r_x21 hN hf hq
          have hF : f_r [4, 6, 36] [10, 11, 14, 15, 16] [] σ τ22 := f_t hF hf (by decide) (by decide) (by decide)
          have hB := hN
          exact xri hx hb hr hlk hP hK hD hS ⟨_, _, r_x21, rfl, hN, hF, rfl, hw⟩ (Nat.le_of_ble_eq_true rfl) (Nat.le_of_ble_eq_true rfl) dX7_takeSymbol_65
      ·
        replace hw := hw.2 c4
        refine lv_iconst (v := I 5) hx hb dX7_takeSymbol_40 rfl ?_
        exact xri hx hb hr hlk hP hK hD hS ⟨_, _, (by decide), rfl, hN, hF, rfl, hw⟩ (Nat.le_of_ble_eq_true rfl) (Nat.le_of_ble_eq_true rfl) dX7_takeSymbol_41
  ·
    intro u1 τ hw
    refine (hP121 _ _).mpr ?_
    intro r_u1 hN hF H locs ls hP hD hS hl
    have hB := hN
    refine lv_aload_n hx hb dX7_takeSymbol_121 rfl (lv_at hl 0 rfl) ?_
    refine gfX7_library hx hb hts hK hP hown (hts _ tw_484) dX7_takeSymbol_122 ?_
    refine lv_iload_n hx hb dX7_takeSymbol_125 rfl (lv_at hl 1 rfl) ?_
    refine lv_aload_n hx hb dX7_takeSymbol_126 rfl (lv_at hl 0 rfl) ?_
    refine gfX7_library hx hb hts hK hP hown (hts _ tw_484) dX7_takeSymbol_127 ?_
    refine gfNX3_variable hx hb hts hK hP hown (nb_use hNb tn_51) dX7_takeSymbol_130 ?_
    refine lv_iload_n hx hb dX7_takeSymbol_133 rfl (lv_at hl 1 rfl) ?_
    obtain ⟨c23, hw⟩ := hw
    refine ldCX3_variable hx hb hK hP hN c23 dX7_takeSymbol_134 (fun x24 r_x24 e_x24 => ?_)
    replace hw := hw x24 r_x24 e_x24
    refine bi_if_eq (tgt := 150) hx hb r_x24 dX7_takeSymbol_135 (by decide) (fun c25 => ?_) (fun c25 => ?_)
    ·
      replace hw := hw.1 c25
      refine lv_iconst (v := I (-1)) hx hb dX7_takeSymbol_150 rfl ?_
      exact (hP151 _ _ _).mp hw r_u1 (by decide) hN hF H locs ls hP hD hS (lv_sub hl [] rfl)
    ·
      replace hw := hw.2 c25
      refine lv_aload_n hx hb dX7_takeSymbol_138 rfl (lv_at hl 0 rfl) ?_
      refine gfX7_scopes hx hb hts hK hP hown (hts _ tw_486) dX7_takeSymbol_139 ?_
      refine gfNX9_activeFloat hx hb hts hK hP hown (nb_use hNb tn_168) dX7_takeSymbol_142 ?_
      refine lv_iload_n hx hb dX7_takeSymbol_145 rfl (lv_at hl 1 rfl) ?_
      refine ldCX9_activeFloat hx hb hK hP hN c23 dX7_takeSymbol_146 (fun x26 r_x26 e_x26 => ?_)
      replace hw := hw x26 r_x26 e_x26
      refine lv_goto (tgt := 151) hx hb dX7_takeSymbol_147 (by decide) ?_
      exact (hP151 _ _ _).mp hw r_u1 r_x26 hN hF H locs ls hP hD hS (lv_sub hl [] rfl)
  ·
    intro k1 k2 τ hw
    refine (hP151 _ _ _).mpr ?_
    intro r_k1 r_k2 hN hF H locs ls hP hD hS hl
    have hB := hN
    obtain ⟨Q27, hc, hw⟩ := hw
    refine wc_V (X := CX g q lb) (va_runV (As := [.int (I k1), .int (I k2)]) (rest := []) ⟨hx, hb, hml, hown, hts⟩ (L_X3_append l g q lb hlb r_k1 r_k2 hN hc H.size) (cwV 2 hts (TB_V tw_1199 tw_1200 tw_1201 tw_2 co_X3_append) rfl rfl rfl (by decide +kernel) ⟨Nat.le_of_ble_eq_true rfl, Nat.le_of_ble_eq_true rfl⟩) (preV (q0 := 1) (ci := 3) rfl xT_bl hP hK hNb hD rfl rfl xT_at) rfl rfl hl.1 rfl (lv_room (Nat.le_of_ble_eq_true rfl)) dX7_takeSymbol_151 ⟨Nat.le_of_ble_eq_true rfl, Nat.le_of_ble_eq_true rfl⟩) hP hD hS hA (fun τ29 H locs hN hf hq hP hD hS => ?_)
    replace hw := hw τ29 hN hf hq
    have hF : f_r [4, 6, 36] [10, 11, 14, 15, 16] [] σ τ29 := f_t hF hf (by decide) (by decide) (by decide)
    have hB := hN
    refine lv_iconst (v := I 0) hx hb dX7_takeSymbol_154 rfl ?_
    exact xri hx hb hr hlk hP hK hD hS ⟨_, _, (by decide), rfl, hN, hF, rfl, hw⟩ (Nat.le_of_ble_eq_true rfl) (Nat.le_of_ble_eq_true rfl) dX7_takeSymbol_155
def W_X7_word (n1 : Int) (n2 : Int) (σ : S0) (Q : Int → S0 → Prop) : Prop :=
  ((σ.1 35) < 0 ∨ 5 < (σ.1 35) → Q 4 σ) ∧ ((σ.1 35) = 0 → ∃ (Q2 : Int → S0 → Prop), W_X7_label n1 n2 σ Q2 ∧ ∀ (x3 : Int) (τ4 : S0), rg x3 → n_m τ4 → f_r [3, 35] [2, 3, 4, 5, 6, 12] [] σ τ4 → Q2 x3 τ4 → (Q x3 τ4)) ∧ ((σ.1 35) = 1 → Q 4 σ) ∧ ((σ.1 35) = 2 → ∃ (Q5 : Int → S0 → Prop), W_X7_declareConstant n1 n2 σ Q5 ∧ ∀ (x6 : Int) (τ7 : S0), rg x6 → n_m τ7 → f_r [3, 5, 36] [2, 3, 4, 5, 6, 7, 8, 9, 10] [] σ τ7 → Q5 x6 τ7 → (Q x6 τ7)) ∧ ((σ.1 35) = 3 → ∃ (Q8 : Int → S0 → Prop), W_X7_declareVariable n1 n2 σ Q8 ∧ ∀ (x9 : Int) (τ10 : S0), rg x9 → n_m τ10 → f_r [3, 5, 8, 36] [2, 3, 4, 5, 6, 7, 8, 9, 10, 18, 20] [] σ τ10 → Q8 x9 τ10 → (Q x9 τ10)) ∧ ((σ.1 35) = 4 → ∃ (Q11 : Int → S0 → Prop), W_X7_takeApart (σ.1 38) σ Q11 ∧ ∀ (x12 : Int) (τ13 : S0), rg x12 → n_m τ13 → f_r [10, 36] [23, 24, 54] [0] σ τ13 → Q11 x12 τ13 → (Q x12 τ13)) ∧ ((σ.1 35) = 5 → ∃ (Q14 : Int → S0 → Prop), W_X7_takeSymbol (σ.1 38) σ Q14 ∧ ∀ (x15 : Int) (τ16 : S0), rg x15 → n_m τ16 → f_r [4, 6, 36] [10, 11, 14, 15, 16] [] σ τ16 → Q14 x15 τ16 → (Q x15 τ16))
set_option maxRecDepth 100000 in
set_option maxHeartbeats 4000000 in
theorem L_X7_word (l : Launch) (g : gG) (q : Nat → Nat) (lb : Nat) (hlb : lb < 2 ^ 31) {n1 : Int} {n2 : Int} {σ : S0} {Q : Int → S0 → Prop} (r_n1 : rg n1) (r_n2 : rg n2) (hN : n_m σ) (hw : W_X7_word n1 n2 σ Q) (sz : Nat) : MetI l yX7_word cX7_word 3 (some .int) { frames := 4, cells := 0, slots := 0, locals := 98 } g [.ref (q 6), .int (I n1), .int (I n2)] (CX g q lb σ) sz xT (p_I (CX g q lb) [3, 4, 5, 6, 8, 10, 35, 36] [2, 3, 4, 5, 6, 7, 8, 9, 10, 11, 12, 14, 15, 16, 18, 20, 23, 24, 54] [0] σ Q) 0 0 := by
  refine mkMet (Qc := fun A => QI g A (p_I (CX g q lb) [3, 4, 5, 6, 8, 10, 35, 36] [2, 3, 4, 5, 6, 7, 8, 9, 10, 11, 12, 14, 15, 16, 18, 20, 23, 24, 54] [0] σ Q)) (by decide) (Nat.le_of_ble_eq_true rfl) ?_
  intro p e s m below meth c A H ls hx hb hr hml hown hts hlk hnm hsz hP hK hNb hD hA hAe hS hX hl
  have hl : lv_has ls 3 [(0, .ref (q 6)), (1, .int (I n1)), (2, .int (I n2))] := hl
  have hB := hN
  have hF : f_r [3, 4, 5, 6, 8, 10, 35, 36] [2, 3, 4, 5, 6, 7, 8, 9, 10, 11, 12, 14, 15, 16, 18, 20, 23, 24, 54] [0] σ σ := f_0
  obtain ⟨locs, hlocs⟩ : ∃ z : List Loc, z = [] := ⟨_, rfl⟩
  rw [← hlocs] at hS ⊢
  refine lv_aload_n hx hb dX7_word_0 rfl (lv_at hl 0 rfl) ?_
  refine gfX7_state hx hb hts hK hP hown (hts _ tw_493) (x := σ.1 35) rfl dX7_word_1 ?_
  have rr := ((hB.1 35) : rg (σ.1 35))
  rcases bi_sw (x := (σ.1 35)) 0 5 with c1 | c1
  ·
    replace hw := hw.1 c1
    refine lv_tableOut (tgt := 83) hx hb dX7_word_4 (by rw [I_toInt rr.1 rr.2]; exact c1) (by decide) ?_
    refine lv_iconst (v := I 4) hx hb dX7_word_83 rfl ?_
    exact xri hx hb hr hlk hP hK hD hS ⟨_, _, (by decide), rfl, hN, hF, rfl, hw⟩ (Nat.le_of_ble_eq_true rfl) (Nat.le_of_ble_eq_true rfl) dX7_word_84
  ·
    obtain ⟨k, hk, ec1⟩ := c1
    replace hw := hw.2
    rcases (show k = 0 ∨ k = 1 ∨ k = 2 ∨ k = 3 ∨ k = 4 ∨ k = 5 by omega) with rfl | rfl | rfl | rfl | rfl | rfl
    ·
      have e9 : (σ.1 35) = 0 := ec1
      refine lv_tableIn (tgt := 44) hx hb dX7_word_4 (by rw [I_toInt rr.1 rr.2, e9]; decide) (by rw [I_toInt rr.1 rr.2, e9]; decide) (by rw [I_toInt rr.1 rr.2, e9]; rfl) (by decide) ?_
      replace hw := hw.1 e9
      refine lv_aload_n hx hb dX7_word_44 rfl (lv_at hl 0 rfl) ?_
      refine lv_iload_n hx hb dX7_word_45 rfl (lv_at hl 1 rfl) ?_
      refine lv_iload_n hx hb dX7_word_46 rfl (lv_at hl 2 rfl) ?_
      obtain ⟨Q2, hc, hw⟩ := hw
      refine wc_I (X := CX g q lb) (va_runV (As := [.int (I n1), .int (I n2)]) (rest := []) ⟨hx, hb, hml, hown, hts⟩ (L_X7_label l g q lb hlb r_n1 r_n2 hN hc H.size) (cwV 2 hts (TB_V tw_1129 tw_1131 ts_23 tw_7 co_X7_label) rfl rfl rfl (by decide +kernel) ⟨Nat.le_of_ble_eq_true rfl, Nat.le_of_ble_eq_true rfl⟩) (preV (q0 := 6) (ci := 7) rfl xT_bl hP hK hNb hD rfl rfl xT_at) rfl rfl hl.1 rfl (lv_room (Nat.le_of_ble_eq_true rfl)) dX7_word_47 ⟨Nat.le_of_ble_eq_true rfl, Nat.le_of_ble_eq_true rfl⟩) hP hD hS hA (fun x3 τ4 H locs r_x3 hN hf hq hP hD hS => ?_)
      replace hw := hw x3 τ4 r_x3 hN hf hq
      have hF : f_r [3, 4, 5, 6, 8, 10, 35, 36] [2, 3, 4, 5, 6, 7, 8, 9, 10, 11, 12, 14, 15, 16, 18, 20, 23, 24, 54] [0] σ τ4 := f_t hF hf (by decide) (by decide) (by decide)
      have hB := hN
      exact xri hx hb hr hlk hP hK hD hS ⟨_, _, r_x3, rfl, hN, hF, rfl, hw⟩ (Nat.le_of_ble_eq_true rfl) (Nat.le_of_ble_eq_true rfl) dX7_word_50
    ·
      have e9 : (σ.1 35) = 1 := ec1
      refine lv_tableIn (tgt := 83) hx hb dX7_word_4 (by rw [I_toInt rr.1 rr.2, e9]; decide) (by rw [I_toInt rr.1 rr.2, e9]; decide) (by rw [I_toInt rr.1 rr.2, e9]; rfl) (by decide) ?_
      replace hw := hw.2.1 e9
      refine lv_iconst (v := I 4) hx hb dX7_word_83 rfl ?_
      exact xri hx hb hr hlk hP hK hD hS ⟨_, _, (by decide), rfl, hN, hF, rfl, hw⟩ (Nat.le_of_ble_eq_true rfl) (Nat.le_of_ble_eq_true rfl) dX7_word_84
    ·
      have e9 : (σ.1 35) = 2 := ec1
      refine lv_tableIn (tgt := 51) hx hb dX7_word_4 (by rw [I_toInt rr.1 rr.2, e9]; decide) (by rw [I_toInt rr.1 rr.2, e9]; decide) (by rw [I_toInt rr.1 rr.2, e9]; rfl) (by decide) ?_
      replace hw := hw.2.2.1 e9
      refine lv_aload_n hx hb dX7_word_51 rfl (lv_at hl 0 rfl) ?_
      refine lv_iload_n hx hb dX7_word_52 rfl (lv_at hl 1 rfl) ?_
      refine lv_iload_n hx hb dX7_word_53 rfl (lv_at hl 2 rfl) ?_
      obtain ⟨Q5, hc, hw⟩ := hw
      refine wc_I (X := CX g q lb) (va_runV (As := [.int (I n1), .int (I n2)]) (rest := []) ⟨hx, hb, hml, hown, hts⟩ (L_X7_declareConstant l g q lb hlb r_n1 r_n2 hN hc H.size) (cwV 2 hts (TB_V tw_1151 tw_1153 ts_25 tw_7 co_X7_declareConstant) rfl rfl rfl (by decide +kernel) ⟨Nat.le_of_ble_eq_true rfl, Nat.le_of_ble_eq_true rfl⟩) (preV (q0 := 6) (ci := 7) rfl xT_bl hP hK hNb hD rfl rfl xT_at) rfl rfl hl.1 rfl (lv_room (Nat.le_of_ble_eq_true rfl)) dX7_word_54 ⟨Nat.le_of_ble_eq_true rfl, Nat.le_of_ble_eq_true rfl⟩) hP hD hS hA (fun x6 τ7 H locs r_x6 hN hf hq hP hD hS => ?_)
      replace hw := hw x6 τ7 r_x6 hN hf hq
      have hF : f_r [3, 4, 5, 6, 8, 10, 35, 36] [2, 3, 4, 5, 6, 7, 8, 9, 10, 11, 12, 14, 15, 16, 18, 20, 23, 24, 54] [0] σ τ7 := f_t hF hf (by decide) (by decide) (by decide)
      have hB := hN
      exact xri hx hb hr hlk hP hK hD hS ⟨_, _, r_x6, rfl, hN, hF, rfl, hw⟩ (Nat.le_of_ble_eq_true rfl) (Nat.le_of_ble_eq_true rfl) dX7_word_57
    ·
      have e9 : (σ.1 35) = 3 := ec1
      refine lv_tableIn (tgt := 58) hx hb dX7_word_4 (by rw [I_toInt rr.1 rr.2, e9]; decide) (by rw [I_toInt rr.1 rr.2, e9]; decide) (by rw [I_toInt rr.1 rr.2, e9]; rfl) (by decide) ?_
      replace hw := hw.2.2.2.1 e9
      refine lv_aload_n hx hb dX7_word_58 rfl (lv_at hl 0 rfl) ?_
      refine lv_iload_n hx hb dX7_word_59 rfl (lv_at hl 1 rfl) ?_
      refine lv_iload_n hx hb dX7_word_60 rfl (lv_at hl 2 rfl) ?_
      obtain ⟨Q8, hc, hw⟩ := hw
      refine wc_I (X := CX g q lb) (va_runV (As := [.int (I n1), .int (I n2)]) (rest := []) ⟨hx, hb, hml, hown, hts⟩ (L_X7_declareVariable l g q lb hlb r_n1 r_n2 hN hc H.size) (cwV 2 hts (TB_V tw_1163 tw_1165 ts_27 tw_7 co_X7_declareVariable) rfl rfl rfl (by decide +kernel) ⟨Nat.le_of_ble_eq_true rfl, Nat.le_of_ble_eq_true rfl⟩) (preV (q0 := 6) (ci := 7) rfl xT_bl hP hK hNb hD rfl rfl xT_at) rfl rfl hl.1 rfl (lv_room (Nat.le_of_ble_eq_true rfl)) dX7_word_61 ⟨Nat.le_of_ble_eq_true rfl, Nat.le_of_ble_eq_true rfl⟩) hP hD hS hA (fun x9 τ10 H locs r_x9 hN hf hq hP hD hS => ?_)
      replace hw := hw x9 τ10 r_x9 hN hf hq
      have hF : f_r [3, 4, 5, 6, 8, 10, 35, 36] [2, 3, 4, 5, 6, 7, 8, 9, 10, 11, 12, 14, 15, 16, 18, 20, 23, 24, 54] [0] σ τ10 := f_t hF hf (by decide) (by decide) (by decide)
      have hB := hN
      exact xri hx hb hr hlk hP hK hD hS ⟨_, _, r_x9, rfl, hN, hF, rfl, hw⟩ (Nat.le_of_ble_eq_true rfl) (Nat.le_of_ble_eq_true rfl) dX7_word_64
    ·
      have e9 : (σ.1 35) = 4 := ec1
      refine lv_tableIn (tgt := 65) hx hb dX7_word_4 (by rw [I_toInt rr.1 rr.2, e9]; decide) (by rw [I_toInt rr.1 rr.2, e9]; decide) (by rw [I_toInt rr.1 rr.2, e9]; rfl) (by decide) ?_
      replace hw := hw.2.2.2.2.1 e9
      refine lv_aload_n hx hb dX7_word_65 rfl (lv_at hl 0 rfl) ?_
      refine lv_aload_n hx hb dX7_word_66 rfl (lv_at hl 0 rfl) ?_
      refine gfX7_namedSymbol hx hb hts hK hP hown (hts _ tw_496) (x := σ.1 38) rfl dX7_word_67 ?_
      obtain ⟨Q11, hc, hw⟩ := hw
      refine wc_I (X := CX g q lb) (va_runV (As := [.int (I (σ.1 38))]) (rest := []) ⟨hx, hb, hml, hown, hts⟩ (L_X7_takeApart l g q lb hlb (hB.1 38) hN hc H.size) (cwV 1 hts (TB_V tw_1175 tw_1177 ts_28 tw_7 co_X7_takeApart) rfl rfl rfl (by decide +kernel) ⟨Nat.le_of_ble_eq_true rfl, Nat.le_of_ble_eq_true rfl⟩) (preV (q0 := 6) (ci := 7) rfl xT_bl hP hK hNb hD rfl rfl xT_at) rfl rfl hl.1 rfl (lv_room (Nat.le_of_ble_eq_true rfl)) dX7_word_70 ⟨Nat.le_of_ble_eq_true rfl, Nat.le_of_ble_eq_true rfl⟩) hP hD hS hA (fun x12 τ13 H locs r_x12 hN hf hq hP hD hS => ?_)
      replace hw := hw x12 τ13 r_x12 hN hf hq
      have hF : f_r [3, 4, 5, 6, 8, 10, 35, 36] [2, 3, 4, 5, 6, 7, 8, 9, 10, 11, 12, 14, 15, 16, 18, 20, 23, 24, 54] [0] σ τ13 := f_t hF hf (by decide) (by decide) (by decide)
      have hB := hN
      exact xri hx hb hr hlk hP hK hD hS ⟨_, _, r_x12, rfl, hN, hF, rfl, hw⟩ (Nat.le_of_ble_eq_true rfl) (Nat.le_of_ble_eq_true rfl) dX7_word_73
    ·
      have e9 : (σ.1 35) = 5 := ec1
      refine lv_tableIn (tgt := 74) hx hb dX7_word_4 (by rw [I_toInt rr.1 rr.2, e9]; decide) (by rw [I_toInt rr.1 rr.2, e9]; decide) (by rw [I_toInt rr.1 rr.2, e9]; rfl) (by decide) ?_
      replace hw := hw.2.2.2.2.2 e9
      refine lv_aload_n hx hb dX7_word_74 rfl (lv_at hl 0 rfl) ?_
      refine lv_aload_n hx hb dX7_word_75 rfl (lv_at hl 0 rfl) ?_
      refine gfX7_namedSymbol hx hb hts hK hP hown (hts _ tw_496) (x := σ.1 38) rfl dX7_word_76 ?_
      obtain ⟨Q14, hc, hw⟩ := hw
      refine wc_I (X := CX g q lb) (va_runV (As := [.int (I (σ.1 38))]) (rest := []) ⟨hx, hb, hml, hown, hts⟩ (L_X7_takeSymbol l g q lb hlb (hB.1 38) hN hc H.size) (cwV 1 hts (TB_V tw_1187 tw_1189 ts_29 tw_7 co_X7_takeSymbol) rfl rfl rfl (by decide +kernel) ⟨Nat.le_of_ble_eq_true rfl, Nat.le_of_ble_eq_true rfl⟩) (preV (q0 := 6) (ci := 7) rfl xT_bl hP hK hNb hD rfl rfl xT_at) rfl rfl hl.1 rfl (lv_room (Nat.le_of_ble_eq_true rfl)) dX7_word_79 ⟨Nat.le_of_ble_eq_true rfl, Nat.le_of_ble_eq_true rfl⟩) hP hD hS hA (fun x15 τ16 H locs r_x15 hN hf hq hP hD hS => ?_)
      replace hw := hw x15 τ16 r_x15 hN hf hq
      have hF : f_r [3, 4, 5, 6, 8, 10, 35, 36] [2, 3, 4, 5, 6, 7, 8, 9, 10, 11, 12, 14, 15, 16, 18, 20, 23, 24, 54] [0] σ τ16 := f_t hF hf (by decide) (by decide) (by decide)
      have hB := hN
      exact xri hx hb hr hlk hP hK hD hS ⟨_, _, r_x15, rfl, hN, hF, rfl, hw⟩ (Nat.le_of_ble_eq_true rfl) (Nat.le_of_ble_eq_true rfl) dX7_word_82
def W_X10_begin (n1 : Int) (σ : S0) (Q : S0 → Prop) : Prop :=
  Q (s_v (s_v (s_v (s_v (s_v (s_v (s_v (s_v σ 24 n1) 25 0) 21 0) 22 0) 23 0) 26 0) 27 0) 28 0)
set_option maxRecDepth 100000 in
set_option maxHeartbeats 4000000 in
theorem L_X10_begin (l : Launch) (g : gG) (q : Nat → Nat) (lb : Nat) (hlb : lb < 2 ^ 31) {n1 : Int} {σ : S0} {Q : S0 → Prop} (r_n1 : rg n1) (hN : n_m σ) (hw : W_X10_begin n1 σ Q) (sz : Nat) : MetV l yX10_begin cX10_begin 2 { frames := 0, cells := 0, slots := 0, locals := 0 } g [.ref (q 5), .int (I n1)] (CX g q lb σ) sz xT (p_V (CX g q lb) [21, 22, 23, 24, 25, 26, 27, 28] [] [] σ Q) 0 0 := by
  refine mkMet (Qc := fun A => QV g A (p_V (CX g q lb) [21, 22, 23, 24, 25, 26, 27, 28] [] [] σ Q)) (by decide) (Nat.le_of_ble_eq_true rfl) ?_
  intro p e s m below meth c A H ls hx hb hr hml hown hts hlk hnm hsz hP hK hNb hD hA hAe hS hX hl
  have hl : lv_has ls 2 [(0, .ref (q 5)), (1, .int (I n1))] := hl
  have hB := hN
  have hF : f_r [21, 22, 23, 24, 25, 26, 27, 28] [] [] σ σ := f_0
  obtain ⟨locs, hlocs⟩ : ∃ z : List Loc, z = [] := ⟨_, rfl⟩
  rw [← hlocs] at hS ⊢
  refine lv_aload_n hx hb dX10_begin_0 rfl (lv_at hl 0 rfl) ?_
  refine lv_iload_n hx hb dX10_begin_1 rfl (lv_at hl 1 rfl) ?_
  refine pfX10_theorem hx hb hts hK hP hD hS hown (hts _ tw_424) dX10_begin_2 (fun H locs hP hD hS => ?_)
  have hN : n_m (s_v σ 24 n1) := n_v (i := 24) hN (r_n1 : rg n1)
  have hF : f_r [21, 22, 23, 24, 25, 26, 27, 28] [] [] σ (s_v σ 24 n1) := f_v hF (by decide)
  refine lv_aload_n hx hb dX10_begin_5 rfl (lv_at hl 0 rfl) ?_
  refine lv_iconst (v := I 0) hx hb dX10_begin_6 rfl ?_
  refine pfX10_form hx hb hts hK hP hD hS hown (hts _ tw_425) dX10_begin_7 (fun H locs hP hD hS => ?_)
  have hN : n_m (s_v (s_v σ 24 n1) 25 0) := n_v (i := 25) hN ((by decide) : rg 0)
  have hF : f_r [21, 22, 23, 24, 25, 26, 27, 28] [] [] σ (s_v (s_v σ 24 n1) 25 0) := f_v hF (by decide)
  refine lv_aload_n hx hb dX10_begin_10 rfl (lv_at hl 0 rfl) ?_
  refine lv_iconst (v := I 0) hx hb dX10_begin_11 rfl ?_
  refine pfX10_count hx hb hts hK hP hD hS hown (hts _ tw_420) dX10_begin_12 (fun H locs hP hD hS => ?_)
  have hN : n_m (s_v (s_v (s_v σ 24 n1) 25 0) 21 0) := n_v (i := 21) hN ((by decide) : rg 0)
  have hF : f_r [21, 22, 23, 24, 25, 26, 27, 28] [] [] σ (s_v (s_v (s_v σ 24 n1) 25 0) 21 0) := f_v hF (by decide)
  refine lv_aload_n hx hb dX10_begin_15 rfl (lv_at hl 0 rfl) ?_
  refine lv_iconst (v := I 0) hx hb dX10_begin_16 rfl ?_
  refine pfX10_listedCount hx hb hts hK hP hD hS hown (hts _ tw_422) dX10_begin_17 (fun H locs hP hD hS => ?_)
  have hN : n_m (s_v (s_v (s_v (s_v σ 24 n1) 25 0) 21 0) 22 0) := n_v (i := 22) hN ((by decide) : rg 0)
  have hF : f_r [21, 22, 23, 24, 25, 26, 27, 28] [] [] σ (s_v (s_v (s_v (s_v σ 24 n1) 25 0) 21 0) 22 0) := f_v hF (by decide)
  refine lv_aload_n hx hb dX10_begin_20 rfl (lv_at hl 0 rfl) ?_
  refine lv_iconst (v := I 0) hx hb dX10_begin_21 rfl ?_
  refine pfX10_savedCount hx hb hts hK hP hD hS hown (hts _ tw_423) dX10_begin_22 (fun H locs hP hD hS => ?_)
  have hN : n_m (s_v (s_v (s_v (s_v (s_v σ 24 n1) 25 0) 21 0) 22 0) 23 0) := n_v (i := 23) hN ((by decide) : rg 0)
  have hF : f_r [21, 22, 23, 24, 25, 26, 27, 28] [] [] σ (s_v (s_v (s_v (s_v (s_v σ 24 n1) 25 0) 21 0) 22 0) 23 0) := f_v hF (by decide)
  refine lv_aload_n hx hb dX10_begin_25 rfl (lv_at hl 0 rfl) ?_
  refine lv_iconst (v := I 0) hx hb dX10_begin_26 rfl ?_
  refine pfX10_number hx hb hts hK hP hD hS hown (hts _ tw_426) dX10_begin_27 (fun H locs hP hD hS => ?_)
  have hN : n_m (s_v (s_v (s_v (s_v (s_v (s_v σ 24 n1) 25 0) 21 0) 22 0) 23 0) 26 0) := n_v (i := 26) hN ((by decide) : rg 0)
  have hF : f_r [21, 22, 23, 24, 25, 26, 27, 28] [] [] σ (s_v (s_v (s_v (s_v (s_v (s_v σ 24 n1) 25 0) 21 0) 22 0) 23 0) 26 0) := f_v hF (by decide)
  refine lv_aload_n hx hb dX10_begin_30 rfl (lv_at hl 0 rfl) ?_
  refine lv_iconst (v := I 0) hx hb dX10_begin_31 rfl ?_
  refine pfX10_afterAssertion hx hb hts hK hP hD hS hown (hts _ tw_427) (by decide)  dX10_begin_32 (fun H locs hP hD hS => ?_)
  have hN : n_m (s_v (s_v (s_v (s_v (s_v (s_v (s_v σ 24 n1) 25 0) 21 0) 22 0) 23 0) 26 0) 27 0) := n_v (i := 27) hN ((by decide) : rg 0)
  have hF : f_r [21, 22, 23, 24, 25, 26, 27, 28] [] [] σ (s_v (s_v (s_v (s_v (s_v (s_v (s_v σ 24 n1) 25 0) 21 0) 22 0) 23 0) 26 0) 27 0) := f_v hF (by decide)
  refine lv_aload_n hx hb dX10_begin_35 rfl (lv_at hl 0 rfl) ?_
  refine lv_iconst (v := I 0) hx hb dX10_begin_36 rfl ?_
  refine pfX10_open hx hb hts hK hP hD hS hown (hts _ tw_428) (by decide)  dX10_begin_37 (fun H locs hP hD hS => ?_)
  have hN : n_m (s_v (s_v (s_v (s_v (s_v (s_v (s_v (s_v σ 24 n1) 25 0) 21 0) 22 0) 23 0) 26 0) 27 0) 28 0) := n_v (i := 28) hN ((by decide) : rg 0)
  have hF : f_r [21, 22, 23, 24, 25, 26, 27, 28] [] [] σ (s_v (s_v (s_v (s_v (s_v (s_v (s_v (s_v σ 24 n1) 25 0) 21 0) 22 0) 23 0) 26 0) 27 0) 28 0) := f_v hF (by decide)
  exact xrv hx hb hr hlk hP hK hD hS ⟨_, hN, hF, rfl, hw⟩ (Nat.le_of_ble_eq_true rfl) (Nat.le_of_ble_eq_true rfl) dX10_begin_40
def W_X7_proof (σ : S0) (Q : Int → S0 → Prop) : Prop :=
  (¬ σ.1 35 = 5 → Q 4 σ) ∧ (σ.1 35 = 5 → (¬ σ.1 37 = 3 → Q 4 σ) ∧ (σ.1 37 = 3 → (¬ σ.1 36 = 0 → ∃ (Q4 : Int → S0 → Prop), W_X0_makeFrame (σ.1 7) σ Q4 ∧ ∀ (x5 : Int) (τ6 : S0), rg x5 → n_m τ6 → f_r [12, 13, 14] [26, 27, 28, 29, 30, 31, 32] [2] σ τ6 → Q4 x5 τ6 → ((¬ x5 = 0 → ∃ (Q8 : S0 → Prop), W_X10_begin (τ6.1 7) (s_v τ6 35 6) Q8 ∧ ∀ (τ10 : S0), n_m τ10 → f_r [21, 22, 23, 24, 25, 26, 27, 28] [] [] (s_v τ6 35 6) τ10 → Q8 τ10 → (Q 0 τ10)) ∧ (x5 = 0 → Q 5 τ6))) ∧ (σ.1 36 = 0 → Q 4 σ)))
set_option maxRecDepth 100000 in
set_option maxHeartbeats 4000000 in
theorem L_X7_proof (l : Launch) (g : gG) (q : Nat → Nat) (lb : Nat) (hlb : lb < 2 ^ 31) {σ : S0} {Q : Int → S0 → Prop} (hN : n_m σ) (hw : W_X7_proof σ Q) (sz : Nat) : MetI l yX7_proof cX7_proof 1 (some .int) { frames := 3, cells := 0, slots := 0, locals := 67 } g [.ref (q 6)] (CX g q lb σ) sz xT (p_I (CX g q lb) [12, 13, 14, 21, 22, 23, 24, 25, 26, 27, 28, 35] [26, 27, 28, 29, 30, 31, 32] [2] σ Q) 0 0 := by
  refine mkMet (Qc := fun A => QI g A (p_I (CX g q lb) [12, 13, 14, 21, 22, 23, 24, 25, 26, 27, 28, 35] [26, 27, 28, 29, 30, 31, 32] [2] σ Q)) (by decide) (Nat.le_of_ble_eq_true rfl) ?_
  intro p e s m below meth c A H ls hx hb hr hml hown hts hlk hnm hsz hP hK hNb hD hA hAe hS hX hl
  have hl : lv_has ls 1 [(0, .ref (q 6))] := hl
  have hB := hN
  have hF : f_r [12, 13, 14, 21, 22, 23, 24, 25, 26, 27, 28, 35] [26, 27, 28, 29, 30, 31, 32] [2] σ σ := f_0
  obtain ⟨locs, hlocs⟩ : ∃ z : List Loc, z = [] := ⟨_, rfl⟩
  rw [← hlocs] at hS ⊢
  refine lv_aload_n hx hb dX7_proof_0 rfl (lv_at hl 0 rfl) ?_
  refine gfX7_state hx hb hts hK hP hown (hts _ tw_493) (x := σ.1 35) rfl dX7_proof_1 ?_
  refine lv_iconst (v := I 5) hx hb dX7_proof_4 rfl ?_
  refine bi_icmp_ne (tgt := 23) hx hb (hB.1 35) (by decide) dX7_proof_5 (by decide) (fun c1 => ?_) (fun c1 => ?_)
  ·
    replace hw := hw.1 c1
    refine lv_iconst (v := I 4) hx hb dX7_proof_23 rfl ?_
    exact xri hx hb hr hlk hP hK hD hS ⟨_, _, (by decide), rfl, hN, hF, rfl, hw⟩ (Nat.le_of_ble_eq_true rfl) (Nat.le_of_ble_eq_true rfl) dX7_proof_24
  ·
    replace hw := hw.2 c1
    refine lv_aload_n hx hb dX7_proof_8 rfl (lv_at hl 0 rfl) ?_
    refine gfX7_kind hx hb hts hK hP hown (hts _ tw_495) (x := σ.1 37) rfl dX7_proof_9 ?_
    refine lv_iconst (v := I 3) hx hb dX7_proof_12 rfl ?_
    refine bi_icmp_ne (tgt := 23) hx hb (hB.1 37) (by decide) dX7_proof_13 (by decide) (fun c2 => ?_) (fun c2 => ?_)
    ·
      replace hw := hw.1 c2
      refine lv_iconst (v := I 4) hx hb dX7_proof_23 rfl ?_
      exact xri hx hb hr hlk hP hK hD hS ⟨_, _, (by decide), rfl, hN, hF, rfl, hw⟩ (Nat.le_of_ble_eq_true rfl) (Nat.le_of_ble_eq_true rfl) dX7_proof_24
    ·
      replace hw := hw.2 c2
      refine lv_aload_n hx hb dX7_proof_16 rfl (lv_at hl 0 rfl) ?_
      refine gfX7_items hx hb hts hK hP hown (hts _ tw_494) (x := σ.1 36) rfl dX7_proof_17 ?_
      refine bi_if_ne (tgt := 25) hx hb (hB.1 36) dX7_proof_20 (by decide) (fun c3 => ?_) (fun c3 => ?_)
      ·
        replace hw := hw.1 c3
        refine lv_aload_n hx hb dX7_proof_25 rfl (lv_at hl 0 rfl) ?_
        refine gfX7_assertions hx hb hts hK hP hown (hts _ tw_485) dX7_proof_26 ?_
        refine lv_aload_n hx hb dX7_proof_29 rfl (lv_at hl 0 rfl) ?_
        refine gfX7_library hx hb hts hK hP hown (hts _ tw_484) dX7_proof_30 ?_
        refine gfNX3_statements hx hb hts hK hP hown (nb_use hNb tn_107) (x := σ.1 7) rfl dX7_proof_33 ?_
        obtain ⟨Q4, hc, hw⟩ := hw
        refine wc_I (X := CX g q lb) (va_runV (As := [.int (I (σ.1 7))]) (rest := []) ⟨hx, hb, hml, hown, hts⟩ (L_X0_makeFrame l g q lb hlb (hB.1 7) hN hc H.size) (cwV 1 hts (TB_V tw_1005 tw_1006 tw_1007 tw_5 co_X0_makeFrame) rfl rfl rfl (by decide +kernel) ⟨Nat.le_of_ble_eq_true rfl, Nat.le_of_ble_eq_true rfl⟩) (preV (q0 := 3) (ci := 0) rfl xT_bl hP hK hNb hD rfl rfl xT_at) rfl rfl hl.1 rfl (lv_room (Nat.le_of_ble_eq_true rfl)) dX7_proof_36 ⟨Nat.le_of_ble_eq_true rfl, Nat.le_of_ble_eq_true rfl⟩) hP hD hS hA (fun x5 τ6 H locs r_x5 hN hf hq hP hD hS => ?_)
        replace hw := hw x5 τ6 r_x5 hN hf hq
        have hF : f_r [12, 13, 14, 21, 22, 23, 24, 25, 26, 27, 28, 35] [26, 27, 28, 29, 30, 31, 32] [2] σ τ6 := f_t hF hf (by decide) (by decide) (by decide)
        have hB := hN
        refine bi_if_ne (tgt := 44) hx hb r_x5 dX7_proof_39 (by decide) (fun c7 => ?_) (fun c7 => ?_)
        ·
          replace hw := hw.1 c7
          refine lv_aload_n hx hb dX7_proof_44 rfl (lv_at hl 0 rfl) ?_
          refine lv_bipush (v := I 6) hx hb dX7_proof_45 (by decide) ?_
          refine pfX7_state hx hb hts hK hP hD hS hown (hts _ tw_493) dX7_proof_47 (fun H locs hP hD hS => ?_)
          have hN : n_m (s_v τ6 35 6) := n_v (i := 35) hN ((by decide) : rg 6)
          have hF : f_r [12, 13, 14, 21, 22, 23, 24, 25, 26, 27, 28, 35] [26, 27, 28, 29, 30, 31, 32] [2] σ (s_v τ6 35 6) := f_v hF (by decide)
          refine lv_aload_n hx hb dX7_proof_50 rfl (lv_at hl 0 rfl) ?_
          refine gfX7_steps hx hb hts hK hP hown (hts _ tw_487) dX7_proof_51 ?_
          refine lv_aload_n hx hb dX7_proof_54 rfl (lv_at hl 0 rfl) ?_
          refine gfX7_library hx hb hts hK hP hown (hts _ tw_484) dX7_proof_55 ?_
          refine gfNX3_statements hx hb hts hK hP hown (nb_use hNb tn_107) (x := τ6.1 7) rfl dX7_proof_58 ?_
          obtain ⟨Q8, hc, hw⟩ := hw
          refine wc_V (X := CX g q lb) (va_runV (As := [.int (I (τ6.1 7))]) (rest := []) ⟨hx, hb, hml, hown, hts⟩ (L_X10_begin l g q lb hlb (hB.1 7) hN hc H.size) (cwV 1 hts (TB_V tw_1071 tw_1072 tw_1073 tw_8 co_X10_begin) rfl rfl rfl (by decide +kernel) ⟨Nat.le_of_ble_eq_true rfl, Nat.le_of_ble_eq_true rfl⟩) (preV (q0 := 5) (ci := 10) rfl xT_bl hP hK hNb hD rfl rfl xT_at) rfl rfl hl.1 rfl (lv_room (Nat.le_of_ble_eq_true rfl)) dX7_proof_61 ⟨Nat.le_of_ble_eq_true rfl, Nat.le_of_ble_eq_true rfl⟩) hP hD hS hA (fun τ10 H locs hN hf hq hP hD hS => ?_)
          replace hw := hw τ10 hN hf hq
          have hF : f_r [12, 13, 14, 21, 22, 23, 24, 25, 26, 27, 28, 35] [26, 27, 28, 29, 30, 31, 32] [2] σ τ10 := f_t hF hf (by decide) (by decide) (by decide)
          have hB := hN
          refine lv_iconst (v := I 0) hx hb dX7_proof_64 rfl ?_
          exact xri hx hb hr hlk hP hK hD hS ⟨_, _, (by decide), rfl, hN, hF, rfl, hw⟩ (Nat.le_of_ble_eq_true rfl) (Nat.le_of_ble_eq_true rfl) dX7_proof_65
        ·
          replace hw := hw.2 c7
          refine lv_iconst (v := I 5) hx hb dX7_proof_42 rfl ?_
          exact xri hx hb hr hlk hP hK hD hS ⟨_, _, (by decide), rfl, hN, hF, rfl, hw⟩ (Nat.le_of_ble_eq_true rfl) (Nat.le_of_ble_eq_true rfl) dX7_proof_43
      ·
        replace hw := hw.2 c3
        refine lv_iconst (v := I 4) hx hb dX7_proof_23 rfl ?_
        exact xri hx hb hr hlk hP hK hD hS ⟨_, _, (by decide), rfl, hN, hF, rfl, hw⟩ (Nat.le_of_ble_eq_true rfl) (Nat.le_of_ble_eq_true rfl) dX7_proof_24
def W_X9_mark (σ : S0) (Q : S0 → Prop) : Prop :=
  (0 ≤ (3 * σ.1 11) ∧ (3 * σ.1 11) < 153) ∧ ((0 ≤ ((3 * σ.1 11) + 1) ∧ ((3 * σ.1 11) + 1) < 153) ∧ ((0 ≤ ((3 * σ.1 11) + 2) ∧ ((3 * σ.1 11) + 2) < 153) ∧ (Q (s_a (s_a (s_a σ 25 (3 * σ.1 11) (σ.1 8)) 25 ((3 * σ.1 11) + 1) (σ.1 9)) 25 ((3 * σ.1 11) + 2) (σ.1 10)))))
set_option maxRecDepth 100000 in
set_option maxHeartbeats 4000000 in
theorem L_X9_mark (l : Launch) (g : gG) (q : Nat → Nat) (lb : Nat) (hlb : lb < 2 ^ 31) {σ : S0} {Q : S0 → Prop} (hN : n_m σ) (hw : W_X9_mark σ Q) (sz : Nat) : MetV l yX9_mark cX9_mark 1 { frames := 0, cells := 0, slots := 0, locals := 0 } g [.ref (q 2)] (CX g q lb σ) sz xT (p_V (CX g q lb) [] [25] [] σ Q) 0 0 := by
  refine mkMet (Qc := fun A => QV g A (p_V (CX g q lb) [] [25] [] σ Q)) (by decide) (Nat.le_of_ble_eq_true rfl) ?_
  intro p e s m below meth c A H ls hx hb hr hml hown hts hlk hnm hsz hP hK hNb hD hA hAe hS hX hl
  have hl : lv_has ls 1 [(0, .ref (q 2))] := hl
  have hB := hN
  have hF : f_r [] [25] [] σ σ := f_0
  obtain ⟨locs, hlocs⟩ : ∃ z : List Loc, z = [] := ⟨_, rfl⟩
  rw [← hlocs] at hS ⊢
  refine lv_aload_n hx hb dX9_mark_0 rfl (lv_at hl 0 rfl) ?_
  refine gfX9_marks hx hb hts hK hP hown (hts _ tw_185) dX9_mark_1 ?_
  refine lv_iconst (v := I 3) hx hb dX9_mark_4 rfl ?_
  refine lv_aload_n hx hb dX9_mark_5 rfl (lv_at hl 0 rfl) ?_
  refine gfX9_depth hx hb hts hK hP hown (hts _ tw_186) (x := σ.1 11) rfl dX9_mark_6 ?_
  refine bi_imul hx hb dX9_mark_9 ?_
  refine lv_aload_n hx hb dX9_mark_10 rfl (lv_at hl 0 rfl) ?_
  refine gfX9_variableCount hx hb hts hK hP hown (hts _ tw_170) (x := σ.1 8) rfl dX9_mark_11 ?_
  obtain ⟨c1, hw⟩ := hw
  refine sdCX9_marks hx hb hK hP hD hS c1 dX9_mark_14 (fun H locs hP hD hS => ?_)
  have hN : n_m (s_a σ 25 (3 * σ.1 11) (σ.1 8)) := n_a (k := 25) (j := (3 * σ.1 11)) hN ((hB.1 8) : rg (σ.1 8))
  have hF : f_r [] [25] [] σ (s_a σ 25 (3 * σ.1 11) (σ.1 8)) := f_a hF (by decide)
  refine lv_aload_n hx hb dX9_mark_15 rfl (lv_at hl 0 rfl) ?_
  refine gfX9_marks hx hb hts hK hP hown (hts _ tw_185) dX9_mark_16 ?_
  refine lv_iconst (v := I 3) hx hb dX9_mark_19 rfl ?_
  refine lv_aload_n hx hb dX9_mark_20 rfl (lv_at hl 0 rfl) ?_
  refine gfX9_depth hx hb hts hK hP hown (hts _ tw_186) (x := σ.1 11) rfl dX9_mark_21 ?_
  refine bi_imul hx hb dX9_mark_24 ?_
  refine lv_iconst (v := I 1) hx hb dX9_mark_25 rfl ?_
  refine bi_iadd hx hb dX9_mark_26 ?_
  refine lv_aload_n hx hb dX9_mark_27 rfl (lv_at hl 0 rfl) ?_
  refine gfX9_hypothesisCount hx hb hts hK hP hown (hts _ tw_176) (x := σ.1 9) rfl dX9_mark_28 ?_
  obtain ⟨c2, hw⟩ := hw
  refine sdCX9_marks hx hb hK hP hD hS c2 dX9_mark_31 (fun H locs hP hD hS => ?_)
  have hN : n_m (s_a (s_a σ 25 (3 * σ.1 11) (σ.1 8)) 25 ((3 * σ.1 11) + 1) (σ.1 9)) := n_a (k := 25) (j := ((3 * σ.1 11) + 1)) hN ((hB.1 9) : rg (σ.1 9))
  have hF : f_r [] [25] [] σ (s_a (s_a σ 25 (3 * σ.1 11) (σ.1 8)) 25 ((3 * σ.1 11) + 1) (σ.1 9)) := f_a hF (by decide)
  refine lv_aload_n hx hb dX9_mark_32 rfl (lv_at hl 0 rfl) ?_
  refine gfX9_marks hx hb hts hK hP hown (hts _ tw_185) dX9_mark_33 ?_
  refine lv_iconst (v := I 3) hx hb dX9_mark_36 rfl ?_
  refine lv_aload_n hx hb dX9_mark_37 rfl (lv_at hl 0 rfl) ?_
  refine gfX9_depth hx hb hts hK hP hown (hts _ tw_186) (x := σ.1 11) rfl dX9_mark_38 ?_
  refine bi_imul hx hb dX9_mark_41 ?_
  refine lv_iconst (v := I 2) hx hb dX9_mark_42 rfl ?_
  refine bi_iadd hx hb dX9_mark_43 ?_
  refine lv_aload_n hx hb dX9_mark_44 rfl (lv_at hl 0 rfl) ?_
  refine gfX9_pairCount hx hb hts hK hP hown (hts _ tw_182) (x := σ.1 10) rfl dX9_mark_45 ?_
  obtain ⟨c3, hw⟩ := hw
  refine sdCX9_marks hx hb hK hP hD hS c3 dX9_mark_48 (fun H locs hP hD hS => ?_)
  have hN : n_m (s_a (s_a (s_a σ 25 (3 * σ.1 11) (σ.1 8)) 25 ((3 * σ.1 11) + 1) (σ.1 9)) 25 ((3 * σ.1 11) + 2) (σ.1 10)) := n_a (k := 25) (j := ((3 * σ.1 11) + 2)) hN ((hB.1 10) : rg (σ.1 10))
  have hF : f_r [] [25] [] σ (s_a (s_a (s_a σ 25 (3 * σ.1 11) (σ.1 8)) 25 ((3 * σ.1 11) + 1) (σ.1 9)) 25 ((3 * σ.1 11) + 2) (σ.1 10)) := f_a hF (by decide)
  exact xrv hx hb hr hlk hP hK hD hS ⟨_, hN, hF, rfl, hw⟩ (Nat.le_of_ble_eq_true rfl) (Nat.le_of_ble_eq_true rfl) dX9_mark_49
def W_X9_open (σ : S0) (Q : S0 → Prop) : Prop :=
  rg (σ.1 11 + 1) ∧ ∃ (Q2 : S0 → Prop), W_X9_mark (s_v σ 11 (σ.1 11 + 1)) Q2 ∧ ∀ (τ4 : S0), n_m τ4 → f_r [] [25] [] (s_v σ 11 (σ.1 11 + 1)) τ4 → Q2 τ4 → (Q τ4)
set_option maxRecDepth 100000 in
set_option maxHeartbeats 4000000 in
theorem L_X9_open (l : Launch) (g : gG) (q : Nat → Nat) (lb : Nat) (hlb : lb < 2 ^ 31) {σ : S0} {Q : S0 → Prop} (hN : n_m σ) (hw : W_X9_open σ Q) (sz : Nat) : MetV l yX9_open cX9_open 1 { frames := 1, cells := 0, slots := 0, locals := 20 } g [.ref (q 2)] (CX g q lb σ) sz xT (p_V (CX g q lb) [11] [25] [] σ Q) 0 0 := by
  refine mkMet (Qc := fun A => QV g A (p_V (CX g q lb) [11] [25] [] σ Q)) (by decide) (Nat.le_of_ble_eq_true rfl) ?_
  intro p e s m below meth c A H ls hx hb hr hml hown hts hlk hnm hsz hP hK hNb hD hA hAe hS hX hl
  have hl : lv_has ls 1 [(0, .ref (q 2))] := hl
  have hB := hN
  have hF : f_r [11] [25] [] σ σ := f_0
  obtain ⟨locs, hlocs⟩ : ∃ z : List Loc, z = [] := ⟨_, rfl⟩
  rw [← hlocs] at hS ⊢
  refine lv_aload_n hx hb dX9_open_0 rfl (lv_at hl 0 rfl) ?_
  refine lv_dup hx hb dX9_open_1 rfl ?_
  refine gfX9_depth hx hb hts hK hP hown (hts _ tw_186) (x := σ.1 11) rfl dX9_open_2 ?_
  refine lv_iconst (v := I 1) hx hb dX9_open_5 rfl ?_
  refine bi_iadd hx hb dX9_open_6 ?_
  obtain ⟨c1, hw⟩ := hw
  refine pfX9_depth hx hb hts hK hP hD hS hown (hts _ tw_186) dX9_open_7 (fun H locs hP hD hS => ?_)
  have hN : n_m (s_v σ 11 (σ.1 11 + 1)) := n_v (i := 11) hN (c1 : rg (σ.1 11 + 1))
  have hF : f_r [11] [25] [] σ (s_v σ 11 (σ.1 11 + 1)) := f_v hF (by decide)
  refine lv_aload_n hx hb dX9_open_10 rfl (lv_at hl 0 rfl) ?_
  obtain ⟨Q2, hc, hw⟩ := hw
  refine wc_V (X := CX g q lb) (va_runV (As := []) (rest := []) ⟨hx, hb, hml, hown, hts⟩ (L_X9_mark l g q lb hlb  hN hc H.size) (cwV 0 hts (TB_V tw_969 tw_971 ts_2 tw_3 co_X9_mark) rfl rfl rfl (by decide +kernel) ⟨Nat.le_of_ble_eq_true rfl, Nat.le_of_ble_eq_true rfl⟩) (preV (q0 := 2) (ci := 9) rfl xT_bl hP hK hNb hD rfl rfl xT_at) rfl rfl hl.1 rfl (lv_room (Nat.le_of_ble_eq_true rfl)) dX9_open_11 ⟨Nat.le_of_ble_eq_true rfl, Nat.le_of_ble_eq_true rfl⟩) hP hD hS hA (fun τ4 H locs hN hf hq hP hD hS => ?_)
  replace hw := hw τ4 hN hf hq
  have hF : f_r [11] [25] [] σ τ4 := f_t hF hf (by decide) (by decide) (by decide)
  have hB := hN
  exact xrv hx hb hr hlk hP hK hD hS ⟨_, hN, hF, rfl, hw⟩ (Nat.le_of_ble_eq_true rfl) (Nat.le_of_ble_eq_true rfl) dX9_open_14
def W_X7_openScope (σ : S0) (Q : Int → S0 → Prop) : Prop :=
  (σ.1 35 = 0 → (¬ σ.1 11 = 50 → ∃ (Q3 : S0 → Prop), W_X9_open σ Q3 ∧ ∀ (τ5 : S0), n_m τ5 → f_r [11] [25] [] σ τ5 → Q3 τ5 → (Q 0 τ5)) ∧ (σ.1 11 = 50 → Q 5 σ)) ∧ (¬ σ.1 35 = 0 → Q 4 σ)
set_option maxRecDepth 100000 in
set_option maxHeartbeats 4000000 in
theorem L_X7_openScope (l : Launch) (g : gG) (q : Nat → Nat) (lb : Nat) (hlb : lb < 2 ^ 31) {σ : S0} {Q : Int → S0 → Prop} (hN : n_m σ) (hw : W_X7_openScope σ Q) (sz : Nat) : MetI l yX7_openScope cX7_openScope 1 (some .int) { frames := 2, cells := 0, slots := 0, locals := 40 } g [.ref (q 6)] (CX g q lb σ) sz xT (p_I (CX g q lb) [11] [25] [] σ Q) 0 0 := by
  refine mkMet (Qc := fun A => QI g A (p_I (CX g q lb) [11] [25] [] σ Q)) (by decide) (Nat.le_of_ble_eq_true rfl) ?_
  intro p e s m below meth c A H ls hx hb hr hml hown hts hlk hnm hsz hP hK hNb hD hA hAe hS hX hl
  have hl : lv_has ls 1 [(0, .ref (q 6))] := hl
  have hB := hN
  have hF : f_r [11] [25] [] σ σ := f_0
  obtain ⟨locs, hlocs⟩ : ∃ z : List Loc, z = [] := ⟨_, rfl⟩
  rw [← hlocs] at hS ⊢
  refine lv_aload_n hx hb dX7_openScope_0 rfl (lv_at hl 0 rfl) ?_
  refine gfX7_state hx hb hts hK hP hown (hts _ tw_493) (x := σ.1 35) rfl dX7_openScope_1 ?_
  refine bi_if_eq (tgt := 9) hx hb (hB.1 35) dX7_openScope_4 (by decide) (fun c1 => ?_) (fun c1 => ?_)
  ·
    replace hw := hw.1 c1
    refine lv_aload_n hx hb dX7_openScope_9 rfl (lv_at hl 0 rfl) ?_
    refine gfX7_scopes hx hb hts hK hP hown (hts _ tw_486) dX7_openScope_10 ?_
    refine gfNX9_depth hx hb hts hK hP hown (nb_use hNb tn_187) (x := σ.1 11) rfl dX7_openScope_13 ?_
    refine lv_bipush (v := I 50) hx hb dX7_openScope_16 (by decide) ?_
    refine bi_icmp_ne (tgt := 23) hx hb (hB.1 11) (by decide) dX7_openScope_18 (by decide) (fun c2 => ?_) (fun c2 => ?_)
    ·
      replace hw := hw.1 c2
      refine lv_aload_n hx hb dX7_openScope_23 rfl (lv_at hl 0 rfl) ?_
      refine gfX7_scopes hx hb hts hK hP hown (hts _ tw_486) dX7_openScope_24 ?_
      obtain ⟨Q3, hc, hw⟩ := hw
      refine wc_V (X := CX g q lb) (va_runV (As := []) (rest := []) ⟨hx, hb, hml, hown, hts⟩ (L_X9_open l g q lb hlb  hN hc H.size) (cwV 0 hts (TB_V tw_1079 tw_1080 tw_1081 tw_3 co_X9_open) rfl rfl rfl (by decide +kernel) ⟨Nat.le_of_ble_eq_true rfl, Nat.le_of_ble_eq_true rfl⟩) (preV (q0 := 2) (ci := 9) rfl xT_bl hP hK hNb hD rfl rfl xT_at) rfl rfl hl.1 rfl (lv_room (Nat.le_of_ble_eq_true rfl)) dX7_openScope_27 ⟨Nat.le_of_ble_eq_true rfl, Nat.le_of_ble_eq_true rfl⟩) hP hD hS hA (fun τ5 H locs hN hf hq hP hD hS => ?_)
      replace hw := hw τ5 hN hf hq
      have hF : f_r [11] [25] [] σ τ5 := f_t hF hf (by decide) (by decide) (by decide)
      have hB := hN
      refine lv_iconst (v := I 0) hx hb dX7_openScope_30 rfl ?_
      exact xri hx hb hr hlk hP hK hD hS ⟨_, _, (by decide), rfl, hN, hF, rfl, hw⟩ (Nat.le_of_ble_eq_true rfl) (Nat.le_of_ble_eq_true rfl) dX7_openScope_31
    ·
      replace hw := hw.2 c2
      refine lv_iconst (v := I 5) hx hb dX7_openScope_21 rfl ?_
      exact xri hx hb hr hlk hP hK hD hS ⟨_, _, (by decide), rfl, hN, hF, rfl, hw⟩ (Nat.le_of_ble_eq_true rfl) (Nat.le_of_ble_eq_true rfl) dX7_openScope_22
  ·
    replace hw := hw.2 c1
    refine lv_iconst (v := I 4) hx hb dX7_openScope_7 rfl ?_
    exact xri hx hb hr hlk hP hK hD hS ⟨_, _, (by decide), rfl, hN, hF, rfl, hw⟩ (Nat.le_of_ble_eq_true rfl) (Nat.le_of_ble_eq_true rfl) dX7_openScope_8
def W_X9_cut (σ : S0) (Q : S0 → Prop) : Prop :=
  ∀ (P14 : Int → S0 → Prop) (P75 : Int → S0 → Prop) (P166 : Int → S0 → Prop),
  (∀ (u1 : Int) (τ : S0), ((τ.1 10 ≤ u1 → (0 ≤ ((3 * τ.1 11) + 2) ∧ ((3 * τ.1 11) + 2) < 153) ∧ (∀ (x5 : Int), rg x5 → x5 = τ.2.1 25 ((3 * τ.1 11) + 2) → ((0 ≤ ((3 * τ.1 11) + 1) ∧ ((3 * τ.1 11) + 1) < 153) ∧ (∀ (x7 : Int), rg x7 → x7 = τ.2.1 25 ((3 * τ.1 11) + 1) → (P75 x7 (s_v τ 10 x5)))))) ∧ (u1 < τ.1 10 → (0 ≤ u1 ∧ u1 < 1000) ∧ (∀ (x9 : Int), rg x9 → x9 = τ.2.1 23 u1 → (∀ (x10 : Int), rg x10 → x10 = τ.2.1 24 u1 → (∃ (Q11 : S0 → Prop), W_X9_turnPair x9 x10 τ Q11 ∧ ∀ (τ13 : S0), n_m τ13 → f_r [] [] [0] τ τ13 → Q11 τ13 → (rg (u1 + 1) ∧ P14 (u1 + 1) τ13)))))) → P14 u1 τ) →
  (∀ (u1 : Int) (τ : S0), ((τ.1 9 ≤ u1 → (0 ≤ ((3 * τ.1 11) + 1) ∧ ((3 * τ.1 11) + 1) < 153) ∧ (∀ (x17 : Int), rg x17 → x17 = τ.2.1 25 ((3 * τ.1 11) + 1) → ((0 ≤ (3 * τ.1 11) ∧ (3 * τ.1 11) < 153) ∧ (∀ (x19 : Int), rg x19 → x19 = τ.2.1 25 (3 * τ.1 11) → (P166 x19 (s_v τ 9 x17)))))) ∧ (u1 < τ.1 9 → (0 ≤ u1 ∧ u1 < 1500) ∧ (∀ (x21 : Int), rg x21 → x21 = τ.2.1 22 u1 → ((0 ≤ x21 ∧ x21 < 1500) ∧ (∀ (x23 : Int), rg x23 → x23 = τ.2.1 22 u1 → ((0 ≤ x23 ∧ x23 < 1500) ∧ (∀ (x25 : Int), rg x25 → x25 = τ.2.1 13 x23 → ((¬ x25 = 0 → rg (u1 + 1) ∧ P75 (u1 + 1) (s_a τ 21 x21 0)) ∧ (x25 = 0 → ∀ (x28 : Int), rg x28 → x28 = τ.2.1 22 u1 → (∃ (Q29 : Int → Prop), W_X3_variableOf x28 (s_a τ 21 x21 0) Q29 ∧ ∀ (x30 : Int), rg x30 → Q29 x30 → ((0 ≤ x30 ∧ x30 < 1000) ∧ (rg (u1 + 1) ∧ P75 (u1 + 1) (s_a (s_a τ 21 x21 0) 19 x30 (-1)))))))))))))) → P75 u1 τ) →
  (∀ (u1 : Int) (τ : S0), ((τ.1 8 ≤ u1 → (0 ≤ (3 * τ.1 11) ∧ (3 * τ.1 11) < 153) ∧ (∀ (x36 : Int), rg x36 → x36 = τ.2.1 25 (3 * τ.1 11) → (Q (s_v τ 8 x36)))) ∧ (u1 < τ.1 8 → (0 ≤ u1 ∧ u1 < 1000) ∧ (∀ (x38 : Int), rg x38 → x38 = τ.2.1 20 u1 → ((0 ≤ x38 ∧ x38 < 1000) ∧ (rg (u1 + 1) ∧ P166 (u1 + 1) (s_a τ 18 x38 0)))))) → P166 u1 τ) →
  (0 ≤ ((3 * σ.1 11) + 2) ∧ ((3 * σ.1 11) + 2) < 153) ∧ (∀ (x2 : Int), rg x2 → x2 = σ.2.1 25 ((3 * σ.1 11) + 2) → (P14 x2 σ))
set_option maxRecDepth 100000 in
set_option maxHeartbeats 4000000 in
theorem L_X9_cut (l : Launch) (g : gG) (q : Nat → Nat) (lb : Nat) (hlb : lb < 2 ^ 31) {σ : S0} {Q : S0 → Prop} (hN : n_m σ) (hw : W_X9_cut σ Q) (sz : Nat) : MetV l yX9_cut cX9_cut 2 { frames := 1, cells := 0, slots := 0, locals := 22 } g [.ref (q 2)] (CX g q lb σ) sz xT (p_V (CX g q lb) [8, 9, 10] [18, 19, 21] [0] σ Q) 0 0 := by
  refine mkMet (Qc := fun A => QV g A (p_V (CX g q lb) [8, 9, 10] [18, 19, 21] [0] σ Q)) (by decide) (Nat.le_of_ble_eq_true rfl) ?_
  intro p e s m below meth c A H ls hx hb hr hml hown hts hlk hnm hsz hP hK hNb hD hA hAe hS hX hl
  have hl : lv_has ls 2 [(0, .ref (q 2))] := hl
  have hB := hN
  have hF : f_r [8, 9, 10] [18, 19, 21] [0] σ σ := f_0
  obtain ⟨locs, hlocs⟩ : ∃ z : List Loc, z = [] := ⟨_, rfl⟩
  rw [← hlocs] at hS ⊢
  obtain ⟨P14, hP14⟩ : ∃ P : Int → S0 → Prop, ∀ (u1 : Int) (τ : S0), (P u1 τ ↔ (rg u1 → n_m τ → f_r [8, 9, 10] [18, 19, 21] [0] σ τ → ∀ (H : Heap) (locs : List Loc) (ls : Array Slot), KP g (CX g q lb τ) H → va_D A (CX g q lb τ) → va_S A s.heap H locs → lv_has ls 2 [(0, .ref (q 2)), (1, .int (I u1))] → W p l e ({ frames := 1, cells := 0, slots := 0, locals := 22 }) s m [.ref (q 2)].toArray below meth c H locs 0 0 (MQ below (QV g A (p_V (CX g q lb) [8, 9, 10] [18, 19, 21] [0] σ Q)) [.ref (q 2)].toArray s 0 0 A) (F0 m 14 ls []))) := ⟨_, fun _ _ => Iff.rfl⟩
  obtain ⟨P75, hP75⟩ : ∃ P : Int → S0 → Prop, ∀ (u1 : Int) (τ : S0), (P u1 τ ↔ (rg u1 → n_m τ → f_r [8, 9, 10] [18, 19, 21] [0] σ τ → ∀ (H : Heap) (locs : List Loc) (ls : Array Slot), KP g (CX g q lb τ) H → va_D A (CX g q lb τ) → va_S A s.heap H locs → lv_has ls 2 [(0, .ref (q 2)), (1, .int (I u1))] → W p l e ({ frames := 1, cells := 0, slots := 0, locals := 22 }) s m [.ref (q 2)].toArray below meth c H locs 0 0 (MQ below (QV g A (p_V (CX g q lb) [8, 9, 10] [18, 19, 21] [0] σ Q)) [.ref (q 2)].toArray s 0 0 A) (F0 m 75 ls []))) := ⟨_, fun _ _ => Iff.rfl⟩
  obtain ⟨P166, hP166⟩ : ∃ P : Int → S0 → Prop, ∀ (u1 : Int) (τ : S0), (P u1 τ ↔ (rg u1 → n_m τ → f_r [8, 9, 10] [18, 19, 21] [0] σ τ → ∀ (H : Heap) (locs : List Loc) (ls : Array Slot), KP g (CX g q lb τ) H → va_D A (CX g q lb τ) → va_S A s.heap H locs → lv_has ls 2 [(0, .ref (q 2)), (1, .int (I u1))] → W p l e ({ frames := 1, cells := 0, slots := 0, locals := 22 }) s m [.ref (q 2)].toArray below meth c H locs 0 0 (MQ below (QV g A (p_V (CX g q lb) [8, 9, 10] [18, 19, 21] [0] σ Q)) [.ref (q 2)].toArray s 0 0 A) (F0 m 166 ls []))) := ⟨_, fun _ _ => Iff.rfl⟩
  refine (fun hw => ?_) (hw P14 P75 P166 ?_ ?_ ?_)
  ·
    refine lv_aload_n hx hb dX9_cut_0 rfl (lv_at hl 0 rfl) ?_
    refine gfX9_marks hx hb hts hK hP hown (hts _ tw_185) dX9_cut_1 ?_
    refine lv_iconst (v := I 3) hx hb dX9_cut_4 rfl ?_
    refine lv_aload_n hx hb dX9_cut_5 rfl (lv_at hl 0 rfl) ?_
    refine gfX9_depth hx hb hts hK hP hown (hts _ tw_186) (x := σ.1 11) rfl dX9_cut_6 ?_
    refine bi_imul hx hb dX9_cut_9 ?_
    refine lv_iconst (v := I 2) hx hb dX9_cut_10 rfl ?_
    refine bi_iadd hx hb dX9_cut_11 ?_
    obtain ⟨c1, hw⟩ := hw
    refine ldCX9_marks hx hb hK hP hN c1 dX9_cut_12 (fun x2 r_x2 e_x2 => ?_)
    replace hw := hw x2 r_x2 e_x2
    refine lv_istore_n (lv' := [(1, .int (I x2)), (0, .ref (q 2))]) hx hb dX9_cut_13 rfl hl (by decide) rfl (fun ls hl => ?_)
    exact (hP14 _ _).mp hw r_x2 hN hF H locs ls hP hD hS (lv_sub hl [1, 0] rfl)
  ·
    intro u1 τ hw
    refine (hP14 _ _).mpr ?_
    intro r_u1 hN hF H locs ls hP hD hS hl
    have hB := hN
    refine lv_iload_n hx hb dX9_cut_14 rfl (lv_at hl 1 rfl) ?_
    refine lv_aload_n hx hb dX9_cut_15 rfl (lv_at hl 0 rfl) ?_
    refine gfX9_pairCount hx hb hts hK hP hown (hts _ tw_182) (x := τ.1 10) rfl dX9_cut_16 ?_
    refine bi_icmp_ge (tgt := 44) hx hb r_u1 (hB.1 10) dX9_cut_19 (by decide) (fun c3 => ?_) (fun c3 => ?_)
    ·
      replace hw := hw.1 c3
      refine lv_aload_n hx hb dX9_cut_44 rfl (lv_at hl 0 rfl) ?_
      refine lv_aload_n hx hb dX9_cut_45 rfl (lv_at hl 0 rfl) ?_
      refine gfX9_marks hx hb hts hK hP hown (hts _ tw_185) dX9_cut_46 ?_
      refine lv_iconst (v := I 3) hx hb dX9_cut_49 rfl ?_
      refine lv_aload_n hx hb dX9_cut_50 rfl (lv_at hl 0 rfl) ?_
      refine gfX9_depth hx hb hts hK hP hown (hts _ tw_186) (x := τ.1 11) rfl dX9_cut_51 ?_
      refine bi_imul hx hb dX9_cut_54 ?_
      refine lv_iconst (v := I 2) hx hb dX9_cut_55 rfl ?_
      refine bi_iadd hx hb dX9_cut_56 ?_
      obtain ⟨c4, hw⟩ := hw
      refine ldCX9_marks hx hb hK hP hN c4 dX9_cut_57 (fun x5 r_x5 e_x5 => ?_)
      replace hw := hw x5 r_x5 e_x5
      refine pfX9_pairCount hx hb hts hK hP hD hS hown (hts _ tw_182) dX9_cut_58 (fun H locs hP hD hS => ?_)
      have hN : n_m (s_v τ 10 x5) := n_v (i := 10) hN (r_x5 : rg x5)
      have hF : f_r [8, 9, 10] [18, 19, 21] [0] σ (s_v τ 10 x5) := f_v hF (by decide)
      refine lv_aload_n hx hb dX9_cut_61 rfl (lv_at hl 0 rfl) ?_
      refine gfX9_marks hx hb hts hK hP hown (hts _ tw_185) dX9_cut_62 ?_
      refine lv_iconst (v := I 3) hx hb dX9_cut_65 rfl ?_
      refine lv_aload_n hx hb dX9_cut_66 rfl (lv_at hl 0 rfl) ?_
      refine gfX9_depth hx hb hts hK hP hown (hts _ tw_186) (x := τ.1 11) rfl dX9_cut_67 ?_
      refine bi_imul hx hb dX9_cut_70 ?_
      refine lv_iconst (v := I 1) hx hb dX9_cut_71 rfl ?_
      refine bi_iadd hx hb dX9_cut_72 ?_
      obtain ⟨c6, hw⟩ := hw
      refine ldCX9_marks hx hb hK hP hN c6 dX9_cut_73 (fun x7 r_x7 e_x7 => ?_)
      replace hw := hw x7 r_x7 e_x7
      refine lv_istore_n (lv' := [(1, .int (I x7)), (0, .ref (q 2))]) hx hb dX9_cut_74 rfl hl (by decide) rfl (fun ls hl => ?_)
      exact (hP75 _ _).mp hw r_x7 hN hF H locs ls hP hD hS (lv_sub hl [1, 0] rfl)
    ·
      replace hw := hw.2 c3
      refine lv_aload_n hx hb dX9_cut_22 rfl (lv_at hl 0 rfl) ?_
      refine lv_aload_n hx hb dX9_cut_23 rfl (lv_at hl 0 rfl) ?_
      refine gfX9_pairX hx hb hts hK hP hown (hts _ tw_177) dX9_cut_24 ?_
      refine lv_iload_n hx hb dX9_cut_27 rfl (lv_at hl 1 rfl) ?_
      obtain ⟨c8, hw⟩ := hw
      refine ldCX9_pairX hx hb hK hP hN c8 dX9_cut_28 (fun x9 r_x9 e_x9 => ?_)
      replace hw := hw x9 r_x9 e_x9
      refine lv_aload_n hx hb dX9_cut_29 rfl (lv_at hl 0 rfl) ?_
      refine gfX9_pairY hx hb hts hK hP hown (hts _ tw_179) dX9_cut_30 ?_
      refine lv_iload_n hx hb dX9_cut_33 rfl (lv_at hl 1 rfl) ?_
      refine ldCX9_pairY hx hb hK hP hN c8 dX9_cut_34 (fun x10 r_x10 e_x10 => ?_)
      replace hw := hw x10 r_x10 e_x10
      obtain ⟨Q11, hc, hw⟩ := hw
      refine wc_V (X := CX g q lb) (va_runV (As := [.int (I x9), .int (I x10)]) (rest := []) ⟨hx, hb, hml, hown, hts⟩ (L_X9_turnPair l g q lb hlb r_x9 r_x10 hN hc H.size) (cwV 2 hts (TB_V tw_1095 tw_1097 ts_19 tw_3 co_X9_turnPair) rfl rfl rfl (by decide +kernel) ⟨Nat.le_of_ble_eq_true rfl, Nat.le_of_ble_eq_true rfl⟩) (preV (q0 := 2) (ci := 9) rfl xT_bl hP hK hNb hD rfl rfl xT_at) rfl rfl hl.1 rfl (lv_room (Nat.le_of_ble_eq_true rfl)) dX9_cut_35 ⟨Nat.le_of_ble_eq_true rfl, Nat.le_of_ble_eq_true rfl⟩) hP hD hS hA (fun τ13 H locs hN hf hq hP hD hS => ?_)
      replace hw := hw τ13 hN hf hq
      have hF : f_r [8, 9, 10] [18, 19, 21] [0] σ τ13 := f_t hF hf (by decide) (by decide) (by decide)
      have hB := hN
      refine lv_iinc (v := I (u1 + 1)) (lv' := [(1, .int (I (u1 + 1))), (0, .ref (q 2))]) hx hb dX9_cut_38 hl (k := 1) rfl (I_add _ _) (by decide) rfl (fun ls hl => ?_)
      refine lv_goto (tgt := 14) hx hb dX9_cut_41 (by decide) ?_
      obtain ⟨c14, hw⟩ := hw
      exact (hP14 _ _).mp hw c14 hN hF H locs ls hP hD hS (lv_sub hl [1, 0] rfl)
  ·
    intro u1 τ hw
    refine (hP75 _ _).mpr ?_
    intro r_u1 hN hF H locs ls hP hD hS hl
    have hB := hN
    refine lv_iload_n hx hb dX9_cut_75 rfl (lv_at hl 1 rfl) ?_
    refine lv_aload_n hx hb dX9_cut_76 rfl (lv_at hl 0 rfl) ?_
    refine gfX9_hypothesisCount hx hb hts hK hP hown (hts _ tw_176) (x := τ.1 9) rfl dX9_cut_77 ?_
    refine bi_icmp_ge (tgt := 137) hx hb r_u1 (hB.1 9) dX9_cut_80 (by decide) (fun c15 => ?_) (fun c15 => ?_)
    ·
      replace hw := hw.1 c15
      refine lv_aload_n hx hb dX9_cut_137 rfl (lv_at hl 0 rfl) ?_
      refine lv_aload_n hx hb dX9_cut_138 rfl (lv_at hl 0 rfl) ?_
      refine gfX9_marks hx hb hts hK hP hown (hts _ tw_185) dX9_cut_139 ?_
      refine lv_iconst (v := I 3) hx hb dX9_cut_142 rfl ?_
      refine lv_aload_n hx hb dX9_cut_143 rfl (lv_at hl 0 rfl) ?_
      refine gfX9_depth hx hb hts hK hP hown (hts _ tw_186) (x := τ.1 11) rfl dX9_cut_144 ?_
      refine bi_imul hx hb dX9_cut_147 ?_
      refine lv_iconst (v := I 1) hx hb dX9_cut_148 rfl ?_
      refine bi_iadd hx hb dX9_cut_149 ?_
      obtain ⟨c16, hw⟩ := hw
      refine ldCX9_marks hx hb hK hP hN c16 dX9_cut_150 (fun x17 r_x17 e_x17 => ?_)
      replace hw := hw x17 r_x17 e_x17
      refine pfX9_hypothesisCount hx hb hts hK hP hD hS hown (hts _ tw_176) dX9_cut_151 (fun H locs hP hD hS => ?_)
      have hN : n_m (s_v τ 9 x17) := n_v (i := 9) hN (r_x17 : rg x17)
      have hF : f_r [8, 9, 10] [18, 19, 21] [0] σ (s_v τ 9 x17) := f_v hF (by decide)
      refine lv_aload_n hx hb dX9_cut_154 rfl (lv_at hl 0 rfl) ?_
      refine gfX9_marks hx hb hts hK hP hown (hts _ tw_185) dX9_cut_155 ?_
      refine lv_iconst (v := I 3) hx hb dX9_cut_158 rfl ?_
      refine lv_aload_n hx hb dX9_cut_159 rfl (lv_at hl 0 rfl) ?_
      refine gfX9_depth hx hb hts hK hP hown (hts _ tw_186) (x := τ.1 11) rfl dX9_cut_160 ?_
      refine bi_imul hx hb dX9_cut_163 ?_
      obtain ⟨c18, hw⟩ := hw
      refine ldCX9_marks hx hb hK hP hN c18 dX9_cut_164 (fun x19 r_x19 e_x19 => ?_)
      replace hw := hw x19 r_x19 e_x19
      refine lv_istore_n (lv' := [(1, .int (I x19)), (0, .ref (q 2))]) hx hb dX9_cut_165 rfl hl (by decide) rfl (fun ls hl => ?_)
      exact (hP166 _ _).mp hw r_x19 hN hF H locs ls hP hD hS (lv_sub hl [1, 0] rfl)
    ·
      replace hw := hw.2 c15
      refine lv_aload_n hx hb dX9_cut_83 rfl (lv_at hl 0 rfl) ?_
      refine gfX9_holds hx hb hts hK hP hown (hts _ tw_171) dX9_cut_84 ?_
      refine lv_aload_n hx hb dX9_cut_87 rfl (lv_at hl 0 rfl) ?_
      refine gfX9_hypotheses hx hb hts hK hP hown (hts _ tw_173) dX9_cut_88 ?_
      refine lv_iload_n hx hb dX9_cut_91 rfl (lv_at hl 1 rfl) ?_
      obtain ⟨c20, hw⟩ := hw
      refine ldCX9_hypotheses hx hb hK hP hN c20 dX9_cut_92 (fun x21 r_x21 e_x21 => ?_)
      replace hw := hw x21 r_x21 e_x21
      refine lv_iconst (v := I 0) hx hb dX9_cut_93 rfl ?_
      obtain ⟨c22, hw⟩ := hw
      refine sdCX9_holds hx hb hK hP hD hS c22 (by decide) dX9_cut_94 (fun H locs hP hD hS => ?_)
      have hN : n_m (s_a τ 21 x21 0) := n_a (k := 21) (j := x21) hN ((by decide) : rg 0)
      have hF : f_r [8, 9, 10] [18, 19, 21] [0] σ (s_a τ 21 x21 0) := f_a hF (by decide)
      refine lv_aload_n hx hb dX9_cut_95 rfl (lv_at hl 0 rfl) ?_
      refine gfX9_library hx hb hts hK hP hown (hts _ tw_165) dX9_cut_96 ?_
      refine gfNX3_kind hx hb hts hK hP hown (nb_use hNb tn_74) dX9_cut_99 ?_
      refine lv_aload_n hx hb dX9_cut_102 rfl (lv_at hl 0 rfl) ?_
      refine gfX9_hypotheses hx hb hts hK hP hown (hts _ tw_173) dX9_cut_103 ?_
      refine lv_iload_n hx hb dX9_cut_106 rfl (lv_at hl 1 rfl) ?_
      refine ldCX9_hypotheses hx hb hK hP hN c20 dX9_cut_107 (fun x23 r_x23 e_x23 => ?_)
      replace hw := hw x23 r_x23 e_x23
      obtain ⟨c24, hw⟩ := hw
      refine ldCX3_kind hx hb hK hP hN c24 dX9_cut_108 (fun x25 r_x25 e_x25 => ?_)
      replace hw := hw x25 r_x25 e_x25
      refine bi_if_ne (tgt := 131) hx hb r_x25 dX9_cut_109 (by decide) (fun c26 => ?_) (fun c26 => ?_)
      ·
        replace hw := hw.1 c26
        refine lv_iinc (v := I (u1 + 1)) (lv' := [(1, .int (I (u1 + 1))), (0, .ref (q 2))]) hx hb dX9_cut_131 hl (k := 1) rfl (I_add _ _) (by decide) rfl (fun ls hl => ?_)
        refine lv_goto (tgt := 75) hx hb dX9_cut_134 (by decide) ?_
        obtain ⟨c27, hw⟩ := hw
        exact (hP75 _ _).mp hw c27 hN hF H locs ls hP hD hS (lv_sub hl [1, 0] rfl)
      ·
        replace hw := hw.2 c26
        refine lv_aload_n hx hb dX9_cut_112 rfl (lv_at hl 0 rfl) ?_
        refine gfX9_activeFloat hx hb hts hK hP hown (hts _ tw_167) dX9_cut_113 ?_
        refine lv_aload_n hx hb dX9_cut_116 rfl (lv_at hl 0 rfl) ?_
        refine gfX9_library hx hb hts hK hP hown (hts _ tw_165) dX9_cut_117 ?_
        refine lv_aload_n hx hb dX9_cut_120 rfl (lv_at hl 0 rfl) ?_
        refine gfX9_hypotheses hx hb hts hK hP hown (hts _ tw_173) dX9_cut_121 ?_
        refine lv_iload_n hx hb dX9_cut_124 rfl (lv_at hl 1 rfl) ?_
        refine ldCX9_hypotheses hx hb hK hP hN c20 dX9_cut_125 (fun x28 r_x28 e_x28 => ?_)
        replace hw := hw x28 r_x28 e_x28
        obtain ⟨Q29, hc, hw⟩ := hw
        refine wc_i (X := CX g q lb) (va_runV (As := [.int (I x28)]) (rest := [.ref (q 32)]) ⟨hx, hb, hml, hown, hts⟩ (L_X3_variableOf l g q lb hlb r_x28 hN hc H.size) (cwV 1 hts (TB_V tw_1042 tw_1022 tw_1023 tw_2 co_X3_variableOf) rfl rfl rfl (by decide +kernel) ⟨Nat.le_of_ble_eq_true rfl, Nat.le_of_ble_eq_true rfl⟩) (preV (q0 := 1) (ci := 3) rfl xT_bl hP hK hNb hD rfl rfl xT_at) rfl rfl hl.1 rfl (lv_room (Nat.le_of_ble_eq_true rfl)) dX9_cut_126 ⟨Nat.le_of_ble_eq_true rfl, Nat.le_of_ble_eq_true rfl⟩) hP hD hS hA (fun x30 H locs r_x30 hq hP hD hS => ?_)
        replace hw := hw x30 r_x30 hq
        refine lv_iconst (v := I (-1)) hx hb dX9_cut_129 rfl ?_
        obtain ⟨c32, hw⟩ := hw
        refine sdCX9_activeFloat hx hb hK hP hD hS c32 dX9_cut_130 (fun H locs hP hD hS => ?_)
        have hN : n_m (s_a (s_a τ 21 x21 0) 19 x30 (-1)) := n_a (k := 19) (j := x30) hN ((by decide) : rg (-1))
        have hF : f_r [8, 9, 10] [18, 19, 21] [0] σ (s_a (s_a τ 21 x21 0) 19 x30 (-1)) := f_a hF (by decide)
        refine lv_iinc (v := I (u1 + 1)) (lv' := [(1, .int (I (u1 + 1))), (0, .ref (q 2))]) hx hb dX9_cut_131 hl (k := 1) rfl (I_add _ _) (by decide) rfl (fun ls hl => ?_)
        refine lv_goto (tgt := 75) hx hb dX9_cut_134 (by decide) ?_
        obtain ⟨c33, hw⟩ := hw
        exact (hP75 _ _).mp hw c33 hN hF H locs ls hP hD hS (lv_sub hl [1, 0] rfl)
  ·
    intro u1 τ hw
    refine (hP166 _ _).mpr ?_
    intro r_u1 hN hF H locs ls hP hD hS hl
    have hB := hN
    refine lv_iload_n hx hb dX9_cut_166 rfl (lv_at hl 1 rfl) ?_
    refine lv_aload_n hx hb dX9_cut_167 rfl (lv_at hl 0 rfl) ?_
    refine gfX9_variableCount hx hb hts hK hP hown (hts _ tw_170) (x := τ.1 8) rfl dX9_cut_168 ?_
    refine bi_icmp_ge (tgt := 192) hx hb r_u1 (hB.1 8) dX9_cut_171 (by decide) (fun c34 => ?_) (fun c34 => ?_)
    ·
      replace hw := hw.1 c34
      refine lv_aload_n hx hb dX9_cut_192 rfl (lv_at hl 0 rfl) ?_
      refine lv_aload_n hx hb dX9_cut_193 rfl (lv_at hl 0 rfl) ?_
      refine gfX9_marks hx hb hts hK hP hown (hts _ tw_185) dX9_cut_194 ?_
      refine lv_iconst (v := I 3) hx hb dX9_cut_197 rfl ?_
      refine lv_aload_n hx hb dX9_cut_198 rfl (lv_at hl 0 rfl) ?_
      refine gfX9_depth hx hb hts hK hP hown (hts _ tw_186) (x := τ.1 11) rfl dX9_cut_199 ?_
      refine bi_imul hx hb dX9_cut_202 ?_
      obtain ⟨c35, hw⟩ := hw
      refine ldCX9_marks hx hb hK hP hN c35 dX9_cut_203 (fun x36 r_x36 e_x36 => ?_)
      replace hw := hw x36 r_x36 e_x36
      refine pfX9_variableCount hx hb hts hK hP hD hS hown (hts _ tw_170) dX9_cut_204 (fun H locs hP hD hS => ?_)
      have hN : n_m (s_v τ 8 x36) := n_v (i := 8) hN (r_x36 : rg x36)
      have hF : f_r [8, 9, 10] [18, 19, 21] [0] σ (s_v τ 8 x36) := f_v hF (by decide)
      exact xrv hx hb hr hlk hP hK hD hS ⟨_, hN, hF, rfl, hw⟩ (Nat.le_of_ble_eq_true rfl) (Nat.le_of_ble_eq_true rfl) dX9_cut_207
    ·
      replace hw := hw.2 c34
      refine lv_aload_n hx hb dX9_cut_174 rfl (lv_at hl 0 rfl) ?_
      refine gfX9_active hx hb hts hK hP hown (hts _ tw_166) dX9_cut_175 ?_
      refine lv_aload_n hx hb dX9_cut_178 rfl (lv_at hl 0 rfl) ?_
      refine gfX9_variables hx hb hts hK hP hown (hts _ tw_169) dX9_cut_179 ?_
      refine lv_iload_n hx hb dX9_cut_182 rfl (lv_at hl 1 rfl) ?_
      obtain ⟨c37, hw⟩ := hw
      refine ldCX9_variables hx hb hK hP hN c37 dX9_cut_183 (fun x38 r_x38 e_x38 => ?_)
      replace hw := hw x38 r_x38 e_x38
      refine lv_iconst (v := I 0) hx hb dX9_cut_184 rfl ?_
      obtain ⟨c39, hw⟩ := hw
      refine sdCX9_active hx hb hK hP hD hS c39 (by decide) dX9_cut_185 (fun H locs hP hD hS => ?_)
      have hN : n_m (s_a τ 18 x38 0) := n_a (k := 18) (j := x38) hN ((by decide) : rg 0)
      have hF : f_r [8, 9, 10] [18, 19, 21] [0] σ (s_a τ 18 x38 0) := f_a hF (by decide)
      refine lv_iinc (v := I (u1 + 1)) (lv' := [(1, .int (I (u1 + 1))), (0, .ref (q 2))]) hx hb dX9_cut_186 hl (k := 1) rfl (I_add _ _) (by decide) rfl (fun ls hl => ?_)
      refine lv_goto (tgt := 166) hx hb dX9_cut_189 (by decide) ?_
      obtain ⟨c40, hw⟩ := hw
      exact (hP166 _ _).mp hw c40 hN hF H locs ls hP hD hS (lv_sub hl [1, 0] rfl)
def W_X9_close (σ : S0) (Q : S0 → Prop) : Prop :=
  ∃ (Q1 : S0 → Prop), W_X9_cut σ Q1 ∧ ∀ (τ3 : S0), n_m τ3 → f_r [8, 9, 10] [18, 19, 21] [0] σ τ3 → Q1 τ3 → (rg (τ3.1 11 - 1) ∧ Q (s_v τ3 11 (τ3.1 11 - 1)))
set_option maxRecDepth 100000 in
set_option maxHeartbeats 4000000 in
theorem L_X9_close (l : Launch) (g : gG) (q : Nat → Nat) (lb : Nat) (hlb : lb < 2 ^ 31) {σ : S0} {Q : S0 → Prop} (hN : n_m σ) (hw : W_X9_close σ Q) (sz : Nat) : MetV l yX9_close cX9_close 1 { frames := 2, cells := 0, slots := 0, locals := 43 } g [.ref (q 2)] (CX g q lb σ) sz xT (p_V (CX g q lb) [8, 9, 10, 11] [18, 19, 21] [0] σ Q) 0 0 := by
  refine mkMet (Qc := fun A => QV g A (p_V (CX g q lb) [8, 9, 10, 11] [18, 19, 21] [0] σ Q)) (by decide) (Nat.le_of_ble_eq_true rfl) ?_
  intro p e s m below meth c A H ls hx hb hr hml hown hts hlk hnm hsz hP hK hNb hD hA hAe hS hX hl
  have hl : lv_has ls 1 [(0, .ref (q 2))] := hl
  have hB := hN
  have hF : f_r [8, 9, 10, 11] [18, 19, 21] [0] σ σ := f_0
  obtain ⟨locs, hlocs⟩ : ∃ z : List Loc, z = [] := ⟨_, rfl⟩
  rw [← hlocs] at hS ⊢
  refine lv_aload_n hx hb dX9_close_0 rfl (lv_at hl 0 rfl) ?_
  obtain ⟨Q1, hc, hw⟩ := hw
  refine wc_V (X := CX g q lb) (va_runV (As := []) (rest := []) ⟨hx, hb, hml, hown, hts⟩ (L_X9_cut l g q lb hlb  hN hc H.size) (cwV 0 hts (TB_V tw_1091 tw_1093 ts_18 tw_3 co_X9_cut) rfl rfl rfl (by decide +kernel) ⟨Nat.le_of_ble_eq_true rfl, Nat.le_of_ble_eq_true rfl⟩) (preV (q0 := 2) (ci := 9) rfl xT_bl hP hK hNb hD rfl rfl xT_at) rfl rfl hl.1 rfl (lv_room (Nat.le_of_ble_eq_true rfl)) dX9_close_1 ⟨Nat.le_of_ble_eq_true rfl, Nat.le_of_ble_eq_true rfl⟩) hP hD hS hA (fun τ3 H locs hN hf hq hP hD hS => ?_)
  replace hw := hw τ3 hN hf hq
  have hF : f_r [8, 9, 10, 11] [18, 19, 21] [0] σ τ3 := f_t hF hf (by decide) (by decide) (by decide)
  have hB := hN
  refine lv_aload_n hx hb dX9_close_4 rfl (lv_at hl 0 rfl) ?_
  refine lv_dup hx hb dX9_close_5 rfl ?_
  refine gfX9_depth hx hb hts hK hP hown (hts _ tw_186) (x := τ3.1 11) rfl dX9_close_6 ?_
  refine lv_iconst (v := I 1) hx hb dX9_close_9 rfl ?_
  refine bi_isub hx hb dX9_close_10 ?_
  obtain ⟨c4, hw⟩ := hw
  refine pfX9_depth hx hb hts hK hP hD hS hown (hts _ tw_186) dX9_close_11 (fun H locs hP hD hS => ?_)
  have hN : n_m (s_v τ3 11 (τ3.1 11 - 1)) := n_v (i := 11) hN (c4 : rg (τ3.1 11 - 1))
  have hF : f_r [8, 9, 10, 11] [18, 19, 21] [0] σ (s_v τ3 11 (τ3.1 11 - 1)) := f_v hF (by decide)
  exact xrv hx hb hr hlk hP hK hD hS ⟨_, hN, hF, rfl, hw⟩ (Nat.le_of_ble_eq_true rfl) (Nat.le_of_ble_eq_true rfl) dX9_close_14
def W_X7_closeScope (σ : S0) (Q : Int → S0 → Prop) : Prop :=
  (¬ σ.1 35 = 0 → Q 4 σ) ∧ (σ.1 35 = 0 → (¬ σ.1 11 = 0 → ∃ (Q3 : S0 → Prop), W_X9_close σ Q3 ∧ ∀ (τ5 : S0), n_m τ5 → f_r [8, 9, 10, 11] [18, 19, 21] [0] σ τ5 → Q3 τ5 → (Q 0 τ5)) ∧ (σ.1 11 = 0 → Q 4 σ))
set_option maxRecDepth 100000 in
set_option maxHeartbeats 4000000 in
theorem L_X7_closeScope (l : Launch) (g : gG) (q : Nat → Nat) (lb : Nat) (hlb : lb < 2 ^ 31) {σ : S0} {Q : Int → S0 → Prop} (hN : n_m σ) (hw : W_X7_closeScope σ Q) (sz : Nat) : MetI l yX7_closeScope cX7_closeScope 1 (some .int) { frames := 3, cells := 0, slots := 0, locals := 63 } g [.ref (q 6)] (CX g q lb σ) sz xT (p_I (CX g q lb) [8, 9, 10, 11] [18, 19, 21] [0] σ Q) 0 0 := by
  refine mkMet (Qc := fun A => QI g A (p_I (CX g q lb) [8, 9, 10, 11] [18, 19, 21] [0] σ Q)) (by decide) (Nat.le_of_ble_eq_true rfl) ?_
  intro p e s m below meth c A H ls hx hb hr hml hown hts hlk hnm hsz hP hK hNb hD hA hAe hS hX hl
  have hl : lv_has ls 1 [(0, .ref (q 6))] := hl
  have hB := hN
  have hF : f_r [8, 9, 10, 11] [18, 19, 21] [0] σ σ := f_0
  obtain ⟨locs, hlocs⟩ : ∃ z : List Loc, z = [] := ⟨_, rfl⟩
  rw [← hlocs] at hS ⊢
  refine lv_aload_n hx hb dX7_closeScope_0 rfl (lv_at hl 0 rfl) ?_
  refine gfX7_state hx hb hts hK hP hown (hts _ tw_493) (x := σ.1 35) rfl dX7_closeScope_1 ?_
  refine bi_if_ne (tgt := 17) hx hb (hB.1 35) dX7_closeScope_4 (by decide) (fun c1 => ?_) (fun c1 => ?_)
  ·
    replace hw := hw.1 c1
    refine lv_iconst (v := I 4) hx hb dX7_closeScope_17 rfl ?_
    exact xri hx hb hr hlk hP hK hD hS ⟨_, _, (by decide), rfl, hN, hF, rfl, hw⟩ (Nat.le_of_ble_eq_true rfl) (Nat.le_of_ble_eq_true rfl) dX7_closeScope_18
  ·
    replace hw := hw.2 c1
    refine lv_aload_n hx hb dX7_closeScope_7 rfl (lv_at hl 0 rfl) ?_
    refine gfX7_scopes hx hb hts hK hP hown (hts _ tw_486) dX7_closeScope_8 ?_
    refine gfNX9_depth hx hb hts hK hP hown (nb_use hNb tn_187) (x := σ.1 11) rfl dX7_closeScope_11 ?_
    refine bi_if_ne (tgt := 19) hx hb (hB.1 11) dX7_closeScope_14 (by decide) (fun c2 => ?_) (fun c2 => ?_)
    ·
      replace hw := hw.1 c2
      refine lv_aload_n hx hb dX7_closeScope_19 rfl (lv_at hl 0 rfl) ?_
      refine gfX7_scopes hx hb hts hK hP hown (hts _ tw_486) dX7_closeScope_20 ?_
      obtain ⟨Q3, hc, hw⟩ := hw
      refine wc_V (X := CX g q lb) (va_runV (As := []) (rest := []) ⟨hx, hb, hml, hown, hts⟩ (L_X9_close l g q lb hlb  hN hc H.size) (cwV 0 hts (TB_V tw_1087 tw_1088 tw_1089 tw_3 co_X9_close) rfl rfl rfl (by decide +kernel) ⟨Nat.le_of_ble_eq_true rfl, Nat.le_of_ble_eq_true rfl⟩) (preV (q0 := 2) (ci := 9) rfl xT_bl hP hK hNb hD rfl rfl xT_at) rfl rfl hl.1 rfl (lv_room (Nat.le_of_ble_eq_true rfl)) dX7_closeScope_23 ⟨Nat.le_of_ble_eq_true rfl, Nat.le_of_ble_eq_true rfl⟩) hP hD hS hA (fun τ5 H locs hN hf hq hP hD hS => ?_)
      replace hw := hw τ5 hN hf hq
      have hF : f_r [8, 9, 10, 11] [18, 19, 21] [0] σ τ5 := f_t hF hf (by decide) (by decide) (by decide)
      have hB := hN
      refine lv_iconst (v := I 0) hx hb dX7_closeScope_26 rfl ?_
      exact xri hx hb hr hlk hP hK hD hS ⟨_, _, (by decide), rfl, hN, hF, rfl, hw⟩ (Nat.le_of_ble_eq_true rfl) (Nat.le_of_ble_eq_true rfl) dX7_closeScope_27
    ·
      replace hw := hw.2 c2
      refine lv_iconst (v := I 4) hx hb dX7_closeScope_17 rfl ?_
      exact xri hx hb hr hlk hP hK hD hS ⟨_, _, (by decide), rfl, hN, hF, rfl, hw⟩ (Nat.le_of_ble_eq_true rfl) (Nat.le_of_ble_eq_true rfl) dX7_closeScope_18
def W_X7_statement (n1 : Int) (σ : S0) (Q : Int → S0 → Prop) : Prop :=
  ∀ (P42 : Int → S0 → Prop),
  (∀ (k1 : Int) (τ : S0), (Q 0 (s_v τ 37 k1)) → P42 k1 τ) →
  (¬ n1 = 102 → (¬ n1 = 101 → (¬ n1 = 97 → P42 3 (s_v (s_v σ 36 0) 35 5)) ∧ (n1 = 97 → P42 2 (s_v (s_v σ 36 0) 35 5))) ∧ (n1 = 101 → P42 1 (s_v (s_v σ 36 0) 35 5))) ∧ (n1 = 102 → P42 0 (s_v (s_v σ 36 0) 35 5))
set_option maxRecDepth 100000 in
set_option maxHeartbeats 4000000 in
theorem L_X7_statement (l : Launch) (g : gG) (q : Nat → Nat) (lb : Nat) (hlb : lb < 2 ^ 31) {n1 : Int} {σ : S0} {Q : Int → S0 → Prop} (r_n1 : rg n1) (hN : n_m σ) (hw : W_X7_statement n1 σ Q) (sz : Nat) : MetI l yX7_statement cX7_statement 2 (some .int) { frames := 0, cells := 0, slots := 0, locals := 0 } g [.ref (q 6), .int (I n1)] (CX g q lb σ) sz xT (p_I (CX g q lb) [35, 36, 37] [] [] σ Q) 0 0 := by
  refine mkMet (Qc := fun A => QI g A (p_I (CX g q lb) [35, 36, 37] [] [] σ Q)) (by decide) (Nat.le_of_ble_eq_true rfl) ?_
  intro p e s m below meth c A H ls hx hb hr hml hown hts hlk hnm hsz hP hK hNb hD hA hAe hS hX hl
  have hl : lv_has ls 2 [(0, .ref (q 6)), (1, .int (I n1))] := hl
  have hB := hN
  have hF : f_r [35, 36, 37] [] [] σ σ := f_0
  obtain ⟨locs, hlocs⟩ : ∃ z : List Loc, z = [] := ⟨_, rfl⟩
  rw [← hlocs] at hS ⊢
  obtain ⟨P42, hP42⟩ : ∃ P : Int → S0 → Prop, ∀ (k1 : Int) (τ : S0), (P k1 τ ↔ (rg k1 → n_m τ → f_r [35, 36, 37] [] [] σ τ → ∀ (H : Heap) (locs : List Loc) (ls : Array Slot), KP g (CX g q lb τ) H → va_D A (CX g q lb τ) → va_S A s.heap H locs → lv_has ls 2 [] → W p l e ({ frames := 0, cells := 0, slots := 0, locals := 0 }) s m [.ref (q 6), .int (I n1)].toArray below meth c H locs 0 0 (MQ below (QI g A (p_I (CX g q lb) [35, 36, 37] [] [] σ Q)) [.ref (q 6), .int (I n1)].toArray s 0 0 A) (F0 m 42 ls [.int (I k1), .ref (q 6)]))) := ⟨_, fun _ _ => Iff.rfl⟩
  refine (fun hw => ?_) (hw P42 ?_)
  ·
    refine lv_aload_n hx hb dX7_statement_0 rfl (lv_at hl 0 rfl) ?_
    refine lv_iconst (v := I 0) hx hb dX7_statement_1 rfl ?_
    refine pfX7_items hx hb hts hK hP hD hS hown (hts _ tw_494) dX7_statement_2 (fun H locs hP hD hS => ?_)
    have hN : n_m (s_v σ 36 0) := n_v (i := 36) hN ((by decide) : rg 0)
    have hF : f_r [35, 36, 37] [] [] σ (s_v σ 36 0) := f_v hF (by decide)
    refine lv_aload_n hx hb dX7_statement_5 rfl (lv_at hl 0 rfl) ?_
    refine lv_iconst (v := I 5) hx hb dX7_statement_6 rfl ?_
    refine pfX7_state hx hb hts hK hP hD hS hown (hts _ tw_493) dX7_statement_7 (fun H locs hP hD hS => ?_)
    have hN : n_m (s_v (s_v σ 36 0) 35 5) := n_v (i := 35) hN ((by decide) : rg 5)
    have hF : f_r [35, 36, 37] [] [] σ (s_v (s_v σ 36 0) 35 5) := f_v hF (by decide)
    refine lv_aload_n hx hb dX7_statement_10 rfl (lv_at hl 0 rfl) ?_
    refine lv_iload_n hx hb dX7_statement_11 rfl (lv_at hl 1 rfl) ?_
    refine lv_bipush (v := I 102) hx hb dX7_statement_12 (by decide) ?_
    refine bi_icmp_ne (tgt := 21) hx hb r_n1 (by decide) dX7_statement_14 (by decide) (fun c1 => ?_) (fun c1 => ?_)
    ·
      replace hw := hw.1 c1
      refine lv_iload_n hx hb dX7_statement_21 rfl (lv_at hl 1 rfl) ?_
      refine lv_bipush (v := I 101) hx hb dX7_statement_22 (by decide) ?_
      refine bi_icmp_ne (tgt := 31) hx hb r_n1 (by decide) dX7_statement_24 (by decide) (fun c2 => ?_) (fun c2 => ?_)
      ·
        replace hw := hw.1 c2
        refine lv_iload_n hx hb dX7_statement_31 rfl (lv_at hl 1 rfl) ?_
        refine lv_bipush (v := I 97) hx hb dX7_statement_32 (by decide) ?_
        refine bi_icmp_ne (tgt := 41) hx hb r_n1 (by decide) dX7_statement_34 (by decide) (fun c3 => ?_) (fun c3 => ?_)
        ·
          replace hw := hw.1 c3
          refine lv_iconst (v := I 3) hx hb dX7_statement_41 rfl ?_
          exact (hP42 _ _).mp hw (by decide) hN hF H locs ls hP hD hS (lv_sub hl [] rfl)
        ·
          replace hw := hw.2 c3
          refine lv_iconst (v := I 2) hx hb dX7_statement_37 rfl ?_
          refine lv_goto (tgt := 42) hx hb dX7_statement_38 (by decide) ?_
          exact (hP42 _ _).mp hw (by decide) hN hF H locs ls hP hD hS (lv_sub hl [] rfl)
      ·
        replace hw := hw.2 c2
        refine lv_iconst (v := I 1) hx hb dX7_statement_27 rfl ?_
        refine lv_goto (tgt := 42) hx hb dX7_statement_28 (by decide) ?_
        exact (hP42 _ _).mp hw (by decide) hN hF H locs ls hP hD hS (lv_sub hl [] rfl)
    ·
      replace hw := hw.2 c1
      refine lv_iconst (v := I 0) hx hb dX7_statement_17 rfl ?_
      refine lv_goto (tgt := 42) hx hb dX7_statement_18 (by decide) ?_
      exact (hP42 _ _).mp hw (by decide) hN hF H locs ls hP hD hS (lv_sub hl [] rfl)
  ·
    intro k1 τ hw
    refine (hP42 _ _).mpr ?_
    intro r_k1 hN hF H locs ls hP hD hS hl
    have hB := hN
    refine pfX7_kind hx hb hts hK hP hD hS hown (hts _ tw_495) dX7_statement_42 (fun H locs hP hD hS => ?_)
    have hN : n_m (s_v τ 37 k1) := n_v (i := 37) hN (r_k1 : rg k1)
    have hF : f_r [35, 36, 37] [] [] σ (s_v τ 37 k1) := f_v hF (by decide)
    refine lv_iconst (v := I 0) hx hb dX7_statement_45 rfl ?_
    exact xri hx hb hr hlk hP hK hD hS ⟨_, _, (by decide), rfl, hN, hF, rfl, hw⟩ (Nat.le_of_ble_eq_true rfl) (Nat.le_of_ble_eq_true rfl) dX7_statement_46
def W_X7_declaration (n1 : Int) (σ : S0) (Q : Int → S0 → Prop) : Prop :=
  ∀ (P19 : Int → S0 → Prop) (P46 : Int → S0 → Prop),
  (∀ (u1 : Int) (τ : S0), ((¬ u1 = 99 → (¬ u1 = 118 → P46 4 (s_v τ 36 0)) ∧ (u1 = 118 → P46 3 (s_v τ 36 0))) ∧ (u1 = 99 → P46 2 (s_v τ 36 0))) → P19 u1 τ) →
  (∀ (k1 : Int) (τ : S0), (Q 0 (s_v τ 35 k1)) → P46 k1 τ) →
  (¬ n1 = 99 → P19 n1 σ) ∧ (n1 = 99 → (σ.1 11 ≤ 0 → P19 n1 σ) ∧ (0 < σ.1 11 → Q 8 σ))
set_option maxRecDepth 100000 in
set_option maxHeartbeats 4000000 in
theorem L_X7_declaration (l : Launch) (g : gG) (q : Nat → Nat) (lb : Nat) (hlb : lb < 2 ^ 31) {n1 : Int} {σ : S0} {Q : Int → S0 → Prop} (r_n1 : rg n1) (hN : n_m σ) (hw : W_X7_declaration n1 σ Q) (sz : Nat) : MetI l yX7_declaration cX7_declaration 2 (some .int) { frames := 0, cells := 0, slots := 0, locals := 0 } g [.ref (q 6), .int (I n1)] (CX g q lb σ) sz xT (p_I (CX g q lb) [35, 36] [] [] σ Q) 0 0 := by
  refine mkMet (Qc := fun A => QI g A (p_I (CX g q lb) [35, 36] [] [] σ Q)) (by decide) (Nat.le_of_ble_eq_true rfl) ?_
  intro p e s m below meth c A H ls hx hb hr hml hown hts hlk hnm hsz hP hK hNb hD hA hAe hS hX hl
  have hl : lv_has ls 2 [(0, .ref (q 6)), (1, .int (I n1))] := hl
  have hB := hN
  have hF : f_r [35, 36] [] [] σ σ := f_0
  obtain ⟨locs, hlocs⟩ : ∃ z : List Loc, z = [] := ⟨_, rfl⟩
  rw [← hlocs] at hS ⊢
  obtain ⟨P19, hP19⟩ : ∃ P : Int → S0 → Prop, ∀ (u1 : Int) (τ : S0), (P u1 τ ↔ (rg u1 → n_m τ → f_r [35, 36] [] [] σ τ → ∀ (H : Heap) (locs : List Loc) (ls : Array Slot), KP g (CX g q lb τ) H → va_D A (CX g q lb τ) → va_S A s.heap H locs → lv_has ls 2 [(0, .ref (q 6)), (1, .int (I u1))] → W p l e ({ frames := 0, cells := 0, slots := 0, locals := 0 }) s m [.ref (q 6), .int (I n1)].toArray below meth c H locs 0 0 (MQ below (QI g A (p_I (CX g q lb) [35, 36] [] [] σ Q)) [.ref (q 6), .int (I n1)].toArray s 0 0 A) (F0 m 19 ls []))) := ⟨_, fun _ _ => Iff.rfl⟩
  obtain ⟨P46, hP46⟩ : ∃ P : Int → S0 → Prop, ∀ (k1 : Int) (τ : S0), (P k1 τ ↔ (rg k1 → n_m τ → f_r [35, 36] [] [] σ τ → ∀ (H : Heap) (locs : List Loc) (ls : Array Slot), KP g (CX g q lb τ) H → va_D A (CX g q lb τ) → va_S A s.heap H locs → lv_has ls 2 [] → W p l e ({ frames := 0, cells := 0, slots := 0, locals := 0 }) s m [.ref (q 6), .int (I n1)].toArray below meth c H locs 0 0 (MQ below (QI g A (p_I (CX g q lb) [35, 36] [] [] σ Q)) [.ref (q 6), .int (I n1)].toArray s 0 0 A) (F0 m 46 ls [.int (I k1), .ref (q 6)]))) := ⟨_, fun _ _ => Iff.rfl⟩
  refine (fun hw => ?_) (hw P19 P46 ?_ ?_)
  ·
    refine lv_iload_n hx hb dX7_declaration_0 rfl (lv_at hl 1 rfl) ?_
    refine lv_bipush (v := I 99) hx hb dX7_declaration_1 (by decide) ?_
    refine bi_icmp_ne (tgt := 19) hx hb r_n1 (by decide) dX7_declaration_3 (by decide) (fun c1 => ?_) (fun c1 => ?_)
    ·
      replace hw := hw.1 c1
      exact (hP19 _ _).mp hw r_n1 hN hF H locs ls hP hD hS (lv_sub hl [0, 1] rfl)
    ·
      replace hw := hw.2 c1
      refine lv_aload_n hx hb dX7_declaration_6 rfl (lv_at hl 0 rfl) ?_
      refine gfX7_scopes hx hb hts hK hP hown (hts _ tw_486) dX7_declaration_7 ?_
      refine gfNX9_depth hx hb hts hK hP hown (nb_use hNb tn_187) (x := σ.1 11) rfl dX7_declaration_10 ?_
      refine bi_if_le (tgt := 19) hx hb (hB.1 11) dX7_declaration_13 (by decide) (fun c2 => ?_) (fun c2 => ?_)
      ·
        replace hw := hw.1 c2
        exact (hP19 _ _).mp hw r_n1 hN hF H locs ls hP hD hS (lv_sub hl [0, 1] rfl)
      ·
        replace hw := hw.2 c2
        refine lv_bipush (v := I 8) hx hb dX7_declaration_16 (by decide) ?_
        exact xri hx hb hr hlk hP hK hD hS ⟨_, _, (by decide), rfl, hN, hF, rfl, hw⟩ (Nat.le_of_ble_eq_true rfl) (Nat.le_of_ble_eq_true rfl) dX7_declaration_18
  ·
    intro u1 τ hw
    refine (hP19 _ _).mpr ?_
    intro r_u1 hN hF H locs ls hP hD hS hl
    have hB := hN
    refine lv_aload_n hx hb dX7_declaration_19 rfl (lv_at hl 0 rfl) ?_
    refine lv_iconst (v := I 0) hx hb dX7_declaration_20 rfl ?_
    refine pfX7_items hx hb hts hK hP hD hS hown (hts _ tw_494) dX7_declaration_21 (fun H locs hP hD hS => ?_)
    have hN : n_m (s_v τ 36 0) := n_v (i := 36) hN ((by decide) : rg 0)
    have hF : f_r [35, 36] [] [] σ (s_v τ 36 0) := f_v hF (by decide)
    refine lv_aload_n hx hb dX7_declaration_24 rfl (lv_at hl 0 rfl) ?_
    refine lv_iload_n hx hb dX7_declaration_25 rfl (lv_at hl 1 rfl) ?_
    refine lv_bipush (v := I 99) hx hb dX7_declaration_26 (by decide) ?_
    refine bi_icmp_ne (tgt := 35) hx hb r_u1 (by decide) dX7_declaration_28 (by decide) (fun c3 => ?_) (fun c3 => ?_)
    ·
      replace hw := hw.1 c3
      refine lv_iload_n hx hb dX7_declaration_35 rfl (lv_at hl 1 rfl) ?_
      refine lv_bipush (v := I 118) hx hb dX7_declaration_36 (by decide) ?_
      refine bi_icmp_ne (tgt := 45) hx hb r_u1 (by decide) dX7_declaration_38 (by decide) (fun c4 => ?_) (fun c4 => ?_)
      ·
        replace hw := hw.1 c4
        refine lv_iconst (v := I 4) hx hb dX7_declaration_45 rfl ?_
        exact (hP46 _ _).mp hw (by decide) hN hF H locs ls hP hD hS (lv_sub hl [] rfl)
      ·
        replace hw := hw.2 c4
        refine lv_iconst (v := I 3) hx hb dX7_declaration_41 rfl ?_
        refine lv_goto (tgt := 46) hx hb dX7_declaration_42 (by decide) ?_
        exact (hP46 _ _).mp hw (by decide) hN hF H locs ls hP hD hS (lv_sub hl [] rfl)
    ·
      replace hw := hw.2 c3
      refine lv_iconst (v := I 2) hx hb dX7_declaration_31 rfl ?_
      refine lv_goto (tgt := 46) hx hb dX7_declaration_32 (by decide) ?_
      exact (hP46 _ _).mp hw (by decide) hN hF H locs ls hP hD hS (lv_sub hl [] rfl)
  ·
    intro k1 τ hw
    refine (hP46 _ _).mpr ?_
    intro r_k1 hN hF H locs ls hP hD hS hl
    have hB := hN
    refine pfX7_state hx hb hts hK hP hD hS hown (hts _ tw_493) dX7_declaration_46 (fun H locs hP hD hS => ?_)
    have hN : n_m (s_v τ 35 k1) := n_v (i := 35) hN (r_k1 : rg k1)
    have hF : f_r [35, 36] [] [] σ (s_v τ 35 k1) := f_v hF (by decide)
    refine lv_iconst (v := I 0) hx hb dX7_declaration_49 rfl ?_
    exact xri hx hb hr hlk hP hK hD hS ⟨_, _, (by decide), rfl, hN, hF, rfl, hw⟩ (Nat.le_of_ble_eq_true rfl) (Nat.le_of_ble_eq_true rfl) dX7_declaration_50
def W_X7_keyword (n1 : Int) (σ : S0) (Q : Int → S0 → Prop) : Prop :=
  ∀ (P92 : Int → S0 → Prop) (P109 : Int → S0 → Prop),
  (∀ (u1 : Int) (τ : S0), ((¬ τ.1 35 = 0 → Q 4 τ) ∧ (τ.1 35 = 0 → ∃ (Q15 : Int → S0 → Prop), W_X7_declaration u1 τ Q15 ∧ ∀ (x16 : Int) (τ17 : S0), rg x16 → n_m τ17 → f_r [35, 36] [] [] τ τ17 → Q15 x16 τ17 → (Q x16 τ17))) → P92 u1 τ) →
  (∀ (u1 : Int) (τ : S0), ((¬ τ.1 35 = 1 → Q 4 τ) ∧ (τ.1 35 = 1 → ∃ (Q11 : Int → S0 → Prop), W_X7_statement u1 τ Q11 ∧ ∀ (x12 : Int) (τ13 : S0), rg x12 → n_m τ13 → f_r [35, 36, 37] [] [] τ τ13 → Q11 x12 τ13 → (Q x12 τ13))) → P109 u1 τ) →
  (n1 = 61 → ∃ (Q1 : Int → S0 → Prop), W_X7_proof σ Q1 ∧ ∀ (x2 : Int) (τ3 : S0), rg x2 → n_m τ3 → f_r [12, 13, 14, 21, 22, 23, 24, 25, 26, 27, 28, 35] [26, 27, 28, 29, 30, 31, 32] [2] σ τ3 → Q1 x2 τ3 → (Q x2 τ3)) ∧ (n1 = 97 → P109 n1 σ) ∧ (n1 = 99 → P92 n1 σ) ∧ (n1 = 100 → P92 n1 σ) ∧ (n1 = 101 → P109 n1 σ) ∧ (n1 = 102 → P109 n1 σ) ∧ (n1 = 112 → P109 n1 σ) ∧ (n1 = 118 → P92 n1 σ) ∧ (n1 = 123 → ∃ (Q4 : Int → S0 → Prop), W_X7_openScope σ Q4 ∧ ∀ (x5 : Int) (τ6 : S0), rg x5 → n_m τ6 → f_r [11] [25] [] σ τ6 → Q4 x5 τ6 → (Q x5 τ6)) ∧ (n1 = 125 → ∃ (Q7 : Int → S0 → Prop), W_X7_closeScope σ Q7 ∧ ∀ (x8 : Int) (τ9 : S0), rg x8 → n_m τ9 → f_r [8, 9, 10, 11] [18, 19, 21] [0] σ τ9 → Q7 x8 τ9 → (Q x8 τ9)) ∧ (¬ n1 = 61 ∧ ¬ n1 = 97 ∧ ¬ n1 = 99 ∧ ¬ n1 = 100 ∧ ¬ n1 = 101 ∧ ¬ n1 = 102 ∧ ¬ n1 = 112 ∧ ¬ n1 = 118 ∧ ¬ n1 = 123 ∧ ¬ n1 = 125 → Q 3 σ)
set_option maxRecDepth 100000 in
set_option maxHeartbeats 4000000 in
theorem L_X7_keyword (l : Launch) (g : gG) (q : Nat → Nat) (lb : Nat) (hlb : lb < 2 ^ 31) {n1 : Int} {σ : S0} {Q : Int → S0 → Prop} (r_n1 : rg n1) (hN : n_m σ) (hw : W_X7_keyword n1 σ Q) (sz : Nat) : MetI l yX7_keyword cX7_keyword 2 (some .int) { frames := 4, cells := 0, slots := 0, locals := 87 } g [.ref (q 6), .int (I n1)] (CX g q lb σ) sz xT (p_I (CX g q lb) [8, 9, 10, 11, 12, 13, 14, 21, 22, 23, 24, 25, 26, 27, 28, 35, 36, 37] [18, 19, 21, 25, 26, 27, 28, 29, 30, 31, 32] [0, 2] σ Q) 0 0 := by
  refine mkMet (Qc := fun A => QI g A (p_I (CX g q lb) [8, 9, 10, 11, 12, 13, 14, 21, 22, 23, 24, 25, 26, 27, 28, 35, 36, 37] [18, 19, 21, 25, 26, 27, 28, 29, 30, 31, 32] [0, 2] σ Q)) (by decide) (Nat.le_of_ble_eq_true rfl) ?_
  intro p e s m below meth c A H ls hx hb hr hml hown hts hlk hnm hsz hP hK hNb hD hA hAe hS hX hl
  have hl : lv_has ls 2 [(0, .ref (q 6)), (1, .int (I n1))] := hl
  have hB := hN
  have hF : f_r [8, 9, 10, 11, 12, 13, 14, 21, 22, 23, 24, 25, 26, 27, 28, 35, 36, 37] [18, 19, 21, 25, 26, 27, 28, 29, 30, 31, 32] [0, 2] σ σ := f_0
  obtain ⟨locs, hlocs⟩ : ∃ z : List Loc, z = [] := ⟨_, rfl⟩
  rw [← hlocs] at hS ⊢
  obtain ⟨P92, hP92⟩ : ∃ P : Int → S0 → Prop, ∀ (u1 : Int) (τ : S0), (P u1 τ ↔ (rg u1 → n_m τ → f_r [8, 9, 10, 11, 12, 13, 14, 21, 22, 23, 24, 25, 26, 27, 28, 35, 36, 37] [18, 19, 21, 25, 26, 27, 28, 29, 30, 31, 32] [0, 2] σ τ → ∀ (H : Heap) (locs : List Loc) (ls : Array Slot), KP g (CX g q lb τ) H → va_D A (CX g q lb τ) → va_S A s.heap H locs → lv_has ls 2 [(0, .ref (q 6)), (1, .int (I u1))] → W p l e ({ frames := 4, cells := 0, slots := 0, locals := 87 }) s m [.ref (q 6), .int (I n1)].toArray below meth c H locs 0 0 (MQ below (QI g A (p_I (CX g q lb) [8, 9, 10, 11, 12, 13, 14, 21, 22, 23, 24, 25, 26, 27, 28, 35, 36, 37] [18, 19, 21, 25, 26, 27, 28, 29, 30, 31, 32] [0, 2] σ Q)) [.ref (q 6), .int (I n1)].toArray s 0 0 A) (F0 m 92 ls []))) := ⟨_, fun _ _ => Iff.rfl⟩
  obtain ⟨P109, hP109⟩ : ∃ P : Int → S0 → Prop, ∀ (u1 : Int) (τ : S0), (P u1 τ ↔ (rg u1 → n_m τ → f_r [8, 9, 10, 11, 12, 13, 14, 21, 22, 23, 24, 25, 26, 27, 28, 35, 36, 37] [18, 19, 21, 25, 26, 27, 28, 29, 30, 31, 32] [0, 2] σ τ → ∀ (H : Heap) (locs : List Loc) (ls : Array Slot), KP g (CX g q lb τ) H → va_D A (CX g q lb τ) → va_S A s.heap H locs → lv_has ls 2 [(0, .ref (q 6)), (1, .int (I u1))] → W p l e ({ frames := 4, cells := 0, slots := 0, locals := 87 }) s m [.ref (q 6), .int (I n1)].toArray below meth c H locs 0 0 (MQ below (QI g A (p_I (CX g q lb) [8, 9, 10, 11, 12, 13, 14, 21, 22, 23, 24, 25, 26, 27, 28, 35, 36, 37] [18, 19, 21, 25, 26, 27, 28, 29, 30, 31, 32] [0, 2] σ Q)) [.ref (q 6), .int (I n1)].toArray s 0 0 A) (F0 m 109 ls []))) := ⟨_, fun _ _ => Iff.rfl⟩
  refine (fun hw => ?_) (hw P92 P109 ?_ ?_)
  ·
    refine lv_iload_n hx hb dX7_keyword_0 rfl (lv_at hl 1 rfl) ?_
    have rr := (r_n1 : rg n1)
    by_cases e0 : n1 = 61
    ·
      refine lv_lookup (tgt := 127) (off := 126) hx hb dX7_keyword_1 (by decide) (by rw [I_toInt rr.1 rr.2, e0]; rfl) (by decide) ?_
      replace hw := hw.1 e0
      refine lv_aload_n hx hb dX7_keyword_127 rfl (lv_at hl 0 rfl) ?_
      obtain ⟨Q1, hc, hw⟩ := hw
      refine wc_I (X := CX g q lb) (va_runV (As := []) (rest := []) ⟨hx, hb, hml, hown, hts⟩ (L_X7_proof l g q lb hlb  hN hc H.size) (cwV 0 hts (TB_V tw_1067 tw_1069 ts_15 tw_7 co_X7_proof) rfl rfl rfl (by decide +kernel) ⟨Nat.le_of_ble_eq_true rfl, Nat.le_of_ble_eq_true rfl⟩) (preV (q0 := 6) (ci := 7) rfl xT_bl hP hK hNb hD rfl rfl xT_at) rfl rfl hl.1 rfl (lv_room (Nat.le_of_ble_eq_true rfl)) dX7_keyword_128 ⟨Nat.le_of_ble_eq_true rfl, Nat.le_of_ble_eq_true rfl⟩) hP hD hS hA (fun x2 τ3 H locs r_x2 hN hf hq hP hD hS => ?_)
      replace hw := hw x2 τ3 r_x2 hN hf hq
      have hF : f_r [8, 9, 10, 11, 12, 13, 14, 21, 22, 23, 24, 25, 26, 27, 28, 35, 36, 37] [18, 19, 21, 25, 26, 27, 28, 29, 30, 31, 32] [0, 2] σ τ3 := f_t hF hf (by decide) (by decide) (by decide)
      have hB := hN
      exact xri hx hb hr hlk hP hK hD hS ⟨_, _, r_x2, rfl, hN, hF, rfl, hw⟩ (Nat.le_of_ble_eq_true rfl) (Nat.le_of_ble_eq_true rfl) dX7_keyword_131
    by_cases e1 : n1 = 97
    ·
      refine lv_lookup (tgt := 109) (off := 108) hx hb dX7_keyword_1 (by decide) (by rw [I_toInt rr.1 rr.2, e1]; rfl) (by decide) ?_
      replace hw := hw.2.1 e1
      exact (hP109 _ _).mp hw r_n1 hN hF H locs ls hP hD hS (lv_sub hl [0, 1] rfl)
    by_cases e2 : n1 = 99
    ·
      refine lv_lookup (tgt := 92) (off := 91) hx hb dX7_keyword_1 (by decide) (by rw [I_toInt rr.1 rr.2, e2]; rfl) (by decide) ?_
      replace hw := hw.2.2.1 e2
      exact (hP92 _ _).mp hw r_n1 hN hF H locs ls hP hD hS (lv_sub hl [0, 1] rfl)
    by_cases e3 : n1 = 100
    ·
      refine lv_lookup (tgt := 92) (off := 91) hx hb dX7_keyword_1 (by decide) (by rw [I_toInt rr.1 rr.2, e3]; rfl) (by decide) ?_
      replace hw := hw.2.2.2.1 e3
      exact (hP92 _ _).mp hw r_n1 hN hF H locs ls hP hD hS (lv_sub hl [0, 1] rfl)
    by_cases e4 : n1 = 101
    ·
      refine lv_lookup (tgt := 109) (off := 108) hx hb dX7_keyword_1 (by decide) (by rw [I_toInt rr.1 rr.2, e4]; rfl) (by decide) ?_
      replace hw := hw.2.2.2.2.1 e4
      exact (hP109 _ _).mp hw r_n1 hN hF H locs ls hP hD hS (lv_sub hl [0, 1] rfl)
    by_cases e5 : n1 = 102
    ·
      refine lv_lookup (tgt := 109) (off := 108) hx hb dX7_keyword_1 (by decide) (by rw [I_toInt rr.1 rr.2, e5]; rfl) (by decide) ?_
      replace hw := hw.2.2.2.2.2.1 e5
      exact (hP109 _ _).mp hw r_n1 hN hF H locs ls hP hD hS (lv_sub hl [0, 1] rfl)
    by_cases e6 : n1 = 112
    ·
      refine lv_lookup (tgt := 109) (off := 108) hx hb dX7_keyword_1 (by decide) (by rw [I_toInt rr.1 rr.2, e6]; rfl) (by decide) ?_
      replace hw := hw.2.2.2.2.2.2.1 e6
      exact (hP109 _ _).mp hw r_n1 hN hF H locs ls hP hD hS (lv_sub hl [0, 1] rfl)
    by_cases e7 : n1 = 118
    ·
      refine lv_lookup (tgt := 92) (off := 91) hx hb dX7_keyword_1 (by decide) (by rw [I_toInt rr.1 rr.2, e7]; rfl) (by decide) ?_
      replace hw := hw.2.2.2.2.2.2.2.1 e7
      exact (hP92 _ _).mp hw r_n1 hN hF H locs ls hP hD hS (lv_sub hl [0, 1] rfl)
    by_cases e8 : n1 = 123
    ·
      refine lv_lookup (tgt := 132) (off := 131) hx hb dX7_keyword_1 (by decide) (by rw [I_toInt rr.1 rr.2, e8]; rfl) (by decide) ?_
      replace hw := hw.2.2.2.2.2.2.2.2.1 e8
      refine lv_aload_n hx hb dX7_keyword_132 rfl (lv_at hl 0 rfl) ?_
      obtain ⟨Q4, hc, hw⟩ := hw
      refine wc_I (X := CX g q lb) (va_runV (As := []) (rest := []) ⟨hx, hb, hml, hown, hts⟩ (L_X7_openScope l g q lb hlb  hN hc H.size) (cwV 0 hts (TB_V tw_1075 tw_1077 ts_16 tw_7 co_X7_openScope) rfl rfl rfl (by decide +kernel) ⟨Nat.le_of_ble_eq_true rfl, Nat.le_of_ble_eq_true rfl⟩) (preV (q0 := 6) (ci := 7) rfl xT_bl hP hK hNb hD rfl rfl xT_at) rfl rfl hl.1 rfl (lv_room (Nat.le_of_ble_eq_true rfl)) dX7_keyword_133 ⟨Nat.le_of_ble_eq_true rfl, Nat.le_of_ble_eq_true rfl⟩) hP hD hS hA (fun x5 τ6 H locs r_x5 hN hf hq hP hD hS => ?_)
      replace hw := hw x5 τ6 r_x5 hN hf hq
      have hF : f_r [8, 9, 10, 11, 12, 13, 14, 21, 22, 23, 24, 25, 26, 27, 28, 35, 36, 37] [18, 19, 21, 25, 26, 27, 28, 29, 30, 31, 32] [0, 2] σ τ6 := f_t hF hf (by decide) (by decide) (by decide)
      have hB := hN
      exact xri hx hb hr hlk hP hK hD hS ⟨_, _, r_x5, rfl, hN, hF, rfl, hw⟩ (Nat.le_of_ble_eq_true rfl) (Nat.le_of_ble_eq_true rfl) dX7_keyword_136
    by_cases e9 : n1 = 125
    ·
      refine lv_lookup (tgt := 137) (off := 136) hx hb dX7_keyword_1 (by decide) (by rw [I_toInt rr.1 rr.2, e9]; rfl) (by decide) ?_
      replace hw := hw.2.2.2.2.2.2.2.2.2.1 e9
      refine lv_aload_n hx hb dX7_keyword_137 rfl (lv_at hl 0 rfl) ?_
      obtain ⟨Q7, hc, hw⟩ := hw
      refine wc_I (X := CX g q lb) (va_runV (As := []) (rest := []) ⟨hx, hb, hml, hown, hts⟩ (L_X7_closeScope l g q lb hlb  hN hc H.size) (cwV 0 hts (TB_V tw_1083 tw_1085 ts_17 tw_7 co_X7_closeScope) rfl rfl rfl (by decide +kernel) ⟨Nat.le_of_ble_eq_true rfl, Nat.le_of_ble_eq_true rfl⟩) (preV (q0 := 6) (ci := 7) rfl xT_bl hP hK hNb hD rfl rfl xT_at) rfl rfl hl.1 rfl (lv_room (Nat.le_of_ble_eq_true rfl)) dX7_keyword_138 ⟨Nat.le_of_ble_eq_true rfl, Nat.le_of_ble_eq_true rfl⟩) hP hD hS hA (fun x8 τ9 H locs r_x8 hN hf hq hP hD hS => ?_)
      replace hw := hw x8 τ9 r_x8 hN hf hq
      have hF : f_r [8, 9, 10, 11, 12, 13, 14, 21, 22, 23, 24, 25, 26, 27, 28, 35, 36, 37] [18, 19, 21, 25, 26, 27, 28, 29, 30, 31, 32] [0, 2] σ τ9 := f_t hF hf (by decide) (by decide) (by decide)
      have hB := hN
      exact xri hx hb hr hlk hP hK hD hS ⟨_, _, r_x8, rfl, hN, hF, rfl, hw⟩ (Nat.le_of_ble_eq_true rfl) (Nat.le_of_ble_eq_true rfl) dX7_keyword_141
    have b0 : ¬ ((61 : Int) = n1) := fun h => e0 h.symm
    have b1 : ¬ ((97 : Int) = n1) := fun h => e1 h.symm
    have b2 : ¬ ((99 : Int) = n1) := fun h => e2 h.symm
    have b3 : ¬ ((100 : Int) = n1) := fun h => e3 h.symm
    have b4 : ¬ ((101 : Int) = n1) := fun h => e4 h.symm
    have b5 : ¬ ((102 : Int) = n1) := fun h => e5 h.symm
    have b6 : ¬ ((112 : Int) = n1) := fun h => e6 h.symm
    have b7 : ¬ ((118 : Int) = n1) := fun h => e7 h.symm
    have b8 : ¬ ((123 : Int) = n1) := fun h => e8 h.symm
    have b9 : ¬ ((125 : Int) = n1) := fun h => e9 h.symm
    refine lv_lookup (tgt := 142) (off := 141) hx hb dX7_keyword_1 (by decide) (by rw [I_toInt rr.1 rr.2]; simp [Op.lookupswitch.offset, List.find?, b0, b1, b2, b3, b4, b5, b6, b7, b8, b9]) (by decide) ?_
    replace hw := hw.2.2.2.2.2.2.2.2.2.2 ⟨e0, e1, e2, e3, e4, e5, e6, e7, e8, e9⟩
    refine lv_iconst (v := I 3) hx hb dX7_keyword_142 rfl ?_
    exact xri hx hb hr hlk hP hK hD hS ⟨_, _, (by decide), rfl, hN, hF, rfl, hw⟩ (Nat.le_of_ble_eq_true rfl) (Nat.le_of_ble_eq_true rfl) dX7_keyword_143
  ·
    intro u1 τ hw
    refine (hP92 _ _).mpr ?_
    intro r_u1 hN hF H locs ls hP hD hS hl
    have hB := hN
    refine lv_aload_n hx hb dX7_keyword_92 rfl (lv_at hl 0 rfl) ?_
    refine gfX7_state hx hb hts hK hP hown (hts _ tw_493) (x := τ.1 35) rfl dX7_keyword_93 ?_
    refine bi_if_ne (tgt := 107) hx hb (hB.1 35) dX7_keyword_96 (by decide) (fun c14 => ?_) (fun c14 => ?_)
    ·
      replace hw := hw.1 c14
      refine lv_iconst (v := I 4) hx hb dX7_keyword_107 rfl ?_
      exact xri hx hb hr hlk hP hK hD hS ⟨_, _, (by decide), rfl, hN, hF, rfl, hw⟩ (Nat.le_of_ble_eq_true rfl) (Nat.le_of_ble_eq_true rfl) dX7_keyword_108
    ·
      replace hw := hw.2 c14
      refine lv_aload_n hx hb dX7_keyword_99 rfl (lv_at hl 0 rfl) ?_
      refine lv_iload_n hx hb dX7_keyword_100 rfl (lv_at hl 1 rfl) ?_
      obtain ⟨Q15, hc, hw⟩ := hw
      refine wc_I (X := CX g q lb) (va_runV (As := [.int (I u1)]) (rest := []) ⟨hx, hb, hml, hown, hts⟩ (L_X7_declaration l g q lb hlb r_u1 hN hc H.size) (cwV 1 hts (TB_V tw_1059 tw_1061 ts_13 tw_7 co_X7_declaration) rfl rfl rfl (by decide +kernel) ⟨Nat.le_of_ble_eq_true rfl, Nat.le_of_ble_eq_true rfl⟩) (preV (q0 := 6) (ci := 7) rfl xT_bl hP hK hNb hD rfl rfl xT_at) rfl rfl hl.1 rfl (lv_room (Nat.le_of_ble_eq_true rfl)) dX7_keyword_101 ⟨Nat.le_of_ble_eq_true rfl, Nat.le_of_ble_eq_true rfl⟩) hP hD hS hA (fun x16 τ17 H locs r_x16 hN hf hq hP hD hS => ?_)
      replace hw := hw x16 τ17 r_x16 hN hf hq
      have hF : f_r [8, 9, 10, 11, 12, 13, 14, 21, 22, 23, 24, 25, 26, 27, 28, 35, 36, 37] [18, 19, 21, 25, 26, 27, 28, 29, 30, 31, 32] [0, 2] σ τ17 := f_t hF hf (by decide) (by decide) (by decide)
      have hB := hN
      refine lv_goto (tgt := 108) hx hb dX7_keyword_104 (by decide) ?_
      exact xri hx hb hr hlk hP hK hD hS ⟨_, _, r_x16, rfl, hN, hF, rfl, hw⟩ (Nat.le_of_ble_eq_true rfl) (Nat.le_of_ble_eq_true rfl) dX7_keyword_108
  ·
    intro u1 τ hw
    refine (hP109 _ _).mpr ?_
    intro r_u1 hN hF H locs ls hP hD hS hl
    have hB := hN
    refine lv_aload_n hx hb dX7_keyword_109 rfl (lv_at hl 0 rfl) ?_
    refine gfX7_state hx hb hts hK hP hown (hts _ tw_493) (x := τ.1 35) rfl dX7_keyword_110 ?_
    refine lv_iconst (v := I 1) hx hb dX7_keyword_113 rfl ?_
    refine bi_icmp_ne (tgt := 125) hx hb (hB.1 35) (by decide) dX7_keyword_114 (by decide) (fun c10 => ?_) (fun c10 => ?_)
    ·
      replace hw := hw.1 c10
      refine lv_iconst (v := I 4) hx hb dX7_keyword_125 rfl ?_
      exact xri hx hb hr hlk hP hK hD hS ⟨_, _, (by decide), rfl, hN, hF, rfl, hw⟩ (Nat.le_of_ble_eq_true rfl) (Nat.le_of_ble_eq_true rfl) dX7_keyword_126
    ·
      replace hw := hw.2 c10
      refine lv_aload_n hx hb dX7_keyword_117 rfl (lv_at hl 0 rfl) ?_
      refine lv_iload_n hx hb dX7_keyword_118 rfl (lv_at hl 1 rfl) ?_
      obtain ⟨Q11, hc, hw⟩ := hw
      refine wc_I (X := CX g q lb) (va_runV (As := [.int (I u1)]) (rest := []) ⟨hx, hb, hml, hown, hts⟩ (L_X7_statement l g q lb hlb r_u1 hN hc H.size) (cwV 1 hts (TB_V tw_1063 tw_1065 ts_14 tw_7 co_X7_statement) rfl rfl rfl (by decide +kernel) ⟨Nat.le_of_ble_eq_true rfl, Nat.le_of_ble_eq_true rfl⟩) (preV (q0 := 6) (ci := 7) rfl xT_bl hP hK hNb hD rfl rfl xT_at) rfl rfl hl.1 rfl (lv_room (Nat.le_of_ble_eq_true rfl)) dX7_keyword_119 ⟨Nat.le_of_ble_eq_true rfl, Nat.le_of_ble_eq_true rfl⟩) hP hD hS hA (fun x12 τ13 H locs r_x12 hN hf hq hP hD hS => ?_)
      replace hw := hw x12 τ13 r_x12 hN hf hq
      have hF : f_r [8, 9, 10, 11, 12, 13, 14, 21, 22, 23, 24, 25, 26, 27, 28, 35, 36, 37] [18, 19, 21, 25, 26, 27, 28, 29, 30, 31, 32] [0, 2] σ τ13 := f_t hF hf (by decide) (by decide) (by decide)
      have hB := hN
      refine lv_goto (tgt := 126) hx hb dX7_keyword_122 (by decide) ?_
      exact xri hx hb hr hlk hP hK hD hS ⟨_, _, r_x12, rfl, hN, hF, rfl, hw⟩ (Nat.le_of_ble_eq_true rfl) (Nat.le_of_ble_eq_true rfl) dX7_keyword_126
