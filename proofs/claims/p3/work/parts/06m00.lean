-- methods told as propositions, and tied to the machine
def W_X13_isIn (n0 : Int64) (n2 : Int64) (n4 : Int64) (σ : S0) (Q : Int → Prop) : Prop :=
  (n0 < n2 → Q 0) ∧ (n2 ≤ n0 → (n4 < n0 → Q 0) ∧ (n0 ≤ n4 → Q 1))
set_option maxRecDepth 100000 in
set_option maxHeartbeats 4000000 in
theorem L_X13_isIn (l : Launch) (g : gG) (q : Nat → Nat) (lb : Nat) (hlb : lb < 2 ^ 31) {n0 : Int64} {n2 : Int64} {n4 : Int64} {σ : S0} {Q : Int → Prop} (hN : n_m σ) (hw : W_X13_isIn n0 n2 n4 σ Q) (sz : Nat) : MetI l yX13_isIn cX13_isIn 6 (some .boolean) { frames := 0, cells := 0, slots := 0, locals := 0 } g [.long n0, .long n2, .long n4] (MX g q lb σ) sz xT (p_i (MX g q lb) σ Q) 0 0 := by
  refine mkMet (Qc := fun A => QI g A (p_i (MX g q lb) σ Q)) (by decide) (Nat.le_of_ble_eq_true rfl) ?_
  intro p e s m below meth c A H ls hx hb hr hml hown hts hlk hnm hsz hP hK hNb hD hA hAe hS hX hl
  have hl : lv_has ls 6 [(0, .long n0), (2, .long n2), (4, .long n4)] := hl
  have hB := hN
  obtain ⟨locs, hlocs⟩ : ∃ z : List Loc, z = [] := ⟨_, rfl⟩
  rw [← hlocs] at hS ⊢
  refine lv_lload_n hx hb dX13_isIn_0 rfl (lv_at hl 0 rfl) ?_
  refine lv_lload_n hx hb dX13_isIn_1 rfl (lv_at hl 1 rfl) ?_
  refine bi_lcmp_lt (tgt := 17) hx hb dX13_isIn_2 dX13_isIn_3 (by decide) (fun c1 => ?_) (fun c1 => ?_)
  ·
    replace hw := hw.1 c1
    refine lv_iconst (v := I 0) hx hb dX13_isIn_17 rfl ?_
    exact xrz hx hb hr (by decide) hlk hP hK hD hS ⟨_, (by decide), rfl, rfl, hw⟩ (Nat.le_of_ble_eq_true rfl) (Nat.le_of_ble_eq_true rfl) dX13_isIn_18
  ·
    replace hw := hw.2 c1
    refine lv_lload_n hx hb dX13_isIn_6 rfl (lv_at hl 0 rfl) ?_
    refine lv_lload hx hb dX13_isIn_7 (lv_at hl 2 rfl) ?_
    refine bi_lcmp_gt (tgt := 17) hx hb dX13_isIn_9 dX13_isIn_10 (by decide) (fun c2 => ?_) (fun c2 => ?_)
    ·
      replace hw := hw.1 c2
      refine lv_iconst (v := I 0) hx hb dX13_isIn_17 rfl ?_
      exact xrz hx hb hr (by decide) hlk hP hK hD hS ⟨_, (by decide), rfl, rfl, hw⟩ (Nat.le_of_ble_eq_true rfl) (Nat.le_of_ble_eq_true rfl) dX13_isIn_18
    ·
      replace hw := hw.2 c2
      refine lv_iconst (v := I 1) hx hb dX13_isIn_13 rfl ?_
      refine lv_goto (tgt := 18) hx hb dX13_isIn_14 (by decide) ?_
      exact xrz hx hb hr (by decide) hlk hP hK hD hS ⟨_, (by decide), rfl, rfl, hw⟩ (Nat.le_of_ble_eq_true rfl) (Nat.le_of_ble_eq_true rfl) dX13_isIn_18
def W_X13_feed (n1 : Int) (n2 : Int) (n3 : Int) (n4 : Int) (n5 : Int) (σ : S0) (Q : Int → S0 → Prop) : Prop :=
  ∀ (P18 : Int → Int → Int → Int → Int → Int → S0 → Prop) (P34 : Int → Int → Int → Int → Int → Int → S0 → Prop) (P87 : Int → Int → Int → Int → Int → Int → Int → S0 → Prop),
  (∀ (u1 : Int) (u2 : Int) (u3 : Int) (u4 : Int) (u5 : Int) (k1 : Int) (τ : S0), ((0 ≤ k1 ∧ k1 ≤ 1) ∧ ((¬ k1 = 0 → P34 u1 u2 u3 u4 u5 0 (s_v τ 1 k1)) ∧ (k1 = 0 → Q (-2) (s_v τ 1 k1)))) → P18 u1 u2 u3 u4 u5 k1 τ) →
  (∀ (u1 : Int) (u2 : Int) (u3 : Int) (u4 : Int) (u5 : Int) (u6 : Int) (τ : S0), ((20 ≤ u6 → Q (τ.1 0) τ) ∧ (u6 < 20 → (4 ≤ u6 → (8 ≤ u6 → (12 ≤ u6 → (16 ≤ u6 → P87 u1 u2 u3 u4 u5 u6 u5 τ) ∧ (u6 < 16 → P87 u1 u2 u3 u4 u5 u6 u4 τ)) ∧ (u6 < 12 → P87 u1 u2 u3 u4 u5 u6 u3 τ)) ∧ (u6 < 8 → P87 u1 u2 u3 u4 u5 u6 u2 τ)) ∧ (u6 < 4 → P87 u1 u2 u3 u4 u5 u6 u1 τ))) → P34 u1 u2 u3 u4 u5 u6 τ) →
  (∀ (u1 : Int) (u2 : Int) (u3 : Int) (u4 : Int) (u5 : Int) (u6 : Int) (k0 : Int) (τ : S0), (∀ (x10 : Int), rg x10 → (0 ≤ u6 → x10 = u6 % 4) → (u6 < 0 → x10 = -((-u6) % 4)) → (∀ (x11 : Int), rg x11 → ((0 ≤ τ.1 0 ∧ τ.1 0 < 60000) ∧ (rg (τ.1 0 + 1) ∧ rg (u6 + 1) ∧ P34 u1 u2 u3 u4 u5 (u6 + 1) (s_v (s_a τ 0 (τ.1 0) (x11 % 256)) 0 (τ.1 0 + 1)))))) → P87 u1 u2 u3 u4 u5 u6 k0 τ) →
  rg (σ.1 0 + 20) ∧ (60000 < (σ.1 0 + 20) → P18 n1 n2 n3 n4 n5 0 σ) ∧ ((σ.1 0 + 20) ≤ 60000 → P18 n1 n2 n3 n4 n5 1 σ)
set_option maxRecDepth 100000 in
set_option maxHeartbeats 4000000 in
theorem L_X13_feed (l : Launch) (g : gG) (q : Nat → Nat) (lb : Nat) (hlb : lb < 2 ^ 31) {n1 : Int} {n2 : Int} {n3 : Int} {n4 : Int} {n5 : Int} {σ : S0} {Q : Int → S0 → Prop} (r_n1 : rg n1) (r_n2 : rg n2) (r_n3 : rg n3) (r_n4 : rg n4) (r_n5 : rg n5) (hN : n_m σ) (hw : W_X13_feed n1 n2 n3 n4 n5 σ Q) (sz : Nat) : MetI l yX13_feed cX13_feed 8 (some .int) { frames := 0, cells := 0, slots := 0, locals := 0 } g [.ref (q 0), .int (I n1), .int (I n2), .int (I n3), .int (I n4), .int (I n5)] (MX g q lb σ) sz xT (p_I (MX g q lb) [0, 1] [0] [] σ Q) 0 0 := by
  refine mkMet (Qc := fun A => QI g A (p_I (MX g q lb) [0, 1] [0] [] σ Q)) (by decide) (Nat.le_of_ble_eq_true rfl) ?_
  intro p e s m below meth c A H ls hx hb hr hml hown hts hlk hnm hsz hP hK hNb hD hA hAe hS hX hl
  have hl : lv_has ls 8 [(0, .ref (q 0)), (1, .int (I n1)), (2, .int (I n2)), (3, .int (I n3)), (4, .int (I n4)), (5, .int (I n5))] := hl
  have hB := hN
  have hF : f_r [0, 1] [0] [] σ σ := f_0
  obtain ⟨locs, hlocs⟩ : ∃ z : List Loc, z = [] := ⟨_, rfl⟩
  rw [← hlocs] at hS ⊢
  obtain ⟨P18, hP18⟩ : ∃ P : Int → Int → Int → Int → Int → Int → S0 → Prop, ∀ (u1 : Int) (u2 : Int) (u3 : Int) (u4 : Int) (u5 : Int) (k1 : Int) (τ : S0), (P u1 u2 u3 u4 u5 k1 τ ↔ (rg u1 → rg u2 → rg u3 → rg u4 → rg u5 → rg k1 → n_m τ → f_r [0, 1] [0] [] σ τ → ∀ (H : Heap) (locs : List Loc) (ls : Array Slot), KP g (MX g q lb τ) H → va_D A (MX g q lb τ) → va_S A s.heap H locs → lv_has ls 8 [(0, .ref (q 0)), (1, .int (I u1)), (2, .int (I u2)), (3, .int (I u3)), (4, .int (I u4)), (5, .int (I u5))] → W p l e ({ frames := 0, cells := 0, slots := 0, locals := 0 }) s m [.ref (q 0), .int (I n1), .int (I n2), .int (I n3), .int (I n4), .int (I n5)].toArray below meth c H locs 0 0 (MQ below (QI g A (p_I (MX g q lb) [0, 1] [0] [] σ Q)) [.ref (q 0), .int (I n1), .int (I n2), .int (I n3), .int (I n4), .int (I n5)].toArray s 0 0 A) (F0 m 18 ls [.int (I k1), .ref (q 0)]))) := ⟨_, fun _ _ _ _ _ _ _ => Iff.rfl⟩
  obtain ⟨P34, hP34⟩ : ∃ P : Int → Int → Int → Int → Int → Int → S0 → Prop, ∀ (u1 : Int) (u2 : Int) (u3 : Int) (u4 : Int) (u5 : Int) (u6 : Int) (τ : S0), (P u1 u2 u3 u4 u5 u6 τ ↔ (rg u1 → rg u2 → rg u3 → rg u4 → rg u5 → rg u6 → n_m τ → f_r [0, 1] [0] [] σ τ → ∀ (H : Heap) (locs : List Loc) (ls : Array Slot), KP g (MX g q lb τ) H → va_D A (MX g q lb τ) → va_S A s.heap H locs → lv_has ls 8 [(0, .ref (q 0)), (1, .int (I u1)), (2, .int (I u2)), (3, .int (I u3)), (4, .int (I u4)), (5, .int (I u5)), (6, .int (I u6))] → W p l e ({ frames := 0, cells := 0, slots := 0, locals := 0 }) s m [.ref (q 0), .int (I n1), .int (I n2), .int (I n3), .int (I n4), .int (I n5)].toArray below meth c H locs 0 0 (MQ below (QI g A (p_I (MX g q lb) [0, 1] [0] [] σ Q)) [.ref (q 0), .int (I n1), .int (I n2), .int (I n3), .int (I n4), .int (I n5)].toArray s 0 0 A) (F0 m 34 ls []))) := ⟨_, fun _ _ _ _ _ _ _ => Iff.rfl⟩
  obtain ⟨P87, hP87⟩ : ∃ P : Int → Int → Int → Int → Int → Int → Int → S0 → Prop, ∀ (u1 : Int) (u2 : Int) (u3 : Int) (u4 : Int) (u5 : Int) (u6 : Int) (k0 : Int) (τ : S0), (P u1 u2 u3 u4 u5 u6 k0 τ ↔ (rg u1 → rg u2 → rg u3 → rg u4 → rg u5 → rg u6 → rg k0 → n_m τ → f_r [0, 1] [0] [] σ τ → ∀ (H : Heap) (locs : List Loc) (ls : Array Slot), KP g (MX g q lb τ) H → va_D A (MX g q lb τ) → va_S A s.heap H locs → lv_has ls 8 [(0, .ref (q 0)), (1, .int (I u1)), (2, .int (I u2)), (3, .int (I u3)), (4, .int (I u4)), (5, .int (I u5)), (6, .int (I u6))] → W p l e ({ frames := 0, cells := 0, slots := 0, locals := 0 }) s m [.ref (q 0), .int (I n1), .int (I n2), .int (I n3), .int (I n4), .int (I n5)].toArray below meth c H locs 0 0 (MQ below (QI g A (p_I (MX g q lb) [0, 1] [0] [] σ Q)) [.ref (q 0), .int (I n1), .int (I n2), .int (I n3), .int (I n4), .int (I n5)].toArray s 0 0 A) (F0 m 87 ls [.int (I k0)]))) := ⟨_, fun _ _ _ _ _ _ _ _ => Iff.rfl⟩
  refine (fun hw => ?_) (hw P18 P34 P87 ?_ ?_ ?_)
  ·
    refine lv_aload_n hx hb dX13_feed_0 rfl (lv_at hl 0 rfl) ?_
    refine lv_aload_n hx hb dX13_feed_1 rfl (lv_at hl 0 rfl) ?_
    refine gfX13_tapeSize hx hb hts hK hP hown (hts _ tw_2007) (x := σ.1 0) rfl dX13_feed_2 ?_
    refine lv_bipush (v := I 20) hx hb dX13_feed_5 (by decide) ?_
    refine bi_iadd hx hb dX13_feed_7 ?_
    refine lv_ldc (own := RX13) (v := 60000) hx hb hown (hts _ tw_1993) dX13_feed_8 ?_
    refine xtop (y := I 60000) (by decide) ?_
    obtain ⟨c1, hw⟩ := hw
    refine bi_icmp_gt (tgt := 17) hx hb c1 (by decide) dX13_feed_10 (by decide) (fun c2 => ?_) (fun c2 => ?_)
    ·
      replace hw := hw.1 c2
      refine lv_iconst (v := I 0) hx hb dX13_feed_17 rfl ?_
      exact (hP18 _ _ _ _ _ _ _).mp hw r_n1 r_n2 r_n3 r_n4 r_n5 (by decide) hN hF H locs ls hP hD hS (lv_sub hl [0, 1, 2, 3, 4, 5] rfl)
    ·
      replace hw := hw.2 c2
      refine lv_iconst (v := I 1) hx hb dX13_feed_13 rfl ?_
      refine lv_goto (tgt := 18) hx hb dX13_feed_14 (by decide) ?_
      exact (hP18 _ _ _ _ _ _ _).mp hw r_n1 r_n2 r_n3 r_n4 r_n5 (by decide) hN hF H locs ls hP hD hS (lv_sub hl [0, 1, 2, 3, 4, 5] rfl)
  ·
    intro u1 u2 u3 u4 u5 k1 τ hw
    refine (hP18 _ _ _ _ _ _ _).mpr ?_
    intro r_u1 r_u2 r_u3 r_u4 r_u5 r_k1 hN hF H locs ls hP hD hS hl
    have hB := hN
    obtain ⟨c3, hw⟩ := hw
    refine pfX13_isFed hx hb hts hK hP hD hS hown (hts _ tw_2008) c3 dX13_feed_18 (fun H locs hP hD hS => ?_)
    have hN : n_m (s_v τ 1 k1) := n_v (i := 1) hN (r_k1 : rg k1)
    have hF : f_r [0, 1] [0] [] σ (s_v τ 1 k1) := f_v hF (by decide)
    refine lv_aload_n hx hb dX13_feed_21 rfl (lv_at hl 0 rfl) ?_
    refine gfX13_isFed hx hb hts hK hP hown (hts _ tw_2008) (x := k1) rfl dX13_feed_22 ?_
    refine bi_if_ne (tgt := 31) hx hb r_k1 dX13_feed_25 (by decide) (fun c4 => ?_) (fun c4 => ?_)
    ·
      replace hw := hw.1 c4
      refine lv_iconst (v := I 0) hx hb dX13_feed_31 rfl ?_
      refine lv_istore (lv' := [(6, .int (I 0)), (0, .ref (q 0)), (1, .int (I u1)), (2, .int (I u2)), (3, .int (I u3)), (4, .int (I u4)), (5, .int (I u5))]) hx hb dX13_feed_32 hl (by decide) rfl (fun ls hl => ?_)
      exact (hP34 _ _ _ _ _ _ _).mp hw r_u1 r_u2 r_u3 r_u4 r_u5 (by decide) hN hF H locs ls hP hD hS (lv_sub hl [1, 2, 3, 4, 5, 6, 0] rfl)
    ·
      replace hw := hw.2 c4
      refine lv_bipush (v := I (-2)) hx hb dX13_feed_28 (by decide) ?_
      exact xri hx hb hr hlk hP hK hD hS ⟨_, _, (by decide), rfl, hN, hF, rfl, hw⟩ (Nat.le_of_ble_eq_true rfl) (Nat.le_of_ble_eq_true rfl) dX13_feed_30
  ·
    intro u1 u2 u3 u4 u5 u6 τ hw
    refine (hP34 _ _ _ _ _ _ _).mpr ?_
    intro r_u1 r_u2 r_u3 r_u4 r_u5 r_u6 hN hF H locs ls hP hD hS hl
    have hB := hN
    refine lv_iload hx hb dX13_feed_34 (lv_at hl 6 rfl) ?_
    refine lv_bipush (v := I 20) hx hb dX13_feed_36 (by decide) ?_
    refine bi_icmp_ge (tgt := 131) hx hb r_u6 (by decide) dX13_feed_38 (by decide) (fun c5 => ?_) (fun c5 => ?_)
    ·
      replace hw := hw.1 c5
      refine lv_aload_n hx hb dX13_feed_131 rfl (lv_at hl 0 rfl) ?_
      refine gfX13_tapeSize hx hb hts hK hP hown (hts _ tw_2007) (x := τ.1 0) rfl dX13_feed_132 ?_
      exact xri hx hb hr hlk hP hK hD hS ⟨_, _, (hB.1 0), rfl, hN, hF, rfl, hw⟩ (Nat.le_of_ble_eq_true rfl) (Nat.le_of_ble_eq_true rfl) dX13_feed_135
    ·
      replace hw := hw.2 c5
      refine lv_iload hx hb dX13_feed_41 (lv_at hl 6 rfl) ?_
      refine lv_iconst (v := I 4) hx hb dX13_feed_43 rfl ?_
      refine bi_icmp_ge (tgt := 51) hx hb r_u6 (by decide) dX13_feed_44 (by decide) (fun c6 => ?_) (fun c6 => ?_)
      ·
        replace hw := hw.1 c6
        refine lv_iload hx hb dX13_feed_51 (lv_at hl 6 rfl) ?_
        refine lv_bipush (v := I 8) hx hb dX13_feed_53 (by decide) ?_
        refine bi_icmp_ge (tgt := 62) hx hb r_u6 (by decide) dX13_feed_55 (by decide) (fun c7 => ?_) (fun c7 => ?_)
        ·
          replace hw := hw.1 c7
          refine lv_iload hx hb dX13_feed_62 (lv_at hl 6 rfl) ?_
          refine lv_bipush (v := I 12) hx hb dX13_feed_64 (by decide) ?_
          refine bi_icmp_ge (tgt := 73) hx hb r_u6 (by decide) dX13_feed_66 (by decide) (fun c8 => ?_) (fun c8 => ?_)
          ·
            replace hw := hw.1 c8
            refine lv_iload hx hb dX13_feed_73 (lv_at hl 6 rfl) ?_
            refine lv_bipush (v := I 16) hx hb dX13_feed_75 (by decide) ?_
            refine bi_icmp_ge (tgt := 85) hx hb r_u6 (by decide) dX13_feed_77 (by decide) (fun c9 => ?_) (fun c9 => ?_)
            ·
              replace hw := hw.1 c9
              refine lv_iload hx hb dX13_feed_85 (lv_at hl 5 rfl) ?_
              exact (hP87 _ _ _ _ _ _ _ _).mp hw r_u1 r_u2 r_u3 r_u4 r_u5 r_u6 r_u5 hN hF H locs ls hP hD hS (lv_sub hl [0, 1, 2, 3, 4, 5, 6] rfl)
            ·
              replace hw := hw.2 c9
              refine lv_iload hx hb dX13_feed_80 (lv_at hl 4 rfl) ?_
              refine lv_goto (tgt := 87) hx hb dX13_feed_82 (by decide) ?_
              exact (hP87 _ _ _ _ _ _ _ _).mp hw r_u1 r_u2 r_u3 r_u4 r_u5 r_u6 r_u4 hN hF H locs ls hP hD hS (lv_sub hl [0, 1, 2, 3, 4, 5, 6] rfl)
          ·
            replace hw := hw.2 c8
            refine lv_iload_n hx hb dX13_feed_69 rfl (lv_at hl 3 rfl) ?_
            refine lv_goto (tgt := 87) hx hb dX13_feed_70 (by decide) ?_
            exact (hP87 _ _ _ _ _ _ _ _).mp hw r_u1 r_u2 r_u3 r_u4 r_u5 r_u6 r_u3 hN hF H locs ls hP hD hS (lv_sub hl [0, 1, 2, 3, 4, 5, 6] rfl)
        ·
          replace hw := hw.2 c7
          refine lv_iload_n hx hb dX13_feed_58 rfl (lv_at hl 2 rfl) ?_
          refine lv_goto (tgt := 87) hx hb dX13_feed_59 (by decide) ?_
          exact (hP87 _ _ _ _ _ _ _ _).mp hw r_u1 r_u2 r_u3 r_u4 r_u5 r_u6 r_u2 hN hF H locs ls hP hD hS (lv_sub hl [0, 1, 2, 3, 4, 5, 6] rfl)
      ·
        replace hw := hw.2 c6
        refine lv_iload_n hx hb dX13_feed_47 rfl (lv_at hl 1 rfl) ?_
        refine lv_goto (tgt := 87) hx hb dX13_feed_48 (by decide) ?_
        exact (hP87 _ _ _ _ _ _ _ _).mp hw r_u1 r_u2 r_u3 r_u4 r_u5 r_u6 r_u1 hN hF H locs ls hP hD hS (lv_sub hl [0, 1, 2, 3, 4, 5, 6] rfl)
  ·
    intro u1 u2 u3 u4 u5 u6 k0 τ hw
    refine (hP87 _ _ _ _ _ _ _ _).mpr ?_
    intro r_u1 r_u2 r_u3 r_u4 r_u5 r_u6 r_k0 hN hF H locs ls hP hD hS hl
    have hB := hN
    refine lv_istore (lv' := [(7, .int (I k0)), (0, .ref (q 0)), (1, .int (I u1)), (2, .int (I u2)), (3, .int (I u3)), (4, .int (I u4)), (5, .int (I u5)), (6, .int (I u6))]) hx hb dX13_feed_87 hl (by decide) rfl (fun ls hl => ?_)
    refine lv_aload_n hx hb dX13_feed_89 rfl (lv_at hl 1 rfl) ?_
    refine gfX13_tape hx hb hts hK hP hown (hts _ tw_2006) dX13_feed_90 ?_
    refine lv_aload_n hx hb dX13_feed_93 rfl (lv_at hl 1 rfl) ?_
    refine gfX13_tapeSize hx hb hts hK hP hown (hts _ tw_2007) (x := τ.1 0) rfl dX13_feed_94 ?_
    refine lv_iload hx hb dX13_feed_97 (lv_at hl 0 rfl) ?_
    refine lv_bipush (v := I 24) hx hb dX13_feed_99 (by decide) ?_
    refine lv_bipush (v := I 8) hx hb dX13_feed_101 (by decide) ?_
    refine lv_iload hx hb dX13_feed_103 (lv_at hl 7 rfl) ?_
    refine lv_iconst (v := I 4) hx hb dX13_feed_105 rfl ?_
    refine bi_irem hx hb r_u6 (by decide) (by decide) dX13_feed_106 (fun x10 r_x10 p_x10 m_x10 => ?_)
    replace hw := hw x10 r_x10 p_x10 m_x10
    refine bi_imul hx hb dX13_feed_107 ?_
    refine bi_isub hx hb dX13_feed_108 ?_
    refine lv_ishr hx hb dX13_feed_109 ?_
    refine bi_hav (fun x11 r_x11 => ?_)
    replace hw := hw x11 r_x11
    refine lv_sipush (v := I 255) hx hb dX13_feed_110 (by decide) ?_
    refine bi_iandm hx hb 255 8 256 (by decide) (by decide) (by omega) dX13_feed_113 ?_
    obtain ⟨c12, hw⟩ := hw
    refine sdMX13_tape hx hb hK hP hD hS c12 dX13_feed_114 (fun H locs hP hD hS => ?_)
    have hN : n_m (s_a τ 0 (τ.1 0) (x11 % 256)) := n_a (k := 0) (j := τ.1 0) hN ((⟨by omega, by omega⟩ : rg (x11 % 256)) : rg (x11 % 256))
    have hF : f_r [0, 1] [0] [] σ (s_a τ 0 (τ.1 0) (x11 % 256)) := f_a hF (by decide)
    refine lv_aload_n hx hb dX13_feed_115 rfl (lv_at hl 1 rfl) ?_
    refine lv_dup hx hb dX13_feed_116 rfl ?_
    refine gfX13_tapeSize hx hb hts hK hP hown (hts _ tw_2007) (x := τ.1 0) rfl dX13_feed_117 ?_
    refine lv_iconst (v := I 1) hx hb dX13_feed_120 rfl ?_
    refine bi_iadd hx hb dX13_feed_121 ?_
    obtain ⟨c13, hw⟩ := hw
    refine pfX13_tapeSize hx hb hts hK hP hD hS hown (hts _ tw_2007) dX13_feed_122 (fun H locs hP hD hS => ?_)
    have hN : n_m (s_v (s_a τ 0 (τ.1 0) (x11 % 256)) 0 (τ.1 0 + 1)) := n_v (i := 0) hN (c13 : rg (τ.1 0 + 1))
    have hF : f_r [0, 1] [0] [] σ (s_v (s_a τ 0 (τ.1 0) (x11 % 256)) 0 (τ.1 0 + 1)) := f_v hF (by decide)
    refine lv_iinc (v := I (u6 + 1)) (lv' := [(6, .int (I (u6 + 1))), (7, .int (I k0)), (0, .ref (q 0)), (1, .int (I u1)), (2, .int (I u2)), (3, .int (I u3)), (4, .int (I u4)), (5, .int (I u5))]) hx hb dX13_feed_125 hl (k := 7) rfl (I_add _ _) (by decide) rfl (fun ls hl => ?_)
    refine lv_goto (tgt := 34) hx hb dX13_feed_128 (by decide) ?_
    obtain ⟨c14, hw⟩ := hw
    exact (hP34 _ _ _ _ _ _ _).mp hw r_u1 r_u2 r_u3 r_u4 r_u5 c14 hN hF H locs ls hP hD hS (lv_sub hl [2, 3, 4, 5, 6, 7, 0] rfl)
def W_X13_end (n1 : Int) (σ : S0) (Q : Int → S0 → Prop) : Prop :=
  (σ.1 1 = 0 → Q (-1) σ) ∧ (¬ σ.1 1 = 0 → ∃ (Q2 : Int → Prop), W_X13_isIn (j_of n1) 0 19 σ Q2 ∧ ∀ (x3 : Int), rg x3 → Q2 x3 → ((¬ x3 = 0 → rg (σ.1 0 - (20 - n1)) ∧ Q (σ.1 0 - (20 - n1)) (s_v (s_v σ 0 (σ.1 0 - (20 - n1))) 1 0)) ∧ (x3 = 0 → Q (-1) σ)))
set_option maxRecDepth 100000 in
set_option maxHeartbeats 4000000 in
theorem L_X13_end (l : Launch) (g : gG) (q : Nat → Nat) (lb : Nat) (hlb : lb < 2 ^ 31) {n1 : Int} {σ : S0} {Q : Int → S0 → Prop} (r_n1 : rg n1) (hN : n_m σ) (hw : W_X13_end n1 σ Q) (sz : Nat) : MetI l yX13_end cX13_end 2 (some .int) { frames := 1, cells := 0, slots := 0, locals := 25 } g [.ref (q 0), .int (I n1)] (MX g q lb σ) sz xT (p_I (MX g q lb) [0, 1] [] [] σ Q) 0 0 := by
  refine mkMet (Qc := fun A => QI g A (p_I (MX g q lb) [0, 1] [] [] σ Q)) (by decide) (Nat.le_of_ble_eq_true rfl) ?_
  intro p e s m below meth c A H ls hx hb hr hml hown hts hlk hnm hsz hP hK hNb hD hA hAe hS hX hl
  have hl : lv_has ls 2 [(0, .ref (q 0)), (1, .int (I n1))] := hl
  have hB := hN
  have hF : f_r [0, 1] [] [] σ σ := f_0
  obtain ⟨locs, hlocs⟩ : ∃ z : List Loc, z = [] := ⟨_, rfl⟩
  rw [← hlocs] at hS ⊢
  refine lv_aload_n hx hb dX13_end_0 rfl (lv_at hl 0 rfl) ?_
  refine gfX13_isFed hx hb hts hK hP hown (hts _ tw_2008) (x := σ.1 1) rfl dX13_end_1 ?_
  refine bi_if_eq (tgt := 19) hx hb (hB.1 1) dX13_end_4 (by decide) (fun c1 => ?_) (fun c1 => ?_)
  ·
    replace hw := hw.1 c1
    refine lv_iconst (v := I (-1)) hx hb dX13_end_19 rfl ?_
    exact xri hx hb hr hlk hP hK hD hS ⟨_, _, (by decide), rfl, hN, hF, rfl, hw⟩ (Nat.le_of_ble_eq_true rfl) (Nat.le_of_ble_eq_true rfl) dX13_end_20
  ·
    replace hw := hw.2 c1
    refine lv_iload_n hx hb dX13_end_7 rfl (lv_at hl 1 rfl) ?_
    refine bi_i2l hx hb r_n1 dX13_end_8 ?_
    refine lv_lconst (v := 0) hx hb dX13_end_9 (by decide) ?_
    refine lv_ldc2 (own := RX13) (v := 19) hx hb hown (hts _ tw_2524) dX13_end_10 ?_
    obtain ⟨Q2, hc, hw⟩ := hw
    refine wc_i (X := MX g q lb) (va_runS (As := [.long (j_of n1), .long 0, .long 19]) (rest := []) ⟨hx, hb, hml, hown, hts⟩ (L_X13_isIn l g q lb hlb  hN hc H.size) (cwS 3 hts (TB_S tw_2525 tw_2526 tw_15 co_X13_isIn) rfl rfl rfl (by decide +kernel) ⟨Nat.le_of_ble_eq_true rfl, Nat.le_of_ble_eq_true rfl⟩) (preS xT_bl hP hK hNb hD xT_at) rfl rfl hl.1 rfl (lv_room (Nat.le_of_ble_eq_true rfl)) dX13_end_13 ⟨Nat.le_of_ble_eq_true rfl, Nat.le_of_ble_eq_true rfl⟩) hP hD hS hA (fun x3 H locs r_x3 hq hP hD hS => ?_)
    replace hw := hw x3 r_x3 hq
    refine bi_if_ne (tgt := 21) hx hb r_x3 dX13_end_16 (by decide) (fun c5 => ?_) (fun c5 => ?_)
    ·
      replace hw := hw.1 c5
      refine lv_aload_n hx hb dX13_end_21 rfl (lv_at hl 0 rfl) ?_
      refine lv_dup hx hb dX13_end_22 rfl ?_
      refine gfX13_tapeSize hx hb hts hK hP hown (hts _ tw_2007) (x := σ.1 0) rfl dX13_end_23 ?_
      refine lv_bipush (v := I 20) hx hb dX13_end_26 (by decide) ?_
      refine lv_iload_n hx hb dX13_end_28 rfl (lv_at hl 1 rfl) ?_
      refine bi_isub hx hb dX13_end_29 ?_
      refine bi_isub hx hb dX13_end_30 ?_
      obtain ⟨c6, hw⟩ := hw
      refine pfX13_tapeSize hx hb hts hK hP hD hS hown (hts _ tw_2007) dX13_end_31 (fun H locs hP hD hS => ?_)
      have hN : n_m (s_v σ 0 (σ.1 0 - (20 - n1))) := n_v (i := 0) hN (c6 : rg (σ.1 0 - (20 - n1)))
      have hF : f_r [0, 1] [] [] σ (s_v σ 0 (σ.1 0 - (20 - n1))) := f_v hF (by decide)
      refine lv_aload_n hx hb dX13_end_34 rfl (lv_at hl 0 rfl) ?_
      refine lv_iconst (v := I 0) hx hb dX13_end_35 rfl ?_
      refine pfX13_isFed hx hb hts hK hP hD hS hown (hts _ tw_2008) (by decide)  dX13_end_36 (fun H locs hP hD hS => ?_)
      have hN : n_m (s_v (s_v σ 0 (σ.1 0 - (20 - n1))) 1 0) := n_v (i := 1) hN ((by decide) : rg 0)
      have hF : f_r [0, 1] [] [] σ (s_v (s_v σ 0 (σ.1 0 - (20 - n1))) 1 0) := f_v hF (by decide)
      refine lv_aload_n hx hb dX13_end_39 rfl (lv_at hl 0 rfl) ?_
      refine gfX13_tapeSize hx hb hts hK hP hown (hts _ tw_2007) (x := (σ.1 0 - (20 - n1))) rfl dX13_end_40 ?_
      exact xri hx hb hr hlk hP hK hD hS ⟨_, _, c6, rfl, hN, hF, rfl, hw⟩ (Nat.le_of_ble_eq_true rfl) (Nat.le_of_ble_eq_true rfl) dX13_end_43
    ·
      replace hw := hw.2 c5
      refine lv_iconst (v := I (-1)) hx hb dX13_end_19 rfl ?_
      exact xri hx hb hr hlk hP hK hD hS ⟨_, _, (by decide), rfl, hN, hF, rfl, hw⟩ (Nat.le_of_ble_eq_true rfl) (Nat.le_of_ble_eq_true rfl) dX13_end_20
def W_X13_isBlank (n0 : Int) (σ : S0) (Q : Int → Prop) : Prop :=
  (n0 = 9 → Q 1) ∧ (¬ n0 = 9 → (n0 = 10 → Q 1) ∧ (¬ n0 = 10 → (n0 = 12 → Q 1) ∧ (¬ n0 = 12 → (n0 = 13 → Q 1) ∧ (¬ n0 = 13 → (¬ n0 = 32 → Q 0) ∧ (n0 = 32 → Q 1)))))
set_option maxRecDepth 100000 in
set_option maxHeartbeats 4000000 in
theorem L_X13_isBlank (l : Launch) (g : gG) (q : Nat → Nat) (lb : Nat) (hlb : lb < 2 ^ 31) {n0 : Int} {σ : S0} {Q : Int → Prop} (r_n0 : rg n0) (hN : n_m σ) (hw : W_X13_isBlank n0 σ Q) (sz : Nat) : MetI l yX13_isBlank cX13_isBlank 1 (some .boolean) { frames := 0, cells := 0, slots := 0, locals := 0 } g [.int (I n0)] (MX g q lb σ) sz xT (p_i (MX g q lb) σ Q) 0 0 := by
  refine mkMet (Qc := fun A => QI g A (p_i (MX g q lb) σ Q)) (by decide) (Nat.le_of_ble_eq_true rfl) ?_
  intro p e s m below meth c A H ls hx hb hr hml hown hts hlk hnm hsz hP hK hNb hD hA hAe hS hX hl
  have hl : lv_has ls 1 [(0, .int (I n0))] := hl
  have hB := hN
  obtain ⟨locs, hlocs⟩ : ∃ z : List Loc, z = [] := ⟨_, rfl⟩
  rw [← hlocs] at hS ⊢
  refine lv_iload_n hx hb dX13_isBlank_0 rfl (lv_at hl 0 rfl) ?_
  refine lv_bipush (v := I 9) hx hb dX13_isBlank_1 (by decide) ?_
  refine bi_icmp_eq (tgt := 30) hx hb r_n0 (by decide) dX13_isBlank_3 (by decide) (fun c1 => ?_) (fun c1 => ?_)
  ·
    replace hw := hw.1 c1
    refine lv_iconst (v := I 1) hx hb dX13_isBlank_30 rfl ?_
    refine lv_goto (tgt := 35) hx hb dX13_isBlank_31 (by decide) ?_
    exact xrz hx hb hr (by decide) hlk hP hK hD hS ⟨_, (by decide), rfl, rfl, hw⟩ (Nat.le_of_ble_eq_true rfl) (Nat.le_of_ble_eq_true rfl) dX13_isBlank_35
  ·
    replace hw := hw.2 c1
    refine lv_iload_n hx hb dX13_isBlank_6 rfl (lv_at hl 0 rfl) ?_
    refine lv_bipush (v := I 10) hx hb dX13_isBlank_7 (by decide) ?_
    refine bi_icmp_eq (tgt := 30) hx hb r_n0 (by decide) dX13_isBlank_9 (by decide) (fun c2 => ?_) (fun c2 => ?_)
    ·
      replace hw := hw.1 c2
      refine lv_iconst (v := I 1) hx hb dX13_isBlank_30 rfl ?_
      refine lv_goto (tgt := 35) hx hb dX13_isBlank_31 (by decide) ?_
      exact xrz hx hb hr (by decide) hlk hP hK hD hS ⟨_, (by decide), rfl, rfl, hw⟩ (Nat.le_of_ble_eq_true rfl) (Nat.le_of_ble_eq_true rfl) dX13_isBlank_35
    ·
      replace hw := hw.2 c2
      refine lv_iload_n hx hb dX13_isBlank_12 rfl (lv_at hl 0 rfl) ?_
      refine lv_bipush (v := I 12) hx hb dX13_isBlank_13 (by decide) ?_
      refine bi_icmp_eq (tgt := 30) hx hb r_n0 (by decide) dX13_isBlank_15 (by decide) (fun c3 => ?_) (fun c3 => ?_)
      ·
        replace hw := hw.1 c3
        refine lv_iconst (v := I 1) hx hb dX13_isBlank_30 rfl ?_
        refine lv_goto (tgt := 35) hx hb dX13_isBlank_31 (by decide) ?_
        exact xrz hx hb hr (by decide) hlk hP hK hD hS ⟨_, (by decide), rfl, rfl, hw⟩ (Nat.le_of_ble_eq_true rfl) (Nat.le_of_ble_eq_true rfl) dX13_isBlank_35
      ·
        replace hw := hw.2 c3
        refine lv_iload_n hx hb dX13_isBlank_18 rfl (lv_at hl 0 rfl) ?_
        refine lv_bipush (v := I 13) hx hb dX13_isBlank_19 (by decide) ?_
        refine bi_icmp_eq (tgt := 30) hx hb r_n0 (by decide) dX13_isBlank_21 (by decide) (fun c4 => ?_) (fun c4 => ?_)
        ·
          replace hw := hw.1 c4
          refine lv_iconst (v := I 1) hx hb dX13_isBlank_30 rfl ?_
          refine lv_goto (tgt := 35) hx hb dX13_isBlank_31 (by decide) ?_
          exact xrz hx hb hr (by decide) hlk hP hK hD hS ⟨_, (by decide), rfl, rfl, hw⟩ (Nat.le_of_ble_eq_true rfl) (Nat.le_of_ble_eq_true rfl) dX13_isBlank_35
        ·
          replace hw := hw.2 c4
          refine lv_iload_n hx hb dX13_isBlank_24 rfl (lv_at hl 0 rfl) ?_
          refine lv_bipush (v := I 32) hx hb dX13_isBlank_25 (by decide) ?_
          refine bi_icmp_ne (tgt := 34) hx hb r_n0 (by decide) dX13_isBlank_27 (by decide) (fun c5 => ?_) (fun c5 => ?_)
          ·
            replace hw := hw.1 c5
            refine lv_iconst (v := I 0) hx hb dX13_isBlank_34 rfl ?_
            exact xrz hx hb hr (by decide) hlk hP hK hD hS ⟨_, (by decide), rfl, rfl, hw⟩ (Nat.le_of_ble_eq_true rfl) (Nat.le_of_ble_eq_true rfl) dX13_isBlank_35
          ·
            replace hw := hw.2 c5
            refine lv_iconst (v := I 1) hx hb dX13_isBlank_30 rfl ?_
            refine lv_goto (tgt := 35) hx hb dX13_isBlank_31 (by decide) ?_
            exact xrz hx hb hr (by decide) hlk hP hK hD hS ⟨_, (by decide), rfl, rfl, hw⟩ (Nat.le_of_ble_eq_true rfl) (Nat.le_of_ble_eq_true rfl) dX13_isBlank_35
def W_X13_isSign (n0 : Int) (σ : S0) (Q : Int → Prop) : Prop :=
  (n0 < 33 → Q 0) ∧ (33 ≤ n0 → (126 < n0 → Q 0) ∧ (n0 ≤ 126 → Q 1))
set_option maxRecDepth 100000 in
set_option maxHeartbeats 4000000 in
theorem L_X13_isSign (l : Launch) (g : gG) (q : Nat → Nat) (lb : Nat) (hlb : lb < 2 ^ 31) {n0 : Int} {σ : S0} {Q : Int → Prop} (r_n0 : rg n0) (hN : n_m σ) (hw : W_X13_isSign n0 σ Q) (sz : Nat) : MetI l yX13_isSign cX13_isSign 1 (some .boolean) { frames := 0, cells := 0, slots := 0, locals := 0 } g [.int (I n0)] (MX g q lb σ) sz xT (p_i (MX g q lb) σ Q) 0 0 := by
  refine mkMet (Qc := fun A => QI g A (p_i (MX g q lb) σ Q)) (by decide) (Nat.le_of_ble_eq_true rfl) ?_
  intro p e s m below meth c A H ls hx hb hr hml hown hts hlk hnm hsz hP hK hNb hD hA hAe hS hX hl
  have hl : lv_has ls 1 [(0, .int (I n0))] := hl
  have hB := hN
  obtain ⟨locs, hlocs⟩ : ∃ z : List Loc, z = [] := ⟨_, rfl⟩
  rw [← hlocs] at hS ⊢
  refine lv_iload_n hx hb dX13_isSign_0 rfl (lv_at hl 0 rfl) ?_
  refine lv_bipush (v := I 33) hx hb dX13_isSign_1 (by decide) ?_
  refine bi_icmp_lt (tgt := 16) hx hb r_n0 (by decide) dX13_isSign_3 (by decide) (fun c1 => ?_) (fun c1 => ?_)
  ·
    replace hw := hw.1 c1
    refine lv_iconst (v := I 0) hx hb dX13_isSign_16 rfl ?_
    exact xrz hx hb hr (by decide) hlk hP hK hD hS ⟨_, (by decide), rfl, rfl, hw⟩ (Nat.le_of_ble_eq_true rfl) (Nat.le_of_ble_eq_true rfl) dX13_isSign_17
  ·
    replace hw := hw.2 c1
    refine lv_iload_n hx hb dX13_isSign_6 rfl (lv_at hl 0 rfl) ?_
    refine lv_bipush (v := I 126) hx hb dX13_isSign_7 (by decide) ?_
    refine bi_icmp_gt (tgt := 16) hx hb r_n0 (by decide) dX13_isSign_9 (by decide) (fun c2 => ?_) (fun c2 => ?_)
    ·
      replace hw := hw.1 c2
      refine lv_iconst (v := I 0) hx hb dX13_isSign_16 rfl ?_
      exact xrz hx hb hr (by decide) hlk hP hK hD hS ⟨_, (by decide), rfl, rfl, hw⟩ (Nat.le_of_ble_eq_true rfl) (Nat.le_of_ble_eq_true rfl) dX13_isSign_17
    ·
      replace hw := hw.2 c2
      refine lv_iconst (v := I 1) hx hb dX13_isSign_12 rfl ?_
      refine lv_goto (tgt := 17) hx hb dX13_isSign_13 (by decide) ?_
      exact xrz hx hb hr (by decide) hlk hP hK hD hS ⟨_, (by decide), rfl, rfl, hw⟩ (Nat.le_of_ble_eq_true rfl) (Nat.le_of_ble_eq_true rfl) dX13_isSign_17
def W_X13_clearTables (σ : S0) (Q : S0 → Prop) : Prop :=
  ∀ (P2 : Int → S0 → Prop),
  (∀ (u1 : Int) (τ : S0), ((4096 ≤ u1 → Q τ) ∧ (u1 < 4096 → (0 ≤ u1 ∧ u1 < 4096) ∧ (rg (u1 + 1) ∧ P2 (u1 + 1) (s_a (s_a τ 6 u1 (-1)) 7 u1 (-1))))) → P2 u1 τ) →
  P2 0 σ
set_option maxRecDepth 100000 in
set_option maxHeartbeats 4000000 in
theorem L_X13_clearTables (l : Launch) (g : gG) (q : Nat → Nat) (lb : Nat) (hlb : lb < 2 ^ 31) {σ : S0} {Q : S0 → Prop} (hN : n_m σ) (hw : W_X13_clearTables σ Q) (sz : Nat) : MetV l yX13_clearTables cX13_clearTables 2 { frames := 0, cells := 0, slots := 0, locals := 0 } g [.ref (q 0)] (MX g q lb σ) sz xT (p_V (MX g q lb) [] [6, 7] [] σ Q) 0 0 := by
  refine mkMet (Qc := fun A => QV g A (p_V (MX g q lb) [] [6, 7] [] σ Q)) (by decide) (Nat.le_of_ble_eq_true rfl) ?_
  intro p e s m below meth c A H ls hx hb hr hml hown hts hlk hnm hsz hP hK hNb hD hA hAe hS hX hl
  have hl : lv_has ls 2 [(0, .ref (q 0))] := hl
  have hB := hN
  have hF : f_r [] [6, 7] [] σ σ := f_0
  obtain ⟨locs, hlocs⟩ : ∃ z : List Loc, z = [] := ⟨_, rfl⟩
  rw [← hlocs] at hS ⊢
  obtain ⟨P2, hP2⟩ : ∃ P : Int → S0 → Prop, ∀ (u1 : Int) (τ : S0), (P u1 τ ↔ (rg u1 → n_m τ → f_r [] [6, 7] [] σ τ → ∀ (H : Heap) (locs : List Loc) (ls : Array Slot), KP g (MX g q lb τ) H → va_D A (MX g q lb τ) → va_S A s.heap H locs → lv_has ls 2 [(0, .ref (q 0)), (1, .int (I u1))] → W p l e ({ frames := 0, cells := 0, slots := 0, locals := 0 }) s m [.ref (q 0)].toArray below meth c H locs 0 0 (MQ below (QV g A (p_V (MX g q lb) [] [6, 7] [] σ Q)) [.ref (q 0)].toArray s 0 0 A) (F0 m 2 ls []))) := ⟨_, fun _ _ => Iff.rfl⟩
  refine (fun hw => ?_) (hw P2 ?_)
  ·
    refine lv_iconst (v := I 0) hx hb dX13_clearTables_0 rfl ?_
    refine lv_istore_n (lv' := [(1, .int (I 0)), (0, .ref (q 0))]) hx hb dX13_clearTables_1 rfl hl (by decide) rfl (fun ls hl => ?_)
    exact (hP2 _ _).mp hw (by decide) hN hF H locs ls hP hD hS (lv_sub hl [1, 0] rfl)
  ·
    intro u1 τ hw
    refine (hP2 _ _).mpr ?_
    intro r_u1 hN hF H locs ls hP hD hS hl
    have hB := hN
    refine lv_iload_n hx hb dX13_clearTables_2 rfl (lv_at hl 1 rfl) ?_
    refine lv_sipush (v := I 4096) hx hb dX13_clearTables_3 (by decide) ?_
    refine bi_icmp_ge (tgt := 29) hx hb r_u1 (by decide) dX13_clearTables_6 (by decide) (fun c1 => ?_) (fun c1 => ?_)
    ·
      replace hw := hw.1 c1
      exact xrv hx hb hr hlk hP hK hD hS ⟨_, hN, hF, rfl, hw⟩ (Nat.le_of_ble_eq_true rfl) (Nat.le_of_ble_eq_true rfl) dX13_clearTables_29
    ·
      replace hw := hw.2 c1
      refine lv_aload_n hx hb dX13_clearTables_9 rfl (lv_at hl 0 rfl) ?_
      refine gfX13_symbolTable hx hb hts hK hP hown (hts _ tw_2016) dX13_clearTables_10 ?_
      refine lv_iload_n hx hb dX13_clearTables_13 rfl (lv_at hl 1 rfl) ?_
      refine lv_iconst (v := I (-1)) hx hb dX13_clearTables_14 rfl ?_
      obtain ⟨c2, hw⟩ := hw
      refine sdMX13_symbolTable hx hb hK hP hD hS c2 dX13_clearTables_15 (fun H locs hP hD hS => ?_)
      have hN : n_m (s_a τ 6 u1 (-1)) := n_a (k := 6) (j := u1) hN ((by decide) : rg (-1))
      have hF : f_r [] [6, 7] [] σ (s_a τ 6 u1 (-1)) := f_a hF (by decide)
      refine lv_aload_n hx hb dX13_clearTables_16 rfl (lv_at hl 0 rfl) ?_
      refine gfX13_labelTable hx hb hts hK hP hown (hts _ tw_2017) dX13_clearTables_17 ?_
      refine lv_iload_n hx hb dX13_clearTables_20 rfl (lv_at hl 1 rfl) ?_
      refine lv_iconst (v := I (-1)) hx hb dX13_clearTables_21 rfl ?_
      refine sdMX13_labelTable hx hb hK hP hD hS c2 dX13_clearTables_22 (fun H locs hP hD hS => ?_)
      have hN : n_m (s_a (s_a τ 6 u1 (-1)) 7 u1 (-1)) := n_a (k := 7) (j := u1) hN ((by decide) : rg (-1))
      have hF : f_r [] [6, 7] [] σ (s_a (s_a τ 6 u1 (-1)) 7 u1 (-1)) := f_a hF (by decide)
      refine lv_iinc (v := I (u1 + 1)) (lv' := [(1, .int (I (u1 + 1))), (0, .ref (q 0))]) hx hb dX13_clearTables_23 hl (k := 1) rfl (I_add _ _) (by decide) rfl (fun ls hl => ?_)
      refine lv_goto (tgt := 2) hx hb dX13_clearTables_26 (by decide) ?_
      obtain ⟨c3, hw⟩ := hw
      exact (hP2 _ _).mp hw c3 hN hF H locs ls hP hD hS (lv_sub hl [1, 0] rfl)
def W_X13_spot_q2 (n1 : Int) (n2 : Int) (σ : S0) (Q : Int → Prop) : Prop :=
  ∀ (P5 : Int → Int → Int → Int → Prop),
  (∀ (u1 : Int) (u2 : Int) (u3 : Int) (u4 : Int), ((u2 ≤ u4 → ∀ (x2 : Int), rg x2 → x2 = h_u u3 15 → (∀ (x3 : Int), rg x3 → x3 = h_x u3 x2 → (Q (x3 % 4096)))) ∧ (u4 < u2 → (0 ≤ (u1 + u4) ∧ (u1 + u4) < 30100) ∧ (∀ (x5 : Int), rg x5 → x5 = σ.2.1 1 (u1 + u4) → (∀ (x6 : Int), rg x6 → x6 = h_s ((31 * u3) + x5) → (rg (u4 + 1) ∧ P5 u1 u2 x6 (u4 + 1)))))) → P5 u1 u2 u3 u4) →
  P5 n1 n2 n2 0
set_option maxRecDepth 100000 in
set_option maxHeartbeats 4000000 in
theorem L_X13_spot_q2 (l : Launch) (g : gG) (q : Nat → Nat) (lb : Nat) (hlb : lb < 2 ^ 31) {n1 : Int} {n2 : Int} {σ : S0} {Q : Int → Prop} (r_n1 : rg n1) (r_n2 : rg n2) (hN : n_m σ) (hw : W_X13_spot_q2 n1 n2 σ Q) (sz : Nat) : MetI l yX13_spot cX13_spot 5 (some .int) { frames := 0, cells := 0, slots := 0, locals := 0 } g [.ref (q 2), .int (I n1), .int (I n2)] (MX g q lb σ) sz xT (p_i (MX g q lb) σ Q) 0 0 := by
  refine mkMet (Qc := fun A => QI g A (p_i (MX g q lb) σ Q)) (by decide) (Nat.le_of_ble_eq_true rfl) ?_
  intro p e s m below meth c A H ls hx hb hr hml hown hts hlk hnm hsz hP hK hNb hD hA hAe hS hX hl
  have hl : lv_has ls 5 [(0, .ref (q 2)), (1, .int (I n1)), (2, .int (I n2))] := hl
  have hB := hN
  obtain ⟨locs, hlocs⟩ : ∃ z : List Loc, z = [] := ⟨_, rfl⟩
  rw [← hlocs] at hS ⊢
  obtain ⟨P5, hP5⟩ : ∃ P : Int → Int → Int → Int → Prop, ∀ (u1 : Int) (u2 : Int) (u3 : Int) (u4 : Int), (P u1 u2 u3 u4 ↔ (rg u1 → rg u2 → rg u3 → rg u4 → ∀ (H : Heap) (locs : List Loc) (ls : Array Slot), KP g (MX g q lb σ) H → va_D A (MX g q lb σ) → va_S A s.heap H locs → lv_has ls 5 [(0, .ref (q 2)), (1, .int (I u1)), (2, .int (I u2)), (3, .int (I u3)), (4, .int (I u4))] → W p l e ({ frames := 0, cells := 0, slots := 0, locals := 0 }) s m [.ref (q 2), .int (I n1), .int (I n2)].toArray below meth c H locs 0 0 (MQ below (QI g A (p_i (MX g q lb) σ Q)) [.ref (q 2), .int (I n1), .int (I n2)].toArray s 0 0 A) (F0 m 5 ls []))) := ⟨_, fun _ _ _ _ => Iff.rfl⟩
  refine (fun hw => ?_) (hw P5 ?_)
  ·
    refine lv_iload_n hx hb dX13_spot_0 rfl (lv_at hl 2 rfl) ?_
    refine lv_istore_n (lv' := [(3, .int (I n2)), (0, .ref (q 2)), (1, .int (I n1)), (2, .int (I n2))]) hx hb dX13_spot_1 rfl hl (by decide) rfl (fun ls hl => ?_)
    refine lv_iconst (v := I 0) hx hb dX13_spot_2 rfl ?_
    refine lv_istore (lv' := [(4, .int (I 0)), (3, .int (I n2)), (0, .ref (q 2)), (1, .int (I n1)), (2, .int (I n2))]) hx hb dX13_spot_3 hl (by decide) rfl (fun ls hl => ?_)
    exact (hP5 _ _ _ _).mp hw r_n1 r_n2 r_n2 (by decide)  H locs ls hP hD hS (lv_sub hl [2, 3, 4, 1, 0] rfl)
  ·
    intro u1 u2 u3 u4 hw
    refine (hP5 _ _ _ _).mpr ?_
    intro r_u1 r_u2 r_u3 r_u4 H locs ls hP hD hS hl
    refine lv_iload hx hb dX13_spot_5 (lv_at hl 4 rfl) ?_
    refine lv_iload_n hx hb dX13_spot_7 rfl (lv_at hl 2 rfl) ?_
    refine bi_icmp_ge (tgt := 29) hx hb r_u4 r_u2 dX13_spot_8 (by decide) (fun c1 => ?_) (fun c1 => ?_)
    ·
      replace hw := hw.1 c1
      refine lv_iload_n hx hb dX13_spot_29 rfl (lv_at hl 3 rfl) ?_
      refine lv_iload_n hx hb dX13_spot_30 rfl (lv_at hl 3 rfl) ?_
      refine lv_bipush (v := I 15) hx hb dX13_spot_31 (by decide) ?_
      refine lv_iushr (v := _) hx hb dX13_spot_33 rfl ?_
      refine bi_hve (fun x2 r_x2 e_x2 => ?_)
      replace hw := hw x2 r_x2 e_x2
      refine lv_ixor hx hb dX13_spot_34 ?_
      refine bi_hve (fun x3 r_x3 e_x3 => ?_)
      replace hw := hw x3 r_x3 e_x3
      refine lv_sipush (v := I 4095) hx hb dX13_spot_35 (by decide) ?_
      refine bi_iandm hx hb 4095 12 4096 (by decide) (by decide) (by omega) dX13_spot_38 ?_
      exact xri hx hb hr hlk hP hK hD hS ⟨_, (⟨by omega, by omega⟩ : rg (x3 % 4096)), rfl, rfl, hw⟩ (Nat.le_of_ble_eq_true rfl) (Nat.le_of_ble_eq_true rfl) dX13_spot_39
    ·
      replace hw := hw.2 c1
      refine lv_bipush (v := I 31) hx hb dX13_spot_11 (by decide) ?_
      refine lv_iload_n hx hb dX13_spot_13 rfl (lv_at hl 3 rfl) ?_
      refine bi_imul hx hb dX13_spot_14 ?_
      refine lv_aload_n hx hb dX13_spot_15 rfl (lv_at hl 0 rfl) ?_
      refine lv_iload_n hx hb dX13_spot_16 rfl (lv_at hl 1 rfl) ?_
      refine lv_iload hx hb dX13_spot_17 (lv_at hl 4 rfl) ?_
      refine bi_iadd hx hb dX13_spot_19 ?_
      obtain ⟨c4, hw⟩ := hw
      refine ldMX13_chars hx hb hK hP hN c4 dX13_spot_20 (fun x5 r_x5 e_x5 => ?_)
      replace hw := hw x5 r_x5 e_x5
      refine bi_iadd hx hb dX13_spot_21 ?_
      refine bi_hve (fun x6 r_x6 e_x6 => ?_)
      replace hw := hw x6 r_x6 e_x6
      refine lv_istore_n (lv' := [(3, .int (I x6)), (0, .ref (q 2)), (1, .int (I u1)), (2, .int (I u2)), (4, .int (I u4))]) hx hb dX13_spot_22 rfl hl (by decide) rfl (fun ls hl => ?_)
      refine lv_iinc (v := I (u4 + 1)) (lv' := [(4, .int (I (u4 + 1))), (3, .int (I x6)), (0, .ref (q 2)), (1, .int (I u1)), (2, .int (I u2))]) hx hb dX13_spot_23 hl (k := 4) rfl (I_add _ _) (by decide) rfl (fun ls hl => ?_)
      refine lv_goto (tgt := 5) hx hb dX13_spot_26 (by decide) ?_
      obtain ⟨c7, hw⟩ := hw
      exact (hP5 _ _ _ _).mp hw r_u1 r_u2 r_x6 c7  H locs ls hP hD hS (lv_sub hl [2, 3, 4, 1, 0] rfl)
def W_X13_keepSymbol (n1 : Int) (σ : S0) (Q : S0 → Prop) : Prop :=
  ∀ (P20 : Int → Int → S0 → Prop),
  (∀ (u1 : Int) (u2 : Int) (τ : S0), ((0 ≤ u2 ∧ u2 < 4096) ∧ (∀ (x8 : Int), rg x8 → x8 = τ.2.1 6 u2 → ((x8 = (-1) → Q (s_a τ 6 u2 u1)) ∧ (¬ x8 = (-1) → P20 u1 ((u2 + 1) % 4096) τ)))) → P20 u1 u2 τ) →
  (0 ≤ n1 ∧ n1 < 1001) ∧ (∀ (x2 : Int), rg x2 → x2 = σ.2.1 2 n1 → (∀ (x3 : Int), rg x3 → x3 = σ.2.1 3 n1 → (∃ (Q4 : Int → Prop), W_X13_spot_q2 x2 x3 σ Q4 ∧ ∀ (x5 : Int), rg x5 → Q4 x5 → (P20 n1 x5 σ))))
set_option maxRecDepth 100000 in
set_option maxHeartbeats 4000000 in
theorem L_X13_keepSymbol (l : Launch) (g : gG) (q : Nat → Nat) (lb : Nat) (hlb : lb < 2 ^ 31) {n1 : Int} {σ : S0} {Q : S0 → Prop} (r_n1 : rg n1) (hN : n_m σ) (hw : W_X13_keepSymbol n1 σ Q) (sz : Nat) : MetV l yX13_keepSymbol cX13_keepSymbol 3 { frames := 1, cells := 0, slots := 0, locals := 24 } g [.ref (q 0), .int (I n1)] (MX g q lb σ) sz xT (p_V (MX g q lb) [] [6] [] σ Q) 0 0 := by
  refine mkMet (Qc := fun A => QV g A (p_V (MX g q lb) [] [6] [] σ Q)) (by decide) (Nat.le_of_ble_eq_true rfl) ?_
  intro p e s m below meth c A H ls hx hb hr hml hown hts hlk hnm hsz hP hK hNb hD hA hAe hS hX hl
  have hl : lv_has ls 3 [(0, .ref (q 0)), (1, .int (I n1))] := hl
  have hB := hN
  have hF : f_r [] [6] [] σ σ := f_0
  obtain ⟨locs, hlocs⟩ : ∃ z : List Loc, z = [] := ⟨_, rfl⟩
  rw [← hlocs] at hS ⊢
  obtain ⟨P20, hP20⟩ : ∃ P : Int → Int → S0 → Prop, ∀ (u1 : Int) (u2 : Int) (τ : S0), (P u1 u2 τ ↔ (rg u1 → rg u2 → n_m τ → f_r [] [6] [] σ τ → ∀ (H : Heap) (locs : List Loc) (ls : Array Slot), KP g (MX g q lb τ) H → va_D A (MX g q lb τ) → va_S A s.heap H locs → lv_has ls 3 [(0, .ref (q 0)), (1, .int (I u1)), (2, .int (I u2))] → W p l e ({ frames := 1, cells := 0, slots := 0, locals := 24 }) s m [.ref (q 0), .int (I n1)].toArray below meth c H locs 0 0 (MQ below (QV g A (p_V (MX g q lb) [] [6] [] σ Q)) [.ref (q 0), .int (I n1)].toArray s 0 0 A) (F0 m 20 ls []))) := ⟨_, fun _ _ _ => Iff.rfl⟩
  refine (fun hw => ?_) (hw P20 ?_)
  ·
    refine lv_aload_n hx hb dX13_keepSymbol_0 rfl (lv_at hl 0 rfl) ?_
    refine gfX13_chars hx hb hts hK hP hown (hts _ tw_2009) dX13_keepSymbol_1 ?_
    refine lv_aload_n hx hb dX13_keepSymbol_4 rfl (lv_at hl 0 rfl) ?_
    refine gfX13_symbolAt hx hb hts hK hP hown (hts _ tw_2011) dX13_keepSymbol_5 ?_
    refine lv_iload_n hx hb dX13_keepSymbol_8 rfl (lv_at hl 1 rfl) ?_
    obtain ⟨c1, hw⟩ := hw
    refine ldMX13_symbolAt hx hb hK hP hN c1 dX13_keepSymbol_9 (fun x2 r_x2 e_x2 => ?_)
    replace hw := hw x2 r_x2 e_x2
    refine lv_aload_n hx hb dX13_keepSymbol_10 rfl (lv_at hl 0 rfl) ?_
    refine gfX13_symbolSize hx hb hts hK hP hown (hts _ tw_2012) dX13_keepSymbol_11 ?_
    refine lv_iload_n hx hb dX13_keepSymbol_14 rfl (lv_at hl 1 rfl) ?_
    refine ldMX13_symbolSize hx hb hK hP hN c1 dX13_keepSymbol_15 (fun x3 r_x3 e_x3 => ?_)
    replace hw := hw x3 r_x3 e_x3
    obtain ⟨Q4, hc, hw⟩ := hw
    refine wc_i (X := MX g q lb) (va_runS (As := [.ref (q 2), .int (I x2), .int (I x3)]) (rest := []) ⟨hx, hb, hml, hown, hts⟩ (L_X13_spot_q2 l g q lb hlb r_x2 r_x3 hN hc H.size) (cwS 3 hts (TB_S tw_2602 tw_2603 tw_15 co_X13_spot) rfl rfl rfl (by decide +kernel) ⟨Nat.le_of_ble_eq_true rfl, Nat.le_of_ble_eq_true rfl⟩) (preS xT_bl hP hK hNb hD xT_at) rfl rfl hl.1 rfl (lv_room (Nat.le_of_ble_eq_true rfl)) dX13_keepSymbol_16 ⟨Nat.le_of_ble_eq_true rfl, Nat.le_of_ble_eq_true rfl⟩) hP hD hS hA (fun x5 H locs r_x5 hq hP hD hS => ?_)
    replace hw := hw x5 r_x5 hq
    refine lv_istore_n (lv' := [(2, .int (I x5)), (0, .ref (q 0)), (1, .int (I n1))]) hx hb dX13_keepSymbol_19 rfl hl (by decide) rfl (fun ls hl => ?_)
    exact (hP20 _ _ _).mp hw r_n1 r_x5 hN hF H locs ls hP hD hS (lv_sub hl [1, 2, 0] rfl)
  ·
    intro u1 u2 τ hw
    refine (hP20 _ _ _).mpr ?_
    intro r_u1 r_u2 hN hF H locs ls hP hD hS hl
    have hB := hN
    refine lv_aload_n hx hb dX13_keepSymbol_20 rfl (lv_at hl 0 rfl) ?_
    refine gfX13_symbolTable hx hb hts hK hP hown (hts _ tw_2016) dX13_keepSymbol_21 ?_
    refine lv_iload_n hx hb dX13_keepSymbol_24 rfl (lv_at hl 2 rfl) ?_
    obtain ⟨c7, hw⟩ := hw
    refine ldMX13_symbolTable hx hb hK hP hN c7 dX13_keepSymbol_25 (fun x8 r_x8 e_x8 => ?_)
    replace hw := hw x8 r_x8 e_x8
    refine lv_iconst (v := I (-1)) hx hb dX13_keepSymbol_26 rfl ?_
    refine bi_icmp_eq (tgt := 41) hx hb r_x8 (by decide) dX13_keepSymbol_27 (by decide) (fun c9 => ?_) (fun c9 => ?_)
    ·
      replace hw := hw.1 c9
      refine lv_aload_n hx hb dX13_keepSymbol_41 rfl (lv_at hl 0 rfl) ?_
      refine gfX13_symbolTable hx hb hts hK hP hown (hts _ tw_2016) dX13_keepSymbol_42 ?_
      refine lv_iload_n hx hb dX13_keepSymbol_45 rfl (lv_at hl 2 rfl) ?_
      refine lv_iload_n hx hb dX13_keepSymbol_46 rfl (lv_at hl 1 rfl) ?_
      refine sdMX13_symbolTable hx hb hK hP hD hS c7 dX13_keepSymbol_47 (fun H locs hP hD hS => ?_)
      have hN : n_m (s_a τ 6 u2 u1) := n_a (k := 6) (j := u2) hN (r_u1 : rg u1)
      have hF : f_r [] [6] [] σ (s_a τ 6 u2 u1) := f_a hF (by decide)
      exact xrv hx hb hr hlk hP hK hD hS ⟨_, hN, hF, rfl, hw⟩ (Nat.le_of_ble_eq_true rfl) (Nat.le_of_ble_eq_true rfl) dX13_keepSymbol_48
    ·
      replace hw := hw.2 c9
      refine lv_iload_n hx hb dX13_keepSymbol_30 rfl (lv_at hl 2 rfl) ?_
      refine lv_iconst (v := I 1) hx hb dX13_keepSymbol_31 rfl ?_
      refine bi_iadd hx hb dX13_keepSymbol_32 ?_
      refine lv_sipush (v := I 4095) hx hb dX13_keepSymbol_33 (by decide) ?_
      refine bi_iandm hx hb 4095 12 4096 (by decide) (by decide) (by omega) dX13_keepSymbol_36 ?_
      refine lv_istore_n (lv' := [(2, .int (I ((u2 + 1) % 4096))), (0, .ref (q 0)), (1, .int (I u1))]) hx hb dX13_keepSymbol_37 rfl hl (by decide) rfl (fun ls hl => ?_)
      refine lv_goto (tgt := 20) hx hb dX13_keepSymbol_38 (by decide) ?_
      exact (hP20 _ _ _).mp hw r_u1 (⟨by omega, by omega⟩ : rg ((u2 + 1) % 4096)) hN hF H locs ls hP hD hS (lv_sub hl [1, 2, 0] rfl)
def W_X13_keepLabel (n1 : Int) (σ : S0) (Q : S0 → Prop) : Prop :=
  ∀ (P20 : Int → Int → S0 → Prop),
  (∀ (u1 : Int) (u2 : Int) (τ : S0), ((0 ≤ u2 ∧ u2 < 4096) ∧ (∀ (x8 : Int), rg x8 → x8 = τ.2.1 7 u2 → ((x8 = (-1) → Q (s_a τ 7 u2 u1)) ∧ (¬ x8 = (-1) → P20 u1 ((u2 + 1) % 4096) τ)))) → P20 u1 u2 τ) →
  (0 ≤ n1 ∧ n1 < 1501) ∧ (∀ (x2 : Int), rg x2 → x2 = σ.2.1 4 n1 → (∀ (x3 : Int), rg x3 → x3 = σ.2.1 5 n1 → (∃ (Q4 : Int → Prop), W_X13_spot_q2 x2 x3 σ Q4 ∧ ∀ (x5 : Int), rg x5 → Q4 x5 → (P20 n1 x5 σ))))
set_option maxRecDepth 100000 in
set_option maxHeartbeats 4000000 in
theorem L_X13_keepLabel (l : Launch) (g : gG) (q : Nat → Nat) (lb : Nat) (hlb : lb < 2 ^ 31) {n1 : Int} {σ : S0} {Q : S0 → Prop} (r_n1 : rg n1) (hN : n_m σ) (hw : W_X13_keepLabel n1 σ Q) (sz : Nat) : MetV l yX13_keepLabel cX13_keepLabel 3 { frames := 1, cells := 0, slots := 0, locals := 24 } g [.ref (q 0), .int (I n1)] (MX g q lb σ) sz xT (p_V (MX g q lb) [] [7] [] σ Q) 0 0 := by
  refine mkMet (Qc := fun A => QV g A (p_V (MX g q lb) [] [7] [] σ Q)) (by decide) (Nat.le_of_ble_eq_true rfl) ?_
  intro p e s m below meth c A H ls hx hb hr hml hown hts hlk hnm hsz hP hK hNb hD hA hAe hS hX hl
  have hl : lv_has ls 3 [(0, .ref (q 0)), (1, .int (I n1))] := hl
  have hB := hN
  have hF : f_r [] [7] [] σ σ := f_0
  obtain ⟨locs, hlocs⟩ : ∃ z : List Loc, z = [] := ⟨_, rfl⟩
  rw [← hlocs] at hS ⊢
  obtain ⟨P20, hP20⟩ : ∃ P : Int → Int → S0 → Prop, ∀ (u1 : Int) (u2 : Int) (τ : S0), (P u1 u2 τ ↔ (rg u1 → rg u2 → n_m τ → f_r [] [7] [] σ τ → ∀ (H : Heap) (locs : List Loc) (ls : Array Slot), KP g (MX g q lb τ) H → va_D A (MX g q lb τ) → va_S A s.heap H locs → lv_has ls 3 [(0, .ref (q 0)), (1, .int (I u1)), (2, .int (I u2))] → W p l e ({ frames := 1, cells := 0, slots := 0, locals := 24 }) s m [.ref (q 0), .int (I n1)].toArray below meth c H locs 0 0 (MQ below (QV g A (p_V (MX g q lb) [] [7] [] σ Q)) [.ref (q 0), .int (I n1)].toArray s 0 0 A) (F0 m 20 ls []))) := ⟨_, fun _ _ _ => Iff.rfl⟩
  refine (fun hw => ?_) (hw P20 ?_)
  ·
    refine lv_aload_n hx hb dX13_keepLabel_0 rfl (lv_at hl 0 rfl) ?_
    refine gfX13_chars hx hb hts hK hP hown (hts _ tw_2009) dX13_keepLabel_1 ?_
    refine lv_aload_n hx hb dX13_keepLabel_4 rfl (lv_at hl 0 rfl) ?_
    refine gfX13_labelAt hx hb hts hK hP hown (hts _ tw_2014) dX13_keepLabel_5 ?_
    refine lv_iload_n hx hb dX13_keepLabel_8 rfl (lv_at hl 1 rfl) ?_
    obtain ⟨c1, hw⟩ := hw
    refine ldMX13_labelAt hx hb hK hP hN c1 dX13_keepLabel_9 (fun x2 r_x2 e_x2 => ?_)
    replace hw := hw x2 r_x2 e_x2
    refine lv_aload_n hx hb dX13_keepLabel_10 rfl (lv_at hl 0 rfl) ?_
    refine gfX13_labelSize hx hb hts hK hP hown (hts _ tw_2015) dX13_keepLabel_11 ?_
    refine lv_iload_n hx hb dX13_keepLabel_14 rfl (lv_at hl 1 rfl) ?_
    refine ldMX13_labelSize hx hb hK hP hN c1 dX13_keepLabel_15 (fun x3 r_x3 e_x3 => ?_)
    replace hw := hw x3 r_x3 e_x3
    obtain ⟨Q4, hc, hw⟩ := hw
    refine wc_i (X := MX g q lb) (va_runS (As := [.ref (q 2), .int (I x2), .int (I x3)]) (rest := []) ⟨hx, hb, hml, hown, hts⟩ (L_X13_spot_q2 l g q lb hlb r_x2 r_x3 hN hc H.size) (cwS 3 hts (TB_S tw_2602 tw_2603 tw_15 co_X13_spot) rfl rfl rfl (by decide +kernel) ⟨Nat.le_of_ble_eq_true rfl, Nat.le_of_ble_eq_true rfl⟩) (preS xT_bl hP hK hNb hD xT_at) rfl rfl hl.1 rfl (lv_room (Nat.le_of_ble_eq_true rfl)) dX13_keepLabel_16 ⟨Nat.le_of_ble_eq_true rfl, Nat.le_of_ble_eq_true rfl⟩) hP hD hS hA (fun x5 H locs r_x5 hq hP hD hS => ?_)
    replace hw := hw x5 r_x5 hq
    refine lv_istore_n (lv' := [(2, .int (I x5)), (0, .ref (q 0)), (1, .int (I n1))]) hx hb dX13_keepLabel_19 rfl hl (by decide) rfl (fun ls hl => ?_)
    exact (hP20 _ _ _).mp hw r_n1 r_x5 hN hF H locs ls hP hD hS (lv_sub hl [1, 2, 0] rfl)
  ·
    intro u1 u2 τ hw
    refine (hP20 _ _ _).mpr ?_
    intro r_u1 r_u2 hN hF H locs ls hP hD hS hl
    have hB := hN
    refine lv_aload_n hx hb dX13_keepLabel_20 rfl (lv_at hl 0 rfl) ?_
    refine gfX13_labelTable hx hb hts hK hP hown (hts _ tw_2017) dX13_keepLabel_21 ?_
    refine lv_iload_n hx hb dX13_keepLabel_24 rfl (lv_at hl 2 rfl) ?_
    obtain ⟨c7, hw⟩ := hw
    refine ldMX13_labelTable hx hb hK hP hN c7 dX13_keepLabel_25 (fun x8 r_x8 e_x8 => ?_)
    replace hw := hw x8 r_x8 e_x8
    refine lv_iconst (v := I (-1)) hx hb dX13_keepLabel_26 rfl ?_
    refine bi_icmp_eq (tgt := 41) hx hb r_x8 (by decide) dX13_keepLabel_27 (by decide) (fun c9 => ?_) (fun c9 => ?_)
    ·
      replace hw := hw.1 c9
      refine lv_aload_n hx hb dX13_keepLabel_41 rfl (lv_at hl 0 rfl) ?_
      refine gfX13_labelTable hx hb hts hK hP hown (hts _ tw_2017) dX13_keepLabel_42 ?_
      refine lv_iload_n hx hb dX13_keepLabel_45 rfl (lv_at hl 2 rfl) ?_
      refine lv_iload_n hx hb dX13_keepLabel_46 rfl (lv_at hl 1 rfl) ?_
      refine sdMX13_labelTable hx hb hK hP hD hS c7 dX13_keepLabel_47 (fun H locs hP hD hS => ?_)
      have hN : n_m (s_a τ 7 u2 u1) := n_a (k := 7) (j := u2) hN (r_u1 : rg u1)
      have hF : f_r [] [7] [] σ (s_a τ 7 u2 u1) := f_a hF (by decide)
      exact xrv hx hb hr hlk hP hK hD hS ⟨_, hN, hF, rfl, hw⟩ (Nat.le_of_ble_eq_true rfl) (Nat.le_of_ble_eq_true rfl) dX13_keepLabel_48
    ·
      replace hw := hw.2 c9
      refine lv_iload_n hx hb dX13_keepLabel_30 rfl (lv_at hl 2 rfl) ?_
      refine lv_iconst (v := I 1) hx hb dX13_keepLabel_31 rfl ?_
      refine bi_iadd hx hb dX13_keepLabel_32 ?_
      refine lv_sipush (v := I 4095) hx hb dX13_keepLabel_33 (by decide) ?_
      refine bi_iandm hx hb 4095 12 4096 (by decide) (by decide) (by omega) dX13_keepLabel_36 ?_
      refine lv_istore_n (lv' := [(2, .int (I ((u2 + 1) % 4096))), (0, .ref (q 0)), (1, .int (I u1))]) hx hb dX13_keepLabel_37 rfl hl (by decide) rfl (fun ls hl => ?_)
      refine lv_goto (tgt := 20) hx hb dX13_keepLabel_38 (by decide) ?_
      exact (hP20 _ _ _).mp hw r_u1 (⟨by omega, by omega⟩ : rg ((u2 + 1) % 4096)) hN hF H locs ls hP hD hS (lv_sub hl [1, 2, 0] rfl)
def W_X13_keepChars (n1 : Int) (n2 : Int) (σ : S0) (Q : S0 → Prop) : Prop :=
  ∀ (P2 : Int → Int → Int → S0 → Prop),
  (∀ (u1 : Int) (u2 : Int) (u3 : Int) (τ : S0), ((u2 ≤ u3 → rg (τ.1 2 + u2) ∧ Q (s_v τ 2 (τ.1 2 + u2))) ∧ (u3 < u2 → (0 ≤ (u1 + u3) ∧ (u1 + u3) < 60000) ∧ (∀ (x4 : Int), rg x4 → x4 = τ.2.1 0 (u1 + u3) → ((0 ≤ (τ.1 2 + u3) ∧ (τ.1 2 + u3) < 30100) ∧ (rg (u3 + 1) ∧ P2 u1 u2 (u3 + 1) (s_a τ 1 (τ.1 2 + u3) x4)))))) → P2 u1 u2 u3 τ) →
  P2 n1 n2 0 σ
set_option maxRecDepth 100000 in
set_option maxHeartbeats 4000000 in
theorem L_X13_keepChars (l : Launch) (g : gG) (q : Nat → Nat) (lb : Nat) (hlb : lb < 2 ^ 31) {n1 : Int} {n2 : Int} {σ : S0} {Q : S0 → Prop} (r_n1 : rg n1) (r_n2 : rg n2) (hN : n_m σ) (hw : W_X13_keepChars n1 n2 σ Q) (sz : Nat) : MetV l yX13_keepChars cX13_keepChars 4 { frames := 0, cells := 0, slots := 0, locals := 0 } g [.ref (q 0), .int (I n1), .int (I n2)] (MX g q lb σ) sz xT (p_V (MX g q lb) [2] [1] [] σ Q) 0 0 := by
  refine mkMet (Qc := fun A => QV g A (p_V (MX g q lb) [2] [1] [] σ Q)) (by decide) (Nat.le_of_ble_eq_true rfl) ?_
  intro p e s m below meth c A H ls hx hb hr hml hown hts hlk hnm hsz hP hK hNb hD hA hAe hS hX hl
  have hl : lv_has ls 4 [(0, .ref (q 0)), (1, .int (I n1)), (2, .int (I n2))] := hl
  have hB := hN
  have hF : f_r [2] [1] [] σ σ := f_0
  obtain ⟨locs, hlocs⟩ : ∃ z : List Loc, z = [] := ⟨_, rfl⟩
  rw [← hlocs] at hS ⊢
  obtain ⟨P2, hP2⟩ : ∃ P : Int → Int → Int → S0 → Prop, ∀ (u1 : Int) (u2 : Int) (u3 : Int) (τ : S0), (P u1 u2 u3 τ ↔ (rg u1 → rg u2 → rg u3 → n_m τ → f_r [2] [1] [] σ τ → ∀ (H : Heap) (locs : List Loc) (ls : Array Slot), KP g (MX g q lb τ) H → va_D A (MX g q lb τ) → va_S A s.heap H locs → lv_has ls 4 [(0, .ref (q 0)), (1, .int (I u1)), (2, .int (I u2)), (3, .int (I u3))] → W p l e ({ frames := 0, cells := 0, slots := 0, locals := 0 }) s m [.ref (q 0), .int (I n1), .int (I n2)].toArray below meth c H locs 0 0 (MQ below (QV g A (p_V (MX g q lb) [2] [1] [] σ Q)) [.ref (q 0), .int (I n1), .int (I n2)].toArray s 0 0 A) (F0 m 2 ls []))) := ⟨_, fun _ _ _ _ => Iff.rfl⟩
  refine (fun hw => ?_) (hw P2 ?_)
  ·
    refine lv_iconst (v := I 0) hx hb dX13_keepChars_0 rfl ?_
    refine lv_istore_n (lv' := [(3, .int (I 0)), (0, .ref (q 0)), (1, .int (I n1)), (2, .int (I n2))]) hx hb dX13_keepChars_1 rfl hl (by decide) rfl (fun ls hl => ?_)
    exact (hP2 _ _ _ _).mp hw r_n1 r_n2 (by decide) hN hF H locs ls hP hD hS (lv_sub hl [1, 2, 3, 0] rfl)
  ·
    intro u1 u2 u3 τ hw
    refine (hP2 _ _ _ _).mpr ?_
    intro r_u1 r_u2 r_u3 hN hF H locs ls hP hD hS hl
    have hB := hN
    refine lv_iload_n hx hb dX13_keepChars_2 rfl (lv_at hl 3 rfl) ?_
    refine lv_iload_n hx hb dX13_keepChars_3 rfl (lv_at hl 2 rfl) ?_
    refine bi_icmp_ge (tgt := 32) hx hb r_u3 r_u2 dX13_keepChars_4 (by decide) (fun c1 => ?_) (fun c1 => ?_)
    ·
      replace hw := hw.1 c1
      refine lv_aload_n hx hb dX13_keepChars_32 rfl (lv_at hl 0 rfl) ?_
      refine lv_dup hx hb dX13_keepChars_33 rfl ?_
      refine gfX13_charCount hx hb hts hK hP hown (hts _ tw_2010) (x := τ.1 2) rfl dX13_keepChars_34 ?_
      refine lv_iload_n hx hb dX13_keepChars_37 rfl (lv_at hl 2 rfl) ?_
      refine bi_iadd hx hb dX13_keepChars_38 ?_
      obtain ⟨c2, hw⟩ := hw
      refine pfX13_charCount hx hb hts hK hP hD hS hown (hts _ tw_2010) dX13_keepChars_39 (fun H locs hP hD hS => ?_)
      have hN : n_m (s_v τ 2 (τ.1 2 + u2)) := n_v (i := 2) hN (c2 : rg (τ.1 2 + u2))
      have hF : f_r [2] [1] [] σ (s_v τ 2 (τ.1 2 + u2)) := f_v hF (by decide)
      exact xrv hx hb hr hlk hP hK hD hS ⟨_, hN, hF, rfl, hw⟩ (Nat.le_of_ble_eq_true rfl) (Nat.le_of_ble_eq_true rfl) dX13_keepChars_42
    ·
      replace hw := hw.2 c1
      refine lv_aload_n hx hb dX13_keepChars_7 rfl (lv_at hl 0 rfl) ?_
      refine gfX13_chars hx hb hts hK hP hown (hts _ tw_2009) dX13_keepChars_8 ?_
      refine lv_aload_n hx hb dX13_keepChars_11 rfl (lv_at hl 0 rfl) ?_
      refine gfX13_charCount hx hb hts hK hP hown (hts _ tw_2010) (x := τ.1 2) rfl dX13_keepChars_12 ?_
      refine lv_iload_n hx hb dX13_keepChars_15 rfl (lv_at hl 3 rfl) ?_
      refine bi_iadd hx hb dX13_keepChars_16 ?_
      refine lv_aload_n hx hb dX13_keepChars_17 rfl (lv_at hl 0 rfl) ?_
      refine gfX13_tape hx hb hts hK hP hown (hts _ tw_2006) dX13_keepChars_18 ?_
      refine lv_iload_n hx hb dX13_keepChars_21 rfl (lv_at hl 1 rfl) ?_
      refine lv_iload_n hx hb dX13_keepChars_22 rfl (lv_at hl 3 rfl) ?_
      refine bi_iadd hx hb dX13_keepChars_23 ?_
      obtain ⟨c3, hw⟩ := hw
      refine ldMX13_tape hx hb hK hP hN c3 dX13_keepChars_24 (fun x4 r_x4 e_x4 => ?_)
      replace hw := hw x4 r_x4 e_x4
      obtain ⟨c5, hw⟩ := hw
      refine sdMX13_chars hx hb hK hP hD hS c5 dX13_keepChars_25 (fun H locs hP hD hS => ?_)
      have hN : n_m (s_a τ 1 (τ.1 2 + u3) x4) := n_a (k := 1) (j := (τ.1 2 + u3)) hN (r_x4 : rg x4)
      have hF : f_r [2] [1] [] σ (s_a τ 1 (τ.1 2 + u3) x4) := f_a hF (by decide)
      refine lv_iinc (v := I (u3 + 1)) (lv' := [(3, .int (I (u3 + 1))), (0, .ref (q 0)), (1, .int (I u1)), (2, .int (I u2))]) hx hb dX13_keepChars_26 hl (k := 3) rfl (I_add _ _) (by decide) rfl (fun ls hl => ?_)
      refine lv_goto (tgt := 2) hx hb dX13_keepChars_29 (by decide) ?_
      obtain ⟨c6, hw⟩ := hw
      exact (hP2 _ _ _ _).mp hw r_u1 r_u2 c6 hN hF H locs ls hP hD hS (lv_sub hl [1, 2, 3, 0] rfl)
def W_X13_areApart (n1 : Int) (n2 : Int) (σ : S0) (Q : Int → Prop) : Prop :=
  ∀ (x1 : Int), rg x1 → (0 ≤ n2 → x1 = n2 / 64) → (n2 < 0 → x1 = -((-n2) / 64)) → ((0 ≤ ((16 * n1) + x1) ∧ ((16 * n1) + x1) < 16016) ∧ (∀ (x3 : Int64), x3 = σ.2.2 1 ((16 * n1) + x1) → (∀ (x4 : Int), rg x4 → (0 ≤ n2 → x4 = n2 % 64) → (n2 < 0 → x4 = -((-n2) % 64)) → ((¬ ((j_shr x3 x4) &&& 1) = 1 → Q 0) ∧ (((j_shr x3 x4) &&& 1) = 1 → Q 1)))))
set_option maxRecDepth 100000 in
set_option maxHeartbeats 4000000 in
theorem L_X13_areApart (l : Launch) (g : gG) (q : Nat → Nat) (lb : Nat) (hlb : lb < 2 ^ 31) {n1 : Int} {n2 : Int} {σ : S0} {Q : Int → Prop} (r_n1 : rg n1) (r_n2 : rg n2) (hN : n_m σ) (hw : W_X13_areApart n1 n2 σ Q) (sz : Nat) : MetI l yX13_areApart cX13_areApart 3 (some .boolean) { frames := 0, cells := 0, slots := 0, locals := 0 } g [.ref (q 0), .int (I n1), .int (I n2)] (MX g q lb σ) sz xT (p_i (MX g q lb) σ Q) 0 0 := by
  refine mkMet (Qc := fun A => QI g A (p_i (MX g q lb) σ Q)) (by decide) (Nat.le_of_ble_eq_true rfl) ?_
  intro p e s m below meth c A H ls hx hb hr hml hown hts hlk hnm hsz hP hK hNb hD hA hAe hS hX hl
  have hl : lv_has ls 3 [(0, .ref (q 0)), (1, .int (I n1)), (2, .int (I n2))] := hl
  have hB := hN
  obtain ⟨locs, hlocs⟩ : ∃ z : List Loc, z = [] := ⟨_, rfl⟩
  rw [← hlocs] at hS ⊢
  refine lv_aload_n hx hb dX13_areApart_0 rfl (lv_at hl 0 rfl) ?_
  refine gfX13_apartBits hx hb hts hK hP hown (hts _ tw_2056) dX13_areApart_1 ?_
  refine lv_bipush (v := I 16) hx hb dX13_areApart_4 (by decide) ?_
  refine lv_iload_n hx hb dX13_areApart_6 rfl (lv_at hl 1 rfl) ?_
  refine bi_imul hx hb dX13_areApart_7 ?_
  refine lv_iload_n hx hb dX13_areApart_8 rfl (lv_at hl 2 rfl) ?_
  refine lv_bipush (v := I 64) hx hb dX13_areApart_9 (by decide) ?_
  refine bi_idiv hx hb r_n2 (by decide) (by decide) dX13_areApart_11 (fun x1 r_x1 p_x1 m_x1 => ?_)
  replace hw := hw x1 r_x1 p_x1 m_x1
  refine bi_iadd hx hb dX13_areApart_12 ?_
  obtain ⟨c2, hw⟩ := hw
  refine ldMX13_apartBits hx hb hK hP hN c2 dX13_areApart_13 (fun x3 e_x3 => ?_)
  replace hw := hw x3 e_x3
  refine lv_iload_n hx hb dX13_areApart_14 rfl (lv_at hl 2 rfl) ?_
  refine lv_bipush (v := I 64) hx hb dX13_areApart_15 (by decide) ?_
  refine bi_irem hx hb r_n2 (by decide) (by decide) dX13_areApart_17 (fun x4 r_x4 p_x4 m_x4 => ?_)
  replace hw := hw x4 r_x4 p_x4 m_x4
  refine bi_lshr hx hb dX13_areApart_18 ?_
  refine lv_lconst (v := 1) hx hb dX13_areApart_19 (by decide) ?_
  refine lv_land hx hb dX13_areApart_20 ?_
  refine lv_lconst (v := 1) hx hb dX13_areApart_21 (by decide) ?_
  refine bi_lcmp_ne (tgt := 30) hx hb dX13_areApart_22 dX13_areApart_23 (by decide) (fun c5 => ?_) (fun c5 => ?_)
  ·
    replace hw := hw.1 c5
    refine lv_iconst (v := I 0) hx hb dX13_areApart_30 rfl ?_
    exact xrz hx hb hr (by decide) hlk hP hK hD hS ⟨_, (by decide), rfl, rfl, hw⟩ (Nat.le_of_ble_eq_true rfl) (Nat.le_of_ble_eq_true rfl) dX13_areApart_31
  ·
    replace hw := hw.2 c5
    refine lv_iconst (v := I 1) hx hb dX13_areApart_26 rfl ?_
    refine lv_goto (tgt := 31) hx hb dX13_areApart_27 (by decide) ?_
    exact xrz hx hb hr (by decide) hlk hP hK hD hS ⟨_, (by decide), rfl, rfl, hw⟩ (Nat.le_of_ble_eq_true rfl) (Nat.le_of_ble_eq_true rfl) dX13_areApart_31
def W_X13_setApart (n1 : Int) (n2 : Int) (n3 : Int) (σ : S0) (Q : S0 → Prop) : Prop :=
  ∀ (P74 : Int → Int → Int → Int64 → Int → Int64 → S0 → Prop) (P133 : Int → Int64 → S0 → Prop),
  (∀ (u1 : Int) (u2 : Int) (u3 : Int) (u6 : Int64) (k1 : Int) (k2 : Int64) (τ : S0), ((0 ≤ k1 ∧ k1 < 16016) ∧ (∀ (x14 : Int), rg x14 → (0 ≤ u1 → x14 = u1 / 64) → (u1 < 0 → x14 = -((-u1) / 64)) → ((u3 = 0 → ∀ (x16 : Int), rg x16 → (0 ≤ u1 → x16 = u1 / 64) → (u1 < 0 → x16 = -((-u1) / 64)) → ((0 ≤ ((16 * u2) + x16) ∧ ((16 * u2) + x16) < 16016) ∧ (∀ (x18 : Int64), x18 = (st (τ.2.2 1) k1 k2) ((16 * u2) + x16) → (rg ((16 * u2) + x14) ∧ P133 ((16 * u2) + x14) (x18 &&& (u6 ^^^ (-1))) (s_b τ 1 k1 k2))))) ∧ (¬ u3 = 0 → ∀ (x20 : Int), rg x20 → (0 ≤ u1 → x20 = u1 / 64) → (u1 < 0 → x20 = -((-u1) / 64)) → ((0 ≤ ((16 * u2) + x20) ∧ ((16 * u2) + x20) < 16016) ∧ (∀ (x22 : Int64), x22 = (st (τ.2.2 1) k1 k2) ((16 * u2) + x20) → (rg ((16 * u2) + x14) ∧ P133 ((16 * u2) + x14) (x22 ||| u6) (s_b τ 1 k1 k2)))))))) → P74 u1 u2 u3 u6 k1 k2 τ) →
  (∀ (k1 : Int) (k2 : Int64) (τ : S0), ((0 ≤ k1 ∧ k1 < 16016) ∧ (Q (s_b τ 1 k1 k2))) → P133 k1 k2 τ) →
  ∀ (x1 : Int), rg x1 → (0 ≤ n2 → x1 = n2 % 64) → (n2 < 0 → x1 = -((-n2) % 64)) → (∀ (x2 : Int), rg x2 → (0 ≤ n1 → x2 = n1 % 64) → (n1 < 0 → x2 = -((-n1) % 64)) → (∀ (x3 : Int), rg x3 → (0 ≤ n2 → x3 = n2 / 64) → (n2 < 0 → x3 = -((-n2) / 64)) → ((n3 = 0 → ∀ (x5 : Int), rg x5 → (0 ≤ n2 → x5 = n2 / 64) → (n2 < 0 → x5 = -((-n2) / 64)) → ((0 ≤ ((16 * n1) + x5) ∧ ((16 * n1) + x5) < 16016) ∧ (∀ (x7 : Int64), x7 = σ.2.2 1 ((16 * n1) + x5) → (rg ((16 * n1) + x3) ∧ P74 n1 n2 n3 (j_shl 1 x2) ((16 * n1) + x3) (x7 &&& ((j_shl 1 x1) ^^^ (-1))) σ)))) ∧ (¬ n3 = 0 → ∀ (x9 : Int), rg x9 → (0 ≤ n2 → x9 = n2 / 64) → (n2 < 0 → x9 = -((-n2) / 64)) → ((0 ≤ ((16 * n1) + x9) ∧ ((16 * n1) + x9) < 16016) ∧ (∀ (x11 : Int64), x11 = σ.2.2 1 ((16 * n1) + x9) → (rg ((16 * n1) + x3) ∧ P74 n1 n2 n3 (j_shl 1 x2) ((16 * n1) + x3) (x11 ||| (j_shl 1 x1)) σ)))))))
set_option maxRecDepth 100000 in
set_option maxHeartbeats 4000000 in
theorem L_X13_setApart (l : Launch) (g : gG) (q : Nat → Nat) (lb : Nat) (hlb : lb < 2 ^ 31) {n1 : Int} {n2 : Int} {n3 : Int} {σ : S0} {Q : S0 → Prop} (r_n1 : rg n1) (r_n2 : rg n2) (r_n3 : rg n3) (hN : n_m σ) (hw : W_X13_setApart n1 n2 n3 σ Q) (sz : Nat) : MetV l yX13_setApart cX13_setApart 8 { frames := 0, cells := 0, slots := 0, locals := 0 } g [.ref (q 0), .int (I n1), .int (I n2), .int (I n3)] (MX g q lb σ) sz xT (p_V (MX g q lb) [] [] [1] σ Q) 0 0 := by
  refine mkMet (Qc := fun A => QV g A (p_V (MX g q lb) [] [] [1] σ Q)) (by decide) (Nat.le_of_ble_eq_true rfl) ?_
  intro p e s m below meth c A H ls hx hb hr hml hown hts hlk hnm hsz hP hK hNb hD hA hAe hS hX hl
  have hl : lv_has ls 8 [(0, .ref (q 0)), (1, .int (I n1)), (2, .int (I n2)), (3, .int (I n3))] := hl
  have hB := hN
  have hF : f_r [] [] [1] σ σ := f_0
  obtain ⟨locs, hlocs⟩ : ∃ z : List Loc, z = [] := ⟨_, rfl⟩
  rw [← hlocs] at hS ⊢
  obtain ⟨P74, hP74⟩ : ∃ P : Int → Int → Int → Int64 → Int → Int64 → S0 → Prop, ∀ (u1 : Int) (u2 : Int) (u3 : Int) (u6 : Int64) (k1 : Int) (k2 : Int64) (τ : S0), (P u1 u2 u3 u6 k1 k2 τ ↔ (rg u1 → rg u2 → rg u3 → rg k1 → n_m τ → f_r [] [] [1] σ τ → ∀ (H : Heap) (locs : List Loc) (ls : Array Slot), KP g (MX g q lb τ) H → va_D A (MX g q lb τ) → va_S A s.heap H locs → lv_has ls 8 [(0, .ref (q 0)), (1, .int (I u1)), (2, .int (I u2)), (3, .int (I u3)), (6, .long u6)] → W p l e ({ frames := 0, cells := 0, slots := 0, locals := 0 }) s m [.ref (q 0), .int (I n1), .int (I n2), .int (I n3)].toArray below meth c H locs 0 0 (MQ below (QV g A (p_V (MX g q lb) [] [] [1] σ Q)) [.ref (q 0), .int (I n1), .int (I n2), .int (I n3)].toArray s 0 0 A) (F0 m 74 ls [.long k2, .int (I k1), .ref (q 36)]))) := ⟨_, fun _ _ _ _ _ _ _ => Iff.rfl⟩
  obtain ⟨P133, hP133⟩ : ∃ P : Int → Int64 → S0 → Prop, ∀ (k1 : Int) (k2 : Int64) (τ : S0), (P k1 k2 τ ↔ (rg k1 → n_m τ → f_r [] [] [1] σ τ → ∀ (H : Heap) (locs : List Loc) (ls : Array Slot), KP g (MX g q lb τ) H → va_D A (MX g q lb τ) → va_S A s.heap H locs → lv_has ls 8 [] → W p l e ({ frames := 0, cells := 0, slots := 0, locals := 0 }) s m [.ref (q 0), .int (I n1), .int (I n2), .int (I n3)].toArray below meth c H locs 0 0 (MQ below (QV g A (p_V (MX g q lb) [] [] [1] σ Q)) [.ref (q 0), .int (I n1), .int (I n2), .int (I n3)].toArray s 0 0 A) (F0 m 133 ls [.long k2, .int (I k1), .ref (q 36)]))) := ⟨_, fun _ _ _ => Iff.rfl⟩
  refine (fun hw => ?_) (hw P74 P133 ?_ ?_)
  ·
    refine lv_lconst (v := 1) hx hb dX13_setApart_0 (by decide) ?_
    refine lv_iload_n hx hb dX13_setApart_1 rfl (lv_at hl 2 rfl) ?_
    refine lv_bipush (v := I 64) hx hb dX13_setApart_2 (by decide) ?_
    refine bi_irem hx hb r_n2 (by decide) (by decide) dX13_setApart_4 (fun x1 r_x1 p_x1 m_x1 => ?_)
    replace hw := hw x1 r_x1 p_x1 m_x1
    refine bi_lshl hx hb dX13_setApart_5 ?_
    refine lv_lstore (lv' := [(4, .long (j_shl 1 x1)), (0, .ref (q 0)), (1, .int (I n1)), (2, .int (I n2)), (3, .int (I n3))]) hx hb dX13_setApart_6 hl (by decide) rfl (fun ls hl => ?_)
    refine lv_lconst (v := 1) hx hb dX13_setApart_8 (by decide) ?_
    refine lv_iload_n hx hb dX13_setApart_9 rfl (lv_at hl 2 rfl) ?_
    refine lv_bipush (v := I 64) hx hb dX13_setApart_10 (by decide) ?_
    refine bi_irem hx hb r_n1 (by decide) (by decide) dX13_setApart_12 (fun x2 r_x2 p_x2 m_x2 => ?_)
    replace hw := hw x2 r_x2 p_x2 m_x2
    refine bi_lshl hx hb dX13_setApart_13 ?_
    refine lv_lstore (lv' := [(6, .long (j_shl 1 x2)), (4, .long (j_shl 1 x1)), (0, .ref (q 0)), (1, .int (I n1)), (2, .int (I n2)), (3, .int (I n3))]) hx hb dX13_setApart_14 hl (by decide) rfl (fun ls hl => ?_)
    refine lv_aload_n hx hb dX13_setApart_16 rfl (lv_at hl 2 rfl) ?_
    refine gfX13_apartBits hx hb hts hK hP hown (hts _ tw_2056) dX13_setApart_17 ?_
    refine lv_bipush (v := I 16) hx hb dX13_setApart_20 (by decide) ?_
    refine lv_iload_n hx hb dX13_setApart_22 rfl (lv_at hl 3 rfl) ?_
    refine bi_imul hx hb dX13_setApart_23 ?_
    refine lv_iload_n hx hb dX13_setApart_24 rfl (lv_at hl 4 rfl) ?_
    refine lv_bipush (v := I 64) hx hb dX13_setApart_25 (by decide) ?_
    refine bi_idiv hx hb r_n2 (by decide) (by decide) dX13_setApart_27 (fun x3 r_x3 p_x3 m_x3 => ?_)
    replace hw := hw x3 r_x3 p_x3 m_x3
    refine bi_iadd hx hb dX13_setApart_28 ?_
    refine lv_iload_n hx hb dX13_setApart_29 rfl (lv_at hl 5 rfl) ?_
    refine bi_if_eq (tgt := 53) hx hb r_n3 dX13_setApart_30 (by decide) (fun c4 => ?_) (fun c4 => ?_)
    ·
      replace hw := hw.1 c4
      refine lv_aload_n hx hb dX13_setApart_53 rfl (lv_at hl 2 rfl) ?_
      refine gfX13_apartBits hx hb hts hK hP hown (hts _ tw_2056) dX13_setApart_54 ?_
      refine lv_bipush (v := I 16) hx hb dX13_setApart_57 (by decide) ?_
      refine lv_iload_n hx hb dX13_setApart_59 rfl (lv_at hl 3 rfl) ?_
      refine bi_imul hx hb dX13_setApart_60 ?_
      refine lv_iload_n hx hb dX13_setApart_61 rfl (lv_at hl 4 rfl) ?_
      refine lv_bipush (v := I 64) hx hb dX13_setApart_62 (by decide) ?_
      refine bi_idiv hx hb r_n2 (by decide) (by decide) dX13_setApart_64 (fun x5 r_x5 p_x5 m_x5 => ?_)
      replace hw := hw x5 r_x5 p_x5 m_x5
      refine bi_iadd hx hb dX13_setApart_65 ?_
      obtain ⟨c6, hw⟩ := hw
      refine ldMX13_apartBits hx hb hK hP hN c6 dX13_setApart_66 (fun x7 e_x7 => ?_)
      replace hw := hw x7 e_x7
      refine lv_lload hx hb dX13_setApart_67 (lv_at hl 1 rfl) ?_
      refine lv_ldc2 (own := RX13) (v := (-1)) hx hb hown (hts _ tw_2774) dX13_setApart_69 ?_
      refine lv_lxor hx hb dX13_setApart_72 ?_
      refine lv_land hx hb dX13_setApart_73 ?_
      obtain ⟨c8, hw⟩ := hw
      exact (hP74 _ _ _ _ _ _ _).mp hw r_n1 r_n2 r_n3 c8 hN hF H locs ls hP hD hS (lv_sub hl [2, 3, 4, 5, 0] rfl)
    ·
      replace hw := hw.2 c4
      refine lv_aload_n hx hb dX13_setApart_33 rfl (lv_at hl 2 rfl) ?_
      refine gfX13_apartBits hx hb hts hK hP hown (hts _ tw_2056) dX13_setApart_34 ?_
      refine lv_bipush (v := I 16) hx hb dX13_setApart_37 (by decide) ?_
      refine lv_iload_n hx hb dX13_setApart_39 rfl (lv_at hl 3 rfl) ?_
      refine bi_imul hx hb dX13_setApart_40 ?_
      refine lv_iload_n hx hb dX13_setApart_41 rfl (lv_at hl 4 rfl) ?_
      refine lv_bipush (v := I 64) hx hb dX13_setApart_42 (by decide) ?_
      refine bi_idiv hx hb r_n2 (by decide) (by decide) dX13_setApart_44 (fun x9 r_x9 p_x9 m_x9 => ?_)
      replace hw := hw x9 r_x9 p_x9 m_x9
      refine bi_iadd hx hb dX13_setApart_45 ?_
      obtain ⟨c10, hw⟩ := hw
      refine ldMX13_apartBits hx hb hK hP hN c10 dX13_setApart_46 (fun x11 e_x11 => ?_)
      replace hw := hw x11 e_x11
      refine lv_lload hx hb dX13_setApart_47 (lv_at hl 1 rfl) ?_
      refine lv_lor hx hb dX13_setApart_49 ?_
      refine lv_goto (tgt := 74) hx hb dX13_setApart_50 (by decide) ?_
      obtain ⟨c12, hw⟩ := hw
      exact (hP74 _ _ _ _ _ _ _).mp hw r_n1 r_n2 r_n3 c12 hN hF H locs ls hP hD hS (lv_sub hl [2, 3, 4, 5, 0] rfl)
  ·
    intro u1 u2 u3 u6 k1 k2 τ hw
    refine (hP74 _ _ _ _ _ _ _).mpr ?_
    intro r_u1 r_u2 r_u3 r_k1 hN hF H locs ls hP hD hS hl
    have hB := hN
    obtain ⟨c13, hw⟩ := hw
    refine sdMX13_apartBits hx hb hK hP hD hS c13 dX13_setApart_74 (fun H locs hP hD hS => ?_)
    have hN : n_m (s_b τ 1 k1 k2) := n_b (k := 1) (j := k1) (x := k2) hN
    have hF : f_r [] [] [1] σ (s_b τ 1 k1 k2) := f_b hF (by decide)
    refine lv_aload_n hx hb dX13_setApart_75 rfl (lv_at hl 0 rfl) ?_
    refine gfX13_apartBits hx hb hts hK hP hown (hts _ tw_2056) dX13_setApart_76 ?_
    refine lv_bipush (v := I 16) hx hb dX13_setApart_79 (by decide) ?_
    refine lv_iload_n hx hb dX13_setApart_81 rfl (lv_at hl 2 rfl) ?_
    refine bi_imul hx hb dX13_setApart_82 ?_
    refine lv_iload_n hx hb dX13_setApart_83 rfl (lv_at hl 1 rfl) ?_
    refine lv_bipush (v := I 64) hx hb dX13_setApart_84 (by decide) ?_
    refine bi_idiv hx hb r_u1 (by decide) (by decide) dX13_setApart_86 (fun x14 r_x14 p_x14 m_x14 => ?_)
    replace hw := hw x14 r_x14 p_x14 m_x14
    refine bi_iadd hx hb dX13_setApart_87 ?_
    refine lv_iload_n hx hb dX13_setApart_88 rfl (lv_at hl 3 rfl) ?_
    refine bi_if_eq (tgt := 112) hx hb r_u3 dX13_setApart_89 (by decide) (fun c15 => ?_) (fun c15 => ?_)
    ·
      replace hw := hw.1 c15
      refine lv_aload_n hx hb dX13_setApart_112 rfl (lv_at hl 0 rfl) ?_
      refine gfX13_apartBits hx hb hts hK hP hown (hts _ tw_2056) dX13_setApart_113 ?_
      refine lv_bipush (v := I 16) hx hb dX13_setApart_116 (by decide) ?_
      refine lv_iload_n hx hb dX13_setApart_118 rfl (lv_at hl 2 rfl) ?_
      refine bi_imul hx hb dX13_setApart_119 ?_
      refine lv_iload_n hx hb dX13_setApart_120 rfl (lv_at hl 1 rfl) ?_
      refine lv_bipush (v := I 64) hx hb dX13_setApart_121 (by decide) ?_
      refine bi_idiv hx hb r_u1 (by decide) (by decide) dX13_setApart_123 (fun x16 r_x16 p_x16 m_x16 => ?_)
      replace hw := hw x16 r_x16 p_x16 m_x16
      refine bi_iadd hx hb dX13_setApart_124 ?_
      obtain ⟨c17, hw⟩ := hw
      refine ldMX13_apartBits hx hb hK hP hN c17 dX13_setApart_125 (fun x18 e_x18 => ?_)
      replace hw := hw x18 e_x18
      refine lv_lload hx hb dX13_setApart_126 (lv_at hl 4 rfl) ?_
      refine lv_ldc2 (own := RX13) (v := (-1)) hx hb hown (hts _ tw_2774) dX13_setApart_128 ?_
      refine lv_lxor hx hb dX13_setApart_131 ?_
      refine lv_land hx hb dX13_setApart_132 ?_
      obtain ⟨c19, hw⟩ := hw
      exact (hP133 _ _ _).mp hw c19 hN hF H locs ls hP hD hS (lv_sub hl [] rfl)
    ·
      replace hw := hw.2 c15
      refine lv_aload_n hx hb dX13_setApart_92 rfl (lv_at hl 0 rfl) ?_
      refine gfX13_apartBits hx hb hts hK hP hown (hts _ tw_2056) dX13_setApart_93 ?_
      refine lv_bipush (v := I 16) hx hb dX13_setApart_96 (by decide) ?_
      refine lv_iload_n hx hb dX13_setApart_98 rfl (lv_at hl 2 rfl) ?_
      refine bi_imul hx hb dX13_setApart_99 ?_
      refine lv_iload_n hx hb dX13_setApart_100 rfl (lv_at hl 1 rfl) ?_
      refine lv_bipush (v := I 64) hx hb dX13_setApart_101 (by decide) ?_
      refine bi_idiv hx hb r_u1 (by decide) (by decide) dX13_setApart_103 (fun x20 r_x20 p_x20 m_x20 => ?_)
      replace hw := hw x20 r_x20 p_x20 m_x20
      refine bi_iadd hx hb dX13_setApart_104 ?_
      obtain ⟨c21, hw⟩ := hw
      refine ldMX13_apartBits hx hb hK hP hN c21 dX13_setApart_105 (fun x22 e_x22 => ?_)
      replace hw := hw x22 e_x22
      refine lv_lload hx hb dX13_setApart_106 (lv_at hl 4 rfl) ?_
      refine lv_lor hx hb dX13_setApart_108 ?_
      refine lv_goto (tgt := 133) hx hb dX13_setApart_109 (by decide) ?_
      obtain ⟨c23, hw⟩ := hw
      exact (hP133 _ _ _).mp hw c23 hN hF H locs ls hP hD hS (lv_sub hl [] rfl)
  ·
    intro k1 k2 τ hw
    refine (hP133 _ _ _).mpr ?_
    intro r_k1 hN hF H locs ls hP hD hS hl
    have hB := hN
    obtain ⟨c24, hw⟩ := hw
    refine sdMX13_apartBits hx hb hK hP hD hS c24 dX13_setApart_133 (fun H locs hP hD hS => ?_)
    have hN : n_m (s_b τ 1 k1 k2) := n_b (k := 1) (j := k1) (x := k2) hN
    have hF : f_r [] [] [1] σ (s_b τ 1 k1 k2) := f_b hF (by decide)
    exact xrv hx hb hr hlk hP hK hD hS ⟨_, hN, hF, rfl, hw⟩ (Nat.le_of_ble_eq_true rfl) (Nat.le_of_ble_eq_true rfl) dX13_setApart_134
def W_X13_dropTo (n1 : Int) (n2 : Int) (n3 : Int) (σ : S0) (Q : S0 → Prop) : Prop :=
  ∀ (P0 : Int → Int → Int → S0 → Prop) (P36 : Int → Int → S0 → Prop) (P98 : Int → S0 → Prop),
  (∀ (u1 : Int) (u2 : Int) (u3 : Int) (τ : S0), ((τ.1 12 ≤ u1 → P36 u2 u3 τ) ∧ (u1 < τ.1 12 → rg (τ.1 12 - 1) ∧ (0 ≤ (τ.1 12 - 1) ∧ (τ.1 12 - 1) < 1001) ∧ (∀ (x4 : Int), rg x4 → x4 = τ.2.1 30 (τ.1 12 - 1) → ((0 ≤ x4 ∧ x4 < 1001) ∧ (P0 u1 u2 u3 (s_a (s_v τ 12 (τ.1 12 - 1)) 9 x4 0)))))) → P0 u1 u2 u3 τ) →
  (∀ (u2 : Int) (u3 : Int) (τ : S0), ((τ.1 13 ≤ u2 → P98 u3 τ) ∧ (u2 < τ.1 13 → rg (τ.1 13 - 1) ∧ (0 ≤ (τ.1 13 - 1) ∧ (τ.1 13 - 1) < 1501) ∧ (∀ (x9 : Int), rg x9 → x9 = τ.2.1 31 (τ.1 13 - 1) → ((0 ≤ x9 ∧ x9 < 1501) ∧ (∀ (x11 : Int), rg x11 → x11 = τ.2.1 13 x9 → ((¬ x11 = 0 → P36 u2 u3 (s_v τ 13 (τ.1 13 - 1))) ∧ (x11 = 0 → ∀ (x13 : Int), rg x13 → x13 = τ.2.1 14 x9 → ((0 ≤ (x13 + 1) ∧ (x13 + 1) < 30400) ∧ (∀ (x15 : Int), rg x15 → x15 = τ.2.1 16 (x13 + 1) → ((0 ≤ x15 ∧ x15 < 1001) ∧ (P36 u2 u3 (s_a (s_v τ 13 (τ.1 13 - 1)) 11 x15 (-1))))))))))))) → P36 u2 u3 τ) →
  (∀ (u3 : Int) (τ : S0), ((τ.1 14 ≤ u3 → Q τ) ∧ (u3 < τ.1 14 → rg (τ.1 14 - 1) ∧ (0 ≤ (τ.1 14 - 1) ∧ (τ.1 14 - 1) < 1001) ∧ (∀ (x20 : Int), rg x20 → x20 = τ.2.1 32 (τ.1 14 - 1) → (∀ (x21 : Int), rg x21 → x21 = τ.2.1 33 (τ.1 14 - 1) → (∃ (Q22 : S0 → Prop), W_X13_setApart x20 x21 0 (s_v τ 14 (τ.1 14 - 1)) Q22 ∧ ∀ (τ24 : S0), n_m τ24 → f_r [] [] [1] (s_v τ 14 (τ.1 14 - 1)) τ24 → Q22 τ24 → (P98 u3 τ24)))))) → P98 u3 τ) →
  P0 n1 n2 n3 σ
set_option maxRecDepth 100000 in
set_option maxHeartbeats 4000000 in
theorem L_X13_dropTo (l : Launch) (g : gG) (q : Nat → Nat) (lb : Nat) (hlb : lb < 2 ^ 31) {n1 : Int} {n2 : Int} {n3 : Int} {σ : S0} {Q : S0 → Prop} (r_n1 : rg n1) (r_n2 : rg n2) (r_n3 : rg n3) (hN : n_m σ) (hw : W_X13_dropTo n1 n2 n3 σ Q) (sz : Nat) : MetV l yX13_dropTo cX13_dropTo 5 { frames := 1, cells := 0, slots := 0, locals := 27 } g [.ref (q 0), .int (I n1), .int (I n2), .int (I n3)] (MX g q lb σ) sz xT (p_V (MX g q lb) [12, 13, 14] [9, 11] [1] σ Q) 0 0 := by
  refine mkMet (Qc := fun A => QV g A (p_V (MX g q lb) [12, 13, 14] [9, 11] [1] σ Q)) (by decide) (Nat.le_of_ble_eq_true rfl) ?_
  intro p e s m below meth c A H ls hx hb hr hml hown hts hlk hnm hsz hP hK hNb hD hA hAe hS hX hl
  have hl : lv_has ls 5 [(0, .ref (q 0)), (1, .int (I n1)), (2, .int (I n2)), (3, .int (I n3))] := hl
  have hB := hN
  have hF : f_r [12, 13, 14] [9, 11] [1] σ σ := f_0
  obtain ⟨locs, hlocs⟩ : ∃ z : List Loc, z = [] := ⟨_, rfl⟩
  rw [← hlocs] at hS ⊢
  obtain ⟨P0, hP0⟩ : ∃ P : Int → Int → Int → S0 → Prop, ∀ (u1 : Int) (u2 : Int) (u3 : Int) (τ : S0), (P u1 u2 u3 τ ↔ (rg u1 → rg u2 → rg u3 → n_m τ → f_r [12, 13, 14] [9, 11] [1] σ τ → ∀ (H : Heap) (locs : List Loc) (ls : Array Slot), KP g (MX g q lb τ) H → va_D A (MX g q lb τ) → va_S A s.heap H locs → lv_has ls 5 [(0, .ref (q 0)), (1, .int (I u1)), (2, .int (I u2)), (3, .int (I u3))] → W p l e ({ frames := 1, cells := 0, slots := 0, locals := 27 }) s m [.ref (q 0), .int (I n1), .int (I n2), .int (I n3)].toArray below meth c H locs 0 0 (MQ below (QV g A (p_V (MX g q lb) [12, 13, 14] [9, 11] [1] σ Q)) [.ref (q 0), .int (I n1), .int (I n2), .int (I n3)].toArray s 0 0 A) (F0 m 0 ls []))) := ⟨_, fun _ _ _ _ => Iff.rfl⟩
  obtain ⟨P36, hP36⟩ : ∃ P : Int → Int → S0 → Prop, ∀ (u2 : Int) (u3 : Int) (τ : S0), (P u2 u3 τ ↔ (rg u2 → rg u3 → n_m τ → f_r [12, 13, 14] [9, 11] [1] σ τ → ∀ (H : Heap) (locs : List Loc) (ls : Array Slot), KP g (MX g q lb τ) H → va_D A (MX g q lb τ) → va_S A s.heap H locs → lv_has ls 5 [(0, .ref (q 0)), (2, .int (I u2)), (3, .int (I u3))] → W p l e ({ frames := 1, cells := 0, slots := 0, locals := 27 }) s m [.ref (q 0), .int (I n1), .int (I n2), .int (I n3)].toArray below meth c H locs 0 0 (MQ below (QV g A (p_V (MX g q lb) [12, 13, 14] [9, 11] [1] σ Q)) [.ref (q 0), .int (I n1), .int (I n2), .int (I n3)].toArray s 0 0 A) (F0 m 36 ls []))) := ⟨_, fun _ _ _ => Iff.rfl⟩
  obtain ⟨P98, hP98⟩ : ∃ P : Int → S0 → Prop, ∀ (u3 : Int) (τ : S0), (P u3 τ ↔ (rg u3 → n_m τ → f_r [12, 13, 14] [9, 11] [1] σ τ → ∀ (H : Heap) (locs : List Loc) (ls : Array Slot), KP g (MX g q lb τ) H → va_D A (MX g q lb τ) → va_S A s.heap H locs → lv_has ls 5 [(0, .ref (q 0)), (3, .int (I u3))] → W p l e ({ frames := 1, cells := 0, slots := 0, locals := 27 }) s m [.ref (q 0), .int (I n1), .int (I n2), .int (I n3)].toArray below meth c H locs 0 0 (MQ below (QV g A (p_V (MX g q lb) [12, 13, 14] [9, 11] [1] σ Q)) [.ref (q 0), .int (I n1), .int (I n2), .int (I n3)].toArray s 0 0 A) (F0 m 98 ls []))) := ⟨_, fun _ _ => Iff.rfl⟩
  refine (fun hw => ?_) (hw P0 P36 P98 ?_ ?_ ?_)
  ·
    exact (hP0 _ _ _ _).mp hw r_n1 r_n2 r_n3 hN hF H locs ls hP hD hS (lv_sub hl [0, 1, 2, 3] rfl)
  ·
    intro u1 u2 u3 τ hw
    refine (hP0 _ _ _ _).mpr ?_
    intro r_u1 r_u2 r_u3 hN hF H locs ls hP hD hS hl
    have hB := hN
    refine lv_aload_n hx hb dX13_dropTo_0 rfl (lv_at hl 0 rfl) ?_
    refine gfX13_activeVariableCount hx hb hts hK hP hown (hts _ tw_2050) (x := τ.1 12) rfl dX13_dropTo_1 ?_
    refine lv_iload_n hx hb dX13_dropTo_4 rfl (lv_at hl 1 rfl) ?_
    refine bi_icmp_le (tgt := 36) hx hb (hB.1 12) r_u1 dX13_dropTo_5 (by decide) (fun c1 => ?_) (fun c1 => ?_)
    ·
      replace hw := hw.1 c1
      exact (hP36 _ _ _).mp hw r_u2 r_u3 hN hF H locs ls hP hD hS (lv_sub hl [0, 2, 3] rfl)
    ·
      replace hw := hw.2 c1
      refine lv_aload_n hx hb dX13_dropTo_8 rfl (lv_at hl 0 rfl) ?_
      refine lv_dup hx hb dX13_dropTo_9 rfl ?_
      refine gfX13_activeVariableCount hx hb hts hK hP hown (hts _ tw_2050) (x := τ.1 12) rfl dX13_dropTo_10 ?_
      refine lv_iconst (v := I 1) hx hb dX13_dropTo_13 rfl ?_
      refine bi_isub hx hb dX13_dropTo_14 ?_
      obtain ⟨c2, hw⟩ := hw
      refine pfX13_activeVariableCount hx hb hts hK hP hD hS hown (hts _ tw_2050) dX13_dropTo_15 (fun H locs hP hD hS => ?_)
      have hN : n_m (s_v τ 12 (τ.1 12 - 1)) := n_v (i := 12) hN (c2 : rg (τ.1 12 - 1))
      have hF : f_r [12, 13, 14] [9, 11] [1] σ (s_v τ 12 (τ.1 12 - 1)) := f_v hF (by decide)
      refine lv_aload_n hx hb dX13_dropTo_18 rfl (lv_at hl 0 rfl) ?_
      refine gfX13_isActive hx hb hts hK hP hown (hts _ tw_2019) dX13_dropTo_19 ?_
      refine lv_aload_n hx hb dX13_dropTo_22 rfl (lv_at hl 0 rfl) ?_
      refine gfX13_activeVariables hx hb hts hK hP hown (hts _ tw_2049) dX13_dropTo_23 ?_
      refine lv_aload_n hx hb dX13_dropTo_26 rfl (lv_at hl 0 rfl) ?_
      refine gfX13_activeVariableCount hx hb hts hK hP hown (hts _ tw_2050) (x := (τ.1 12 - 1)) rfl dX13_dropTo_27 ?_
      obtain ⟨c3, hw⟩ := hw
      refine ldMX13_activeVariables hx hb hK hP hN c3 dX13_dropTo_30 (fun x4 r_x4 e_x4 => ?_)
      replace hw := hw x4 r_x4 e_x4
      refine lv_iconst (v := I 0) hx hb dX13_dropTo_31 rfl ?_
      obtain ⟨c5, hw⟩ := hw
      refine sdMX13_isActive hx hb hK hP hD hS c5 (by decide) dX13_dropTo_32 (fun H locs hP hD hS => ?_)
      have hN : n_m (s_a (s_v τ 12 (τ.1 12 - 1)) 9 x4 0) := n_a (k := 9) (j := x4) hN ((by decide) : rg 0)
      have hF : f_r [12, 13, 14] [9, 11] [1] σ (s_a (s_v τ 12 (τ.1 12 - 1)) 9 x4 0) := f_a hF (by decide)
      refine lv_goto (tgt := 0) hx hb dX13_dropTo_33 (by decide) ?_
      exact (hP0 _ _ _ _).mp hw r_u1 r_u2 r_u3 hN hF H locs ls hP hD hS (lv_sub hl [0, 1, 2, 3] rfl)
  ·
    intro u2 u3 τ hw
    refine (hP36 _ _ _).mpr ?_
    intro r_u2 r_u3 hN hF H locs ls hP hD hS hl
    have hB := hN
    refine lv_aload_n hx hb dX13_dropTo_36 rfl (lv_at hl 0 rfl) ?_
    refine gfX13_activeHypCount hx hb hts hK hP hown (hts _ tw_2052) (x := τ.1 13) rfl dX13_dropTo_37 ?_
    refine lv_iload_n hx hb dX13_dropTo_40 rfl (lv_at hl 1 rfl) ?_
    refine bi_icmp_le (tgt := 98) hx hb (hB.1 13) r_u2 dX13_dropTo_41 (by decide) (fun c6 => ?_) (fun c6 => ?_)
    ·
      replace hw := hw.1 c6
      exact (hP98 _ _).mp hw r_u3 hN hF H locs ls hP hD hS (lv_sub hl [0, 2] rfl)
    ·
      replace hw := hw.2 c6
      refine lv_aload_n hx hb dX13_dropTo_44 rfl (lv_at hl 0 rfl) ?_
      refine lv_dup hx hb dX13_dropTo_45 rfl ?_
      refine gfX13_activeHypCount hx hb hts hK hP hown (hts _ tw_2052) (x := τ.1 13) rfl dX13_dropTo_46 ?_
      refine lv_iconst (v := I 1) hx hb dX13_dropTo_49 rfl ?_
      refine bi_isub hx hb dX13_dropTo_50 ?_
      obtain ⟨c7, hw⟩ := hw
      refine pfX13_activeHypCount hx hb hts hK hP hD hS hown (hts _ tw_2052) dX13_dropTo_51 (fun H locs hP hD hS => ?_)
      have hN : n_m (s_v τ 13 (τ.1 13 - 1)) := n_v (i := 13) hN (c7 : rg (τ.1 13 - 1))
      have hF : f_r [12, 13, 14] [9, 11] [1] σ (s_v τ 13 (τ.1 13 - 1)) := f_v hF (by decide)
      refine lv_aload_n hx hb dX13_dropTo_54 rfl (lv_at hl 0 rfl) ?_
      refine gfX13_activeHyps hx hb hts hK hP hown (hts _ tw_2051) dX13_dropTo_55 ?_
      refine lv_aload_n hx hb dX13_dropTo_58 rfl (lv_at hl 0 rfl) ?_
      refine gfX13_activeHypCount hx hb hts hK hP hown (hts _ tw_2052) (x := (τ.1 13 - 1)) rfl dX13_dropTo_59 ?_
      obtain ⟨c8, hw⟩ := hw
      refine ldMX13_activeHyps hx hb hK hP hN c8 dX13_dropTo_62 (fun x9 r_x9 e_x9 => ?_)
      replace hw := hw x9 r_x9 e_x9
      refine lv_istore (lv' := [(4, .int (I x9)), (0, .ref (q 0)), (2, .int (I u2)), (3, .int (I u3))]) hx hb dX13_dropTo_63 hl (by decide) rfl (fun ls hl => ?_)
      refine lv_aload_n hx hb dX13_dropTo_65 rfl (lv_at hl 1 rfl) ?_
      refine gfX13_kindOf hx hb hts hK hP hown (hts _ tw_2025) dX13_dropTo_66 ?_
      refine lv_iload hx hb dX13_dropTo_69 (lv_at hl 0 rfl) ?_
      obtain ⟨c10, hw⟩ := hw
      refine ldMX13_kindOf hx hb hK hP hN c10 dX13_dropTo_71 (fun x11 r_x11 e_x11 => ?_)
      replace hw := hw x11 r_x11 e_x11
      refine bi_if_ne (tgt := 95) hx hb r_x11 dX13_dropTo_72 (by decide) (fun c12 => ?_) (fun c12 => ?_)
      ·
        replace hw := hw.1 c12
        refine lv_goto (tgt := 36) hx hb dX13_dropTo_95 (by decide) ?_
        exact (hP36 _ _ _).mp hw r_u2 r_u3 hN hF H locs ls hP hD hS (lv_sub hl [1, 2, 3] rfl)
      ·
        replace hw := hw.2 c12
        refine lv_aload_n hx hb dX13_dropTo_75 rfl (lv_at hl 1 rfl) ?_
        refine gfX13_floatOf hx hb hts hK hP hown (hts _ tw_2021) dX13_dropTo_76 ?_
        refine lv_aload_n hx hb dX13_dropTo_79 rfl (lv_at hl 1 rfl) ?_
        refine gfX13_texts hx hb hts hK hP hown (hts _ tw_2028) dX13_dropTo_80 ?_
        refine lv_aload_n hx hb dX13_dropTo_83 rfl (lv_at hl 1 rfl) ?_
        refine gfX13_textAt hx hb hts hK hP hown (hts _ tw_2026) dX13_dropTo_84 ?_
        refine lv_iload hx hb dX13_dropTo_87 (lv_at hl 0 rfl) ?_
        refine ldMX13_textAt hx hb hK hP hN c10 dX13_dropTo_89 (fun x13 r_x13 e_x13 => ?_)
        replace hw := hw x13 r_x13 e_x13
        refine lv_iconst (v := I 1) hx hb dX13_dropTo_90 rfl ?_
        refine bi_iadd hx hb dX13_dropTo_91 ?_
        obtain ⟨c14, hw⟩ := hw
        refine ldMX13_texts hx hb hK hP hN c14 dX13_dropTo_92 (fun x15 r_x15 e_x15 => ?_)
        replace hw := hw x15 r_x15 e_x15
        refine lv_iconst (v := I (-1)) hx hb dX13_dropTo_93 rfl ?_
        obtain ⟨c16, hw⟩ := hw
        refine sdMX13_floatOf hx hb hK hP hD hS c16 dX13_dropTo_94 (fun H locs hP hD hS => ?_)
        have hN : n_m (s_a (s_v τ 13 (τ.1 13 - 1)) 11 x15 (-1)) := n_a (k := 11) (j := x15) hN ((by decide) : rg (-1))
        have hF : f_r [12, 13, 14] [9, 11] [1] σ (s_a (s_v τ 13 (τ.1 13 - 1)) 11 x15 (-1)) := f_a hF (by decide)
        refine lv_goto (tgt := 36) hx hb dX13_dropTo_95 (by decide) ?_
        exact (hP36 _ _ _).mp hw r_u2 r_u3 hN hF H locs ls hP hD hS (lv_sub hl [1, 2, 3] rfl)
  ·
    intro u3 τ hw
    refine (hP98 _ _).mpr ?_
    intro r_u3 hN hF H locs ls hP hD hS hl
    have hB := hN
    refine lv_aload_n hx hb dX13_dropTo_98 rfl (lv_at hl 0 rfl) ?_
    refine gfX13_apartCount hx hb hts hK hP hown (hts _ tw_2055) (x := τ.1 14) rfl dX13_dropTo_99 ?_
    refine lv_iload_n hx hb dX13_dropTo_102 rfl (lv_at hl 1 rfl) ?_
    refine bi_icmp_le (tgt := 142) hx hb (hB.1 14) r_u3 dX13_dropTo_103 (by decide) (fun c17 => ?_) (fun c17 => ?_)
    ·
      replace hw := hw.1 c17
      exact xrv hx hb hr hlk hP hK hD hS ⟨_, hN, hF, rfl, hw⟩ (Nat.le_of_ble_eq_true rfl) (Nat.le_of_ble_eq_true rfl) dX13_dropTo_142
    ·
      replace hw := hw.2 c17
      refine lv_aload_n hx hb dX13_dropTo_106 rfl (lv_at hl 0 rfl) ?_
      refine lv_dup hx hb dX13_dropTo_107 rfl ?_
      refine gfX13_apartCount hx hb hts hK hP hown (hts _ tw_2055) (x := τ.1 14) rfl dX13_dropTo_108 ?_
      refine lv_iconst (v := I 1) hx hb dX13_dropTo_111 rfl ?_
      refine bi_isub hx hb dX13_dropTo_112 ?_
      obtain ⟨c18, hw⟩ := hw
      refine pfX13_apartCount hx hb hts hK hP hD hS hown (hts _ tw_2055) dX13_dropTo_113 (fun H locs hP hD hS => ?_)
      have hN : n_m (s_v τ 14 (τ.1 14 - 1)) := n_v (i := 14) hN (c18 : rg (τ.1 14 - 1))
      have hF : f_r [12, 13, 14] [9, 11] [1] σ (s_v τ 14 (τ.1 14 - 1)) := f_v hF (by decide)
      refine lv_aload_n hx hb dX13_dropTo_116 rfl (lv_at hl 0 rfl) ?_
      refine lv_aload_n hx hb dX13_dropTo_117 rfl (lv_at hl 0 rfl) ?_
      refine gfX13_apartA hx hb hts hK hP hown (hts _ tw_2053) dX13_dropTo_118 ?_
      refine lv_aload_n hx hb dX13_dropTo_121 rfl (lv_at hl 0 rfl) ?_
      refine gfX13_apartCount hx hb hts hK hP hown (hts _ tw_2055) (x := (τ.1 14 - 1)) rfl dX13_dropTo_122 ?_
      obtain ⟨c19, hw⟩ := hw
      refine ldMX13_apartA hx hb hK hP hN c19 dX13_dropTo_125 (fun x20 r_x20 e_x20 => ?_)
      replace hw := hw x20 r_x20 e_x20
      refine lv_aload_n hx hb dX13_dropTo_126 rfl (lv_at hl 0 rfl) ?_
      refine gfX13_apartB hx hb hts hK hP hown (hts _ tw_2054) dX13_dropTo_127 ?_
      refine lv_aload_n hx hb dX13_dropTo_130 rfl (lv_at hl 0 rfl) ?_
      refine gfX13_apartCount hx hb hts hK hP hown (hts _ tw_2055) (x := (τ.1 14 - 1)) rfl dX13_dropTo_131 ?_
      refine ldMX13_apartB hx hb hK hP hN c19 dX13_dropTo_134 (fun x21 r_x21 e_x21 => ?_)
      replace hw := hw x21 r_x21 e_x21
      refine lv_iconst (v := I 0) hx hb dX13_dropTo_135 rfl ?_
      obtain ⟨Q22, hc, hw⟩ := hw
      refine wc_V (X := MX g q lb) (va_runV (As := [.int (I x20), .int (I x21), .int (I 0)]) (rest := []) ⟨hx, hb, hml, hown, hts⟩ (L_X13_setApart l g q lb hlb r_x20 r_x21 (by decide) hN hc H.size) (cwV 3 hts (TB_V tw_2770 tw_2772 ts_156 tw_15 co_X13_setApart) rfl rfl rfl (by decide +kernel) ⟨Nat.le_of_ble_eq_true rfl, Nat.le_of_ble_eq_true rfl⟩) (preV (q0 := 0) (ci := 13) rfl xT_bl hP hK hNb hD rfl rfl xT_at) rfl rfl hl.1 rfl (lv_room (Nat.le_of_ble_eq_true rfl)) dX13_dropTo_136 ⟨Nat.le_of_ble_eq_true rfl, Nat.le_of_ble_eq_true rfl⟩) hP hD hS hA (fun τ24 H locs hN hf hq hP hD hS => ?_)
      replace hw := hw τ24 hN hf hq
      have hF : f_r [12, 13, 14] [9, 11] [1] σ τ24 := f_t hF hf (by decide) (by decide) (by decide)
      have hB := hN
      refine lv_goto (tgt := 98) hx hb dX13_dropTo_139 (by decide) ?_
      exact (hP98 _ _).mp hw r_u3 hN hF H locs ls hP hD hS (lv_sub hl [0, 1] rfl)
def W_X13_fail (n1 : Int) (n2 : Int) (σ : S0) (Q : S0 → Prop) : Prop :=
  (¬ σ.1 20 = 0 → Q σ) ∧ (σ.1 20 = 0 → Q (s_v (s_v σ 20 n1) 21 n2))
set_option maxRecDepth 100000 in
set_option maxHeartbeats 4000000 in
theorem L_X13_fail (l : Launch) (g : gG) (q : Nat → Nat) (lb : Nat) (hlb : lb < 2 ^ 31) {n1 : Int} {n2 : Int} {σ : S0} {Q : S0 → Prop} (r_n1 : rg n1) (r_n2 : rg n2) (hN : n_m σ) (hw : W_X13_fail n1 n2 σ Q) (sz : Nat) : MetV l yX13_fail cX13_fail 3 { frames := 0, cells := 0, slots := 0, locals := 0 } g [.ref (q 0), .int (I n1), .int (I n2)] (MX g q lb σ) sz xT (p_V (MX g q lb) [20, 21] [] [] σ Q) 0 0 := by
  refine mkMet (Qc := fun A => QV g A (p_V (MX g q lb) [20, 21] [] [] σ Q)) (by decide) (Nat.le_of_ble_eq_true rfl) ?_
  intro p e s m below meth c A H ls hx hb hr hml hown hts hlk hnm hsz hP hK hNb hD hA hAe hS hX hl
  have hl : lv_has ls 3 [(0, .ref (q 0)), (1, .int (I n1)), (2, .int (I n2))] := hl
  have hB := hN
  have hF : f_r [20, 21] [] [] σ σ := f_0
  obtain ⟨locs, hlocs⟩ : ∃ z : List Loc, z = [] := ⟨_, rfl⟩
  rw [← hlocs] at hS ⊢
  refine lv_aload_n hx hb dX13_fail_0 rfl (lv_at hl 0 rfl) ?_
  refine gfX13_fault hx hb hts hK hP hown (hts _ tw_2065) (x := σ.1 20) rfl dX13_fail_1 ?_
  refine bi_if_ne (tgt := 17) hx hb (hB.1 20) dX13_fail_4 (by decide) (fun c1 => ?_) (fun c1 => ?_)
  ·
    replace hw := hw.1 c1
    exact xrv hx hb hr hlk hP hK hD hS ⟨_, hN, hF, rfl, hw⟩ (Nat.le_of_ble_eq_true rfl) (Nat.le_of_ble_eq_true rfl) dX13_fail_17
  ·
    replace hw := hw.2 c1
    refine lv_aload_n hx hb dX13_fail_7 rfl (lv_at hl 0 rfl) ?_
    refine lv_iload_n hx hb dX13_fail_8 rfl (lv_at hl 1 rfl) ?_
    refine pfX13_fault hx hb hts hK hP hD hS hown (hts _ tw_2065) dX13_fail_9 (fun H locs hP hD hS => ?_)
    have hN : n_m (s_v σ 20 n1) := n_v (i := 20) hN (r_n1 : rg n1)
    have hF : f_r [20, 21] [] [] σ (s_v σ 20 n1) := f_v hF (by decide)
    refine lv_aload_n hx hb dX13_fail_12 rfl (lv_at hl 0 rfl) ?_
    refine lv_iload_n hx hb dX13_fail_13 rfl (lv_at hl 2 rfl) ?_
    refine pfX13_placeIs hx hb hts hK hP hD hS hown (hts _ tw_2066) dX13_fail_14 (fun H locs hP hD hS => ?_)
    have hN : n_m (s_v (s_v σ 20 n1) 21 n2) := n_v (i := 21) hN (r_n2 : rg n2)
    have hF : f_r [20, 21] [] [] σ (s_v (s_v σ 20 n1) 21 n2) := f_v hF (by decide)
    exact xrv hx hb hr hlk hP hK hD hS ⟨_, hN, hF, rfl, hw⟩ (Nat.le_of_ble_eq_true rfl) (Nat.le_of_ble_eq_true rfl) dX13_fail_17
def W_X13_hasDollar (n1 : Int) (n2 : Int) (σ : S0) (Q : Int → Prop) : Prop :=
  ∀ (P5 : Int → Int → Int → Int → Prop),
  (∀ (u1 : Int) (u2 : Int) (u3 : Int) (u4 : Int), (rg (u4 + 1) ∧ (σ.1 18 ≤ (u4 + 1) → (0 ≤ u3 ∧ u3 ≤ 1) ∧ Q u3) ∧ ((u4 + 1) < σ.1 18 → (¬ u3 = 0 → P5 u1 u2 1 (u4 + 1)) ∧ (u3 = 0 → (0 ≤ (σ.1 17 + u4) ∧ (σ.1 17 + u4) < 60000) ∧ (∀ (x6 : Int), rg x6 → x6 = σ.2.1 0 (σ.1 17 + u4) → ((¬ x6 = 36 → P5 u1 u2 0 (u4 + 1)) ∧ (x6 = 36 → (0 ≤ ((σ.1 17 + u4) + 1) ∧ ((σ.1 17 + u4) + 1) < 60000) ∧ (∀ (x9 : Int), rg x9 → x9 = σ.2.1 0 ((σ.1 17 + u4) + 1) → ((x9 = u1 → P5 u1 u2 1 (u4 + 1)) ∧ (¬ x9 = u1 → ∀ (x11 : Int), rg x11 → x11 = σ.2.1 0 ((σ.1 17 + u4) + 1) → ((¬ x11 = u2 → P5 u1 u2 0 (u4 + 1)) ∧ (x11 = u2 → P5 u1 u2 1 (u4 + 1)))))))))))) → P5 u1 u2 u3 u4) →
  P5 n1 n2 0 0
set_option maxRecDepth 100000 in
set_option maxHeartbeats 4000000 in
theorem L_X13_hasDollar (l : Launch) (g : gG) (q : Nat → Nat) (lb : Nat) (hlb : lb < 2 ^ 31) {n1 : Int} {n2 : Int} {σ : S0} {Q : Int → Prop} (r_n1 : rg n1) (r_n2 : rg n2) (hN : n_m σ) (hw : W_X13_hasDollar n1 n2 σ Q) (sz : Nat) : MetI l yX13_hasDollar cX13_hasDollar 5 (some .boolean) { frames := 0, cells := 0, slots := 0, locals := 0 } g [.ref (q 0), .int (I n1), .int (I n2)] (MX g q lb σ) sz xT (p_i (MX g q lb) σ Q) 0 0 := by
  refine mkMet (Qc := fun A => QI g A (p_i (MX g q lb) σ Q)) (by decide) (Nat.le_of_ble_eq_true rfl) ?_
  intro p e s m below meth c A H ls hx hb hr hml hown hts hlk hnm hsz hP hK hNb hD hA hAe hS hX hl
  have hl : lv_has ls 5 [(0, .ref (q 0)), (1, .int (I n1)), (2, .int (I n2))] := hl
  have hB := hN
  obtain ⟨locs, hlocs⟩ : ∃ z : List Loc, z = [] := ⟨_, rfl⟩
  rw [← hlocs] at hS ⊢
  obtain ⟨P5, hP5⟩ : ∃ P : Int → Int → Int → Int → Prop, ∀ (u1 : Int) (u2 : Int) (u3 : Int) (u4 : Int), (P u1 u2 u3 u4 ↔ (rg u1 → rg u2 → rg u3 → rg u4 → ∀ (H : Heap) (locs : List Loc) (ls : Array Slot), KP g (MX g q lb σ) H → va_D A (MX g q lb σ) → va_S A s.heap H locs → lv_has ls 5 [(0, .ref (q 0)), (1, .int (I u1)), (2, .int (I u2)), (3, .int (I u3)), (4, .int (I u4))] → W p l e ({ frames := 0, cells := 0, slots := 0, locals := 0 }) s m [.ref (q 0), .int (I n1), .int (I n2)].toArray below meth c H locs 0 0 (MQ below (QI g A (p_i (MX g q lb) σ Q)) [.ref (q 0), .int (I n1), .int (I n2)].toArray s 0 0 A) (F0 m 5 ls []))) := ⟨_, fun _ _ _ _ => Iff.rfl⟩
  refine (fun hw => ?_) (hw P5 ?_)
  ·
    refine lv_iconst (v := I 0) hx hb dX13_hasDollar_0 rfl ?_
    refine lv_istore_n (lv' := [(3, .int (I 0)), (0, .ref (q 0)), (1, .int (I n1)), (2, .int (I n2))]) hx hb dX13_hasDollar_1 rfl hl (by decide) rfl (fun ls hl => ?_)
    refine lv_iconst (v := I 0) hx hb dX13_hasDollar_2 rfl ?_
    refine lv_istore (lv' := [(4, .int (I 0)), (3, .int (I 0)), (0, .ref (q 0)), (1, .int (I n1)), (2, .int (I n2))]) hx hb dX13_hasDollar_3 hl (by decide) rfl (fun ls hl => ?_)
    exact (hP5 _ _ _ _).mp hw r_n1 r_n2 (by decide) (by decide)  H locs ls hP hD hS (lv_sub hl [2, 3, 4, 1, 0] rfl)
  ·
    intro u1 u2 u3 u4 hw
    refine (hP5 _ _ _ _).mpr ?_
    intro r_u1 r_u2 r_u3 r_u4 H locs ls hP hD hS hl
    refine lv_iload hx hb dX13_hasDollar_5 (lv_at hl 4 rfl) ?_
    refine lv_iconst (v := I 1) hx hb dX13_hasDollar_7 rfl ?_
    refine bi_iadd hx hb dX13_hasDollar_8 ?_
    refine lv_aload_n hx hb dX13_hasDollar_9 rfl (lv_at hl 0 rfl) ?_
    refine gfX13_tokenSize hx hb hts hK hP hown (hts _ tw_2063) (x := σ.1 18) rfl dX13_hasDollar_10 ?_
    obtain ⟨c1, hw⟩ := hw
    refine bi_icmp_ge (tgt := 85) hx hb c1 (hB.1 18) dX13_hasDollar_13 (by decide) (fun c2 => ?_) (fun c2 => ?_)
    ·
      replace hw := hw.1 c2
      refine lv_iload_n hx hb dX13_hasDollar_85 rfl (lv_at hl 3 rfl) ?_
      obtain ⟨c3, hw⟩ := hw
      exact xrz hx hb hr (nzI c3.1 c3.2) hlk hP hK hD hS ⟨_, r_u3, rfl, rfl, hw⟩ (Nat.le_of_ble_eq_true rfl) (Nat.le_of_ble_eq_true rfl) dX13_hasDollar_86
    ·
      replace hw := hw.2 c2
      refine lv_iload_n hx hb dX13_hasDollar_16 rfl (lv_at hl 3 rfl) ?_
      refine bi_if_ne (tgt := 73) hx hb r_u3 dX13_hasDollar_17 (by decide) (fun c4 => ?_) (fun c4 => ?_)
      ·
        replace hw := hw.1 c4
        refine lv_iconst (v := I 1) hx hb dX13_hasDollar_73 rfl ?_
        refine lv_goto (tgt := 78) hx hb dX13_hasDollar_74 (by decide) ?_
        refine lv_istore_n (lv' := [(3, .int (I 1)), (0, .ref (q 0)), (1, .int (I u1)), (2, .int (I u2)), (4, .int (I u4))]) hx hb dX13_hasDollar_78 rfl hl (by decide) rfl (fun ls hl => ?_)
        refine lv_iinc (v := I (u4 + 1)) (lv' := [(4, .int (I (u4 + 1))), (3, .int (I 1)), (0, .ref (q 0)), (1, .int (I u1)), (2, .int (I u2))]) hx hb dX13_hasDollar_79 hl (k := 4) rfl (I_add _ _) (by decide) rfl (fun ls hl => ?_)
        refine lv_goto (tgt := 5) hx hb dX13_hasDollar_82 (by decide) ?_
        exact (hP5 _ _ _ _).mp hw r_u1 r_u2 (by decide) c1  H locs ls hP hD hS (lv_sub hl [2, 3, 4, 1, 0] rfl)
      ·
        replace hw := hw.2 c4
        refine lv_aload_n hx hb dX13_hasDollar_20 rfl (lv_at hl 0 rfl) ?_
        refine gfX13_tape hx hb hts hK hP hown (hts _ tw_2006) dX13_hasDollar_21 ?_
        refine lv_aload_n hx hb dX13_hasDollar_24 rfl (lv_at hl 0 rfl) ?_
        refine gfX13_tokenAt hx hb hts hK hP hown (hts _ tw_2062) (x := σ.1 17) rfl dX13_hasDollar_25 ?_
        refine lv_iload hx hb dX13_hasDollar_28 (lv_at hl 4 rfl) ?_
        refine bi_iadd hx hb dX13_hasDollar_30 ?_
        obtain ⟨c5, hw⟩ := hw
        refine ldMX13_tape hx hb hK hP hN c5 dX13_hasDollar_31 (fun x6 r_x6 e_x6 => ?_)
        replace hw := hw x6 r_x6 e_x6
        refine lv_bipush (v := I 36) hx hb dX13_hasDollar_32 (by decide) ?_
        refine bi_icmp_ne (tgt := 77) hx hb r_x6 (by decide) dX13_hasDollar_34 (by decide) (fun c7 => ?_) (fun c7 => ?_)
        ·
          replace hw := hw.1 c7
          refine lv_iconst (v := I 0) hx hb dX13_hasDollar_77 rfl ?_
          refine lv_istore_n (lv' := [(3, .int (I 0)), (0, .ref (q 0)), (1, .int (I u1)), (2, .int (I u2)), (4, .int (I u4))]) hx hb dX13_hasDollar_78 rfl hl (by decide) rfl (fun ls hl => ?_)
          refine lv_iinc (v := I (u4 + 1)) (lv' := [(4, .int (I (u4 + 1))), (3, .int (I 0)), (0, .ref (q 0)), (1, .int (I u1)), (2, .int (I u2))]) hx hb dX13_hasDollar_79 hl (k := 4) rfl (I_add _ _) (by decide) rfl (fun ls hl => ?_)
          refine lv_goto (tgt := 5) hx hb dX13_hasDollar_82 (by decide) ?_
          exact (hP5 _ _ _ _).mp hw r_u1 r_u2 (by decide) c1  H locs ls hP hD hS (lv_sub hl [2, 3, 4, 1, 0] rfl)
        ·
          replace hw := hw.2 c7
          refine lv_aload_n hx hb dX13_hasDollar_37 rfl (lv_at hl 0 rfl) ?_
          refine gfX13_tape hx hb hts hK hP hown (hts _ tw_2006) dX13_hasDollar_38 ?_
          refine lv_aload_n hx hb dX13_hasDollar_41 rfl (lv_at hl 0 rfl) ?_
          refine gfX13_tokenAt hx hb hts hK hP hown (hts _ tw_2062) (x := σ.1 17) rfl dX13_hasDollar_42 ?_
          refine lv_iload hx hb dX13_hasDollar_45 (lv_at hl 4 rfl) ?_
          refine bi_iadd hx hb dX13_hasDollar_47 ?_
          refine lv_iconst (v := I 1) hx hb dX13_hasDollar_48 rfl ?_
          refine bi_iadd hx hb dX13_hasDollar_49 ?_
          obtain ⟨c8, hw⟩ := hw
          refine ldMX13_tape hx hb hK hP hN c8 dX13_hasDollar_50 (fun x9 r_x9 e_x9 => ?_)
          replace hw := hw x9 r_x9 e_x9
          refine lv_iload_n hx hb dX13_hasDollar_51 rfl (lv_at hl 1 rfl) ?_
          refine bi_icmp_eq (tgt := 73) hx hb r_x9 r_u1 dX13_hasDollar_52 (by decide) (fun c10 => ?_) (fun c10 => ?_)
          ·
            replace hw := hw.1 c10
            refine lv_iconst (v := I 1) hx hb dX13_hasDollar_73 rfl ?_
            refine lv_goto (tgt := 78) hx hb dX13_hasDollar_74 (by decide) ?_
            refine lv_istore_n (lv' := [(3, .int (I 1)), (0, .ref (q 0)), (1, .int (I u1)), (2, .int (I u2)), (4, .int (I u4))]) hx hb dX13_hasDollar_78 rfl hl (by decide) rfl (fun ls hl => ?_)
            refine lv_iinc (v := I (u4 + 1)) (lv' := [(4, .int (I (u4 + 1))), (3, .int (I 1)), (0, .ref (q 0)), (1, .int (I u1)), (2, .int (I u2))]) hx hb dX13_hasDollar_79 hl (k := 4) rfl (I_add _ _) (by decide) rfl (fun ls hl => ?_)
            refine lv_goto (tgt := 5) hx hb dX13_hasDollar_82 (by decide) ?_
            exact (hP5 _ _ _ _).mp hw r_u1 r_u2 (by decide) c1  H locs ls hP hD hS (lv_sub hl [2, 3, 4, 1, 0] rfl)
          ·
            replace hw := hw.2 c10
            refine lv_aload_n hx hb dX13_hasDollar_55 rfl (lv_at hl 0 rfl) ?_
            refine gfX13_tape hx hb hts hK hP hown (hts _ tw_2006) dX13_hasDollar_56 ?_
            refine lv_aload_n hx hb dX13_hasDollar_59 rfl (lv_at hl 0 rfl) ?_
            refine gfX13_tokenAt hx hb hts hK hP hown (hts _ tw_2062) (x := σ.1 17) rfl dX13_hasDollar_60 ?_
            refine lv_iload hx hb dX13_hasDollar_63 (lv_at hl 4 rfl) ?_
            refine bi_iadd hx hb dX13_hasDollar_65 ?_
            refine lv_iconst (v := I 1) hx hb dX13_hasDollar_66 rfl ?_
            refine bi_iadd hx hb dX13_hasDollar_67 ?_
            refine ldMX13_tape hx hb hK hP hN c8 dX13_hasDollar_68 (fun x11 r_x11 e_x11 => ?_)
            replace hw := hw x11 r_x11 e_x11
            refine lv_iload_n hx hb dX13_hasDollar_69 rfl (lv_at hl 2 rfl) ?_
            refine bi_icmp_ne (tgt := 77) hx hb r_x11 r_u2 dX13_hasDollar_70 (by decide) (fun c12 => ?_) (fun c12 => ?_)
            ·
              replace hw := hw.1 c12
              refine lv_iconst (v := I 0) hx hb dX13_hasDollar_77 rfl ?_
              refine lv_istore_n (lv' := [(3, .int (I 0)), (0, .ref (q 0)), (1, .int (I u1)), (2, .int (I u2)), (4, .int (I u4))]) hx hb dX13_hasDollar_78 rfl hl (by decide) rfl (fun ls hl => ?_)
              refine lv_iinc (v := I (u4 + 1)) (lv' := [(4, .int (I (u4 + 1))), (3, .int (I 0)), (0, .ref (q 0)), (1, .int (I u1)), (2, .int (I u2))]) hx hb dX13_hasDollar_79 hl (k := 4) rfl (I_add _ _) (by decide) rfl (fun ls hl => ?_)
              refine lv_goto (tgt := 5) hx hb dX13_hasDollar_82 (by decide) ?_
              exact (hP5 _ _ _ _).mp hw r_u1 r_u2 (by decide) c1  H locs ls hP hD hS (lv_sub hl [2, 3, 4, 1, 0] rfl)
            ·
              replace hw := hw.2 c12
              refine lv_iconst (v := I 1) hx hb dX13_hasDollar_73 rfl ?_
              refine lv_goto (tgt := 78) hx hb dX13_hasDollar_74 (by decide) ?_
              refine lv_istore_n (lv' := [(3, .int (I 1)), (0, .ref (q 0)), (1, .int (I u1)), (2, .int (I u2)), (4, .int (I u4))]) hx hb dX13_hasDollar_78 rfl hl (by decide) rfl (fun ls hl => ?_)
              refine lv_iinc (v := I (u4 + 1)) (lv' := [(4, .int (I (u4 + 1))), (3, .int (I 1)), (0, .ref (q 0)), (1, .int (I u1)), (2, .int (I u2))]) hx hb dX13_hasDollar_79 hl (k := 4) rfl (I_add _ _) (by decide) rfl (fun ls hl => ?_)
              refine lv_goto (tgt := 5) hx hb dX13_hasDollar_82 (by decide) ?_
              exact (hP5 _ _ _ _).mp hw r_u1 r_u2 (by decide) c1  H locs ls hP hD hS (lv_sub hl [2, 3, 4, 1, 0] rfl)
def W_X13_hasSign (n1 : Int) (σ : S0) (Q : Int → Prop) : Prop :=
  ∀ (P4 : Int → Int → Int → Prop),
  (∀ (u1 : Int) (u2 : Int) (u3 : Int), ((σ.1 18 ≤ u3 → (0 ≤ u2 ∧ u2 ≤ 1) ∧ Q u2) ∧ (u3 < σ.1 18 → (¬ u2 = 0 → rg (u3 + 1) ∧ P4 u1 1 (u3 + 1)) ∧ (u2 = 0 → (0 ≤ (σ.1 17 + u3) ∧ (σ.1 17 + u3) < 60000) ∧ (∀ (x6 : Int), rg x6 → x6 = σ.2.1 0 (σ.1 17 + u3) → ((¬ x6 = u1 → rg (u3 + 1) ∧ P4 u1 0 (u3 + 1)) ∧ (x6 = u1 → rg (u3 + 1) ∧ P4 u1 1 (u3 + 1))))))) → P4 u1 u2 u3) →
  P4 n1 0 0
set_option maxRecDepth 100000 in
set_option maxHeartbeats 4000000 in
theorem L_X13_hasSign (l : Launch) (g : gG) (q : Nat → Nat) (lb : Nat) (hlb : lb < 2 ^ 31) {n1 : Int} {σ : S0} {Q : Int → Prop} (r_n1 : rg n1) (hN : n_m σ) (hw : W_X13_hasSign n1 σ Q) (sz : Nat) : MetI l yX13_hasSign cX13_hasSign 4 (some .boolean) { frames := 0, cells := 0, slots := 0, locals := 0 } g [.ref (q 0), .int (I n1)] (MX g q lb σ) sz xT (p_i (MX g q lb) σ Q) 0 0 := by
  refine mkMet (Qc := fun A => QI g A (p_i (MX g q lb) σ Q)) (by decide) (Nat.le_of_ble_eq_true rfl) ?_
  intro p e s m below meth c A H ls hx hb hr hml hown hts hlk hnm hsz hP hK hNb hD hA hAe hS hX hl
  have hl : lv_has ls 4 [(0, .ref (q 0)), (1, .int (I n1))] := hl
  have hB := hN
  obtain ⟨locs, hlocs⟩ : ∃ z : List Loc, z = [] := ⟨_, rfl⟩
  rw [← hlocs] at hS ⊢
  obtain ⟨P4, hP4⟩ : ∃ P : Int → Int → Int → Prop, ∀ (u1 : Int) (u2 : Int) (u3 : Int), (P u1 u2 u3 ↔ (rg u1 → rg u2 → rg u3 → ∀ (H : Heap) (locs : List Loc) (ls : Array Slot), KP g (MX g q lb σ) H → va_D A (MX g q lb σ) → va_S A s.heap H locs → lv_has ls 4 [(0, .ref (q 0)), (1, .int (I u1)), (2, .int (I u2)), (3, .int (I u3))] → W p l e ({ frames := 0, cells := 0, slots := 0, locals := 0 }) s m [.ref (q 0), .int (I n1)].toArray below meth c H locs 0 0 (MQ below (QI g A (p_i (MX g q lb) σ Q)) [.ref (q 0), .int (I n1)].toArray s 0 0 A) (F0 m 4 ls []))) := ⟨_, fun _ _ _ => Iff.rfl⟩
  refine (fun hw => ?_) (hw P4 ?_)
  ·
    refine lv_iconst (v := I 0) hx hb dX13_hasSign_0 rfl ?_
    refine lv_istore_n (lv' := [(2, .int (I 0)), (0, .ref (q 0)), (1, .int (I n1))]) hx hb dX13_hasSign_1 rfl hl (by decide) rfl (fun ls hl => ?_)
    refine lv_iconst (v := I 0) hx hb dX13_hasSign_2 rfl ?_
    refine lv_istore_n (lv' := [(3, .int (I 0)), (2, .int (I 0)), (0, .ref (q 0)), (1, .int (I n1))]) hx hb dX13_hasSign_3 rfl hl (by decide) rfl (fun ls hl => ?_)
    exact (hP4 _ _ _).mp hw r_n1 (by decide) (by decide)  H locs ls hP hD hS (lv_sub hl [2, 3, 1, 0] rfl)
  ·
    intro u1 u2 u3 hw
    refine (hP4 _ _ _).mpr ?_
    intro r_u1 r_u2 r_u3 H locs ls hP hD hS hl
    refine lv_iload_n hx hb dX13_hasSign_4 rfl (lv_at hl 3 rfl) ?_
    refine lv_aload_n hx hb dX13_hasSign_5 rfl (lv_at hl 0 rfl) ?_
    refine gfX13_tokenSize hx hb hts hK hP hown (hts _ tw_2063) (x := σ.1 18) rfl dX13_hasSign_6 ?_
    refine bi_icmp_ge (tgt := 43) hx hb r_u3 (hB.1 18) dX13_hasSign_9 (by decide) (fun c1 => ?_) (fun c1 => ?_)
    ·
      replace hw := hw.1 c1
      refine lv_iload_n hx hb dX13_hasSign_43 rfl (lv_at hl 2 rfl) ?_
      obtain ⟨c2, hw⟩ := hw
      exact xrz hx hb hr (nzI c2.1 c2.2) hlk hP hK hD hS ⟨_, r_u2, rfl, rfl, hw⟩ (Nat.le_of_ble_eq_true rfl) (Nat.le_of_ble_eq_true rfl) dX13_hasSign_44
    ·
      replace hw := hw.2 c1
      refine lv_iload_n hx hb dX13_hasSign_12 rfl (lv_at hl 2 rfl) ?_
      refine bi_if_ne (tgt := 31) hx hb r_u2 dX13_hasSign_13 (by decide) (fun c3 => ?_) (fun c3 => ?_)
      ·
        replace hw := hw.1 c3
        refine lv_iconst (v := I 1) hx hb dX13_hasSign_31 rfl ?_
        refine lv_goto (tgt := 36) hx hb dX13_hasSign_32 (by decide) ?_
        refine lv_istore_n (lv' := [(2, .int (I 1)), (0, .ref (q 0)), (1, .int (I u1)), (3, .int (I u3))]) hx hb dX13_hasSign_36 rfl hl (by decide) rfl (fun ls hl => ?_)
        refine lv_iinc (v := I (u3 + 1)) (lv' := [(3, .int (I (u3 + 1))), (2, .int (I 1)), (0, .ref (q 0)), (1, .int (I u1))]) hx hb dX13_hasSign_37 hl (k := 3) rfl (I_add _ _) (by decide) rfl (fun ls hl => ?_)
        refine lv_goto (tgt := 4) hx hb dX13_hasSign_40 (by decide) ?_
        obtain ⟨c4, hw⟩ := hw
        exact (hP4 _ _ _).mp hw r_u1 (by decide) c4  H locs ls hP hD hS (lv_sub hl [2, 3, 1, 0] rfl)
      ·
        replace hw := hw.2 c3
        refine lv_aload_n hx hb dX13_hasSign_16 rfl (lv_at hl 0 rfl) ?_
        refine gfX13_tape hx hb hts hK hP hown (hts _ tw_2006) dX13_hasSign_17 ?_
        refine lv_aload_n hx hb dX13_hasSign_20 rfl (lv_at hl 0 rfl) ?_
        refine gfX13_tokenAt hx hb hts hK hP hown (hts _ tw_2062) (x := σ.1 17) rfl dX13_hasSign_21 ?_
        refine lv_iload_n hx hb dX13_hasSign_24 rfl (lv_at hl 3 rfl) ?_
        refine bi_iadd hx hb dX13_hasSign_25 ?_
        obtain ⟨c5, hw⟩ := hw
        refine ldMX13_tape hx hb hK hP hN c5 dX13_hasSign_26 (fun x6 r_x6 e_x6 => ?_)
        replace hw := hw x6 r_x6 e_x6
        refine lv_iload_n hx hb dX13_hasSign_27 rfl (lv_at hl 1 rfl) ?_
        refine bi_icmp_ne (tgt := 35) hx hb r_x6 r_u1 dX13_hasSign_28 (by decide) (fun c7 => ?_) (fun c7 => ?_)
        ·
          replace hw := hw.1 c7
          refine lv_iconst (v := I 0) hx hb dX13_hasSign_35 rfl ?_
          refine lv_istore_n (lv' := [(2, .int (I 0)), (0, .ref (q 0)), (1, .int (I u1)), (3, .int (I u3))]) hx hb dX13_hasSign_36 rfl hl (by decide) rfl (fun ls hl => ?_)
          refine lv_iinc (v := I (u3 + 1)) (lv' := [(3, .int (I (u3 + 1))), (2, .int (I 0)), (0, .ref (q 0)), (1, .int (I u1))]) hx hb dX13_hasSign_37 hl (k := 3) rfl (I_add _ _) (by decide) rfl (fun ls hl => ?_)
          refine lv_goto (tgt := 4) hx hb dX13_hasSign_40 (by decide) ?_
          obtain ⟨c8, hw⟩ := hw
          exact (hP4 _ _ _).mp hw r_u1 (by decide) c8  H locs ls hP hD hS (lv_sub hl [2, 3, 1, 0] rfl)
        ·
          replace hw := hw.2 c7
          refine lv_iconst (v := I 1) hx hb dX13_hasSign_31 rfl ?_
          refine lv_goto (tgt := 36) hx hb dX13_hasSign_32 (by decide) ?_
          refine lv_istore_n (lv' := [(2, .int (I 1)), (0, .ref (q 0)), (1, .int (I u1)), (3, .int (I u3))]) hx hb dX13_hasSign_36 rfl hl (by decide) rfl (fun ls hl => ?_)
          refine lv_iinc (v := I (u3 + 1)) (lv' := [(3, .int (I (u3 + 1))), (2, .int (I 1)), (0, .ref (q 0)), (1, .int (I u1))]) hx hb dX13_hasSign_37 hl (k := 3) rfl (I_add _ _) (by decide) rfl (fun ls hl => ?_)
          refine lv_goto (tgt := 4) hx hb dX13_hasSign_40 (by decide) ?_
          obtain ⟨c9, hw⟩ := hw
          exact (hP4 _ _ _).mp hw r_u1 (by decide) c9  H locs ls hP hD hS (lv_sub hl [2, 3, 1, 0] rfl)
def W_X13_nextRow (σ : S0) (Q : Int → S0 → Prop) : Prop :=
  ∀ (P0 : S0 → Prop) (P39 : S0 → Prop) (P82 : S0 → Prop) (P121 : S0 → Prop),
  (∀ (τ : S0), ((τ.1 0 ≤ τ.1 16 → P39 τ) ∧ (τ.1 16 < τ.1 0 → (0 ≤ τ.1 16 ∧ τ.1 16 < 60000) ∧ (∀ (x3 : Int), rg x3 → x3 = τ.2.1 0 (τ.1 16) → (∃ (Q4 : Int → Prop), W_X13_isBlank x3 τ Q4 ∧ ∀ (x5 : Int), rg x5 → Q4 x5 → ((x5 = 0 → P39 τ) ∧ (¬ x5 = 0 → rg (τ.1 16 + 1) ∧ P0 (s_v τ 16 (τ.1 16 + 1)))))))) → P0 τ) →
  (∀ (τ : S0), ((τ.1 0 ≤ τ.1 16 → P82 (s_v τ 17 (τ.1 16))) ∧ (τ.1 16 < τ.1 0 → (0 ≤ τ.1 16 ∧ τ.1 16 < 60000) ∧ (∀ (x11 : Int), rg x11 → x11 = τ.2.1 0 (τ.1 16) → (∃ (Q12 : Int → Prop), W_X13_isSign x11 (s_v τ 17 (τ.1 16)) Q12 ∧ ∀ (x13 : Int), rg x13 → Q12 x13 → ((¬ x13 = 0 → P82 (s_v τ 17 (τ.1 16))) ∧ (x13 = 0 → ∃ (Q16 : S0 → Prop), W_X13_fail 1 (τ.1 16) (s_v τ 17 (τ.1 16)) Q16 ∧ ∀ (τ18 : S0), n_m τ18 → f_r [20, 21] [] [] (s_v τ 17 (τ.1 16)) τ18 → Q16 τ18 → (P82 τ18))))))) → P39 τ) →
  (∀ (τ : S0), ((τ.1 0 ≤ τ.1 16 → P121 τ) ∧ (τ.1 16 < τ.1 0 → (0 ≤ τ.1 16 ∧ τ.1 16 < 60000) ∧ (∀ (x21 : Int), rg x21 → x21 = τ.2.1 0 (τ.1 16) → (∃ (Q22 : Int → Prop), W_X13_isSign x21 τ Q22 ∧ ∀ (x23 : Int), rg x23 → Q22 x23 → ((x23 = 0 → P121 τ) ∧ (¬ x23 = 0 → rg (τ.1 16 + 1) ∧ P82 (s_v τ 16 (τ.1 16 + 1)))))))) → P82 τ) →
  (∀ (τ : S0), (rg (τ.1 16 - τ.1 17) ∧ ((τ.1 16 - τ.1 17) ≤ 0 → Q 0 (s_v τ 18 (τ.1 16 - τ.1 17))) ∧ (0 < (τ.1 16 - τ.1 17) → (¬ τ.1 20 = 0 → Q 0 (s_v τ 18 (τ.1 16 - τ.1 17))) ∧ (τ.1 20 = 0 → Q 1 (s_v τ 18 (τ.1 16 - τ.1 17))))) → P121 τ) →
  P0 σ
set_option maxRecDepth 100000 in
set_option maxHeartbeats 4000000 in
theorem L_X13_nextRow (l : Launch) (g : gG) (q : Nat → Nat) (lb : Nat) (hlb : lb < 2 ^ 31) {σ : S0} {Q : Int → S0 → Prop} (hN : n_m σ) (hw : W_X13_nextRow σ Q) (sz : Nat) : MetI l yX13_nextRow cX13_nextRow 1 (some .boolean) { frames := 1, cells := 0, slots := 0, locals := 22 } g [.ref (q 0)] (MX g q lb σ) sz xT (p_I (MX g q lb) [16, 17, 18, 20, 21] [] [] σ Q) 0 0 := by
  refine mkMet (Qc := fun A => QI g A (p_I (MX g q lb) [16, 17, 18, 20, 21] [] [] σ Q)) (by decide) (Nat.le_of_ble_eq_true rfl) ?_
  intro p e s m below meth c A H ls hx hb hr hml hown hts hlk hnm hsz hP hK hNb hD hA hAe hS hX hl
  have hl : lv_has ls 1 [(0, .ref (q 0))] := hl
  have hB := hN
  have hF : f_r [16, 17, 18, 20, 21] [] [] σ σ := f_0
  obtain ⟨locs, hlocs⟩ : ∃ z : List Loc, z = [] := ⟨_, rfl⟩
  rw [← hlocs] at hS ⊢
  obtain ⟨P0, hP0⟩ : ∃ P : S0 → Prop, ∀ (τ : S0), (P τ ↔ (n_m τ → f_r [16, 17, 18, 20, 21] [] [] σ τ → ∀ (H : Heap) (locs : List Loc) (ls : Array Slot), KP g (MX g q lb τ) H → va_D A (MX g q lb τ) → va_S A s.heap H locs → lv_has ls 1 [(0, .ref (q 0))] → W p l e ({ frames := 1, cells := 0, slots := 0, locals := 22 }) s m [.ref (q 0)].toArray below meth c H locs 0 0 (MQ below (QI g A (p_I (MX g q lb) [16, 17, 18, 20, 21] [] [] σ Q)) [.ref (q 0)].toArray s 0 0 A) (F0 m 0 ls []))) := ⟨_, fun _ => Iff.rfl⟩
  obtain ⟨P39, hP39⟩ : ∃ P : S0 → Prop, ∀ (τ : S0), (P τ ↔ (n_m τ → f_r [16, 17, 18, 20, 21] [] [] σ τ → ∀ (H : Heap) (locs : List Loc) (ls : Array Slot), KP g (MX g q lb τ) H → va_D A (MX g q lb τ) → va_S A s.heap H locs → lv_has ls 1 [(0, .ref (q 0))] → W p l e ({ frames := 1, cells := 0, slots := 0, locals := 22 }) s m [.ref (q 0)].toArray below meth c H locs 0 0 (MQ below (QI g A (p_I (MX g q lb) [16, 17, 18, 20, 21] [] [] σ Q)) [.ref (q 0)].toArray s 0 0 A) (F0 m 39 ls []))) := ⟨_, fun _ => Iff.rfl⟩
  obtain ⟨P82, hP82⟩ : ∃ P : S0 → Prop, ∀ (τ : S0), (P τ ↔ (n_m τ → f_r [16, 17, 18, 20, 21] [] [] σ τ → ∀ (H : Heap) (locs : List Loc) (ls : Array Slot), KP g (MX g q lb τ) H → va_D A (MX g q lb τ) → va_S A s.heap H locs → lv_has ls 1 [(0, .ref (q 0))] → W p l e ({ frames := 1, cells := 0, slots := 0, locals := 22 }) s m [.ref (q 0)].toArray below meth c H locs 0 0 (MQ below (QI g A (p_I (MX g q lb) [16, 17, 18, 20, 21] [] [] σ Q)) [.ref (q 0)].toArray s 0 0 A) (F0 m 82 ls []))) := ⟨_, fun _ => Iff.rfl⟩
  obtain ⟨P121, hP121⟩ : ∃ P : S0 → Prop, ∀ (τ : S0), (P τ ↔ (n_m τ → f_r [16, 17, 18, 20, 21] [] [] σ τ → ∀ (H : Heap) (locs : List Loc) (ls : Array Slot), KP g (MX g q lb τ) H → va_D A (MX g q lb τ) → va_S A s.heap H locs → lv_has ls 1 [(0, .ref (q 0))] → W p l e ({ frames := 1, cells := 0, slots := 0, locals := 22 }) s m [.ref (q 0)].toArray below meth c H locs 0 0 (MQ below (QI g A (p_I (MX g q lb) [16, 17, 18, 20, 21] [] [] σ Q)) [.ref (q 0)].toArray s 0 0 A) (F0 m 121 ls []))) := ⟨_, fun _ => Iff.rfl⟩
  refine (fun hw => ?_) (hw P0 P39 P82 P121 ?_ ?_ ?_ ?_)
  ·
    exact (hP0 _).mp hw hN hF H locs ls hP hD hS (lv_sub hl [0] rfl)
  ·
    intro τ hw
    refine (hP0 _).mpr ?_
    intro hN hF H locs ls hP hD hS hl
    have hB := hN
    refine lv_aload_n hx hb dX13_nextRow_0 rfl (lv_at hl 0 rfl) ?_
    refine gfX13_at hx hb hts hK hP hown (hts _ tw_2061) (x := τ.1 16) rfl dX13_nextRow_1 ?_
    refine lv_aload_n hx hb dX13_nextRow_4 rfl (lv_at hl 0 rfl) ?_
    refine gfX13_tapeSize hx hb hts hK hP hown (hts _ tw_2007) (x := τ.1 0) rfl dX13_nextRow_5 ?_
    refine bi_icmp_ge (tgt := 39) hx hb (hB.1 16) (hB.1 0) dX13_nextRow_8 (by decide) (fun c1 => ?_) (fun c1 => ?_)
    ·
      replace hw := hw.1 c1
      exact (hP39 _).mp hw hN hF H locs ls hP hD hS (lv_sub hl [0] rfl)
    ·
      replace hw := hw.2 c1
      refine lv_aload_n hx hb dX13_nextRow_11 rfl (lv_at hl 0 rfl) ?_
      refine gfX13_tape hx hb hts hK hP hown (hts _ tw_2006) dX13_nextRow_12 ?_
      refine lv_aload_n hx hb dX13_nextRow_15 rfl (lv_at hl 0 rfl) ?_
      refine gfX13_at hx hb hts hK hP hown (hts _ tw_2061) (x := τ.1 16) rfl dX13_nextRow_16 ?_
      obtain ⟨c2, hw⟩ := hw
      refine ldMX13_tape hx hb hK hP hN c2 dX13_nextRow_19 (fun x3 r_x3 e_x3 => ?_)
      replace hw := hw x3 r_x3 e_x3
      obtain ⟨Q4, hc, hw⟩ := hw
      refine wc_i (X := MX g q lb) (va_runS (As := [.int (I x3)]) (rest := []) ⟨hx, hb, hml, hown, hts⟩ (L_X13_isBlank l g q lb hlb r_x3 hN hc H.size) (cwS 1 hts (TB_S tw_2544 tw_2545 tw_15 co_X13_isBlank) rfl rfl rfl (by decide +kernel) ⟨Nat.le_of_ble_eq_true rfl, Nat.le_of_ble_eq_true rfl⟩) (preS xT_bl hP hK hNb hD xT_at) rfl rfl hl.1 rfl (lv_room (Nat.le_of_ble_eq_true rfl)) dX13_nextRow_20 ⟨Nat.le_of_ble_eq_true rfl, Nat.le_of_ble_eq_true rfl⟩) hP hD hS hA (fun x5 H locs r_x5 hq hP hD hS => ?_)
      replace hw := hw x5 r_x5 hq
      refine bi_if_eq (tgt := 39) hx hb r_x5 dX13_nextRow_23 (by decide) (fun c7 => ?_) (fun c7 => ?_)
      ·
        replace hw := hw.1 c7
        exact (hP39 _).mp hw hN hF H locs ls hP hD hS (lv_sub hl [0] rfl)
      ·
        replace hw := hw.2 c7
        refine lv_aload_n hx hb dX13_nextRow_26 rfl (lv_at hl 0 rfl) ?_
        refine lv_dup hx hb dX13_nextRow_27 rfl ?_
        refine gfX13_at hx hb hts hK hP hown (hts _ tw_2061) (x := τ.1 16) rfl dX13_nextRow_28 ?_
        refine lv_iconst (v := I 1) hx hb dX13_nextRow_31 rfl ?_
        refine bi_iadd hx hb dX13_nextRow_32 ?_
        obtain ⟨c8, hw⟩ := hw
        refine pfX13_at hx hb hts hK hP hD hS hown (hts _ tw_2061) dX13_nextRow_33 (fun H locs hP hD hS => ?_)
        have hN : n_m (s_v τ 16 (τ.1 16 + 1)) := n_v (i := 16) hN (c8 : rg (τ.1 16 + 1))
        have hF : f_r [16, 17, 18, 20, 21] [] [] σ (s_v τ 16 (τ.1 16 + 1)) := f_v hF (by decide)
        refine lv_goto (tgt := 0) hx hb dX13_nextRow_36 (by decide) ?_
        exact (hP0 _).mp hw hN hF H locs ls hP hD hS (lv_sub hl [0] rfl)
  ·
    intro τ hw
    refine (hP39 _).mpr ?_
    intro hN hF H locs ls hP hD hS hl
    have hB := hN
    refine lv_aload_n hx hb dX13_nextRow_39 rfl (lv_at hl 0 rfl) ?_
    refine lv_aload_n hx hb dX13_nextRow_40 rfl (lv_at hl 0 rfl) ?_
    refine gfX13_at hx hb hts hK hP hown (hts _ tw_2061) (x := τ.1 16) rfl dX13_nextRow_41 ?_
    refine pfX13_tokenAt hx hb hts hK hP hD hS hown (hts _ tw_2062) dX13_nextRow_44 (fun H locs hP hD hS => ?_)
    have hN : n_m (s_v τ 17 (τ.1 16)) := n_v (i := 17) hN ((hB.1 16) : rg (τ.1 16))
    have hF : f_r [16, 17, 18, 20, 21] [] [] σ (s_v τ 17 (τ.1 16)) := f_v hF (by decide)
    refine lv_aload_n hx hb dX13_nextRow_47 rfl (lv_at hl 0 rfl) ?_
    refine gfX13_at hx hb hts hK hP hown (hts _ tw_2061) (x := τ.1 16) rfl dX13_nextRow_48 ?_
    refine lv_aload_n hx hb dX13_nextRow_51 rfl (lv_at hl 0 rfl) ?_
    refine gfX13_tapeSize hx hb hts hK hP hown (hts _ tw_2007) (x := τ.1 0) rfl dX13_nextRow_52 ?_
    refine bi_icmp_ge (tgt := 82) hx hb (hB.1 16) (hB.1 0) dX13_nextRow_55 (by decide) (fun c9 => ?_) (fun c9 => ?_)
    ·
      replace hw := hw.1 c9
      exact (hP82 _).mp hw hN hF H locs ls hP hD hS (lv_sub hl [0] rfl)
    ·
      replace hw := hw.2 c9
      refine lv_aload_n hx hb dX13_nextRow_58 rfl (lv_at hl 0 rfl) ?_
      refine gfX13_tape hx hb hts hK hP hown (hts _ tw_2006) dX13_nextRow_59 ?_
      refine lv_aload_n hx hb dX13_nextRow_62 rfl (lv_at hl 0 rfl) ?_
      refine gfX13_at hx hb hts hK hP hown (hts _ tw_2061) (x := τ.1 16) rfl dX13_nextRow_63 ?_
      obtain ⟨c10, hw⟩ := hw
      refine ldMX13_tape hx hb hK hP hN c10 dX13_nextRow_66 (fun x11 r_x11 e_x11 => ?_)
      replace hw := hw x11 r_x11 e_x11
      obtain ⟨Q12, hc, hw⟩ := hw
      refine wc_i (X := MX g q lb) (va_runS (As := [.int (I x11)]) (rest := []) ⟨hx, hb, hml, hown, hts⟩ (L_X13_isSign l g q lb hlb r_x11 hN hc H.size) (cwS 1 hts (TB_S tw_2547 tw_2548 tw_15 co_X13_isSign) rfl rfl rfl (by decide +kernel) ⟨Nat.le_of_ble_eq_true rfl, Nat.le_of_ble_eq_true rfl⟩) (preS xT_bl hP hK hNb hD xT_at) rfl rfl hl.1 rfl (lv_room (Nat.le_of_ble_eq_true rfl)) dX13_nextRow_67 ⟨Nat.le_of_ble_eq_true rfl, Nat.le_of_ble_eq_true rfl⟩) hP hD hS hA (fun x13 H locs r_x13 hq hP hD hS => ?_)
      replace hw := hw x13 r_x13 hq
      refine bi_if_ne (tgt := 82) hx hb r_x13 dX13_nextRow_70 (by decide) (fun c15 => ?_) (fun c15 => ?_)
      ·
        replace hw := hw.1 c15
        exact (hP82 _).mp hw hN hF H locs ls hP hD hS (lv_sub hl [0] rfl)
      ·
        replace hw := hw.2 c15
        refine lv_aload_n hx hb dX13_nextRow_73 rfl (lv_at hl 0 rfl) ?_
        refine lv_iconst (v := I 1) hx hb dX13_nextRow_74 rfl ?_
        refine lv_aload_n hx hb dX13_nextRow_75 rfl (lv_at hl 0 rfl) ?_
        refine gfX13_at hx hb hts hK hP hown (hts _ tw_2061) (x := τ.1 16) rfl dX13_nextRow_76 ?_
        obtain ⟨Q16, hc, hw⟩ := hw
        refine wc_V (X := MX g q lb) (va_runV (As := [.int (I 1), .int (I (τ.1 16))]) (rest := []) ⟨hx, hb, hml, hown, hts⟩ (L_X13_fail l g q lb hlb (by decide) (rg_ix c10.1 c10.2 (by decide)) hN hc H.size) (cwV 2 hts (TB_V tw_2550 tw_2552 ts_106 tw_15 co_X13_fail) rfl rfl rfl (by decide +kernel) ⟨Nat.le_of_ble_eq_true rfl, Nat.le_of_ble_eq_true rfl⟩) (preV (q0 := 0) (ci := 13) rfl xT_bl hP hK hNb hD rfl rfl xT_at) rfl rfl hl.1 rfl (lv_room (Nat.le_of_ble_eq_true rfl)) dX13_nextRow_79 ⟨Nat.le_of_ble_eq_true rfl, Nat.le_of_ble_eq_true rfl⟩) hP hD hS hA (fun τ18 H locs hN hf hq hP hD hS => ?_)
        replace hw := hw τ18 hN hf hq
        have hF : f_r [16, 17, 18, 20, 21] [] [] σ τ18 := f_t hF hf (by decide) (by decide) (by decide)
        have hB := hN
        exact (hP82 _).mp hw hN hF H locs ls hP hD hS (lv_sub hl [0] rfl)
  ·
    intro τ hw
    refine (hP82 _).mpr ?_
    intro hN hF H locs ls hP hD hS hl
    have hB := hN
    refine lv_aload_n hx hb dX13_nextRow_82 rfl (lv_at hl 0 rfl) ?_
    refine gfX13_at hx hb hts hK hP hown (hts _ tw_2061) (x := τ.1 16) rfl dX13_nextRow_83 ?_
    refine lv_aload_n hx hb dX13_nextRow_86 rfl (lv_at hl 0 rfl) ?_
    refine gfX13_tapeSize hx hb hts hK hP hown (hts _ tw_2007) (x := τ.1 0) rfl dX13_nextRow_87 ?_
    refine bi_icmp_ge (tgt := 121) hx hb (hB.1 16) (hB.1 0) dX13_nextRow_90 (by decide) (fun c19 => ?_) (fun c19 => ?_)
    ·
      replace hw := hw.1 c19
      exact (hP121 _).mp hw hN hF H locs ls hP hD hS (lv_sub hl [0] rfl)
    ·
      replace hw := hw.2 c19
      refine lv_aload_n hx hb dX13_nextRow_93 rfl (lv_at hl 0 rfl) ?_
      refine gfX13_tape hx hb hts hK hP hown (hts _ tw_2006) dX13_nextRow_94 ?_
      refine lv_aload_n hx hb dX13_nextRow_97 rfl (lv_at hl 0 rfl) ?_
      refine gfX13_at hx hb hts hK hP hown (hts _ tw_2061) (x := τ.1 16) rfl dX13_nextRow_98 ?_
      obtain ⟨c20, hw⟩ := hw
      refine ldMX13_tape hx hb hK hP hN c20 dX13_nextRow_101 (fun x21 r_x21 e_x21 => ?_)
      replace hw := hw x21 r_x21 e_x21
      obtain ⟨Q22, hc, hw⟩ := hw
      refine wc_i (X := MX g q lb) (va_runS (As := [.int (I x21)]) (rest := []) ⟨hx, hb, hml, hown, hts⟩ (L_X13_isSign l g q lb hlb r_x21 hN hc H.size) (cwS 1 hts (TB_S tw_2547 tw_2548 tw_15 co_X13_isSign) rfl rfl rfl (by decide +kernel) ⟨Nat.le_of_ble_eq_true rfl, Nat.le_of_ble_eq_true rfl⟩) (preS xT_bl hP hK hNb hD xT_at) rfl rfl hl.1 rfl (lv_room (Nat.le_of_ble_eq_true rfl)) dX13_nextRow_102 ⟨Nat.le_of_ble_eq_true rfl, Nat.le_of_ble_eq_true rfl⟩) hP hD hS hA (fun x23 H locs r_x23 hq hP hD hS => ?_)
      replace hw := hw x23 r_x23 hq
      refine bi_if_eq (tgt := 121) hx hb r_x23 dX13_nextRow_105 (by decide) (fun c25 => ?_) (fun c25 => ?_)
      ·
        replace hw := hw.1 c25
        exact (hP121 _).mp hw hN hF H locs ls hP hD hS (lv_sub hl [0] rfl)
      ·
        replace hw := hw.2 c25
        refine lv_aload_n hx hb dX13_nextRow_108 rfl (lv_at hl 0 rfl) ?_
        refine lv_dup hx hb dX13_nextRow_109 rfl ?_
        refine gfX13_at hx hb hts hK hP hown (hts _ tw_2061) (x := τ.1 16) rfl dX13_nextRow_110 ?_
        refine lv_iconst (v := I 1) hx hb dX13_nextRow_113 rfl ?_
        refine bi_iadd hx hb dX13_nextRow_114 ?_
        obtain ⟨c26, hw⟩ := hw
        refine pfX13_at hx hb hts hK hP hD hS hown (hts _ tw_2061) dX13_nextRow_115 (fun H locs hP hD hS => ?_)
        have hN : n_m (s_v τ 16 (τ.1 16 + 1)) := n_v (i := 16) hN (c26 : rg (τ.1 16 + 1))
        have hF : f_r [16, 17, 18, 20, 21] [] [] σ (s_v τ 16 (τ.1 16 + 1)) := f_v hF (by decide)
        refine lv_goto (tgt := 82) hx hb dX13_nextRow_118 (by decide) ?_
        exact (hP82 _).mp hw hN hF H locs ls hP hD hS (lv_sub hl [0] rfl)
  ·
    intro τ hw
    refine (hP121 _).mpr ?_
    intro hN hF H locs ls hP hD hS hl
    have hB := hN
    refine lv_aload_n hx hb dX13_nextRow_121 rfl (lv_at hl 0 rfl) ?_
    refine lv_aload_n hx hb dX13_nextRow_122 rfl (lv_at hl 0 rfl) ?_
    refine gfX13_at hx hb hts hK hP hown (hts _ tw_2061) (x := τ.1 16) rfl dX13_nextRow_123 ?_
    refine lv_aload_n hx hb dX13_nextRow_126 rfl (lv_at hl 0 rfl) ?_
    refine gfX13_tokenAt hx hb hts hK hP hown (hts _ tw_2062) (x := τ.1 17) rfl dX13_nextRow_127 ?_
    refine bi_isub hx hb dX13_nextRow_130 ?_
    obtain ⟨c27, hw⟩ := hw
    refine pfX13_tokenSize hx hb hts hK hP hD hS hown (hts _ tw_2063) dX13_nextRow_131 (fun H locs hP hD hS => ?_)
    have hN : n_m (s_v τ 18 (τ.1 16 - τ.1 17)) := n_v (i := 18) hN (c27 : rg (τ.1 16 - τ.1 17))
    have hF : f_r [16, 17, 18, 20, 21] [] [] σ (s_v τ 18 (τ.1 16 - τ.1 17)) := f_v hF (by decide)
    refine lv_aload_n hx hb dX13_nextRow_134 rfl (lv_at hl 0 rfl) ?_
    refine gfX13_tokenSize hx hb hts hK hP hown (hts _ tw_2063) (x := (τ.1 16 - τ.1 17)) rfl dX13_nextRow_135 ?_
    refine bi_if_le (tgt := 152) hx hb c27 dX13_nextRow_138 (by decide) (fun c28 => ?_) (fun c28 => ?_)
    ·
      replace hw := hw.1 c28
      refine lv_iconst (v := I 0) hx hb dX13_nextRow_152 rfl ?_
      exact xrz hx hb hr (by decide) hlk hP hK hD hS ⟨_, _, (by decide), rfl, hN, hF, rfl, hw⟩ (Nat.le_of_ble_eq_true rfl) (Nat.le_of_ble_eq_true rfl) dX13_nextRow_153
    ·
      replace hw := hw.2 c28
      refine lv_aload_n hx hb dX13_nextRow_141 rfl (lv_at hl 0 rfl) ?_
      refine gfX13_fault hx hb hts hK hP hown (hts _ tw_2065) (x := τ.1 20) rfl dX13_nextRow_142 ?_
      refine bi_if_ne (tgt := 152) hx hb (hB.1 20) dX13_nextRow_145 (by decide) (fun c29 => ?_) (fun c29 => ?_)
      ·
        replace hw := hw.1 c29
        refine lv_iconst (v := I 0) hx hb dX13_nextRow_152 rfl ?_
        exact xrz hx hb hr (by decide) hlk hP hK hD hS ⟨_, _, (by decide), rfl, hN, hF, rfl, hw⟩ (Nat.le_of_ble_eq_true rfl) (Nat.le_of_ble_eq_true rfl) dX13_nextRow_153
      ·
        replace hw := hw.2 c29
        refine lv_iconst (v := I 1) hx hb dX13_nextRow_148 rfl ?_
        refine lv_goto (tgt := 153) hx hb dX13_nextRow_149 (by decide) ?_
        exact xrz hx hb hr (by decide) hlk hP hK hD hS ⟨_, _, (by decide), rfl, hN, hF, rfl, hw⟩ (Nat.le_of_ble_eq_true rfl) (Nat.le_of_ble_eq_true rfl) dX13_nextRow_153
def W_X13_isToken (n1 : Int) (σ : S0) (Q : Int → Prop) : Prop :=
  (¬ σ.1 18 = 2 → Q 0) ∧ (σ.1 18 = 2 → (0 ≤ σ.1 17 ∧ σ.1 17 < 60000) ∧ (∀ (x3 : Int), rg x3 → x3 = σ.2.1 0 (σ.1 17) → ((¬ x3 = 36 → Q 0) ∧ (x3 = 36 → (0 ≤ (σ.1 17 + 1) ∧ (σ.1 17 + 1) < 60000) ∧ (∀ (x6 : Int), rg x6 → x6 = σ.2.1 0 (σ.1 17 + 1) → ((¬ x6 = n1 → Q 0) ∧ (x6 = n1 → Q 1)))))))
set_option maxRecDepth 100000 in
set_option maxHeartbeats 4000000 in
theorem L_X13_isToken (l : Launch) (g : gG) (q : Nat → Nat) (lb : Nat) (hlb : lb < 2 ^ 31) {n1 : Int} {σ : S0} {Q : Int → Prop} (r_n1 : rg n1) (hN : n_m σ) (hw : W_X13_isToken n1 σ Q) (sz : Nat) : MetI l yX13_isToken cX13_isToken 2 (some .boolean) { frames := 0, cells := 0, slots := 0, locals := 0 } g [.ref (q 0), .int (I n1)] (MX g q lb σ) sz xT (p_i (MX g q lb) σ Q) 0 0 := by
  refine mkMet (Qc := fun A => QI g A (p_i (MX g q lb) σ Q)) (by decide) (Nat.le_of_ble_eq_true rfl) ?_
  intro p e s m below meth c A H ls hx hb hr hml hown hts hlk hnm hsz hP hK hNb hD hA hAe hS hX hl
  have hl : lv_has ls 2 [(0, .ref (q 0)), (1, .int (I n1))] := hl
  have hB := hN
  obtain ⟨locs, hlocs⟩ : ∃ z : List Loc, z = [] := ⟨_, rfl⟩
  rw [← hlocs] at hS ⊢
  refine lv_aload_n hx hb dX13_isToken_0 rfl (lv_at hl 0 rfl) ?_
  refine gfX13_tokenSize hx hb hts hK hP hown (hts _ tw_2063) (x := σ.1 18) rfl dX13_isToken_1 ?_
  refine lv_iconst (v := I 2) hx hb dX13_isToken_4 rfl ?_
  refine bi_icmp_ne (tgt := 41) hx hb (hB.1 18) (by decide) dX13_isToken_5 (by decide) (fun c1 => ?_) (fun c1 => ?_)
  ·
    replace hw := hw.1 c1
    refine lv_iconst (v := I 0) hx hb dX13_isToken_41 rfl ?_
    exact xrz hx hb hr (by decide) hlk hP hK hD hS ⟨_, (by decide), rfl, rfl, hw⟩ (Nat.le_of_ble_eq_true rfl) (Nat.le_of_ble_eq_true rfl) dX13_isToken_42
  ·
    replace hw := hw.2 c1
    refine lv_aload_n hx hb dX13_isToken_8 rfl (lv_at hl 0 rfl) ?_
    refine gfX13_tape hx hb hts hK hP hown (hts _ tw_2006) dX13_isToken_9 ?_
    refine lv_aload_n hx hb dX13_isToken_12 rfl (lv_at hl 0 rfl) ?_
    refine gfX13_tokenAt hx hb hts hK hP hown (hts _ tw_2062) (x := σ.1 17) rfl dX13_isToken_13 ?_
    obtain ⟨c2, hw⟩ := hw
    refine ldMX13_tape hx hb hK hP hN c2 dX13_isToken_16 (fun x3 r_x3 e_x3 => ?_)
    replace hw := hw x3 r_x3 e_x3
    refine lv_bipush (v := I 36) hx hb dX13_isToken_17 (by decide) ?_
    refine bi_icmp_ne (tgt := 41) hx hb r_x3 (by decide) dX13_isToken_19 (by decide) (fun c4 => ?_) (fun c4 => ?_)
    ·
      replace hw := hw.1 c4
      refine lv_iconst (v := I 0) hx hb dX13_isToken_41 rfl ?_
      exact xrz hx hb hr (by decide) hlk hP hK hD hS ⟨_, (by decide), rfl, rfl, hw⟩ (Nat.le_of_ble_eq_true rfl) (Nat.le_of_ble_eq_true rfl) dX13_isToken_42
    ·
      replace hw := hw.2 c4
      refine lv_aload_n hx hb dX13_isToken_22 rfl (lv_at hl 0 rfl) ?_
      refine gfX13_tape hx hb hts hK hP hown (hts _ tw_2006) dX13_isToken_23 ?_
      refine lv_aload_n hx hb dX13_isToken_26 rfl (lv_at hl 0 rfl) ?_
      refine gfX13_tokenAt hx hb hts hK hP hown (hts _ tw_2062) (x := σ.1 17) rfl dX13_isToken_27 ?_
      refine lv_iconst (v := I 1) hx hb dX13_isToken_30 rfl ?_
      refine bi_iadd hx hb dX13_isToken_31 ?_
      obtain ⟨c5, hw⟩ := hw
      refine ldMX13_tape hx hb hK hP hN c5 dX13_isToken_32 (fun x6 r_x6 e_x6 => ?_)
      replace hw := hw x6 r_x6 e_x6
      refine lv_iload_n hx hb dX13_isToken_33 rfl (lv_at hl 1 rfl) ?_
      refine bi_icmp_ne (tgt := 41) hx hb r_x6 r_n1 dX13_isToken_34 (by decide) (fun c7 => ?_) (fun c7 => ?_)
      ·
        replace hw := hw.1 c7
        refine lv_iconst (v := I 0) hx hb dX13_isToken_41 rfl ?_
        exact xrz hx hb hr (by decide) hlk hP hK hD hS ⟨_, (by decide), rfl, rfl, hw⟩ (Nat.le_of_ble_eq_true rfl) (Nat.le_of_ble_eq_true rfl) dX13_isToken_42
      ·
        replace hw := hw.2 c7
        refine lv_iconst (v := I 1) hx hb dX13_isToken_37 rfl ?_
        refine lv_goto (tgt := 42) hx hb dX13_isToken_38 (by decide) ?_
        exact xrz hx hb hr (by decide) hlk hP hK hD hS ⟨_, (by decide), rfl, rfl, hw⟩ (Nat.le_of_ble_eq_true rfl) (Nat.le_of_ble_eq_true rfl) dX13_isToken_42
def W_X13_skipComment (σ : S0) (Q : S0 → Prop) : Prop :=
  ∀ (P2 : Int → S0 → Prop) (P37 : Int → S0 → Prop),
  (∀ (u1 : Int) (τ : S0), ((u1 = 0 → Q τ) ∧ (¬ u1 = 0 → ∃ (Q2 : Int → S0 → Prop), W_X13_nextRow τ Q2 ∧ ∀ (x3 : Int) (τ4 : S0), rg x3 → n_m τ4 → f_r [16, 17, 18, 20, 21] [] [] τ τ4 → Q2 x3 τ4 → ((¬ x3 = 0 → ∃ (Q6 : Int → Prop), W_X13_isToken 41 τ4 Q6 ∧ ∀ (x7 : Int), rg x7 → Q6 x7 → ((¬ x7 = 0 → P37 0 τ4) ∧ (x7 = 0 → P37 1 τ4))) ∧ (x3 = 0 → ∃ (Q10 : S0 → Prop), W_X13_fail 2 (τ4.1 0) τ4 Q10 ∧ ∀ (τ12 : S0), n_m τ12 → f_r [20, 21] [] [] τ4 τ12 → Q10 τ12 → (Q τ12))))) → P2 u1 τ) →
  (∀ (k0 : Int) (τ : S0), ((k0 = 0 → P2 k0 τ) ∧ (¬ k0 = 0 → ∃ (Q14 : Int → Prop), W_X13_hasDollar 40 41 τ Q14 ∧ ∀ (x15 : Int), rg x15 → Q14 x15 → ((x15 = 0 → P2 k0 τ) ∧ (¬ x15 = 0 → ∃ (Q18 : S0 → Prop), W_X13_fail 2 (τ.1 17) τ Q18 ∧ ∀ (τ20 : S0), n_m τ20 → f_r [20, 21] [] [] τ τ20 → Q18 τ20 → (Q τ20))))) → P37 k0 τ) →
  P2 1 σ
set_option maxRecDepth 100000 in
set_option maxHeartbeats 4000000 in
theorem L_X13_skipComment (l : Launch) (g : gG) (q : Nat → Nat) (lb : Nat) (hlb : lb < 2 ^ 31) {σ : S0} {Q : S0 → Prop} (hN : n_m σ) (hw : W_X13_skipComment σ Q) (sz : Nat) : MetV l yX13_skipComment cX13_skipComment 2 { frames := 2, cells := 0, slots := 0, locals := 42 } g [.ref (q 0)] (MX g q lb σ) sz xT (p_V (MX g q lb) [16, 17, 18, 20, 21] [] [] σ Q) 0 0 := by
  refine mkMet (Qc := fun A => QV g A (p_V (MX g q lb) [16, 17, 18, 20, 21] [] [] σ Q)) (by decide) (Nat.le_of_ble_eq_true rfl) ?_
  intro p e s m below meth c A H ls hx hb hr hml hown hts hlk hnm hsz hP hK hNb hD hA hAe hS hX hl
  have hl : lv_has ls 2 [(0, .ref (q 0))] := hl
  have hB := hN
  have hF : f_r [16, 17, 18, 20, 21] [] [] σ σ := f_0
  obtain ⟨locs, hlocs⟩ : ∃ z : List Loc, z = [] := ⟨_, rfl⟩
  rw [← hlocs] at hS ⊢
  obtain ⟨P2, hP2⟩ : ∃ P : Int → S0 → Prop, ∀ (u1 : Int) (τ : S0), (P u1 τ ↔ (rg u1 → n_m τ → f_r [16, 17, 18, 20, 21] [] [] σ τ → ∀ (H : Heap) (locs : List Loc) (ls : Array Slot), KP g (MX g q lb τ) H → va_D A (MX g q lb τ) → va_S A s.heap H locs → lv_has ls 2 [(0, .ref (q 0)), (1, .int (I u1))] → W p l e ({ frames := 2, cells := 0, slots := 0, locals := 42 }) s m [.ref (q 0)].toArray below meth c H locs 0 0 (MQ below (QV g A (p_V (MX g q lb) [16, 17, 18, 20, 21] [] [] σ Q)) [.ref (q 0)].toArray s 0 0 A) (F0 m 2 ls []))) := ⟨_, fun _ _ => Iff.rfl⟩
  obtain ⟨P37, hP37⟩ : ∃ P : Int → S0 → Prop, ∀ (k0 : Int) (τ : S0), (P k0 τ ↔ (rg k0 → n_m τ → f_r [16, 17, 18, 20, 21] [] [] σ τ → ∀ (H : Heap) (locs : List Loc) (ls : Array Slot), KP g (MX g q lb τ) H → va_D A (MX g q lb τ) → va_S A s.heap H locs → lv_has ls 2 [(0, .ref (q 0))] → W p l e ({ frames := 2, cells := 0, slots := 0, locals := 42 }) s m [.ref (q 0)].toArray below meth c H locs 0 0 (MQ below (QV g A (p_V (MX g q lb) [16, 17, 18, 20, 21] [] [] σ Q)) [.ref (q 0)].toArray s 0 0 A) (F0 m 37 ls [.int (I k0)]))) := ⟨_, fun _ _ => Iff.rfl⟩
  refine (fun hw => ?_) (hw P2 P37 ?_ ?_)
  ·
    refine lv_iconst (v := I 1) hx hb dX13_skipComment_0 rfl ?_
    refine lv_istore_n (lv' := [(1, .int (I 1)), (0, .ref (q 0))]) hx hb dX13_skipComment_1 rfl hl (by decide) rfl (fun ls hl => ?_)
    exact (hP2 _ _).mp hw (by decide) hN hF H locs ls hP hD hS (lv_sub hl [1, 0] rfl)
  ·
    intro u1 τ hw
    refine (hP2 _ _).mpr ?_
    intro r_u1 hN hF H locs ls hP hD hS hl
    have hB := hN
    refine lv_iload_n hx hb dX13_skipComment_2 rfl (lv_at hl 1 rfl) ?_
    refine bi_if_eq (tgt := 63) hx hb r_u1 dX13_skipComment_3 (by decide) (fun c1 => ?_) (fun c1 => ?_)
    ·
      replace hw := hw.1 c1
      exact xrv hx hb hr hlk hP hK hD hS ⟨_, hN, hF, rfl, hw⟩ (Nat.le_of_ble_eq_true rfl) (Nat.le_of_ble_eq_true rfl) dX13_skipComment_63
    ·
      replace hw := hw.2 c1
      refine lv_aload_n hx hb dX13_skipComment_6 rfl (lv_at hl 0 rfl) ?_
      obtain ⟨Q2, hc, hw⟩ := hw
      refine wc_I (X := MX g q lb) (va_runV (As := []) (rest := []) ⟨hx, hb, hml, hown, hts⟩ (L_X13_nextRow l g q lb hlb  hN hc H.size) (cwV 0 hts (TB_V tw_2540 tw_2542 ts_105 tw_15 co_X13_nextRow) rfl rfl rfl (by decide +kernel) ⟨Nat.le_of_ble_eq_true rfl, Nat.le_of_ble_eq_true rfl⟩) (preV (q0 := 0) (ci := 13) rfl xT_bl hP hK hNb hD rfl rfl xT_at) rfl rfl hl.1 rfl (lv_room (Nat.le_of_ble_eq_true rfl)) dX13_skipComment_7 ⟨Nat.le_of_ble_eq_true rfl, Nat.le_of_ble_eq_true rfl⟩) hP hD hS hA (fun x3 τ4 H locs r_x3 hN hf hq hP hD hS => ?_)
      replace hw := hw x3 τ4 r_x3 hN hf hq
      have hF : f_r [16, 17, 18, 20, 21] [] [] σ τ4 := f_t hF hf (by decide) (by decide) (by decide)
      have hB := hN
      refine bi_if_ne (tgt := 23) hx hb r_x3 dX13_skipComment_10 (by decide) (fun c5 => ?_) (fun c5 => ?_)
      ·
        replace hw := hw.1 c5
        refine lv_aload_n hx hb dX13_skipComment_23 rfl (lv_at hl 0 rfl) ?_
        refine lv_bipush (v := I 41) hx hb dX13_skipComment_24 (by decide) ?_
        obtain ⟨Q6, hc, hw⟩ := hw
        refine wc_i (X := MX g q lb) (va_runV (As := [.int (I 41)]) (rest := []) ⟨hx, hb, hml, hown, hts⟩ (L_X13_isToken l g q lb hlb (by decide) hN hc H.size) (cwV 1 hts (TB_V tw_2554 tw_2556 ts_107 tw_15 co_X13_isToken) rfl rfl rfl (by decide +kernel) ⟨Nat.le_of_ble_eq_true rfl, Nat.le_of_ble_eq_true rfl⟩) (preV (q0 := 0) (ci := 13) rfl xT_bl hP hK hNb hD rfl rfl xT_at) rfl rfl hl.1 rfl (lv_room (Nat.le_of_ble_eq_true rfl)) dX13_skipComment_26 ⟨Nat.le_of_ble_eq_true rfl, Nat.le_of_ble_eq_true rfl⟩) hP hD hS hA (fun x7 H locs r_x7 hq hP hD hS => ?_)
        replace hw := hw x7 r_x7 hq
        refine bi_if_ne (tgt := 36) hx hb r_x7 dX13_skipComment_29 (by decide) (fun c9 => ?_) (fun c9 => ?_)
        ·
          replace hw := hw.1 c9
          refine lv_iconst (v := I 0) hx hb dX13_skipComment_36 rfl ?_
          exact (hP37 _ _).mp hw (by decide) hN hF H locs ls hP hD hS (lv_sub hl [0] rfl)
        ·
          replace hw := hw.2 c9
          refine lv_iconst (v := I 1) hx hb dX13_skipComment_32 rfl ?_
          refine lv_goto (tgt := 37) hx hb dX13_skipComment_33 (by decide) ?_
          exact (hP37 _ _).mp hw (by decide) hN hF H locs ls hP hD hS (lv_sub hl [0] rfl)
      ·
        replace hw := hw.2 c5
        refine lv_aload_n hx hb dX13_skipComment_13 rfl (lv_at hl 0 rfl) ?_
        refine lv_iconst (v := I 2) hx hb dX13_skipComment_14 rfl ?_
        refine lv_aload_n hx hb dX13_skipComment_15 rfl (lv_at hl 0 rfl) ?_
        refine gfX13_tapeSize hx hb hts hK hP hown (hts _ tw_2007) (x := τ4.1 0) rfl dX13_skipComment_16 ?_
        obtain ⟨Q10, hc, hw⟩ := hw
        refine wc_V (X := MX g q lb) (va_runV (As := [.int (I 2), .int (I (τ4.1 0))]) (rest := []) ⟨hx, hb, hml, hown, hts⟩ (L_X13_fail l g q lb hlb (by decide) (hB.1 0) hN hc H.size) (cwV 2 hts (TB_V tw_2550 tw_2552 ts_106 tw_15 co_X13_fail) rfl rfl rfl (by decide +kernel) ⟨Nat.le_of_ble_eq_true rfl, Nat.le_of_ble_eq_true rfl⟩) (preV (q0 := 0) (ci := 13) rfl xT_bl hP hK hNb hD rfl rfl xT_at) rfl rfl hl.1 rfl (lv_room (Nat.le_of_ble_eq_true rfl)) dX13_skipComment_19 ⟨Nat.le_of_ble_eq_true rfl, Nat.le_of_ble_eq_true rfl⟩) hP hD hS hA (fun τ12 H locs hN hf hq hP hD hS => ?_)
        replace hw := hw τ12 hN hf hq
        have hF : f_r [16, 17, 18, 20, 21] [] [] σ τ12 := f_t hF hf (by decide) (by decide) (by decide)
        have hB := hN
        exact xrv hx hb hr hlk hP hK hD hS ⟨_, hN, hF, rfl, hw⟩ (Nat.le_of_ble_eq_true rfl) (Nat.le_of_ble_eq_true rfl) dX13_skipComment_22
  ·
    intro k0 τ hw
    refine (hP37 _ _).mpr ?_
    intro r_k0 hN hF H locs ls hP hD hS hl
    have hB := hN
    refine lv_istore_n (lv' := [(1, .int (I k0)), (0, .ref (q 0))]) hx hb dX13_skipComment_37 rfl hl (by decide) rfl (fun ls hl => ?_)
    refine lv_iload_n hx hb dX13_skipComment_38 rfl (lv_at hl 0 rfl) ?_
    refine bi_if_eq (tgt := 2) hx hb r_k0 dX13_skipComment_39 (by decide) (fun c13 => ?_) (fun c13 => ?_)
    ·
      replace hw := hw.1 c13
      exact (hP2 _ _).mp hw r_k0 hN hF H locs ls hP hD hS (lv_sub hl [1, 0] rfl)
    ·
      replace hw := hw.2 c13
      refine lv_aload_n hx hb dX13_skipComment_42 rfl (lv_at hl 1 rfl) ?_
      refine lv_bipush (v := I 40) hx hb dX13_skipComment_43 (by decide) ?_
      refine lv_bipush (v := I 41) hx hb dX13_skipComment_45 (by decide) ?_
      obtain ⟨Q14, hc, hw⟩ := hw
      refine wc_i (X := MX g q lb) (va_runV (As := [.int (I 40), .int (I 41)]) (rest := []) ⟨hx, hb, hml, hown, hts⟩ (L_X13_hasDollar l g q lb hlb (by decide) (by decide) hN hc H.size) (cwV 2 hts (TB_V tw_2562 tw_2564 ts_109 tw_15 co_X13_hasDollar) rfl rfl rfl (by decide +kernel) ⟨Nat.le_of_ble_eq_true rfl, Nat.le_of_ble_eq_true rfl⟩) (preV (q0 := 0) (ci := 13) rfl xT_bl hP hK hNb hD rfl rfl xT_at) rfl rfl hl.1 rfl (lv_room (Nat.le_of_ble_eq_true rfl)) dX13_skipComment_47 ⟨Nat.le_of_ble_eq_true rfl, Nat.le_of_ble_eq_true rfl⟩) hP hD hS hA (fun x15 H locs r_x15 hq hP hD hS => ?_)
      replace hw := hw x15 r_x15 hq
      refine bi_if_eq (tgt := 2) hx hb r_x15 dX13_skipComment_50 (by decide) (fun c17 => ?_) (fun c17 => ?_)
      ·
        replace hw := hw.1 c17
        exact (hP2 _ _).mp hw r_k0 hN hF H locs ls hP hD hS (lv_sub hl [1, 0] rfl)
      ·
        replace hw := hw.2 c17
        refine lv_aload_n hx hb dX13_skipComment_53 rfl (lv_at hl 1 rfl) ?_
        refine lv_iconst (v := I 2) hx hb dX13_skipComment_54 rfl ?_
        refine lv_aload_n hx hb dX13_skipComment_55 rfl (lv_at hl 1 rfl) ?_
        refine gfX13_tokenAt hx hb hts hK hP hown (hts _ tw_2062) (x := τ.1 17) rfl dX13_skipComment_56 ?_
        obtain ⟨Q18, hc, hw⟩ := hw
        refine wc_V (X := MX g q lb) (va_runV (As := [.int (I 2), .int (I (τ.1 17))]) (rest := []) ⟨hx, hb, hml, hown, hts⟩ (L_X13_fail l g q lb hlb (by decide) (hB.1 17) hN hc H.size) (cwV 2 hts (TB_V tw_2550 tw_2552 ts_106 tw_15 co_X13_fail) rfl rfl rfl (by decide +kernel) ⟨Nat.le_of_ble_eq_true rfl, Nat.le_of_ble_eq_true rfl⟩) (preV (q0 := 0) (ci := 13) rfl xT_bl hP hK hNb hD rfl rfl xT_at) rfl rfl hl.1 rfl (lv_room (Nat.le_of_ble_eq_true rfl)) dX13_skipComment_59 ⟨Nat.le_of_ble_eq_true rfl, Nat.le_of_ble_eq_true rfl⟩) hP hD hS hA (fun τ20 H locs hN hf hq hP hD hS => ?_)
        replace hw := hw τ20 hN hf hq
        have hF : f_r [16, 17, 18, 20, 21] [] [] σ τ20 := f_t hF hf (by decide) (by decide) (by decide)
        have hB := hN
        exact xrv hx hb hr hlk hP hK hD hS ⟨_, hN, hF, rfl, hw⟩ (Nat.le_of_ble_eq_true rfl) (Nat.le_of_ble_eq_true rfl) dX13_skipComment_62
def W_X13_isKnown (n0 : Int) (σ : S0) (Q : Int → Prop) : Prop :=
  (n0 = 99 → Q 1) ∧ (¬ n0 = 99 → (n0 = 118 → Q 1) ∧ (¬ n0 = 118 → (n0 = 102 → Q 1) ∧ (¬ n0 = 102 → (n0 = 101 → Q 1) ∧ (¬ n0 = 101 → (n0 = 100 → Q 1) ∧ (¬ n0 = 100 → (n0 = 97 → Q 1) ∧ (¬ n0 = 97 → (n0 = 112 → Q 1) ∧ (¬ n0 = 112 → (n0 = 61 → Q 1) ∧ (¬ n0 = 61 → (n0 = 46 → Q 1) ∧ (¬ n0 = 46 → (n0 = 123 → Q 1) ∧ (¬ n0 = 123 → (¬ n0 = 125 → Q 0) ∧ (n0 = 125 → Q 1)))))))))))
set_option maxRecDepth 100000 in
set_option maxHeartbeats 4000000 in
theorem L_X13_isKnown (l : Launch) (g : gG) (q : Nat → Nat) (lb : Nat) (hlb : lb < 2 ^ 31) {n0 : Int} {σ : S0} {Q : Int → Prop} (r_n0 : rg n0) (hN : n_m σ) (hw : W_X13_isKnown n0 σ Q) (sz : Nat) : MetI l yX13_isKnown cX13_isKnown 1 (some .boolean) { frames := 0, cells := 0, slots := 0, locals := 0 } g [.int (I n0)] (MX g q lb σ) sz xT (p_i (MX g q lb) σ Q) 0 0 := by
  refine mkMet (Qc := fun A => QI g A (p_i (MX g q lb) σ Q)) (by decide) (Nat.le_of_ble_eq_true rfl) ?_
  intro p e s m below meth c A H ls hx hb hr hml hown hts hlk hnm hsz hP hK hNb hD hA hAe hS hX hl
  have hl : lv_has ls 1 [(0, .int (I n0))] := hl
  have hB := hN
  obtain ⟨locs, hlocs⟩ : ∃ z : List Loc, z = [] := ⟨_, rfl⟩
  rw [← hlocs] at hS ⊢
  refine lv_iload_n hx hb dX13_isKnown_0 rfl (lv_at hl 0 rfl) ?_
  refine lv_bipush (v := I 99) hx hb dX13_isKnown_1 (by decide) ?_
  refine bi_icmp_eq (tgt := 66) hx hb r_n0 (by decide) dX13_isKnown_3 (by decide) (fun c1 => ?_) (fun c1 => ?_)
  ·
    replace hw := hw.1 c1
    refine lv_iconst (v := I 1) hx hb dX13_isKnown_66 rfl ?_
    refine lv_goto (tgt := 71) hx hb dX13_isKnown_67 (by decide) ?_
    exact xrz hx hb hr (by decide) hlk hP hK hD hS ⟨_, (by decide), rfl, rfl, hw⟩ (Nat.le_of_ble_eq_true rfl) (Nat.le_of_ble_eq_true rfl) dX13_isKnown_71
  ·
    replace hw := hw.2 c1
    refine lv_iload_n hx hb dX13_isKnown_6 rfl (lv_at hl 0 rfl) ?_
    refine lv_bipush (v := I 118) hx hb dX13_isKnown_7 (by decide) ?_
    refine bi_icmp_eq (tgt := 66) hx hb r_n0 (by decide) dX13_isKnown_9 (by decide) (fun c2 => ?_) (fun c2 => ?_)
    ·
      replace hw := hw.1 c2
      refine lv_iconst (v := I 1) hx hb dX13_isKnown_66 rfl ?_
      refine lv_goto (tgt := 71) hx hb dX13_isKnown_67 (by decide) ?_
      exact xrz hx hb hr (by decide) hlk hP hK hD hS ⟨_, (by decide), rfl, rfl, hw⟩ (Nat.le_of_ble_eq_true rfl) (Nat.le_of_ble_eq_true rfl) dX13_isKnown_71
    ·
      replace hw := hw.2 c2
      refine lv_iload_n hx hb dX13_isKnown_12 rfl (lv_at hl 0 rfl) ?_
      refine lv_bipush (v := I 102) hx hb dX13_isKnown_13 (by decide) ?_
      refine bi_icmp_eq (tgt := 66) hx hb r_n0 (by decide) dX13_isKnown_15 (by decide) (fun c3 => ?_) (fun c3 => ?_)
      ·
        replace hw := hw.1 c3
        refine lv_iconst (v := I 1) hx hb dX13_isKnown_66 rfl ?_
        refine lv_goto (tgt := 71) hx hb dX13_isKnown_67 (by decide) ?_
        exact xrz hx hb hr (by decide) hlk hP hK hD hS ⟨_, (by decide), rfl, rfl, hw⟩ (Nat.le_of_ble_eq_true rfl) (Nat.le_of_ble_eq_true rfl) dX13_isKnown_71
      ·
        replace hw := hw.2 c3
        refine lv_iload_n hx hb dX13_isKnown_18 rfl (lv_at hl 0 rfl) ?_
        refine lv_bipush (v := I 101) hx hb dX13_isKnown_19 (by decide) ?_
        refine bi_icmp_eq (tgt := 66) hx hb r_n0 (by decide) dX13_isKnown_21 (by decide) (fun c4 => ?_) (fun c4 => ?_)
        ·
          replace hw := hw.1 c4
          refine lv_iconst (v := I 1) hx hb dX13_isKnown_66 rfl ?_
          refine lv_goto (tgt := 71) hx hb dX13_isKnown_67 (by decide) ?_
          exact xrz hx hb hr (by decide) hlk hP hK hD hS ⟨_, (by decide), rfl, rfl, hw⟩ (Nat.le_of_ble_eq_true rfl) (Nat.le_of_ble_eq_true rfl) dX13_isKnown_71
        ·
          replace hw := hw.2 c4
          refine lv_iload_n hx hb dX13_isKnown_24 rfl (lv_at hl 0 rfl) ?_
          refine lv_bipush (v := I 100) hx hb dX13_isKnown_25 (by decide) ?_
          refine bi_icmp_eq (tgt := 66) hx hb r_n0 (by decide) dX13_isKnown_27 (by decide) (fun c5 => ?_) (fun c5 => ?_)
          ·
            replace hw := hw.1 c5
            refine lv_iconst (v := I 1) hx hb dX13_isKnown_66 rfl ?_
            refine lv_goto (tgt := 71) hx hb dX13_isKnown_67 (by decide) ?_
            exact xrz hx hb hr (by decide) hlk hP hK hD hS ⟨_, (by decide), rfl, rfl, hw⟩ (Nat.le_of_ble_eq_true rfl) (Nat.le_of_ble_eq_true rfl) dX13_isKnown_71
          ·
            replace hw := hw.2 c5
            refine lv_iload_n hx hb dX13_isKnown_30 rfl (lv_at hl 0 rfl) ?_
            refine lv_bipush (v := I 97) hx hb dX13_isKnown_31 (by decide) ?_
            refine bi_icmp_eq (tgt := 66) hx hb r_n0 (by decide) dX13_isKnown_33 (by decide) (fun c6 => ?_) (fun c6 => ?_)
            ·
              replace hw := hw.1 c6
              refine lv_iconst (v := I 1) hx hb dX13_isKnown_66 rfl ?_
              refine lv_goto (tgt := 71) hx hb dX13_isKnown_67 (by decide) ?_
              exact xrz hx hb hr (by decide) hlk hP hK hD hS ⟨_, (by decide), rfl, rfl, hw⟩ (Nat.le_of_ble_eq_true rfl) (Nat.le_of_ble_eq_true rfl) dX13_isKnown_71
            ·
              replace hw := hw.2 c6
              refine lv_iload_n hx hb dX13_isKnown_36 rfl (lv_at hl 0 rfl) ?_
              refine lv_bipush (v := I 112) hx hb dX13_isKnown_37 (by decide) ?_
              refine bi_icmp_eq (tgt := 66) hx hb r_n0 (by decide) dX13_isKnown_39 (by decide) (fun c7 => ?_) (fun c7 => ?_)
              ·
                replace hw := hw.1 c7
                refine lv_iconst (v := I 1) hx hb dX13_isKnown_66 rfl ?_
                refine lv_goto (tgt := 71) hx hb dX13_isKnown_67 (by decide) ?_
                exact xrz hx hb hr (by decide) hlk hP hK hD hS ⟨_, (by decide), rfl, rfl, hw⟩ (Nat.le_of_ble_eq_true rfl) (Nat.le_of_ble_eq_true rfl) dX13_isKnown_71
              ·
                replace hw := hw.2 c7
                refine lv_iload_n hx hb dX13_isKnown_42 rfl (lv_at hl 0 rfl) ?_
                refine lv_bipush (v := I 61) hx hb dX13_isKnown_43 (by decide) ?_
                refine bi_icmp_eq (tgt := 66) hx hb r_n0 (by decide) dX13_isKnown_45 (by decide) (fun c8 => ?_) (fun c8 => ?_)
                ·
                  replace hw := hw.1 c8
                  refine lv_iconst (v := I 1) hx hb dX13_isKnown_66 rfl ?_
                  refine lv_goto (tgt := 71) hx hb dX13_isKnown_67 (by decide) ?_
                  exact xrz hx hb hr (by decide) hlk hP hK hD hS ⟨_, (by decide), rfl, rfl, hw⟩ (Nat.le_of_ble_eq_true rfl) (Nat.le_of_ble_eq_true rfl) dX13_isKnown_71
                ·
                  replace hw := hw.2 c8
                  refine lv_iload_n hx hb dX13_isKnown_48 rfl (lv_at hl 0 rfl) ?_
                  refine lv_bipush (v := I 46) hx hb dX13_isKnown_49 (by decide) ?_
                  refine bi_icmp_eq (tgt := 66) hx hb r_n0 (by decide) dX13_isKnown_51 (by decide) (fun c9 => ?_) (fun c9 => ?_)
                  ·
                    replace hw := hw.1 c9
                    refine lv_iconst (v := I 1) hx hb dX13_isKnown_66 rfl ?_
                    refine lv_goto (tgt := 71) hx hb dX13_isKnown_67 (by decide) ?_
                    exact xrz hx hb hr (by decide) hlk hP hK hD hS ⟨_, (by decide), rfl, rfl, hw⟩ (Nat.le_of_ble_eq_true rfl) (Nat.le_of_ble_eq_true rfl) dX13_isKnown_71
                  ·
                    replace hw := hw.2 c9
                    refine lv_iload_n hx hb dX13_isKnown_54 rfl (lv_at hl 0 rfl) ?_
                    refine lv_bipush (v := I 123) hx hb dX13_isKnown_55 (by decide) ?_
                    refine bi_icmp_eq (tgt := 66) hx hb r_n0 (by decide) dX13_isKnown_57 (by decide) (fun c10 => ?_) (fun c10 => ?_)
                    ·
                      replace hw := hw.1 c10
                      refine lv_iconst (v := I 1) hx hb dX13_isKnown_66 rfl ?_
                      refine lv_goto (tgt := 71) hx hb dX13_isKnown_67 (by decide) ?_
                      exact xrz hx hb hr (by decide) hlk hP hK hD hS ⟨_, (by decide), rfl, rfl, hw⟩ (Nat.le_of_ble_eq_true rfl) (Nat.le_of_ble_eq_true rfl) dX13_isKnown_71
                    ·
                      replace hw := hw.2 c10
                      refine lv_iload_n hx hb dX13_isKnown_60 rfl (lv_at hl 0 rfl) ?_
                      refine lv_bipush (v := I 125) hx hb dX13_isKnown_61 (by decide) ?_
                      refine bi_icmp_ne (tgt := 70) hx hb r_n0 (by decide) dX13_isKnown_63 (by decide) (fun c11 => ?_) (fun c11 => ?_)
                      ·
                        replace hw := hw.1 c11
                        refine lv_iconst (v := I 0) hx hb dX13_isKnown_70 rfl ?_
                        exact xrz hx hb hr (by decide) hlk hP hK hD hS ⟨_, (by decide), rfl, rfl, hw⟩ (Nat.le_of_ble_eq_true rfl) (Nat.le_of_ble_eq_true rfl) dX13_isKnown_71
                      ·
                        replace hw := hw.2 c11
                        refine lv_iconst (v := I 1) hx hb dX13_isKnown_66 rfl ?_
                        refine lv_goto (tgt := 71) hx hb dX13_isKnown_67 (by decide) ?_
                        exact xrz hx hb hr (by decide) hlk hP hK hD hS ⟨_, (by decide), rfl, rfl, hw⟩ (Nat.le_of_ble_eq_true rfl) (Nat.le_of_ble_eq_true rfl) dX13_isKnown_71
def W_X13_next (σ : S0) (Q : S0 → Prop) : Prop :=
  ∀ (P2 : Int → S0 → Prop) (P153 : Int → S0 → Prop),
  (∀ (u1 : Int) (τ : S0), ((u1 = 0 → (τ.1 20 ≤ 0 → ∃ (Q3 : Int → Prop), W_X13_hasSign 36 (s_v τ 19 1) Q3 ∧ ∀ (x4 : Int), rg x4 → Q3 x4 → ((x4 = 0 → Q (s_v τ 19 1)) ∧ (¬ x4 = 0 → (¬ τ.1 18 = 2 → P153 (-1) (s_v τ 19 1)) ∧ (τ.1 18 = 2 → (0 ≤ τ.1 17 ∧ τ.1 17 < 60000) ∧ (∀ (x9 : Int), rg x9 → x9 = τ.2.1 0 (τ.1 17) → ((¬ x9 = 36 → P153 (-1) (s_v τ 19 1)) ∧ (x9 = 36 → (0 ≤ (τ.1 17 + 1) ∧ (τ.1 17 + 1) < 60000) ∧ (∀ (x12 : Int), rg x12 → x12 = τ.2.1 0 (τ.1 17 + 1) → (∃ (Q13 : Int → Prop), W_X13_isKnown x12 (s_v τ 19 1) Q13 ∧ ∀ (x14 : Int), rg x14 → Q13 x14 → ((x14 = 0 → P153 (-1) (s_v τ 19 1)) ∧ (¬ x14 = 0 → ∀ (x17 : Int), rg x17 → x17 = τ.2.1 0 (τ.1 17 + 1) → (P153 x17 (s_v τ 19 1))))))))))))) ∧ (0 < τ.1 20 → Q (s_v τ 19 0))) ∧ (¬ u1 = 0 → ∃ (Q18 : Int → S0 → Prop), W_X13_nextRow τ Q18 ∧ ∀ (x19 : Int) (τ20 : S0), rg x19 → n_m τ20 → f_r [16, 17, 18, 20, 21] [] [] τ τ20 → Q18 x19 τ20 → ((¬ x19 = 0 → ∃ (Q22 : Int → Prop), W_X13_isToken 40 τ20 Q22 ∧ ∀ (x23 : Int), rg x23 → Q22 x23 → ((x23 = 0 → ∃ (Q26 : Int → Prop), W_X13_isToken 41 τ20 Q26 ∧ ∀ (x27 : Int), rg x27 → Q26 x27 → ((x27 = 0 → P2 0 τ20) ∧ (¬ x27 = 0 → ∃ (Q30 : S0 → Prop), W_X13_fail 2 (τ20.1 17) τ20 Q30 ∧ ∀ (τ32 : S0), n_m τ32 → f_r [20, 21] [] [] τ20 τ32 → Q30 τ32 → (P2 0 τ32)))) ∧ (¬ x23 = 0 → ∃ (Q33 : S0 → Prop), W_X13_skipComment τ20 Q33 ∧ ∀ (τ35 : S0), n_m τ35 → f_r [16, 17, 18, 20, 21] [] [] τ20 τ35 → Q33 τ35 → ((¬ τ35.1 20 = 0 → P2 0 τ35) ∧ (τ35.1 20 = 0 → P2 1 τ35))))) ∧ (x19 = 0 → Q (s_v τ20 19 0))))) → P2 u1 τ) →
  (∀ (k1 : Int) (τ : S0), ((¬ k1 = (-1) → Q (s_v τ 19 k1)) ∧ (k1 = (-1) → ∃ (Q38 : S0 → Prop), W_X13_fail 3 (τ.1 17) (s_v τ 19 k1) Q38 ∧ ∀ (τ40 : S0), n_m τ40 → f_r [20, 21] [] [] (s_v τ 19 k1) τ40 → Q38 τ40 → (Q τ40))) → P153 k1 τ) →
  P2 1 σ
set_option maxRecDepth 100000 in
set_option maxHeartbeats 4000000 in
theorem L_X13_next (l : Launch) (g : gG) (q : Nat → Nat) (lb : Nat) (hlb : lb < 2 ^ 31) {σ : S0} {Q : S0 → Prop} (hN : n_m σ) (hw : W_X13_next σ Q) (sz : Nat) : MetV l yX13_next cX13_next 2 { frames := 3, cells := 0, slots := 0, locals := 63 } g [.ref (q 0)] (MX g q lb σ) sz xT (p_V (MX g q lb) [16, 17, 18, 19, 20, 21] [] [] σ Q) 0 0 := by
  refine mkMet (Qc := fun A => QV g A (p_V (MX g q lb) [16, 17, 18, 19, 20, 21] [] [] σ Q)) (by decide) (Nat.le_of_ble_eq_true rfl) ?_
  intro p e s m below meth c A H ls hx hb hr hml hown hts hlk hnm hsz hP hK hNb hD hA hAe hS hX hl
  have hl : lv_has ls 2 [(0, .ref (q 0))] := hl
  have hB := hN
  have hF : f_r [16, 17, 18, 19, 20, 21] [] [] σ σ := f_0
  obtain ⟨locs, hlocs⟩ : ∃ z : List Loc, z = [] := ⟨_, rfl⟩
  rw [← hlocs] at hS ⊢
  obtain ⟨P2, hP2⟩ : ∃ P : Int → S0 → Prop, ∀ (u1 : Int) (τ : S0), (P u1 τ ↔ (rg u1 → n_m τ → f_r [16, 17, 18, 19, 20, 21] [] [] σ τ → ∀ (H : Heap) (locs : List Loc) (ls : Array Slot), KP g (MX g q lb τ) H → va_D A (MX g q lb τ) → va_S A s.heap H locs → lv_has ls 2 [(0, .ref (q 0)), (1, .int (I u1))] → W p l e ({ frames := 3, cells := 0, slots := 0, locals := 63 }) s m [.ref (q 0)].toArray below meth c H locs 0 0 (MQ below (QV g A (p_V (MX g q lb) [16, 17, 18, 19, 20, 21] [] [] σ Q)) [.ref (q 0)].toArray s 0 0 A) (F0 m 2 ls []))) := ⟨_, fun _ _ => Iff.rfl⟩
  obtain ⟨P153, hP153⟩ : ∃ P : Int → S0 → Prop, ∀ (k1 : Int) (τ : S0), (P k1 τ ↔ (rg k1 → n_m τ → f_r [16, 17, 18, 19, 20, 21] [] [] σ τ → ∀ (H : Heap) (locs : List Loc) (ls : Array Slot), KP g (MX g q lb τ) H → va_D A (MX g q lb τ) → va_S A s.heap H locs → lv_has ls 2 [(0, .ref (q 0))] → W p l e ({ frames := 3, cells := 0, slots := 0, locals := 63 }) s m [.ref (q 0)].toArray below meth c H locs 0 0 (MQ below (QV g A (p_V (MX g q lb) [16, 17, 18, 19, 20, 21] [] [] σ Q)) [.ref (q 0)].toArray s 0 0 A) (F0 m 153 ls [.int (I k1), .ref (q 0)]))) := ⟨_, fun _ _ => Iff.rfl⟩
  refine (fun hw => ?_) (hw P2 P153 ?_ ?_)
  ·
    refine lv_iconst (v := I 1) hx hb dX13_next_0 rfl ?_
    refine lv_istore_n (lv' := [(1, .int (I 1)), (0, .ref (q 0))]) hx hb dX13_next_1 rfl hl (by decide) rfl (fun ls hl => ?_)
    exact (hP2 _ _).mp hw (by decide) hN hF H locs ls hP hD hS (lv_sub hl [1, 0] rfl)
  ·
    intro u1 τ hw
    refine (hP2 _ _).mpr ?_
    intro r_u1 hN hF H locs ls hP hD hS hl
    have hB := hN
    refine lv_iload_n hx hb dX13_next_2 rfl (lv_at hl 1 rfl) ?_
    refine bi_if_eq (tgt := 71) hx hb r_u1 dX13_next_3 (by decide) (fun c1 => ?_) (fun c1 => ?_)
    ·
      replace hw := hw.1 c1
      refine lv_aload_n hx hb dX13_next_71 rfl (lv_at hl 0 rfl) ?_
      refine gfX13_fault hx hb hts hK hP hown (hts _ tw_2065) (x := τ.1 20) rfl dX13_next_72 ?_
      refine bi_if_le (tgt := 84) hx hb (hB.1 20) dX13_next_75 (by decide) (fun c2 => ?_) (fun c2 => ?_)
      ·
        replace hw := hw.1 c2
        refine lv_aload_n hx hb dX13_next_84 rfl (lv_at hl 0 rfl) ?_
        refine lv_iconst (v := I 1) hx hb dX13_next_85 rfl ?_
        refine pfX13_token hx hb hts hK hP hD hS hown (hts _ tw_2064) dX13_next_86 (fun H locs hP hD hS => ?_)
        have hN : n_m (s_v τ 19 1) := n_v (i := 19) hN ((by decide) : rg 1)
        have hF : f_r [16, 17, 18, 19, 20, 21] [] [] σ (s_v τ 19 1) := f_v hF (by decide)
        refine lv_aload_n hx hb dX13_next_89 rfl (lv_at hl 0 rfl) ?_
        refine lv_bipush (v := I 36) hx hb dX13_next_90 (by decide) ?_
        obtain ⟨Q3, hc, hw⟩ := hw
        refine wc_i (X := MX g q lb) (va_runV (As := [.int (I 36)]) (rest := []) ⟨hx, hb, hml, hown, hts⟩ (L_X13_hasSign l g q lb hlb (by decide) hN hc H.size) (cwV 1 hts (TB_V tw_2566 tw_2568 ts_110 tw_15 co_X13_hasSign) rfl rfl rfl (by decide +kernel) ⟨Nat.le_of_ble_eq_true rfl, Nat.le_of_ble_eq_true rfl⟩) (preV (q0 := 0) (ci := 13) rfl xT_bl hP hK hNb hD rfl rfl xT_at) rfl rfl hl.1 rfl (lv_room (Nat.le_of_ble_eq_true rfl)) dX13_next_92 ⟨Nat.le_of_ble_eq_true rfl, Nat.le_of_ble_eq_true rfl⟩) hP hD hS hA (fun x4 H locs r_x4 hq hP hD hS => ?_)
        replace hw := hw x4 r_x4 hq
        refine bi_if_eq (tgt := 173) hx hb r_x4 dX13_next_95 (by decide) (fun c6 => ?_) (fun c6 => ?_)
        ·
          replace hw := hw.1 c6
          exact xrv hx hb hr hlk hP hK hD hS ⟨_, hN, hF, rfl, hw⟩ (Nat.le_of_ble_eq_true rfl) (Nat.le_of_ble_eq_true rfl) dX13_next_173
        ·
          replace hw := hw.2 c6
          refine lv_aload_n hx hb dX13_next_98 rfl (lv_at hl 0 rfl) ?_
          refine lv_aload_n hx hb dX13_next_99 rfl (lv_at hl 0 rfl) ?_
          refine gfX13_tokenSize hx hb hts hK hP hown (hts _ tw_2063) (x := τ.1 18) rfl dX13_next_100 ?_
          refine lv_iconst (v := I 2) hx hb dX13_next_103 rfl ?_
          refine bi_icmp_ne (tgt := 152) hx hb (hB.1 18) (by decide) dX13_next_104 (by decide) (fun c7 => ?_) (fun c7 => ?_)
          ·
            replace hw := hw.1 c7
            refine lv_iconst (v := I (-1)) hx hb dX13_next_152 rfl ?_
            exact (hP153 _ _).mp hw (by decide) hN hF H locs ls hP hD hS (lv_sub hl [0] rfl)
          ·
            replace hw := hw.2 c7
            refine lv_aload_n hx hb dX13_next_107 rfl (lv_at hl 0 rfl) ?_
            refine gfX13_tape hx hb hts hK hP hown (hts _ tw_2006) dX13_next_108 ?_
            refine lv_aload_n hx hb dX13_next_111 rfl (lv_at hl 0 rfl) ?_
            refine gfX13_tokenAt hx hb hts hK hP hown (hts _ tw_2062) (x := τ.1 17) rfl dX13_next_112 ?_
            obtain ⟨c8, hw⟩ := hw
            refine ldMX13_tape hx hb hK hP hN c8 dX13_next_115 (fun x9 r_x9 e_x9 => ?_)
            replace hw := hw x9 r_x9 e_x9
            refine lv_bipush (v := I 36) hx hb dX13_next_116 (by decide) ?_
            refine bi_icmp_ne (tgt := 152) hx hb r_x9 (by decide) dX13_next_118 (by decide) (fun c10 => ?_) (fun c10 => ?_)
            ·
              replace hw := hw.1 c10
              refine lv_iconst (v := I (-1)) hx hb dX13_next_152 rfl ?_
              exact (hP153 _ _).mp hw (by decide) hN hF H locs ls hP hD hS (lv_sub hl [0] rfl)
            ·
              replace hw := hw.2 c10
              refine lv_aload_n hx hb dX13_next_121 rfl (lv_at hl 0 rfl) ?_
              refine gfX13_tape hx hb hts hK hP hown (hts _ tw_2006) dX13_next_122 ?_
              refine lv_aload_n hx hb dX13_next_125 rfl (lv_at hl 0 rfl) ?_
              refine gfX13_tokenAt hx hb hts hK hP hown (hts _ tw_2062) (x := τ.1 17) rfl dX13_next_126 ?_
              refine lv_iconst (v := I 1) hx hb dX13_next_129 rfl ?_
              refine bi_iadd hx hb dX13_next_130 ?_
              obtain ⟨c11, hw⟩ := hw
              refine ldMX13_tape hx hb hK hP hN c11 dX13_next_131 (fun x12 r_x12 e_x12 => ?_)
              replace hw := hw x12 r_x12 e_x12
              obtain ⟨Q13, hc, hw⟩ := hw
              refine wc_i (X := MX g q lb) (va_runS (As := [.int (I x12)]) (rest := [.ref (q 0)]) ⟨hx, hb, hml, hown, hts⟩ (L_X13_isKnown l g q lb hlb r_x12 hN hc H.size) (cwS 1 hts (TB_S tw_2570 tw_2571 tw_15 co_X13_isKnown) rfl rfl rfl (by decide +kernel) ⟨Nat.le_of_ble_eq_true rfl, Nat.le_of_ble_eq_true rfl⟩) (preS xT_bl hP hK hNb hD xT_at) rfl rfl hl.1 rfl (lv_room (Nat.le_of_ble_eq_true rfl)) dX13_next_132 ⟨Nat.le_of_ble_eq_true rfl, Nat.le_of_ble_eq_true rfl⟩) hP hD hS hA (fun x14 H locs r_x14 hq hP hD hS => ?_)
              replace hw := hw x14 r_x14 hq
              refine bi_if_eq (tgt := 152) hx hb r_x14 dX13_next_135 (by decide) (fun c16 => ?_) (fun c16 => ?_)
              ·
                replace hw := hw.1 c16
                refine lv_iconst (v := I (-1)) hx hb dX13_next_152 rfl ?_
                exact (hP153 _ _).mp hw (by decide) hN hF H locs ls hP hD hS (lv_sub hl [0] rfl)
              ·
                replace hw := hw.2 c16
                refine lv_aload_n hx hb dX13_next_138 rfl (lv_at hl 0 rfl) ?_
                refine gfX13_tape hx hb hts hK hP hown (hts _ tw_2006) dX13_next_139 ?_
                refine lv_aload_n hx hb dX13_next_142 rfl (lv_at hl 0 rfl) ?_
                refine gfX13_tokenAt hx hb hts hK hP hown (hts _ tw_2062) (x := τ.1 17) rfl dX13_next_143 ?_
                refine lv_iconst (v := I 1) hx hb dX13_next_146 rfl ?_
                refine bi_iadd hx hb dX13_next_147 ?_
                refine ldMX13_tape hx hb hK hP hN c11 dX13_next_148 (fun x17 r_x17 e_x17 => ?_)
                replace hw := hw x17 r_x17 e_x17
                refine lv_goto (tgt := 153) hx hb dX13_next_149 (by decide) ?_
                exact (hP153 _ _).mp hw r_x17 hN hF H locs ls hP hD hS (lv_sub hl [0] rfl)
      ·
        replace hw := hw.2 c2
        refine lv_aload_n hx hb dX13_next_78 rfl (lv_at hl 0 rfl) ?_
        refine lv_iconst (v := I 0) hx hb dX13_next_79 rfl ?_
        refine pfX13_token hx hb hts hK hP hD hS hown (hts _ tw_2064) dX13_next_80 (fun H locs hP hD hS => ?_)
        have hN : n_m (s_v τ 19 0) := n_v (i := 19) hN ((by decide) : rg 0)
        have hF : f_r [16, 17, 18, 19, 20, 21] [] [] σ (s_v τ 19 0) := f_v hF (by decide)
        exact xrv hx hb hr hlk hP hK hD hS ⟨_, hN, hF, rfl, hw⟩ (Nat.le_of_ble_eq_true rfl) (Nat.le_of_ble_eq_true rfl) dX13_next_83
    ·
      replace hw := hw.2 c1
      refine lv_iconst (v := I 0) hx hb dX13_next_6 rfl ?_
      refine lv_istore_n (lv' := [(1, .int (I 0)), (0, .ref (q 0))]) hx hb dX13_next_7 rfl hl (by decide) rfl (fun ls hl => ?_)
      refine lv_aload_n hx hb dX13_next_8 rfl (lv_at hl 1 rfl) ?_
      obtain ⟨Q18, hc, hw⟩ := hw
      refine wc_I (X := MX g q lb) (va_runV (As := []) (rest := []) ⟨hx, hb, hml, hown, hts⟩ (L_X13_nextRow l g q lb hlb  hN hc H.size) (cwV 0 hts (TB_V tw_2540 tw_2542 ts_105 tw_15 co_X13_nextRow) rfl rfl rfl (by decide +kernel) ⟨Nat.le_of_ble_eq_true rfl, Nat.le_of_ble_eq_true rfl⟩) (preV (q0 := 0) (ci := 13) rfl xT_bl hP hK hNb hD rfl rfl xT_at) rfl rfl hl.1 rfl (lv_room (Nat.le_of_ble_eq_true rfl)) dX13_next_9 ⟨Nat.le_of_ble_eq_true rfl, Nat.le_of_ble_eq_true rfl⟩) hP hD hS hA (fun x19 τ20 H locs r_x19 hN hf hq hP hD hS => ?_)
      replace hw := hw x19 τ20 r_x19 hN hf hq
      have hF : f_r [16, 17, 18, 19, 20, 21] [] [] σ τ20 := f_t hF hf (by decide) (by decide) (by decide)
      have hB := hN
      refine bi_if_ne (tgt := 21) hx hb r_x19 dX13_next_12 (by decide) (fun c21 => ?_) (fun c21 => ?_)
      ·
        replace hw := hw.1 c21
        refine lv_aload_n hx hb dX13_next_21 rfl (lv_at hl 1 rfl) ?_
        refine lv_bipush (v := I 40) hx hb dX13_next_22 (by decide) ?_
        obtain ⟨Q22, hc, hw⟩ := hw
        refine wc_i (X := MX g q lb) (va_runV (As := [.int (I 40)]) (rest := []) ⟨hx, hb, hml, hown, hts⟩ (L_X13_isToken l g q lb hlb (by decide) hN hc H.size) (cwV 1 hts (TB_V tw_2554 tw_2556 ts_107 tw_15 co_X13_isToken) rfl rfl rfl (by decide +kernel) ⟨Nat.le_of_ble_eq_true rfl, Nat.le_of_ble_eq_true rfl⟩) (preV (q0 := 0) (ci := 13) rfl xT_bl hP hK hNb hD rfl rfl xT_at) rfl rfl hl.1 rfl (lv_room (Nat.le_of_ble_eq_true rfl)) dX13_next_24 ⟨Nat.le_of_ble_eq_true rfl, Nat.le_of_ble_eq_true rfl⟩) hP hD hS hA (fun x23 H locs r_x23 hq hP hD hS => ?_)
        replace hw := hw x23 r_x23 hq
        refine bi_if_eq (tgt := 50) hx hb r_x23 dX13_next_27 (by decide) (fun c25 => ?_) (fun c25 => ?_)
        ·
          replace hw := hw.1 c25
          refine lv_aload_n hx hb dX13_next_50 rfl (lv_at hl 1 rfl) ?_
          refine lv_bipush (v := I 41) hx hb dX13_next_51 (by decide) ?_
          obtain ⟨Q26, hc, hw⟩ := hw
          refine wc_i (X := MX g q lb) (va_runV (As := [.int (I 41)]) (rest := []) ⟨hx, hb, hml, hown, hts⟩ (L_X13_isToken l g q lb hlb (by decide) hN hc H.size) (cwV 1 hts (TB_V tw_2554 tw_2556 ts_107 tw_15 co_X13_isToken) rfl rfl rfl (by decide +kernel) ⟨Nat.le_of_ble_eq_true rfl, Nat.le_of_ble_eq_true rfl⟩) (preV (q0 := 0) (ci := 13) rfl xT_bl hP hK hNb hD rfl rfl xT_at) rfl rfl hl.1 rfl (lv_room (Nat.le_of_ble_eq_true rfl)) dX13_next_53 ⟨Nat.le_of_ble_eq_true rfl, Nat.le_of_ble_eq_true rfl⟩) hP hD hS hA (fun x27 H locs r_x27 hq hP hD hS => ?_)
          replace hw := hw x27 r_x27 hq
          refine bi_if_eq (tgt := 2) hx hb r_x27 dX13_next_56 (by decide) (fun c29 => ?_) (fun c29 => ?_)
          ·
            replace hw := hw.1 c29
            exact (hP2 _ _).mp hw (by decide) hN hF H locs ls hP hD hS (lv_sub hl [1, 0] rfl)
          ·
            replace hw := hw.2 c29
            refine lv_aload_n hx hb dX13_next_59 rfl (lv_at hl 1 rfl) ?_
            refine lv_iconst (v := I 2) hx hb dX13_next_60 rfl ?_
            refine lv_aload_n hx hb dX13_next_61 rfl (lv_at hl 1 rfl) ?_
            refine gfX13_tokenAt hx hb hts hK hP hown (hts _ tw_2062) (x := τ20.1 17) rfl dX13_next_62 ?_
            obtain ⟨Q30, hc, hw⟩ := hw
            refine wc_V (X := MX g q lb) (va_runV (As := [.int (I 2), .int (I (τ20.1 17))]) (rest := []) ⟨hx, hb, hml, hown, hts⟩ (L_X13_fail l g q lb hlb (by decide) (hB.1 17) hN hc H.size) (cwV 2 hts (TB_V tw_2550 tw_2552 ts_106 tw_15 co_X13_fail) rfl rfl rfl (by decide +kernel) ⟨Nat.le_of_ble_eq_true rfl, Nat.le_of_ble_eq_true rfl⟩) (preV (q0 := 0) (ci := 13) rfl xT_bl hP hK hNb hD rfl rfl xT_at) rfl rfl hl.1 rfl (lv_room (Nat.le_of_ble_eq_true rfl)) dX13_next_65 ⟨Nat.le_of_ble_eq_true rfl, Nat.le_of_ble_eq_true rfl⟩) hP hD hS hA (fun τ32 H locs hN hf hq hP hD hS => ?_)
            replace hw := hw τ32 hN hf hq
            have hF : f_r [16, 17, 18, 19, 20, 21] [] [] σ τ32 := f_t hF hf (by decide) (by decide) (by decide)
            have hB := hN
            refine lv_goto (tgt := 2) hx hb dX13_next_68 (by decide) ?_
            exact (hP2 _ _).mp hw (by decide) hN hF H locs ls hP hD hS (lv_sub hl [1, 0] rfl)
        ·
          replace hw := hw.2 c25
          refine lv_aload_n hx hb dX13_next_30 rfl (lv_at hl 1 rfl) ?_
          obtain ⟨Q33, hc, hw⟩ := hw
          refine wc_V (X := MX g q lb) (va_runV (As := []) (rest := []) ⟨hx, hb, hml, hown, hts⟩ (L_X13_skipComment l g q lb hlb  hN hc H.size) (cwV 0 hts (TB_V tw_2558 tw_2560 ts_108 tw_15 co_X13_skipComment) rfl rfl rfl (by decide +kernel) ⟨Nat.le_of_ble_eq_true rfl, Nat.le_of_ble_eq_true rfl⟩) (preV (q0 := 0) (ci := 13) rfl xT_bl hP hK hNb hD rfl rfl xT_at) rfl rfl hl.1 rfl (lv_room (Nat.le_of_ble_eq_true rfl)) dX13_next_31 ⟨Nat.le_of_ble_eq_true rfl, Nat.le_of_ble_eq_true rfl⟩) hP hD hS hA (fun τ35 H locs hN hf hq hP hD hS => ?_)
          replace hw := hw τ35 hN hf hq
          have hF : f_r [16, 17, 18, 19, 20, 21] [] [] σ τ35 := f_t hF hf (by decide) (by decide) (by decide)
          have hB := hN
          refine lv_aload_n hx hb dX13_next_34 rfl (lv_at hl 1 rfl) ?_
          refine gfX13_fault hx hb hts hK hP hown (hts _ tw_2065) (x := τ35.1 20) rfl dX13_next_35 ?_
          refine bi_if_ne (tgt := 45) hx hb (hB.1 20) dX13_next_38 (by decide) (fun c36 => ?_) (fun c36 => ?_)
          ·
            replace hw := hw.1 c36
            refine lv_iconst (v := I 0) hx hb dX13_next_45 rfl ?_
            refine lv_istore_n (lv' := [(1, .int (I 0)), (0, .ref (q 0))]) hx hb dX13_next_46 rfl hl (by decide) rfl (fun ls hl => ?_)
            refine lv_goto (tgt := 2) hx hb dX13_next_47 (by decide) ?_
            exact (hP2 _ _).mp hw (by decide) hN hF H locs ls hP hD hS (lv_sub hl [1, 0] rfl)
          ·
            replace hw := hw.2 c36
            refine lv_iconst (v := I 1) hx hb dX13_next_41 rfl ?_
            refine lv_goto (tgt := 46) hx hb dX13_next_42 (by decide) ?_
            refine lv_istore_n (lv' := [(1, .int (I 1)), (0, .ref (q 0))]) hx hb dX13_next_46 rfl hl (by decide) rfl (fun ls hl => ?_)
            refine lv_goto (tgt := 2) hx hb dX13_next_47 (by decide) ?_
            exact (hP2 _ _).mp hw (by decide) hN hF H locs ls hP hD hS (lv_sub hl [1, 0] rfl)
      ·
        replace hw := hw.2 c21
        refine lv_aload_n hx hb dX13_next_15 rfl (lv_at hl 1 rfl) ?_
        refine lv_iconst (v := I 0) hx hb dX13_next_16 rfl ?_
        refine pfX13_token hx hb hts hK hP hD hS hown (hts _ tw_2064) dX13_next_17 (fun H locs hP hD hS => ?_)
        have hN : n_m (s_v τ20 19 0) := n_v (i := 19) hN ((by decide) : rg 0)
        have hF : f_r [16, 17, 18, 19, 20, 21] [] [] σ (s_v τ20 19 0) := f_v hF (by decide)
        exact xrv hx hb hr hlk hP hK hD hS ⟨_, hN, hF, rfl, hw⟩ (Nat.le_of_ble_eq_true rfl) (Nat.le_of_ble_eq_true rfl) dX13_next_20
  ·
    intro k1 τ hw
    refine (hP153 _ _).mpr ?_
    intro r_k1 hN hF H locs ls hP hD hS hl
    have hB := hN
    refine pfX13_token hx hb hts hK hP hD hS hown (hts _ tw_2064) dX13_next_153 (fun H locs hP hD hS => ?_)
    have hN : n_m (s_v τ 19 k1) := n_v (i := 19) hN (r_k1 : rg k1)
    have hF : f_r [16, 17, 18, 19, 20, 21] [] [] σ (s_v τ 19 k1) := f_v hF (by decide)
    refine lv_aload_n hx hb dX13_next_156 rfl (lv_at hl 0 rfl) ?_
    refine gfX13_token hx hb hts hK hP hown (hts _ tw_2064) (x := k1) rfl dX13_next_157 ?_
    refine lv_iconst (v := I (-1)) hx hb dX13_next_160 rfl ?_
    refine bi_icmp_ne (tgt := 173) hx hb r_k1 (by decide) dX13_next_161 (by decide) (fun c37 => ?_) (fun c37 => ?_)
    ·
      replace hw := hw.1 c37
      exact xrv hx hb hr hlk hP hK hD hS ⟨_, hN, hF, rfl, hw⟩ (Nat.le_of_ble_eq_true rfl) (Nat.le_of_ble_eq_true rfl) dX13_next_173
    ·
      replace hw := hw.2 c37
      refine lv_aload_n hx hb dX13_next_164 rfl (lv_at hl 0 rfl) ?_
      refine lv_iconst (v := I 3) hx hb dX13_next_165 rfl ?_
      refine lv_aload_n hx hb dX13_next_166 rfl (lv_at hl 0 rfl) ?_
      refine gfX13_tokenAt hx hb hts hK hP hown (hts _ tw_2062) (x := τ.1 17) rfl dX13_next_167 ?_
      obtain ⟨Q38, hc, hw⟩ := hw
      refine wc_V (X := MX g q lb) (va_runV (As := [.int (I 3), .int (I (τ.1 17))]) (rest := []) ⟨hx, hb, hml, hown, hts⟩ (L_X13_fail l g q lb hlb (by decide) (hB.1 17) hN hc H.size) (cwV 2 hts (TB_V tw_2550 tw_2552 ts_106 tw_15 co_X13_fail) rfl rfl rfl (by decide +kernel) ⟨Nat.le_of_ble_eq_true rfl, Nat.le_of_ble_eq_true rfl⟩) (preV (q0 := 0) (ci := 13) rfl xT_bl hP hK hNb hD rfl rfl xT_at) rfl rfl hl.1 rfl (lv_room (Nat.le_of_ble_eq_true rfl)) dX13_next_170 ⟨Nat.le_of_ble_eq_true rfl, Nat.le_of_ble_eq_true rfl⟩) hP hD hS hA (fun τ40 H locs hN hf hq hP hD hS => ?_)
      replace hw := hw τ40 hN hf hq
      have hF : f_r [16, 17, 18, 19, 20, 21] [] [] σ τ40 := f_t hF hf (by decide) (by decide) (by decide)
      have hB := hN
      exact xrv hx hb hr hlk hP hK hD hS ⟨_, hN, hF, rfl, hw⟩ (Nat.le_of_ble_eq_true rfl) (Nat.le_of_ble_eq_true rfl) dX13_next_173
def W_X13_failHere (n1 : Int) (σ : S0) (Q : S0 → Prop) : Prop :=
  ∀ (P20 : Int → Int → S0 → Prop),
  (∀ (k1 : Int) (k2 : Int) (τ : S0), (∃ (Q2 : S0 → Prop), W_X13_fail k1 k2 τ Q2 ∧ ∀ (τ4 : S0), n_m τ4 → f_r [20, 21] [] [] τ τ4 → Q2 τ4 → (Q τ4)) → P20 k1 k2 τ) →
  (¬ σ.1 19 = 0 → P20 n1 (σ.1 17) σ) ∧ (σ.1 19 = 0 → P20 n1 (σ.1 0) σ)
set_option maxRecDepth 100000 in
set_option maxHeartbeats 4000000 in
theorem L_X13_failHere (l : Launch) (g : gG) (q : Nat → Nat) (lb : Nat) (hlb : lb < 2 ^ 31) {n1 : Int} {σ : S0} {Q : S0 → Prop} (r_n1 : rg n1) (hN : n_m σ) (hw : W_X13_failHere n1 σ Q) (sz : Nat) : MetV l yX13_failHere cX13_failHere 2 { frames := 1, cells := 0, slots := 0, locals := 22 } g [.ref (q 0), .int (I n1)] (MX g q lb σ) sz xT (p_V (MX g q lb) [20, 21] [] [] σ Q) 0 0 := by
  refine mkMet (Qc := fun A => QV g A (p_V (MX g q lb) [20, 21] [] [] σ Q)) (by decide) (Nat.le_of_ble_eq_true rfl) ?_
  intro p e s m below meth c A H ls hx hb hr hml hown hts hlk hnm hsz hP hK hNb hD hA hAe hS hX hl
  have hl : lv_has ls 2 [(0, .ref (q 0)), (1, .int (I n1))] := hl
  have hB := hN
  have hF : f_r [20, 21] [] [] σ σ := f_0
  obtain ⟨locs, hlocs⟩ : ∃ z : List Loc, z = [] := ⟨_, rfl⟩
  rw [← hlocs] at hS ⊢
  obtain ⟨P20, hP20⟩ : ∃ P : Int → Int → S0 → Prop, ∀ (k1 : Int) (k2 : Int) (τ : S0), (P k1 k2 τ ↔ (rg k1 → rg k2 → n_m τ → f_r [20, 21] [] [] σ τ → ∀ (H : Heap) (locs : List Loc) (ls : Array Slot), KP g (MX g q lb τ) H → va_D A (MX g q lb τ) → va_S A s.heap H locs → lv_has ls 2 [] → W p l e ({ frames := 1, cells := 0, slots := 0, locals := 22 }) s m [.ref (q 0), .int (I n1)].toArray below meth c H locs 0 0 (MQ below (QV g A (p_V (MX g q lb) [20, 21] [] [] σ Q)) [.ref (q 0), .int (I n1)].toArray s 0 0 A) (F0 m 20 ls [.int (I k2), .int (I k1), .ref (q 0)]))) := ⟨_, fun _ _ _ => Iff.rfl⟩
  refine (fun hw => ?_) (hw P20 ?_)
  ·
    refine lv_aload_n hx hb dX13_failHere_0 rfl (lv_at hl 0 rfl) ?_
    refine lv_iload_n hx hb dX13_failHere_1 rfl (lv_at hl 1 rfl) ?_
    refine lv_aload_n hx hb dX13_failHere_2 rfl (lv_at hl 0 rfl) ?_
    refine gfX13_token hx hb hts hK hP hown (hts _ tw_2064) (x := σ.1 19) rfl dX13_failHere_3 ?_
    refine bi_if_ne (tgt := 16) hx hb (hB.1 19) dX13_failHere_6 (by decide) (fun c1 => ?_) (fun c1 => ?_)
    ·
      replace hw := hw.1 c1
      refine lv_aload_n hx hb dX13_failHere_16 rfl (lv_at hl 0 rfl) ?_
      refine gfX13_tokenAt hx hb hts hK hP hown (hts _ tw_2062) (x := σ.1 17) rfl dX13_failHere_17 ?_
      exact (hP20 _ _ _).mp hw r_n1 (hB.1 17) hN hF H locs ls hP hD hS (lv_sub hl [] rfl)
    ·
      replace hw := hw.2 c1
      refine lv_aload_n hx hb dX13_failHere_9 rfl (lv_at hl 0 rfl) ?_
      refine gfX13_tapeSize hx hb hts hK hP hown (hts _ tw_2007) (x := σ.1 0) rfl dX13_failHere_10 ?_
      refine lv_goto (tgt := 20) hx hb dX13_failHere_13 (by decide) ?_
      exact (hP20 _ _ _).mp hw r_n1 (hB.1 0) hN hF H locs ls hP hD hS (lv_sub hl [] rfl)
  ·
    intro k1 k2 τ hw
    refine (hP20 _ _ _).mpr ?_
    intro r_k1 r_k2 hN hF H locs ls hP hD hS hl
    have hB := hN
    obtain ⟨Q2, hc, hw⟩ := hw
    refine wc_V (X := MX g q lb) (va_runV (As := [.int (I k1), .int (I k2)]) (rest := []) ⟨hx, hb, hml, hown, hts⟩ (L_X13_fail l g q lb hlb r_k1 r_k2 hN hc H.size) (cwV 2 hts (TB_V tw_2550 tw_2552 ts_106 tw_15 co_X13_fail) rfl rfl rfl (by decide +kernel) ⟨Nat.le_of_ble_eq_true rfl, Nat.le_of_ble_eq_true rfl⟩) (preV (q0 := 0) (ci := 13) rfl xT_bl hP hK hNb hD rfl rfl xT_at) rfl rfl hl.1 rfl (lv_room (Nat.le_of_ble_eq_true rfl)) dX13_failHere_20 ⟨Nat.le_of_ble_eq_true rfl, Nat.le_of_ble_eq_true rfl⟩) hP hD hS hA (fun τ4 H locs hN hf hq hP hD hS => ?_)
    replace hw := hw τ4 hN hf hq
    have hF : f_r [20, 21] [] [] σ τ4 := f_t hF hf (by decide) (by decide) (by decide)
    have hB := hN
    exact xrv hx hb hr hlk hP hK hD hS ⟨_, hN, hF, rfl, hw⟩ (Nat.le_of_ble_eq_true rfl) (Nat.le_of_ble_eq_true rfl) dX13_failHere_23
def W_X13_spot_q1 (n1 : Int) (n2 : Int) (σ : S0) (Q : Int → Prop) : Prop :=
  ∀ (P5 : Int → Int → Int → Int → Prop),
  (∀ (u1 : Int) (u2 : Int) (u3 : Int) (u4 : Int), ((u2 ≤ u4 → ∀ (x2 : Int), rg x2 → x2 = h_u u3 15 → (∀ (x3 : Int), rg x3 → x3 = h_x u3 x2 → (Q (x3 % 4096)))) ∧ (u4 < u2 → (0 ≤ (u1 + u4) ∧ (u1 + u4) < 60000) ∧ (∀ (x5 : Int), rg x5 → x5 = σ.2.1 0 (u1 + u4) → (∀ (x6 : Int), rg x6 → x6 = h_s ((31 * u3) + x5) → (rg (u4 + 1) ∧ P5 u1 u2 x6 (u4 + 1)))))) → P5 u1 u2 u3 u4) →
  P5 n1 n2 n2 0
set_option maxRecDepth 100000 in
set_option maxHeartbeats 4000000 in
theorem L_X13_spot_q1 (l : Launch) (g : gG) (q : Nat → Nat) (lb : Nat) (hlb : lb < 2 ^ 31) {n1 : Int} {n2 : Int} {σ : S0} {Q : Int → Prop} (r_n1 : rg n1) (r_n2 : rg n2) (hN : n_m σ) (hw : W_X13_spot_q1 n1 n2 σ Q) (sz : Nat) : MetI l yX13_spot cX13_spot 5 (some .int) { frames := 0, cells := 0, slots := 0, locals := 0 } g [.ref (q 1), .int (I n1), .int (I n2)] (MX g q lb σ) sz xT (p_i (MX g q lb) σ Q) 0 0 := by
  refine mkMet (Qc := fun A => QI g A (p_i (MX g q lb) σ Q)) (by decide) (Nat.le_of_ble_eq_true rfl) ?_
  intro p e s m below meth c A H ls hx hb hr hml hown hts hlk hnm hsz hP hK hNb hD hA hAe hS hX hl
  have hl : lv_has ls 5 [(0, .ref (q 1)), (1, .int (I n1)), (2, .int (I n2))] := hl
  have hB := hN
  obtain ⟨locs, hlocs⟩ : ∃ z : List Loc, z = [] := ⟨_, rfl⟩
  rw [← hlocs] at hS ⊢
  obtain ⟨P5, hP5⟩ : ∃ P : Int → Int → Int → Int → Prop, ∀ (u1 : Int) (u2 : Int) (u3 : Int) (u4 : Int), (P u1 u2 u3 u4 ↔ (rg u1 → rg u2 → rg u3 → rg u4 → ∀ (H : Heap) (locs : List Loc) (ls : Array Slot), KP g (MX g q lb σ) H → va_D A (MX g q lb σ) → va_S A s.heap H locs → lv_has ls 5 [(0, .ref (q 1)), (1, .int (I u1)), (2, .int (I u2)), (3, .int (I u3)), (4, .int (I u4))] → W p l e ({ frames := 0, cells := 0, slots := 0, locals := 0 }) s m [.ref (q 1), .int (I n1), .int (I n2)].toArray below meth c H locs 0 0 (MQ below (QI g A (p_i (MX g q lb) σ Q)) [.ref (q 1), .int (I n1), .int (I n2)].toArray s 0 0 A) (F0 m 5 ls []))) := ⟨_, fun _ _ _ _ => Iff.rfl⟩
  refine (fun hw => ?_) (hw P5 ?_)
  ·
    refine lv_iload_n hx hb dX13_spot_0 rfl (lv_at hl 2 rfl) ?_
    refine lv_istore_n (lv' := [(3, .int (I n2)), (0, .ref (q 1)), (1, .int (I n1)), (2, .int (I n2))]) hx hb dX13_spot_1 rfl hl (by decide) rfl (fun ls hl => ?_)
    refine lv_iconst (v := I 0) hx hb dX13_spot_2 rfl ?_
    refine lv_istore (lv' := [(4, .int (I 0)), (3, .int (I n2)), (0, .ref (q 1)), (1, .int (I n1)), (2, .int (I n2))]) hx hb dX13_spot_3 hl (by decide) rfl (fun ls hl => ?_)
    exact (hP5 _ _ _ _).mp hw r_n1 r_n2 r_n2 (by decide)  H locs ls hP hD hS (lv_sub hl [2, 3, 4, 1, 0] rfl)
  ·
    intro u1 u2 u3 u4 hw
    refine (hP5 _ _ _ _).mpr ?_
    intro r_u1 r_u2 r_u3 r_u4 H locs ls hP hD hS hl
    refine lv_iload hx hb dX13_spot_5 (lv_at hl 4 rfl) ?_
    refine lv_iload_n hx hb dX13_spot_7 rfl (lv_at hl 2 rfl) ?_
    refine bi_icmp_ge (tgt := 29) hx hb r_u4 r_u2 dX13_spot_8 (by decide) (fun c1 => ?_) (fun c1 => ?_)
    ·
      replace hw := hw.1 c1
      refine lv_iload_n hx hb dX13_spot_29 rfl (lv_at hl 3 rfl) ?_
      refine lv_iload_n hx hb dX13_spot_30 rfl (lv_at hl 3 rfl) ?_
      refine lv_bipush (v := I 15) hx hb dX13_spot_31 (by decide) ?_
      refine lv_iushr (v := _) hx hb dX13_spot_33 rfl ?_
      refine bi_hve (fun x2 r_x2 e_x2 => ?_)
      replace hw := hw x2 r_x2 e_x2
      refine lv_ixor hx hb dX13_spot_34 ?_
      refine bi_hve (fun x3 r_x3 e_x3 => ?_)
      replace hw := hw x3 r_x3 e_x3
      refine lv_sipush (v := I 4095) hx hb dX13_spot_35 (by decide) ?_
      refine bi_iandm hx hb 4095 12 4096 (by decide) (by decide) (by omega) dX13_spot_38 ?_
      exact xri hx hb hr hlk hP hK hD hS ⟨_, (⟨by omega, by omega⟩ : rg (x3 % 4096)), rfl, rfl, hw⟩ (Nat.le_of_ble_eq_true rfl) (Nat.le_of_ble_eq_true rfl) dX13_spot_39
    ·
      replace hw := hw.2 c1
      refine lv_bipush (v := I 31) hx hb dX13_spot_11 (by decide) ?_
      refine lv_iload_n hx hb dX13_spot_13 rfl (lv_at hl 3 rfl) ?_
      refine bi_imul hx hb dX13_spot_14 ?_
      refine lv_aload_n hx hb dX13_spot_15 rfl (lv_at hl 0 rfl) ?_
      refine lv_iload_n hx hb dX13_spot_16 rfl (lv_at hl 1 rfl) ?_
      refine lv_iload hx hb dX13_spot_17 (lv_at hl 4 rfl) ?_
      refine bi_iadd hx hb dX13_spot_19 ?_
      obtain ⟨c4, hw⟩ := hw
      refine ldMX13_tape hx hb hK hP hN c4 dX13_spot_20 (fun x5 r_x5 e_x5 => ?_)
      replace hw := hw x5 r_x5 e_x5
      refine bi_iadd hx hb dX13_spot_21 ?_
      refine bi_hve (fun x6 r_x6 e_x6 => ?_)
      replace hw := hw x6 r_x6 e_x6
      refine lv_istore_n (lv' := [(3, .int (I x6)), (0, .ref (q 1)), (1, .int (I u1)), (2, .int (I u2)), (4, .int (I u4))]) hx hb dX13_spot_22 rfl hl (by decide) rfl (fun ls hl => ?_)
      refine lv_iinc (v := I (u4 + 1)) (lv' := [(4, .int (I (u4 + 1))), (3, .int (I x6)), (0, .ref (q 1)), (1, .int (I u1)), (2, .int (I u2))]) hx hb dX13_spot_23 hl (k := 4) rfl (I_add _ _) (by decide) rfl (fun ls hl => ?_)
      refine lv_goto (tgt := 5) hx hb dX13_spot_26 (by decide) ?_
      obtain ⟨c7, hw⟩ := hw
      exact (hP5 _ _ _ _).mp hw r_u1 r_u2 r_x6 c7  H locs ls hP hD hS (lv_sub hl [2, 3, 4, 1, 0] rfl)
def W_X13_isName_q1 (n1 : Int) (n2 : Int) (n4 : Int) (n5 : Int) (σ : S0) (Q : Int → Prop) : Prop :=
  ∀ (P11 : Int → Int → Int → Int → Prop),
  (∀ (u1 : Int) (u4 : Int) (u5 : Int) (u6 : Int), ((u5 ≤ u6 → Q 1) ∧ (u6 < u5 → (0 ≤ (u1 + u6) ∧ (u1 + u6) < 30100) ∧ (∀ (x4 : Int), rg x4 → x4 = σ.2.1 1 (u1 + u6) → ((0 ≤ (u4 + u6) ∧ (u4 + u6) < 60000) ∧ (∀ (x6 : Int), rg x6 → x6 = σ.2.1 0 (u4 + u6) → ((x4 = x6 → rg (u6 + 1) ∧ P11 u1 u4 u5 (u6 + 1)) ∧ (¬ x4 = x6 → Q 0))))))) → P11 u1 u4 u5 u6) →
  (n2 = n5 → P11 n1 n4 n5 0) ∧ (¬ n2 = n5 → Q 0)
set_option maxRecDepth 100000 in
set_option maxHeartbeats 4000000 in
theorem L_X13_isName_q1 (l : Launch) (g : gG) (q : Nat → Nat) (lb : Nat) (hlb : lb < 2 ^ 31) {n1 : Int} {n2 : Int} {n4 : Int} {n5 : Int} {σ : S0} {Q : Int → Prop} (r_n1 : rg n1) (r_n2 : rg n2) (r_n4 : rg n4) (r_n5 : rg n5) (hN : n_m σ) (hw : W_X13_isName_q1 n1 n2 n4 n5 σ Q) (sz : Nat) : MetI l yX13_isName cX13_isName 7 (some .boolean) { frames := 0, cells := 0, slots := 0, locals := 0 } g [.ref (q 0), .int (I n1), .int (I n2), .ref (q 1), .int (I n4), .int (I n5)] (MX g q lb σ) sz xT (p_i (MX g q lb) σ Q) 0 0 := by
  refine mkMet (Qc := fun A => QI g A (p_i (MX g q lb) σ Q)) (by decide) (Nat.le_of_ble_eq_true rfl) ?_
  intro p e s m below meth c A H ls hx hb hr hml hown hts hlk hnm hsz hP hK hNb hD hA hAe hS hX hl
  have hl : lv_has ls 7 [(0, .ref (q 0)), (1, .int (I n1)), (2, .int (I n2)), (3, .ref (q 1)), (4, .int (I n4)), (5, .int (I n5))] := hl
  have hB := hN
  obtain ⟨locs, hlocs⟩ : ∃ z : List Loc, z = [] := ⟨_, rfl⟩
  rw [← hlocs] at hS ⊢
  obtain ⟨P11, hP11⟩ : ∃ P : Int → Int → Int → Int → Prop, ∀ (u1 : Int) (u4 : Int) (u5 : Int) (u6 : Int), (P u1 u4 u5 u6 ↔ (rg u1 → rg u4 → rg u5 → rg u6 → ∀ (H : Heap) (locs : List Loc) (ls : Array Slot), KP g (MX g q lb σ) H → va_D A (MX g q lb σ) → va_S A s.heap H locs → lv_has ls 7 [(0, .ref (q 0)), (1, .int (I u1)), (3, .ref (q 1)), (4, .int (I u4)), (5, .int (I u5)), (6, .int (I u6))] → W p l e ({ frames := 0, cells := 0, slots := 0, locals := 0 }) s m [.ref (q 0), .int (I n1), .int (I n2), .ref (q 1), .int (I n4), .int (I n5)].toArray below meth c H locs 0 0 (MQ below (QI g A (p_i (MX g q lb) σ Q)) [.ref (q 0), .int (I n1), .int (I n2), .ref (q 1), .int (I n4), .int (I n5)].toArray s 0 0 A) (F0 m 11 ls []))) := ⟨_, fun _ _ _ _ => Iff.rfl⟩
  refine (fun hw => ?_) (hw P11 ?_)
  ·
    refine lv_iload_n hx hb dX13_isName_0 rfl (lv_at hl 2 rfl) ?_
    refine lv_iload hx hb dX13_isName_1 (lv_at hl 5 rfl) ?_
    refine bi_icmp_eq (tgt := 8) hx hb r_n2 r_n5 dX13_isName_3 (by decide) (fun c1 => ?_) (fun c1 => ?_)
    ·
      replace hw := hw.1 c1
      refine lv_iconst (v := I 0) hx hb dX13_isName_8 rfl ?_
      refine lv_istore (lv' := [(6, .int (I 0)), (0, .ref (q 0)), (1, .int (I n1)), (2, .int (I n2)), (3, .ref (q 1)), (4, .int (I n4)), (5, .int (I n5))]) hx hb dX13_isName_9 hl (by decide) rfl (fun ls hl => ?_)
      exact (hP11 _ _ _ _).mp hw r_n1 r_n4 r_n5 (by decide)  H locs ls hP hD hS (lv_sub hl [1, 2, 4, 5, 6, 0] rfl)
    ·
      replace hw := hw.2 c1
      refine lv_iconst (v := I 0) hx hb dX13_isName_6 rfl ?_
      exact xrz hx hb hr (by decide) hlk hP hK hD hS ⟨_, (by decide), rfl, rfl, hw⟩ (Nat.le_of_ble_eq_true rfl) (Nat.le_of_ble_eq_true rfl) dX13_isName_7
  ·
    intro u1 u4 u5 u6 hw
    refine (hP11 _ _ _ _).mpr ?_
    intro r_u1 r_u4 r_u5 r_u6 H locs ls hP hD hS hl
    refine lv_iload hx hb dX13_isName_11 (lv_at hl 5 rfl) ?_
    refine lv_iload hx hb dX13_isName_13 (lv_at hl 4 rfl) ?_
    refine bi_icmp_ge (tgt := 45) hx hb r_u6 r_u5 dX13_isName_15 (by decide) (fun c2 => ?_) (fun c2 => ?_)
    ·
      replace hw := hw.1 c2
      refine lv_iconst (v := I 1) hx hb dX13_isName_45 rfl ?_
      exact xrz hx hb hr (by decide) hlk hP hK hD hS ⟨_, (by decide), rfl, rfl, hw⟩ (Nat.le_of_ble_eq_true rfl) (Nat.le_of_ble_eq_true rfl) dX13_isName_46
    ·
      replace hw := hw.2 c2
      refine lv_aload_n hx hb dX13_isName_18 rfl (lv_at hl 0 rfl) ?_
      refine gfX13_chars hx hb hts hK hP hown (hts _ tw_2009) dX13_isName_19 ?_
      refine lv_iload_n hx hb dX13_isName_22 rfl (lv_at hl 1 rfl) ?_
      refine lv_iload hx hb dX13_isName_23 (lv_at hl 5 rfl) ?_
      refine bi_iadd hx hb dX13_isName_25 ?_
      obtain ⟨c3, hw⟩ := hw
      refine ldMX13_chars hx hb hK hP hN c3 dX13_isName_26 (fun x4 r_x4 e_x4 => ?_)
      replace hw := hw x4 r_x4 e_x4
      refine lv_aload_n hx hb dX13_isName_27 rfl (lv_at hl 2 rfl) ?_
      refine lv_iload hx hb dX13_isName_28 (lv_at hl 3 rfl) ?_
      refine lv_iload hx hb dX13_isName_30 (lv_at hl 5 rfl) ?_
      refine bi_iadd hx hb dX13_isName_32 ?_
      obtain ⟨c5, hw⟩ := hw
      refine ldMX13_tape hx hb hK hP hN c5 dX13_isName_33 (fun x6 r_x6 e_x6 => ?_)
      replace hw := hw x6 r_x6 e_x6
      refine bi_icmp_eq (tgt := 39) hx hb r_x4 r_x6 dX13_isName_34 (by decide) (fun c7 => ?_) (fun c7 => ?_)
      ·
        replace hw := hw.1 c7
        refine lv_iinc (v := I (u6 + 1)) (lv' := [(6, .int (I (u6 + 1))), (0, .ref (q 0)), (1, .int (I u1)), (3, .ref (q 1)), (4, .int (I u4)), (5, .int (I u5))]) hx hb dX13_isName_39 hl (k := 5) rfl (I_add _ _) (by decide) rfl (fun ls hl => ?_)
        refine lv_goto (tgt := 11) hx hb dX13_isName_42 (by decide) ?_
        obtain ⟨c8, hw⟩ := hw
        exact (hP11 _ _ _ _).mp hw r_u1 r_u4 r_u5 c8  H locs ls hP hD hS (lv_sub hl [1, 2, 3, 4, 5, 0] rfl)
      ·
        replace hw := hw.2 c7
        refine lv_iconst (v := I 0) hx hb dX13_isName_37 rfl ?_
        exact xrz hx hb hr (by decide) hlk hP hK hD hS ⟨_, (by decide), rfl, rfl, hw⟩ (Nat.le_of_ble_eq_true rfl) (Nat.le_of_ble_eq_true rfl) dX13_isName_38
def W_X13_findSymbol_q1 (n2 : Int) (n3 : Int) (σ : S0) (Q : Int → Prop) : Prop :=
  ∀ (P8 : Int → Int → Int → Prop),
  (∀ (u2 : Int) (u3 : Int) (u4 : Int), ((0 ≤ u4 ∧ u4 < 4096) ∧ (∀ (x5 : Int), rg x5 → x5 = σ.2.1 6 u4 → ((x5 = (-1) → Q (-1)) ∧ (¬ x5 = (-1) → ∀ (x7 : Int), rg x7 → x7 = σ.2.1 6 u4 → ((0 ≤ x7 ∧ x7 < 1001) ∧ (∀ (x9 : Int), rg x9 → x9 = σ.2.1 2 x7 → (∀ (x10 : Int), rg x10 → x10 = σ.2.1 3 x7 → (∃ (Q11 : Int → Prop), W_X13_isName_q1 x9 x10 u2 u3 σ Q11 ∧ ∀ (x12 : Int), rg x12 → Q11 x12 → ((x12 = 0 → P8 u2 u3 ((u4 + 1) % 4096)) ∧ (¬ x12 = 0 → Q x7)))))))))) → P8 u2 u3 u4) →
  ∃ (Q1 : Int → Prop), W_X13_spot_q1 n2 n3 σ Q1 ∧ ∀ (x2 : Int), rg x2 → Q1 x2 → (P8 n2 n3 x2)
set_option maxRecDepth 100000 in
set_option maxHeartbeats 4000000 in
theorem L_X13_findSymbol_q1 (l : Launch) (g : gG) (q : Nat → Nat) (lb : Nat) (hlb : lb < 2 ^ 31) {n2 : Int} {n3 : Int} {σ : S0} {Q : Int → Prop} (r_n2 : rg n2) (r_n3 : rg n3) (hN : n_m σ) (hw : W_X13_findSymbol_q1 n2 n3 σ Q) (sz : Nat) : MetI l yX13_findSymbol cX13_findSymbol 6 (some .int) { frames := 1, cells := 0, slots := 0, locals := 26 } g [.ref (q 0), .ref (q 1), .int (I n2), .int (I n3)] (MX g q lb σ) sz xT (p_i (MX g q lb) σ Q) 0 0 := by
  refine mkMet (Qc := fun A => QI g A (p_i (MX g q lb) σ Q)) (by decide) (Nat.le_of_ble_eq_true rfl) ?_
  intro p e s m below meth c A H ls hx hb hr hml hown hts hlk hnm hsz hP hK hNb hD hA hAe hS hX hl
  have hl : lv_has ls 6 [(0, .ref (q 0)), (1, .ref (q 1)), (2, .int (I n2)), (3, .int (I n3))] := hl
  have hB := hN
  obtain ⟨locs, hlocs⟩ : ∃ z : List Loc, z = [] := ⟨_, rfl⟩
  rw [← hlocs] at hS ⊢
  obtain ⟨P8, hP8⟩ : ∃ P : Int → Int → Int → Prop, ∀ (u2 : Int) (u3 : Int) (u4 : Int), (P u2 u3 u4 ↔ (rg u2 → rg u3 → rg u4 → ∀ (H : Heap) (locs : List Loc) (ls : Array Slot), KP g (MX g q lb σ) H → va_D A (MX g q lb σ) → va_S A s.heap H locs → lv_has ls 6 [(0, .ref (q 0)), (1, .ref (q 1)), (2, .int (I u2)), (3, .int (I u3)), (4, .int (I u4))] → W p l e ({ frames := 1, cells := 0, slots := 0, locals := 26 }) s m [.ref (q 0), .ref (q 1), .int (I n2), .int (I n3)].toArray below meth c H locs 0 0 (MQ below (QI g A (p_i (MX g q lb) σ Q)) [.ref (q 0), .ref (q 1), .int (I n2), .int (I n3)].toArray s 0 0 A) (F0 m 8 ls []))) := ⟨_, fun _ _ _ => Iff.rfl⟩
  refine (fun hw => ?_) (hw P8 ?_)
  ·
    refine lv_aload_n hx hb dX13_findSymbol_0 rfl (lv_at hl 1 rfl) ?_
    refine lv_iload_n hx hb dX13_findSymbol_1 rfl (lv_at hl 2 rfl) ?_
    refine lv_iload_n hx hb dX13_findSymbol_2 rfl (lv_at hl 3 rfl) ?_
    obtain ⟨Q1, hc, hw⟩ := hw
    refine wc_i (X := MX g q lb) (va_runS (As := [.ref (q 1), .int (I n2), .int (I n3)]) (rest := []) ⟨hx, hb, hml, hown, hts⟩ (L_X13_spot_q1 l g q lb hlb r_n2 r_n3 hN hc H.size) (cwS 3 hts (TB_S tw_2602 tw_2603 tw_15 co_X13_spot) rfl rfl rfl (by decide +kernel) ⟨Nat.le_of_ble_eq_true rfl, Nat.le_of_ble_eq_true rfl⟩) (preS xT_bl hP hK hNb hD xT_at) rfl rfl hl.1 rfl (lv_room (Nat.le_of_ble_eq_true rfl)) dX13_findSymbol_3 ⟨Nat.le_of_ble_eq_true rfl, Nat.le_of_ble_eq_true rfl⟩) hP hD hS hA (fun x2 H locs r_x2 hq hP hD hS => ?_)
    replace hw := hw x2 r_x2 hq
    refine lv_istore (lv' := [(4, .int (I x2)), (0, .ref (q 0)), (1, .ref (q 1)), (2, .int (I n2)), (3, .int (I n3))]) hx hb dX13_findSymbol_6 hl (by decide) rfl (fun ls hl => ?_)
    exact (hP8 _ _ _).mp hw r_n2 r_n3 r_x2  H locs ls hP hD hS (lv_sub hl [1, 2, 3, 4, 0] rfl)
  ·
    intro u2 u3 u4 hw
    refine (hP8 _ _ _).mpr ?_
    intro r_u2 r_u3 r_u4 H locs ls hP hD hS hl
    refine lv_aload_n hx hb dX13_findSymbol_8 rfl (lv_at hl 0 rfl) ?_
    refine gfX13_symbolTable hx hb hts hK hP hown (hts _ tw_2016) dX13_findSymbol_9 ?_
    refine lv_iload hx hb dX13_findSymbol_12 (lv_at hl 4 rfl) ?_
    obtain ⟨c4, hw⟩ := hw
    refine ldMX13_symbolTable hx hb hK hP hN c4 dX13_findSymbol_14 (fun x5 r_x5 e_x5 => ?_)
    replace hw := hw x5 r_x5 e_x5
    refine lv_iconst (v := I (-1)) hx hb dX13_findSymbol_15 rfl ?_
    refine bi_icmp_eq (tgt := 68) hx hb r_x5 (by decide) dX13_findSymbol_16 (by decide) (fun c6 => ?_) (fun c6 => ?_)
    ·
      replace hw := hw.1 c6
      refine lv_iconst (v := I (-1)) hx hb dX13_findSymbol_68 rfl ?_
      exact xri hx hb hr hlk hP hK hD hS ⟨_, (by decide), rfl, rfl, hw⟩ (Nat.le_of_ble_eq_true rfl) (Nat.le_of_ble_eq_true rfl) dX13_findSymbol_69
    ·
      replace hw := hw.2 c6
      refine lv_aload_n hx hb dX13_findSymbol_19 rfl (lv_at hl 0 rfl) ?_
      refine gfX13_symbolTable hx hb hts hK hP hown (hts _ tw_2016) dX13_findSymbol_20 ?_
      refine lv_iload hx hb dX13_findSymbol_23 (lv_at hl 4 rfl) ?_
      refine ldMX13_symbolTable hx hb hK hP hN c4 dX13_findSymbol_25 (fun x7 r_x7 e_x7 => ?_)
      replace hw := hw x7 r_x7 e_x7
      refine lv_istore (lv' := [(5, .int (I x7)), (0, .ref (q 0)), (1, .ref (q 1)), (2, .int (I u2)), (3, .int (I u3)), (4, .int (I u4))]) hx hb dX13_findSymbol_26 hl (by decide) rfl (fun ls hl => ?_)
      refine lv_aload_n hx hb dX13_findSymbol_28 rfl (lv_at hl 1 rfl) ?_
      refine lv_aload_n hx hb dX13_findSymbol_29 rfl (lv_at hl 1 rfl) ?_
      refine gfX13_symbolAt hx hb hts hK hP hown (hts _ tw_2011) dX13_findSymbol_30 ?_
      refine lv_iload hx hb dX13_findSymbol_33 (lv_at hl 0 rfl) ?_
      obtain ⟨c8, hw⟩ := hw
      refine ldMX13_symbolAt hx hb hK hP hN c8 dX13_findSymbol_35 (fun x9 r_x9 e_x9 => ?_)
      replace hw := hw x9 r_x9 e_x9
      refine lv_aload_n hx hb dX13_findSymbol_36 rfl (lv_at hl 1 rfl) ?_
      refine gfX13_symbolSize hx hb hts hK hP hown (hts _ tw_2012) dX13_findSymbol_37 ?_
      refine lv_iload hx hb dX13_findSymbol_40 (lv_at hl 0 rfl) ?_
      refine ldMX13_symbolSize hx hb hK hP hN c8 dX13_findSymbol_42 (fun x10 r_x10 e_x10 => ?_)
      replace hw := hw x10 r_x10 e_x10
      refine lv_aload_n hx hb dX13_findSymbol_43 rfl (lv_at hl 2 rfl) ?_
      refine lv_iload_n hx hb dX13_findSymbol_44 rfl (lv_at hl 3 rfl) ?_
      refine lv_iload_n hx hb dX13_findSymbol_45 rfl (lv_at hl 4 rfl) ?_
      obtain ⟨Q11, hc, hw⟩ := hw
      refine wc_i (X := MX g q lb) (va_runV (As := [.int (I x9), .int (I x10), .ref (q 1), .int (I u2), .int (I u3)]) (rest := []) ⟨hx, hb, hml, hown, hts⟩ (L_X13_isName_q1 l g q lb hlb r_x9 r_x10 r_u2 r_u3 hN hc H.size) (cwV 5 hts (TB_V tw_2605 tw_2607 ts_116 tw_15 co_X13_isName) rfl rfl rfl (by decide +kernel) ⟨Nat.le_of_ble_eq_true rfl, Nat.le_of_ble_eq_true rfl⟩) (preV (q0 := 0) (ci := 13) rfl xT_bl hP hK hNb hD rfl rfl xT_at) rfl rfl hl.1 rfl (lv_room (Nat.le_of_ble_eq_true rfl)) dX13_findSymbol_46 ⟨Nat.le_of_ble_eq_true rfl, Nat.le_of_ble_eq_true rfl⟩) hP hD hS hA (fun x12 H locs r_x12 hq hP hD hS => ?_)
      replace hw := hw x12 r_x12 hq
      refine bi_if_eq (tgt := 55) hx hb r_x12 dX13_findSymbol_49 (by decide) (fun c14 => ?_) (fun c14 => ?_)
      ·
        replace hw := hw.1 c14
        refine lv_iload hx hb dX13_findSymbol_55 (lv_at hl 5 rfl) ?_
        refine lv_iconst (v := I 1) hx hb dX13_findSymbol_57 rfl ?_
        refine bi_iadd hx hb dX13_findSymbol_58 ?_
        refine lv_sipush (v := I 4095) hx hb dX13_findSymbol_59 (by decide) ?_
        refine bi_iandm hx hb 4095 12 4096 (by decide) (by decide) (by omega) dX13_findSymbol_62 ?_
        refine lv_istore (lv' := [(4, .int (I ((u4 + 1) % 4096))), (5, .int (I x7)), (0, .ref (q 0)), (1, .ref (q 1)), (2, .int (I u2)), (3, .int (I u3))]) hx hb dX13_findSymbol_63 hl (by decide) rfl (fun ls hl => ?_)
        refine lv_goto (tgt := 8) hx hb dX13_findSymbol_65 (by decide) ?_
        exact (hP8 _ _ _).mp hw r_u2 r_u3 (⟨by omega, by omega⟩ : rg ((u4 + 1) % 4096))  H locs ls hP hD hS (lv_sub hl [2, 3, 4, 5, 0] rfl)
      ·
        replace hw := hw.2 c14
        refine lv_iload hx hb dX13_findSymbol_52 (lv_at hl 0 rfl) ?_
        exact xri hx hb hr hlk hP hK hD hS ⟨_, r_x7, rfl, rfl, hw⟩ (Nat.le_of_ble_eq_true rfl) (Nat.le_of_ble_eq_true rfl) dX13_findSymbol_54
def W_X13_symbolHere (σ : S0) (Q : Int → Prop) : Prop :=
  ∃ (Q1 : Int → Prop), W_X13_findSymbol_q1 (σ.1 17) (σ.1 18) σ Q1 ∧ ∀ (x2 : Int), rg x2 → Q1 x2 → (Q x2)
set_option maxRecDepth 100000 in
set_option maxHeartbeats 4000000 in
theorem L_X13_symbolHere (l : Launch) (g : gG) (q : Nat → Nat) (lb : Nat) (hlb : lb < 2 ^ 31) {σ : S0} {Q : Int → Prop} (hN : n_m σ) (hw : W_X13_symbolHere σ Q) (sz : Nat) : MetI l yX13_symbolHere cX13_symbolHere 1 (some .int) { frames := 2, cells := 0, slots := 0, locals := 51 } g [.ref (q 0)] (MX g q lb σ) sz xT (p_i (MX g q lb) σ Q) 0 0 := by
  refine mkMet (Qc := fun A => QI g A (p_i (MX g q lb) σ Q)) (by decide) (Nat.le_of_ble_eq_true rfl) ?_
  intro p e s m below meth c A H ls hx hb hr hml hown hts hlk hnm hsz hP hK hNb hD hA hAe hS hX hl
  have hl : lv_has ls 1 [(0, .ref (q 0))] := hl
  have hB := hN
  obtain ⟨locs, hlocs⟩ : ∃ z : List Loc, z = [] := ⟨_, rfl⟩
  rw [← hlocs] at hS ⊢
  refine lv_aload_n hx hb dX13_symbolHere_0 rfl (lv_at hl 0 rfl) ?_
  refine lv_aload_n hx hb dX13_symbolHere_1 rfl (lv_at hl 0 rfl) ?_
  refine gfX13_tape hx hb hts hK hP hown (hts _ tw_2006) dX13_symbolHere_2 ?_
  refine lv_aload_n hx hb dX13_symbolHere_5 rfl (lv_at hl 0 rfl) ?_
  refine gfX13_tokenAt hx hb hts hK hP hown (hts _ tw_2062) (x := σ.1 17) rfl dX13_symbolHere_6 ?_
  refine lv_aload_n hx hb dX13_symbolHere_9 rfl (lv_at hl 0 rfl) ?_
  refine gfX13_tokenSize hx hb hts hK hP hown (hts _ tw_2063) (x := σ.1 18) rfl dX13_symbolHere_10 ?_
  obtain ⟨Q1, hc, hw⟩ := hw
  refine wc_i (X := MX g q lb) (va_runV (As := [.ref (q 1), .int (I (σ.1 17)), .int (I (σ.1 18))]) (rest := []) ⟨hx, hb, hml, hown, hts⟩ (L_X13_findSymbol_q1 l g q lb hlb (hB.1 17) (hB.1 18) hN hc H.size) (cwV 3 hts (TB_V tw_2613 tw_2615 ts_118 tw_15 co_X13_findSymbol) rfl rfl rfl (by decide +kernel) ⟨Nat.le_of_ble_eq_true rfl, Nat.le_of_ble_eq_true rfl⟩) (preV (q0 := 0) (ci := 13) rfl xT_bl hP hK hNb hD rfl rfl xT_at) rfl rfl hl.1 rfl (lv_room (Nat.le_of_ble_eq_true rfl)) dX13_symbolHere_13 ⟨Nat.le_of_ble_eq_true rfl, Nat.le_of_ble_eq_true rfl⟩) hP hD hS hA (fun x2 H locs r_x2 hq hP hD hS => ?_)
  replace hw := hw x2 r_x2 hq
  exact xri hx hb hr hlk hP hK hD hS ⟨_, r_x2, rfl, rfl, hw⟩ (Nat.le_of_ble_eq_true rfl) (Nat.le_of_ble_eq_true rfl) dX13_symbolHere_16
def W_X13_findLabel_q1 (n2 : Int) (n3 : Int) (σ : S0) (Q : Int → Prop) : Prop :=
  ∀ (P8 : Int → Int → Int → Prop),
  (∀ (u2 : Int) (u3 : Int) (u4 : Int), ((0 ≤ u4 ∧ u4 < 4096) ∧ (∀ (x5 : Int), rg x5 → x5 = σ.2.1 7 u4 → ((x5 = (-1) → Q (-1)) ∧ (¬ x5 = (-1) → ∀ (x7 : Int), rg x7 → x7 = σ.2.1 7 u4 → ((0 ≤ x7 ∧ x7 < 1501) ∧ (∀ (x9 : Int), rg x9 → x9 = σ.2.1 4 x7 → (∀ (x10 : Int), rg x10 → x10 = σ.2.1 5 x7 → (∃ (Q11 : Int → Prop), W_X13_isName_q1 x9 x10 u2 u3 σ Q11 ∧ ∀ (x12 : Int), rg x12 → Q11 x12 → ((x12 = 0 → P8 u2 u3 ((u4 + 1) % 4096)) ∧ (¬ x12 = 0 → Q x7)))))))))) → P8 u2 u3 u4) →
  ∃ (Q1 : Int → Prop), W_X13_spot_q1 n2 n3 σ Q1 ∧ ∀ (x2 : Int), rg x2 → Q1 x2 → (P8 n2 n3 x2)
set_option maxRecDepth 100000 in
set_option maxHeartbeats 4000000 in
theorem L_X13_findLabel_q1 (l : Launch) (g : gG) (q : Nat → Nat) (lb : Nat) (hlb : lb < 2 ^ 31) {n2 : Int} {n3 : Int} {σ : S0} {Q : Int → Prop} (r_n2 : rg n2) (r_n3 : rg n3) (hN : n_m σ) (hw : W_X13_findLabel_q1 n2 n3 σ Q) (sz : Nat) : MetI l yX13_findLabel cX13_findLabel 6 (some .int) { frames := 1, cells := 0, slots := 0, locals := 26 } g [.ref (q 0), .ref (q 1), .int (I n2), .int (I n3)] (MX g q lb σ) sz xT (p_i (MX g q lb) σ Q) 0 0 := by
  refine mkMet (Qc := fun A => QI g A (p_i (MX g q lb) σ Q)) (by decide) (Nat.le_of_ble_eq_true rfl) ?_
  intro p e s m below meth c A H ls hx hb hr hml hown hts hlk hnm hsz hP hK hNb hD hA hAe hS hX hl
  have hl : lv_has ls 6 [(0, .ref (q 0)), (1, .ref (q 1)), (2, .int (I n2)), (3, .int (I n3))] := hl
  have hB := hN
  obtain ⟨locs, hlocs⟩ : ∃ z : List Loc, z = [] := ⟨_, rfl⟩
  rw [← hlocs] at hS ⊢
  obtain ⟨P8, hP8⟩ : ∃ P : Int → Int → Int → Prop, ∀ (u2 : Int) (u3 : Int) (u4 : Int), (P u2 u3 u4 ↔ (rg u2 → rg u3 → rg u4 → ∀ (H : Heap) (locs : List Loc) (ls : Array Slot), KP g (MX g q lb σ) H → va_D A (MX g q lb σ) → va_S A s.heap H locs → lv_has ls 6 [(0, .ref (q 0)), (1, .ref (q 1)), (2, .int (I u2)), (3, .int (I u3)), (4, .int (I u4))] → W p l e ({ frames := 1, cells := 0, slots := 0, locals := 26 }) s m [.ref (q 0), .ref (q 1), .int (I n2), .int (I n3)].toArray below meth c H locs 0 0 (MQ below (QI g A (p_i (MX g q lb) σ Q)) [.ref (q 0), .ref (q 1), .int (I n2), .int (I n3)].toArray s 0 0 A) (F0 m 8 ls []))) := ⟨_, fun _ _ _ => Iff.rfl⟩
  refine (fun hw => ?_) (hw P8 ?_)
  ·
    refine lv_aload_n hx hb dX13_findLabel_0 rfl (lv_at hl 1 rfl) ?_
    refine lv_iload_n hx hb dX13_findLabel_1 rfl (lv_at hl 2 rfl) ?_
    refine lv_iload_n hx hb dX13_findLabel_2 rfl (lv_at hl 3 rfl) ?_
    obtain ⟨Q1, hc, hw⟩ := hw
    refine wc_i (X := MX g q lb) (va_runS (As := [.ref (q 1), .int (I n2), .int (I n3)]) (rest := []) ⟨hx, hb, hml, hown, hts⟩ (L_X13_spot_q1 l g q lb hlb r_n2 r_n3 hN hc H.size) (cwS 3 hts (TB_S tw_2602 tw_2603 tw_15 co_X13_spot) rfl rfl rfl (by decide +kernel) ⟨Nat.le_of_ble_eq_true rfl, Nat.le_of_ble_eq_true rfl⟩) (preS xT_bl hP hK hNb hD xT_at) rfl rfl hl.1 rfl (lv_room (Nat.le_of_ble_eq_true rfl)) dX13_findLabel_3 ⟨Nat.le_of_ble_eq_true rfl, Nat.le_of_ble_eq_true rfl⟩) hP hD hS hA (fun x2 H locs r_x2 hq hP hD hS => ?_)
    replace hw := hw x2 r_x2 hq
    refine lv_istore (lv' := [(4, .int (I x2)), (0, .ref (q 0)), (1, .ref (q 1)), (2, .int (I n2)), (3, .int (I n3))]) hx hb dX13_findLabel_6 hl (by decide) rfl (fun ls hl => ?_)
    exact (hP8 _ _ _).mp hw r_n2 r_n3 r_x2  H locs ls hP hD hS (lv_sub hl [1, 2, 3, 4, 0] rfl)
  ·
    intro u2 u3 u4 hw
    refine (hP8 _ _ _).mpr ?_
    intro r_u2 r_u3 r_u4 H locs ls hP hD hS hl
    refine lv_aload_n hx hb dX13_findLabel_8 rfl (lv_at hl 0 rfl) ?_
    refine gfX13_labelTable hx hb hts hK hP hown (hts _ tw_2017) dX13_findLabel_9 ?_
    refine lv_iload hx hb dX13_findLabel_12 (lv_at hl 4 rfl) ?_
    obtain ⟨c4, hw⟩ := hw
    refine ldMX13_labelTable hx hb hK hP hN c4 dX13_findLabel_14 (fun x5 r_x5 e_x5 => ?_)
    replace hw := hw x5 r_x5 e_x5
    refine lv_iconst (v := I (-1)) hx hb dX13_findLabel_15 rfl ?_
    refine bi_icmp_eq (tgt := 68) hx hb r_x5 (by decide) dX13_findLabel_16 (by decide) (fun c6 => ?_) (fun c6 => ?_)
    ·
      replace hw := hw.1 c6
      refine lv_iconst (v := I (-1)) hx hb dX13_findLabel_68 rfl ?_
      exact xri hx hb hr hlk hP hK hD hS ⟨_, (by decide), rfl, rfl, hw⟩ (Nat.le_of_ble_eq_true rfl) (Nat.le_of_ble_eq_true rfl) dX13_findLabel_69
    ·
      replace hw := hw.2 c6
      refine lv_aload_n hx hb dX13_findLabel_19 rfl (lv_at hl 0 rfl) ?_
      refine gfX13_labelTable hx hb hts hK hP hown (hts _ tw_2017) dX13_findLabel_20 ?_
      refine lv_iload hx hb dX13_findLabel_23 (lv_at hl 4 rfl) ?_
      refine ldMX13_labelTable hx hb hK hP hN c4 dX13_findLabel_25 (fun x7 r_x7 e_x7 => ?_)
      replace hw := hw x7 r_x7 e_x7
      refine lv_istore (lv' := [(5, .int (I x7)), (0, .ref (q 0)), (1, .ref (q 1)), (2, .int (I u2)), (3, .int (I u3)), (4, .int (I u4))]) hx hb dX13_findLabel_26 hl (by decide) rfl (fun ls hl => ?_)
      refine lv_aload_n hx hb dX13_findLabel_28 rfl (lv_at hl 1 rfl) ?_
      refine lv_aload_n hx hb dX13_findLabel_29 rfl (lv_at hl 1 rfl) ?_
      refine gfX13_labelAt hx hb hts hK hP hown (hts _ tw_2014) dX13_findLabel_30 ?_
      refine lv_iload hx hb dX13_findLabel_33 (lv_at hl 0 rfl) ?_
      obtain ⟨c8, hw⟩ := hw
      refine ldMX13_labelAt hx hb hK hP hN c8 dX13_findLabel_35 (fun x9 r_x9 e_x9 => ?_)
      replace hw := hw x9 r_x9 e_x9
      refine lv_aload_n hx hb dX13_findLabel_36 rfl (lv_at hl 1 rfl) ?_
      refine gfX13_labelSize hx hb hts hK hP hown (hts _ tw_2015) dX13_findLabel_37 ?_
      refine lv_iload hx hb dX13_findLabel_40 (lv_at hl 0 rfl) ?_
      refine ldMX13_labelSize hx hb hK hP hN c8 dX13_findLabel_42 (fun x10 r_x10 e_x10 => ?_)
      replace hw := hw x10 r_x10 e_x10
      refine lv_aload_n hx hb dX13_findLabel_43 rfl (lv_at hl 2 rfl) ?_
      refine lv_iload_n hx hb dX13_findLabel_44 rfl (lv_at hl 3 rfl) ?_
      refine lv_iload_n hx hb dX13_findLabel_45 rfl (lv_at hl 4 rfl) ?_
      obtain ⟨Q11, hc, hw⟩ := hw
      refine wc_i (X := MX g q lb) (va_runV (As := [.int (I x9), .int (I x10), .ref (q 1), .int (I u2), .int (I u3)]) (rest := []) ⟨hx, hb, hml, hown, hts⟩ (L_X13_isName_q1 l g q lb hlb r_x9 r_x10 r_u2 r_u3 hN hc H.size) (cwV 5 hts (TB_V tw_2605 tw_2607 ts_116 tw_15 co_X13_isName) rfl rfl rfl (by decide +kernel) ⟨Nat.le_of_ble_eq_true rfl, Nat.le_of_ble_eq_true rfl⟩) (preV (q0 := 0) (ci := 13) rfl xT_bl hP hK hNb hD rfl rfl xT_at) rfl rfl hl.1 rfl (lv_room (Nat.le_of_ble_eq_true rfl)) dX13_findLabel_46 ⟨Nat.le_of_ble_eq_true rfl, Nat.le_of_ble_eq_true rfl⟩) hP hD hS hA (fun x12 H locs r_x12 hq hP hD hS => ?_)
      replace hw := hw x12 r_x12 hq
      refine bi_if_eq (tgt := 55) hx hb r_x12 dX13_findLabel_49 (by decide) (fun c14 => ?_) (fun c14 => ?_)
      ·
        replace hw := hw.1 c14
        refine lv_iload hx hb dX13_findLabel_55 (lv_at hl 5 rfl) ?_
        refine lv_iconst (v := I 1) hx hb dX13_findLabel_57 rfl ?_
        refine bi_iadd hx hb dX13_findLabel_58 ?_
        refine lv_sipush (v := I 4095) hx hb dX13_findLabel_59 (by decide) ?_
        refine bi_iandm hx hb 4095 12 4096 (by decide) (by decide) (by omega) dX13_findLabel_62 ?_
        refine lv_istore (lv' := [(4, .int (I ((u4 + 1) % 4096))), (5, .int (I x7)), (0, .ref (q 0)), (1, .ref (q 1)), (2, .int (I u2)), (3, .int (I u3))]) hx hb dX13_findLabel_63 hl (by decide) rfl (fun ls hl => ?_)
        refine lv_goto (tgt := 8) hx hb dX13_findLabel_65 (by decide) ?_
        exact (hP8 _ _ _).mp hw r_u2 r_u3 (⟨by omega, by omega⟩ : rg ((u4 + 1) % 4096))  H locs ls hP hD hS (lv_sub hl [2, 3, 4, 5, 0] rfl)
      ·
        replace hw := hw.2 c14
        refine lv_iload hx hb dX13_findLabel_52 (lv_at hl 0 rfl) ?_
        exact xri hx hb hr hlk hP hK hD hS ⟨_, r_x7, rfl, rfl, hw⟩ (Nat.le_of_ble_eq_true rfl) (Nat.le_of_ble_eq_true rfl) dX13_findLabel_54
def W_X13_markNamed (n1 : Int) (σ : S0) (Q : S0 → Prop) : Prop :=
  ∀ (P59 : Int → Int → S0 → Prop),
  (∀ (u1 : Int) (u2 : Int) (τ : S0), ((0 ≤ u1 ∧ u1 < 1001) ∧ (∀ (x15 : Int), rg x15 → x15 = τ.2.1 3 u1 → ((¬ x15 = 2 → Q τ) ∧ (x15 = 2 → (0 ≤ u2 ∧ u2 < 30100) ∧ (∀ (x18 : Int), rg x18 → x18 = τ.2.1 1 u2 → ((¬ x18 = 124 → Q τ) ∧ (x18 = 124 → (0 ≤ (u2 + 1) ∧ (u2 + 1) < 30100) ∧ (∀ (x21 : Int), rg x21 → x21 = τ.2.1 1 (u2 + 1) → ((¬ x21 = 45 → Q τ) ∧ (x21 = 45 → Q (s_v τ 11 u1))))))))))) → P59 u1 u2 τ) →
  (0 ≤ n1 ∧ n1 < 1001) ∧ (∀ (x2 : Int), rg x2 → x2 = σ.2.1 2 n1 → (∀ (x3 : Int), rg x3 → x3 = σ.2.1 3 n1 → ((¬ x3 = 3 → P59 n1 x2 σ) ∧ (x3 = 3 → (0 ≤ x2 ∧ x2 < 30100) ∧ (∀ (x6 : Int), rg x6 → x6 = σ.2.1 1 x2 → ((¬ x6 = 119 → P59 n1 x2 σ) ∧ (x6 = 119 → (0 ≤ (x2 + 1) ∧ (x2 + 1) < 30100) ∧ (∀ (x9 : Int), rg x9 → x9 = σ.2.1 1 (x2 + 1) → ((¬ x9 = 102 → P59 n1 x2 σ) ∧ (x9 = 102 → (0 ≤ (x2 + 2) ∧ (x2 + 2) < 30100) ∧ (∀ (x12 : Int), rg x12 → x12 = σ.2.1 1 (x2 + 2) → ((¬ x12 = 102 → P59 n1 x2 σ) ∧ (x12 = 102 → P59 n1 x2 (s_v σ 10 n1))))))))))))))
set_option maxRecDepth 100000 in
set_option maxHeartbeats 4000000 in
theorem L_X13_markNamed (l : Launch) (g : gG) (q : Nat → Nat) (lb : Nat) (hlb : lb < 2 ^ 31) {n1 : Int} {σ : S0} {Q : S0 → Prop} (r_n1 : rg n1) (hN : n_m σ) (hw : W_X13_markNamed n1 σ Q) (sz : Nat) : MetV l yX13_markNamed cX13_markNamed 3 { frames := 0, cells := 0, slots := 0, locals := 0 } g [.ref (q 0), .int (I n1)] (MX g q lb σ) sz xT (p_V (MX g q lb) [10, 11] [] [] σ Q) 0 0 := by
  refine mkMet (Qc := fun A => QV g A (p_V (MX g q lb) [10, 11] [] [] σ Q)) (by decide) (Nat.le_of_ble_eq_true rfl) ?_
  intro p e s m below meth c A H ls hx hb hr hml hown hts hlk hnm hsz hP hK hNb hD hA hAe hS hX hl
  have hl : lv_has ls 3 [(0, .ref (q 0)), (1, .int (I n1))] := hl
  have hB := hN
  have hF : f_r [10, 11] [] [] σ σ := f_0
  obtain ⟨locs, hlocs⟩ : ∃ z : List Loc, z = [] := ⟨_, rfl⟩
  rw [← hlocs] at hS ⊢
  obtain ⟨P59, hP59⟩ : ∃ P : Int → Int → S0 → Prop, ∀ (u1 : Int) (u2 : Int) (τ : S0), (P u1 u2 τ ↔ (rg u1 → rg u2 → n_m τ → f_r [10, 11] [] [] σ τ → ∀ (H : Heap) (locs : List Loc) (ls : Array Slot), KP g (MX g q lb τ) H → va_D A (MX g q lb τ) → va_S A s.heap H locs → lv_has ls 3 [(0, .ref (q 0)), (1, .int (I u1)), (2, .int (I u2))] → W p l e ({ frames := 0, cells := 0, slots := 0, locals := 0 }) s m [.ref (q 0), .int (I n1)].toArray below meth c H locs 0 0 (MQ below (QV g A (p_V (MX g q lb) [10, 11] [] [] σ Q)) [.ref (q 0), .int (I n1)].toArray s 0 0 A) (F0 m 59 ls []))) := ⟨_, fun _ _ _ => Iff.rfl⟩
  refine (fun hw => ?_) (hw P59 ?_)
  ·
    refine lv_aload_n hx hb dX13_markNamed_0 rfl (lv_at hl 0 rfl) ?_
    refine gfX13_symbolAt hx hb hts hK hP hown (hts _ tw_2011) dX13_markNamed_1 ?_
    refine lv_iload_n hx hb dX13_markNamed_4 rfl (lv_at hl 1 rfl) ?_
    obtain ⟨c1, hw⟩ := hw
    refine ldMX13_symbolAt hx hb hK hP hN c1 dX13_markNamed_5 (fun x2 r_x2 e_x2 => ?_)
    replace hw := hw x2 r_x2 e_x2
    refine lv_istore_n (lv' := [(2, .int (I x2)), (0, .ref (q 0)), (1, .int (I n1))]) hx hb dX13_markNamed_6 rfl hl (by decide) rfl (fun ls hl => ?_)
    refine lv_aload_n hx hb dX13_markNamed_7 rfl (lv_at hl 1 rfl) ?_
    refine gfX13_symbolSize hx hb hts hK hP hown (hts _ tw_2012) dX13_markNamed_8 ?_
    refine lv_iload_n hx hb dX13_markNamed_11 rfl (lv_at hl 2 rfl) ?_
    refine ldMX13_symbolSize hx hb hK hP hN c1 dX13_markNamed_12 (fun x3 r_x3 e_x3 => ?_)
    replace hw := hw x3 r_x3 e_x3
    refine lv_iconst (v := I 3) hx hb dX13_markNamed_13 rfl ?_
    refine bi_icmp_ne (tgt := 59) hx hb r_x3 (by decide) dX13_markNamed_14 (by decide) (fun c4 => ?_) (fun c4 => ?_)
    ·
      replace hw := hw.1 c4
      exact (hP59 _ _ _).mp hw r_n1 r_x2 hN hF H locs ls hP hD hS (lv_sub hl [1, 2, 0] rfl)
    ·
      replace hw := hw.2 c4
      refine lv_aload_n hx hb dX13_markNamed_17 rfl (lv_at hl 1 rfl) ?_
      refine gfX13_chars hx hb hts hK hP hown (hts _ tw_2009) dX13_markNamed_18 ?_
      refine lv_iload_n hx hb dX13_markNamed_21 rfl (lv_at hl 0 rfl) ?_
      obtain ⟨c5, hw⟩ := hw
      refine ldMX13_chars hx hb hK hP hN c5 dX13_markNamed_22 (fun x6 r_x6 e_x6 => ?_)
      replace hw := hw x6 r_x6 e_x6
      refine lv_bipush (v := I 119) hx hb dX13_markNamed_23 (by decide) ?_
      refine bi_icmp_ne (tgt := 59) hx hb r_x6 (by decide) dX13_markNamed_25 (by decide) (fun c7 => ?_) (fun c7 => ?_)
      ·
        replace hw := hw.1 c7
        exact (hP59 _ _ _).mp hw r_n1 r_x2 hN hF H locs ls hP hD hS (lv_sub hl [1, 2, 0] rfl)
      ·
        replace hw := hw.2 c7
        refine lv_aload_n hx hb dX13_markNamed_28 rfl (lv_at hl 1 rfl) ?_
        refine gfX13_chars hx hb hts hK hP hown (hts _ tw_2009) dX13_markNamed_29 ?_
        refine lv_iload_n hx hb dX13_markNamed_32 rfl (lv_at hl 0 rfl) ?_
        refine lv_iconst (v := I 1) hx hb dX13_markNamed_33 rfl ?_
        refine bi_iadd hx hb dX13_markNamed_34 ?_
        obtain ⟨c8, hw⟩ := hw
        refine ldMX13_chars hx hb hK hP hN c8 dX13_markNamed_35 (fun x9 r_x9 e_x9 => ?_)
        replace hw := hw x9 r_x9 e_x9
        refine lv_bipush (v := I 102) hx hb dX13_markNamed_36 (by decide) ?_
        refine bi_icmp_ne (tgt := 59) hx hb r_x9 (by decide) dX13_markNamed_38 (by decide) (fun c10 => ?_) (fun c10 => ?_)
        ·
          replace hw := hw.1 c10
          exact (hP59 _ _ _).mp hw r_n1 r_x2 hN hF H locs ls hP hD hS (lv_sub hl [1, 2, 0] rfl)
        ·
          replace hw := hw.2 c10
          refine lv_aload_n hx hb dX13_markNamed_41 rfl (lv_at hl 1 rfl) ?_
          refine gfX13_chars hx hb hts hK hP hown (hts _ tw_2009) dX13_markNamed_42 ?_
          refine lv_iload_n hx hb dX13_markNamed_45 rfl (lv_at hl 0 rfl) ?_
          refine lv_iconst (v := I 2) hx hb dX13_markNamed_46 rfl ?_
          refine bi_iadd hx hb dX13_markNamed_47 ?_
          obtain ⟨c11, hw⟩ := hw
          refine ldMX13_chars hx hb hK hP hN c11 dX13_markNamed_48 (fun x12 r_x12 e_x12 => ?_)
          replace hw := hw x12 r_x12 e_x12
          refine lv_bipush (v := I 102) hx hb dX13_markNamed_49 (by decide) ?_
          refine bi_icmp_ne (tgt := 59) hx hb r_x12 (by decide) dX13_markNamed_51 (by decide) (fun c13 => ?_) (fun c13 => ?_)
          ·
            replace hw := hw.1 c13
            exact (hP59 _ _ _).mp hw r_n1 r_x2 hN hF H locs ls hP hD hS (lv_sub hl [1, 2, 0] rfl)
          ·
            replace hw := hw.2 c13
            refine lv_aload_n hx hb dX13_markNamed_54 rfl (lv_at hl 1 rfl) ?_
            refine lv_iload_n hx hb dX13_markNamed_55 rfl (lv_at hl 2 rfl) ?_
            refine pfX13_wff hx hb hts hK hP hD hS hown (hts _ tw_2047) dX13_markNamed_56 (fun H locs hP hD hS => ?_)
            have hN : n_m (s_v σ 10 n1) := n_v (i := 10) hN (r_n1 : rg n1)
            have hF : f_r [10, 11] [] [] σ (s_v σ 10 n1) := f_v hF (by decide)
            exact (hP59 _ _ _).mp hw r_n1 r_x2 hN hF H locs ls hP hD hS (lv_sub hl [1, 2, 0] rfl)
  ·
    intro u1 u2 τ hw
    refine (hP59 _ _ _).mpr ?_
    intro r_u1 r_u2 hN hF H locs ls hP hD hS hl
    have hB := hN
    refine lv_aload_n hx hb dX13_markNamed_59 rfl (lv_at hl 0 rfl) ?_
    refine gfX13_symbolSize hx hb hts hK hP hown (hts _ tw_2012) dX13_markNamed_60 ?_
    refine lv_iload_n hx hb dX13_markNamed_63 rfl (lv_at hl 1 rfl) ?_
    obtain ⟨c14, hw⟩ := hw
    refine ldMX13_symbolSize hx hb hK hP hN c14 dX13_markNamed_64 (fun x15 r_x15 e_x15 => ?_)
    replace hw := hw x15 r_x15 e_x15
    refine lv_iconst (v := I 2) hx hb dX13_markNamed_65 rfl ?_
    refine bi_icmp_ne (tgt := 98) hx hb r_x15 (by decide) dX13_markNamed_66 (by decide) (fun c16 => ?_) (fun c16 => ?_)
    ·
      replace hw := hw.1 c16
      exact xrv hx hb hr hlk hP hK hD hS ⟨_, hN, hF, rfl, hw⟩ (Nat.le_of_ble_eq_true rfl) (Nat.le_of_ble_eq_true rfl) dX13_markNamed_98
    ·
      replace hw := hw.2 c16
      refine lv_aload_n hx hb dX13_markNamed_69 rfl (lv_at hl 0 rfl) ?_
      refine gfX13_chars hx hb hts hK hP hown (hts _ tw_2009) dX13_markNamed_70 ?_
      refine lv_iload_n hx hb dX13_markNamed_73 rfl (lv_at hl 2 rfl) ?_
      obtain ⟨c17, hw⟩ := hw
      refine ldMX13_chars hx hb hK hP hN c17 dX13_markNamed_74 (fun x18 r_x18 e_x18 => ?_)
      replace hw := hw x18 r_x18 e_x18
      refine lv_bipush (v := I 124) hx hb dX13_markNamed_75 (by decide) ?_
      refine bi_icmp_ne (tgt := 98) hx hb r_x18 (by decide) dX13_markNamed_77 (by decide) (fun c19 => ?_) (fun c19 => ?_)
      ·
        replace hw := hw.1 c19
        exact xrv hx hb hr hlk hP hK hD hS ⟨_, hN, hF, rfl, hw⟩ (Nat.le_of_ble_eq_true rfl) (Nat.le_of_ble_eq_true rfl) dX13_markNamed_98
      ·
        replace hw := hw.2 c19
        refine lv_aload_n hx hb dX13_markNamed_80 rfl (lv_at hl 0 rfl) ?_
        refine gfX13_chars hx hb hts hK hP hown (hts _ tw_2009) dX13_markNamed_81 ?_
        refine lv_iload_n hx hb dX13_markNamed_84 rfl (lv_at hl 2 rfl) ?_
        refine lv_iconst (v := I 1) hx hb dX13_markNamed_85 rfl ?_
        refine bi_iadd hx hb dX13_markNamed_86 ?_
        obtain ⟨c20, hw⟩ := hw
        refine ldMX13_chars hx hb hK hP hN c20 dX13_markNamed_87 (fun x21 r_x21 e_x21 => ?_)
        replace hw := hw x21 r_x21 e_x21
        refine lv_bipush (v := I 45) hx hb dX13_markNamed_88 (by decide) ?_
        refine bi_icmp_ne (tgt := 98) hx hb r_x21 (by decide) dX13_markNamed_90 (by decide) (fun c22 => ?_) (fun c22 => ?_)
        ·
          replace hw := hw.1 c22
          exact xrv hx hb hr hlk hP hK hD hS ⟨_, hN, hF, rfl, hw⟩ (Nat.le_of_ble_eq_true rfl) (Nat.le_of_ble_eq_true rfl) dX13_markNamed_98
        ·
          replace hw := hw.2 c22
          refine lv_aload_n hx hb dX13_markNamed_93 rfl (lv_at hl 0 rfl) ?_
          refine lv_iload_n hx hb dX13_markNamed_94 rfl (lv_at hl 1 rfl) ?_
          refine pfX13_turnstile hx hb hts hK hP hD hS hown (hts _ tw_2048) dX13_markNamed_95 (fun H locs hP hD hS => ?_)
          have hN : n_m (s_v τ 11 u1) := n_v (i := 11) hN (r_u1 : rg u1)
          have hF : f_r [10, 11] [] [] σ (s_v τ 11 u1) := f_v hF (by decide)
          exact xrv hx hb hr hlk hP hK hD hS ⟨_, hN, hF, rfl, hw⟩ (Nat.le_of_ble_eq_true rfl) (Nat.le_of_ble_eq_true rfl) dX13_markNamed_98
def W_X13_declare (n1 : Int) (σ : S0) (Q : S0 → Prop) : Prop :=
  ∀ (P15 : Int → Int → Int → S0 → Prop) (P54 : S0 → Prop) (P60 : Int → Int → Int → S0 → Prop) (P91 : Int → Int → Int → Int → S0 → Prop) (P118 : S0 → Prop) (P214 : Int → Int → S0 → Prop),
  (∀ (u1 : Int) (u2 : Int) (k0 : Int) (τ : S0), ((60 < τ.1 18 → P54 τ) ∧ (τ.1 18 ≤ 60 → (k0 = 0 → P60 u1 u2 k0 τ) ∧ (¬ k0 = 0 → rg (τ.1 2 + τ.1 18) ∧ (30000 < (τ.1 2 + τ.1 18) → P54 τ) ∧ ((τ.1 2 + τ.1 18) ≤ 30000 → (¬ τ.1 3 = 1000 → P60 u1 u2 k0 τ) ∧ (τ.1 3 = 1000 → P54 τ))))) → P15 u1 u2 k0 τ) →
  (∀ (τ : S0), (∃ (Q10 : S0 → Prop), W_X13_failHere 5 τ Q10 ∧ ∀ (τ12 : S0), n_m τ12 → f_r [20, 21] [] [] τ τ12 → Q10 τ12 → (Q τ12)) → P54 τ) →
  (∀ (u1 : Int) (u2 : Int) (u3 : Int) (τ : S0), ((¬ u3 = 0 → P91 u1 u2 u3 0 τ) ∧ (u3 = 0 → (u1 = 0 → P91 u1 u2 u3 1 τ) ∧ (¬ u1 = 0 → (0 ≤ u2 ∧ u2 < 1001) ∧ (∀ (x16 : Int), rg x16 → x16 = τ.2.1 8 u2 → ((x16 = 0 → P91 u1 u2 u3 1 τ) ∧ (¬ x16 = 0 → ∀ (x18 : Int), rg x18 → x18 = τ.2.1 9 u2 → ((x18 = 0 → P91 u1 u2 u3 0 τ) ∧ (¬ x18 = 0 → P91 u1 u2 u3 1 τ)))))))) → P60 u1 u2 u3 τ) →
  (∀ (u1 : Int) (u2 : Int) (u3 : Int) (k0 : Int) (τ : S0), ((¬ k0 = 0 → P118 τ) ∧ (k0 = 0 → ∃ (Q21 : Int → Prop), W_X13_findLabel_q1 (τ.1 17) (τ.1 18) τ Q21 ∧ ∀ (x22 : Int), rg x22 → Q21 x22 → ((x22 = (-1) → (u3 = 0 → P214 u1 u2 τ) ∧ (¬ u3 = 0 → rg (τ.1 3 + 1) ∧ (0 ≤ τ.1 3 ∧ τ.1 3 < 1001) ∧ (∃ (Q28 : S0 → Prop), W_X13_keepChars (τ.1 17) (τ.1 18) (s_a (s_a (s_v τ 3 (τ.1 3 + 1)) 2 (τ.1 3) (τ.1 2)) 3 (τ.1 3) (τ.1 18)) Q28 ∧ ∀ (τ30 : S0), n_m τ30 → f_r [2] [1] [] (s_a (s_a (s_v τ 3 (τ.1 3 + 1)) 2 (τ.1 3) (τ.1 2)) 3 (τ.1 3) (τ.1 18)) τ30 → Q28 τ30 → (∃ (Q31 : S0 → Prop), W_X13_keepSymbol (τ.1 3) τ30 Q31 ∧ ∀ (τ33 : S0), n_m τ33 → f_r [] [6] [] τ30 τ33 → Q31 τ33 → ((0 ≤ u1 ∧ u1 ≤ 1) ∧ (∃ (Q35 : S0 → Prop), W_X13_markNamed (τ.1 3) (s_a (s_a (s_a (s_a τ33 8 (τ.1 3) u1) 10 (τ.1 3) (-1)) 11 (τ.1 3) (-1)) 12 (τ.1 3) 0) Q35 ∧ ∀ (τ37 : S0), n_m τ37 → f_r [10, 11] [] [] (s_a (s_a (s_a (s_a τ33 8 (τ.1 3) u1) 10 (τ.1 3) (-1)) 11 (τ.1 3) (-1)) 12 (τ.1 3) 0) τ37 → Q35 τ37 → (P214 u1 (τ.1 3) τ37))))))) ∧ (¬ x22 = (-1) → P118 τ)))) → P91 u1 u2 u3 k0 τ) →
  (∀ (τ : S0), (∃ (Q38 : S0 → Prop), W_X13_failHere 7 τ Q38 ∧ ∀ (τ40 : S0), n_m τ40 → f_r [20, 21] [] [] τ τ40 → Q38 τ40 → (Q τ40)) → P118 τ) →
  (∀ (u1 : Int) (u2 : Int) (τ : S0), ((0 ≤ u2 ∧ u2 < 1001) ∧ ((0 ≤ u1 ∧ u1 ≤ 1) ∧ ((u1 = 0 → Q (s_a τ 9 u2 u1)) ∧ (¬ u1 = 0 → (0 ≤ τ.1 12 ∧ τ.1 12 < 1001) ∧ (rg (τ.1 12 + 1) ∧ Q (s_v (s_a (s_a τ 9 u2 u1) 30 (τ.1 12) u2) 12 (τ.1 12 + 1))))))) → P214 u1 u2 τ) →
  ∃ (Q1 : Int → Prop), W_X13_symbolHere σ Q1 ∧ ∀ (x2 : Int), rg x2 → Q1 x2 → ((¬ x2 = (-1) → P15 n1 x2 0 σ) ∧ (x2 = (-1) → P15 n1 x2 1 σ))
set_option maxRecDepth 100000 in
set_option maxHeartbeats 4000000 in
theorem L_X13_declare (l : Launch) (g : gG) (q : Nat → Nat) (lb : Nat) (hlb : lb < 2 ^ 31) {n1 : Int} {σ : S0} {Q : S0 → Prop} (r_n1 : rg n1) (hN : n_m σ) (hw : W_X13_declare n1 σ Q) (sz : Nat) : MetV l yX13_declare cX13_declare 5 { frames := 3, cells := 0, slots := 0, locals := 71 } g [.ref (q 0), .int (I n1)] (MX g q lb σ) sz xT (p_V (MX g q lb) [2, 3, 10, 11, 12, 20, 21] [1, 2, 3, 6, 8, 9, 10, 11, 12, 30] [] σ Q) 0 0 := by
  refine mkMet (Qc := fun A => QV g A (p_V (MX g q lb) [2, 3, 10, 11, 12, 20, 21] [1, 2, 3, 6, 8, 9, 10, 11, 12, 30] [] σ Q)) (by decide) (Nat.le_of_ble_eq_true rfl) ?_
  intro p e s m below meth c A H ls hx hb hr hml hown hts hlk hnm hsz hP hK hNb hD hA hAe hS hX hl
  have hl : lv_has ls 5 [(0, .ref (q 0)), (1, .int (I n1))] := hl
  have hB := hN
  have hF : f_r [2, 3, 10, 11, 12, 20, 21] [1, 2, 3, 6, 8, 9, 10, 11, 12, 30] [] σ σ := f_0
  obtain ⟨locs, hlocs⟩ : ∃ z : List Loc, z = [] := ⟨_, rfl⟩
  rw [← hlocs] at hS ⊢
  obtain ⟨P15, hP15⟩ : ∃ P : Int → Int → Int → S0 → Prop, ∀ (u1 : Int) (u2 : Int) (k0 : Int) (τ : S0), (P u1 u2 k0 τ ↔ (rg u1 → rg u2 → rg k0 → n_m τ → f_r [2, 3, 10, 11, 12, 20, 21] [1, 2, 3, 6, 8, 9, 10, 11, 12, 30] [] σ τ → ∀ (H : Heap) (locs : List Loc) (ls : Array Slot), KP g (MX g q lb τ) H → va_D A (MX g q lb τ) → va_S A s.heap H locs → lv_has ls 5 [(0, .ref (q 0)), (1, .int (I u1)), (2, .int (I u2))] → W p l e ({ frames := 3, cells := 0, slots := 0, locals := 71 }) s m [.ref (q 0), .int (I n1)].toArray below meth c H locs 0 0 (MQ below (QV g A (p_V (MX g q lb) [2, 3, 10, 11, 12, 20, 21] [1, 2, 3, 6, 8, 9, 10, 11, 12, 30] [] σ Q)) [.ref (q 0), .int (I n1)].toArray s 0 0 A) (F0 m 15 ls [.int (I k0)]))) := ⟨_, fun _ _ _ _ => Iff.rfl⟩
  obtain ⟨P54, hP54⟩ : ∃ P : S0 → Prop, ∀ (τ : S0), (P τ ↔ (n_m τ → f_r [2, 3, 10, 11, 12, 20, 21] [1, 2, 3, 6, 8, 9, 10, 11, 12, 30] [] σ τ → ∀ (H : Heap) (locs : List Loc) (ls : Array Slot), KP g (MX g q lb τ) H → va_D A (MX g q lb τ) → va_S A s.heap H locs → lv_has ls 5 [(0, .ref (q 0))] → W p l e ({ frames := 3, cells := 0, slots := 0, locals := 71 }) s m [.ref (q 0), .int (I n1)].toArray below meth c H locs 0 0 (MQ below (QV g A (p_V (MX g q lb) [2, 3, 10, 11, 12, 20, 21] [1, 2, 3, 6, 8, 9, 10, 11, 12, 30] [] σ Q)) [.ref (q 0), .int (I n1)].toArray s 0 0 A) (F0 m 54 ls []))) := ⟨_, fun _ => Iff.rfl⟩
  obtain ⟨P60, hP60⟩ : ∃ P : Int → Int → Int → S0 → Prop, ∀ (u1 : Int) (u2 : Int) (u3 : Int) (τ : S0), (P u1 u2 u3 τ ↔ (rg u1 → rg u2 → rg u3 → n_m τ → f_r [2, 3, 10, 11, 12, 20, 21] [1, 2, 3, 6, 8, 9, 10, 11, 12, 30] [] σ τ → ∀ (H : Heap) (locs : List Loc) (ls : Array Slot), KP g (MX g q lb τ) H → va_D A (MX g q lb τ) → va_S A s.heap H locs → lv_has ls 5 [(0, .ref (q 0)), (1, .int (I u1)), (2, .int (I u2)), (3, .int (I u3))] → W p l e ({ frames := 3, cells := 0, slots := 0, locals := 71 }) s m [.ref (q 0), .int (I n1)].toArray below meth c H locs 0 0 (MQ below (QV g A (p_V (MX g q lb) [2, 3, 10, 11, 12, 20, 21] [1, 2, 3, 6, 8, 9, 10, 11, 12, 30] [] σ Q)) [.ref (q 0), .int (I n1)].toArray s 0 0 A) (F0 m 60 ls []))) := ⟨_, fun _ _ _ _ => Iff.rfl⟩
  obtain ⟨P91, hP91⟩ : ∃ P : Int → Int → Int → Int → S0 → Prop, ∀ (u1 : Int) (u2 : Int) (u3 : Int) (k0 : Int) (τ : S0), (P u1 u2 u3 k0 τ ↔ (rg u1 → rg u2 → rg u3 → rg k0 → n_m τ → f_r [2, 3, 10, 11, 12, 20, 21] [1, 2, 3, 6, 8, 9, 10, 11, 12, 30] [] σ τ → ∀ (H : Heap) (locs : List Loc) (ls : Array Slot), KP g (MX g q lb τ) H → va_D A (MX g q lb τ) → va_S A s.heap H locs → lv_has ls 5 [(0, .ref (q 0)), (1, .int (I u1)), (2, .int (I u2)), (3, .int (I u3))] → W p l e ({ frames := 3, cells := 0, slots := 0, locals := 71 }) s m [.ref (q 0), .int (I n1)].toArray below meth c H locs 0 0 (MQ below (QV g A (p_V (MX g q lb) [2, 3, 10, 11, 12, 20, 21] [1, 2, 3, 6, 8, 9, 10, 11, 12, 30] [] σ Q)) [.ref (q 0), .int (I n1)].toArray s 0 0 A) (F0 m 91 ls [.int (I k0)]))) := ⟨_, fun _ _ _ _ _ => Iff.rfl⟩
  obtain ⟨P118, hP118⟩ : ∃ P : S0 → Prop, ∀ (τ : S0), (P τ ↔ (n_m τ → f_r [2, 3, 10, 11, 12, 20, 21] [1, 2, 3, 6, 8, 9, 10, 11, 12, 30] [] σ τ → ∀ (H : Heap) (locs : List Loc) (ls : Array Slot), KP g (MX g q lb τ) H → va_D A (MX g q lb τ) → va_S A s.heap H locs → lv_has ls 5 [(0, .ref (q 0))] → W p l e ({ frames := 3, cells := 0, slots := 0, locals := 71 }) s m [.ref (q 0), .int (I n1)].toArray below meth c H locs 0 0 (MQ below (QV g A (p_V (MX g q lb) [2, 3, 10, 11, 12, 20, 21] [1, 2, 3, 6, 8, 9, 10, 11, 12, 30] [] σ Q)) [.ref (q 0), .int (I n1)].toArray s 0 0 A) (F0 m 118 ls []))) := ⟨_, fun _ => Iff.rfl⟩
  obtain ⟨P214, hP214⟩ : ∃ P : Int → Int → S0 → Prop, ∀ (u1 : Int) (u2 : Int) (τ : S0), (P u1 u2 τ ↔ (rg u1 → rg u2 → n_m τ → f_r [2, 3, 10, 11, 12, 20, 21] [1, 2, 3, 6, 8, 9, 10, 11, 12, 30] [] σ τ → ∀ (H : Heap) (locs : List Loc) (ls : Array Slot), KP g (MX g q lb τ) H → va_D A (MX g q lb τ) → va_S A s.heap H locs → lv_has ls 5 [(0, .ref (q 0)), (1, .int (I u1)), (2, .int (I u2))] → W p l e ({ frames := 3, cells := 0, slots := 0, locals := 71 }) s m [.ref (q 0), .int (I n1)].toArray below meth c H locs 0 0 (MQ below (QV g A (p_V (MX g q lb) [2, 3, 10, 11, 12, 20, 21] [1, 2, 3, 6, 8, 9, 10, 11, 12, 30] [] σ Q)) [.ref (q 0), .int (I n1)].toArray s 0 0 A) (F0 m 214 ls []))) := ⟨_, fun _ _ _ => Iff.rfl⟩
  refine (fun hw => ?_) (hw P15 P54 P60 P91 P118 P214 ?_ ?_ ?_ ?_ ?_ ?_)
  ·
    refine lv_aload_n hx hb dX13_declare_0 rfl (lv_at hl 0 rfl) ?_
    obtain ⟨Q1, hc, hw⟩ := hw
    refine wc_i (X := MX g q lb) (va_runV (As := []) (rest := []) ⟨hx, hb, hml, hown, hts⟩ (L_X13_symbolHere l g q lb hlb  hN hc H.size) (cwV 0 hts (TB_V tw_2609 tw_2611 ts_117 tw_15 co_X13_symbolHere) rfl rfl rfl (by decide +kernel) ⟨Nat.le_of_ble_eq_true rfl, Nat.le_of_ble_eq_true rfl⟩) (preV (q0 := 0) (ci := 13) rfl xT_bl hP hK hNb hD rfl rfl xT_at) rfl rfl hl.1 rfl (lv_room (Nat.le_of_ble_eq_true rfl)) dX13_declare_1 ⟨Nat.le_of_ble_eq_true rfl, Nat.le_of_ble_eq_true rfl⟩) hP hD hS hA (fun x2 H locs r_x2 hq hP hD hS => ?_)
    replace hw := hw x2 r_x2 hq
    refine lv_istore_n (lv' := [(2, .int (I x2)), (0, .ref (q 0)), (1, .int (I n1))]) hx hb dX13_declare_4 rfl hl (by decide) rfl (fun ls hl => ?_)
    refine lv_iload_n hx hb dX13_declare_5 rfl (lv_at hl 0 rfl) ?_
    refine lv_iconst (v := I (-1)) hx hb dX13_declare_6 rfl ?_
    refine bi_icmp_ne (tgt := 14) hx hb r_x2 (by decide) dX13_declare_7 (by decide) (fun c4 => ?_) (fun c4 => ?_)
    ·
      replace hw := hw.1 c4
      refine lv_iconst (v := I 0) hx hb dX13_declare_14 rfl ?_
      exact (hP15 _ _ _ _).mp hw r_n1 r_x2 (by decide) hN hF H locs ls hP hD hS (lv_sub hl [1, 2, 0] rfl)
    ·
      replace hw := hw.2 c4
      refine lv_iconst (v := I 1) hx hb dX13_declare_10 rfl ?_
      refine lv_goto (tgt := 15) hx hb dX13_declare_11 (by decide) ?_
      exact (hP15 _ _ _ _).mp hw r_n1 r_x2 (by decide) hN hF H locs ls hP hD hS (lv_sub hl [1, 2, 0] rfl)
  ·
    intro u1 u2 k0 τ hw
    refine (hP15 _ _ _ _).mpr ?_
    intro r_u1 r_u2 r_k0 hN hF H locs ls hP hD hS hl
    have hB := hN
    refine lv_istore_n (lv' := [(3, .int (I k0)), (0, .ref (q 0)), (1, .int (I u1)), (2, .int (I u2))]) hx hb dX13_declare_15 rfl hl (by decide) rfl (fun ls hl => ?_)
    refine lv_aload_n hx hb dX13_declare_16 rfl (lv_at hl 1 rfl) ?_
    refine gfX13_tokenSize hx hb hts hK hP hown (hts _ tw_2063) (x := τ.1 18) rfl dX13_declare_17 ?_
    refine lv_bipush (v := I 60) hx hb dX13_declare_20 (by decide) ?_
    refine bi_icmp_gt (tgt := 54) hx hb (hB.1 18) (by decide) dX13_declare_22 (by decide) (fun c5 => ?_) (fun c5 => ?_)
    ·
      replace hw := hw.1 c5
      exact (hP54 _).mp hw hN hF H locs ls hP hD hS (lv_sub hl [1] rfl)
    ·
      replace hw := hw.2 c5
      refine lv_iload_n hx hb dX13_declare_25 rfl (lv_at hl 0 rfl) ?_
      refine bi_if_eq (tgt := 60) hx hb r_k0 dX13_declare_26 (by decide) (fun c6 => ?_) (fun c6 => ?_)
      ·
        replace hw := hw.1 c6
        exact (hP60 _ _ _ _).mp hw r_u1 r_u2 r_k0 hN hF H locs ls hP hD hS (lv_sub hl [1, 2, 3, 0] rfl)
      ·
        replace hw := hw.2 c6
        refine lv_aload_n hx hb dX13_declare_29 rfl (lv_at hl 1 rfl) ?_
        refine gfX13_charCount hx hb hts hK hP hown (hts _ tw_2010) (x := τ.1 2) rfl dX13_declare_30 ?_
        refine lv_aload_n hx hb dX13_declare_33 rfl (lv_at hl 1 rfl) ?_
        refine gfX13_tokenSize hx hb hts hK hP hown (hts _ tw_2063) (x := τ.1 18) rfl dX13_declare_34 ?_
        refine bi_iadd hx hb dX13_declare_37 ?_
        refine lv_sipush (v := I 30000) hx hb dX13_declare_38 (by decide) ?_
        obtain ⟨c7, hw⟩ := hw
        refine bi_icmp_gt (tgt := 54) hx hb c7 (by decide) dX13_declare_41 (by decide) (fun c8 => ?_) (fun c8 => ?_)
        ·
          replace hw := hw.1 c8
          exact (hP54 _).mp hw hN hF H locs ls hP hD hS (lv_sub hl [1] rfl)
        ·
          replace hw := hw.2 c8
          refine lv_aload_n hx hb dX13_declare_44 rfl (lv_at hl 1 rfl) ?_
          refine gfX13_symbols hx hb hts hK hP hown (hts _ tw_2013) (x := τ.1 3) rfl dX13_declare_45 ?_
          refine lv_sipush (v := I 1000) hx hb dX13_declare_48 (by decide) ?_
          refine bi_icmp_ne (tgt := 60) hx hb (hB.1 3) (by decide) dX13_declare_51 (by decide) (fun c9 => ?_) (fun c9 => ?_)
          ·
            replace hw := hw.1 c9
            exact (hP60 _ _ _ _).mp hw r_u1 r_u2 r_k0 hN hF H locs ls hP hD hS (lv_sub hl [1, 2, 3, 0] rfl)
          ·
            replace hw := hw.2 c9
            exact (hP54 _).mp hw hN hF H locs ls hP hD hS (lv_sub hl [1] rfl)
  ·
    intro τ hw
    refine (hP54 _).mpr ?_
    intro hN hF H locs ls hP hD hS hl
    have hB := hN
    refine lv_aload_n hx hb dX13_declare_54 rfl (lv_at hl 0 rfl) ?_
    refine lv_iconst (v := I 5) hx hb dX13_declare_55 rfl ?_
    obtain ⟨Q10, hc, hw⟩ := hw
    refine wc_V (X := MX g q lb) (va_runV (As := [.int (I 5)]) (rest := []) ⟨hx, hb, hml, hown, hts⟩ (L_X13_failHere l g q lb hlb (by decide) hN hc H.size) (cwV 1 hts (TB_V tw_2585 tw_2587 ts_114 tw_15 co_X13_failHere) rfl rfl rfl (by decide +kernel) ⟨Nat.le_of_ble_eq_true rfl, Nat.le_of_ble_eq_true rfl⟩) (preV (q0 := 0) (ci := 13) rfl xT_bl hP hK hNb hD rfl rfl xT_at) rfl rfl hl.1 rfl (lv_room (Nat.le_of_ble_eq_true rfl)) dX13_declare_56 ⟨Nat.le_of_ble_eq_true rfl, Nat.le_of_ble_eq_true rfl⟩) hP hD hS hA (fun τ12 H locs hN hf hq hP hD hS => ?_)
    replace hw := hw τ12 hN hf hq
    have hF : f_r [2, 3, 10, 11, 12, 20, 21] [1, 2, 3, 6, 8, 9, 10, 11, 12, 30] [] σ τ12 := f_t hF hf (by decide) (by decide) (by decide)
    have hB := hN
    exact xrv hx hb hr hlk hP hK hD hS ⟨_, hN, hF, rfl, hw⟩ (Nat.le_of_ble_eq_true rfl) (Nat.le_of_ble_eq_true rfl) dX13_declare_59
  ·
    intro u1 u2 u3 τ hw
    refine (hP60 _ _ _ _).mpr ?_
    intro r_u1 r_u2 r_u3 hN hF H locs ls hP hD hS hl
    have hB := hN
    refine lv_iload_n hx hb dX13_declare_60 rfl (lv_at hl 3 rfl) ?_
    refine bi_if_ne (tgt := 90) hx hb r_u3 dX13_declare_61 (by decide) (fun c13 => ?_) (fun c13 => ?_)
    ·
      replace hw := hw.1 c13
      refine lv_iconst (v := I 0) hx hb dX13_declare_90 rfl ?_
      exact (hP91 _ _ _ _ _).mp hw r_u1 r_u2 r_u3 (by decide) hN hF H locs ls hP hD hS (lv_sub hl [0, 1, 2, 3] rfl)
    ·
      replace hw := hw.2 c13
      refine lv_iload_n hx hb dX13_declare_64 rfl (lv_at hl 1 rfl) ?_
      refine bi_if_eq (tgt := 86) hx hb r_u1 dX13_declare_65 (by decide) (fun c14 => ?_) (fun c14 => ?_)
      ·
        replace hw := hw.1 c14
        refine lv_iconst (v := I 1) hx hb dX13_declare_86 rfl ?_
        refine lv_goto (tgt := 91) hx hb dX13_declare_87 (by decide) ?_
        exact (hP91 _ _ _ _ _).mp hw r_u1 r_u2 r_u3 (by decide) hN hF H locs ls hP hD hS (lv_sub hl [0, 1, 2, 3] rfl)
      ·
        replace hw := hw.2 c14
        refine lv_aload_n hx hb dX13_declare_68 rfl (lv_at hl 0 rfl) ?_
        refine gfX13_isVariable hx hb hts hK hP hown (hts _ tw_2018) dX13_declare_69 ?_
        refine lv_iload_n hx hb dX13_declare_72 rfl (lv_at hl 2 rfl) ?_
        obtain ⟨c15, hw⟩ := hw
        refine ldMX13_isVariable hx hb hK hP hN c15 dX13_declare_73 (fun x16 r_x16 e_x16 => ?_)
        replace hw := hw x16 r_x16 e_x16
        refine bi_if_eq (tgt := 86) hx hb r_x16 dX13_declare_74 (by decide) (fun c17 => ?_) (fun c17 => ?_)
        ·
          replace hw := hw.1 c17
          refine lv_iconst (v := I 1) hx hb dX13_declare_86 rfl ?_
          refine lv_goto (tgt := 91) hx hb dX13_declare_87 (by decide) ?_
          exact (hP91 _ _ _ _ _).mp hw r_u1 r_u2 r_u3 (by decide) hN hF H locs ls hP hD hS (lv_sub hl [0, 1, 2, 3] rfl)
        ·
          replace hw := hw.2 c17
          refine lv_aload_n hx hb dX13_declare_77 rfl (lv_at hl 0 rfl) ?_
          refine gfX13_isActive hx hb hts hK hP hown (hts _ tw_2019) dX13_declare_78 ?_
          refine lv_iload_n hx hb dX13_declare_81 rfl (lv_at hl 2 rfl) ?_
          refine ldMX13_isActive hx hb hK hP hN c15 dX13_declare_82 (fun x18 r_x18 e_x18 => ?_)
          replace hw := hw x18 r_x18 e_x18
          refine bi_if_eq (tgt := 90) hx hb r_x18 dX13_declare_83 (by decide) (fun c19 => ?_) (fun c19 => ?_)
          ·
            replace hw := hw.1 c19
            refine lv_iconst (v := I 0) hx hb dX13_declare_90 rfl ?_
            exact (hP91 _ _ _ _ _).mp hw r_u1 r_u2 r_u3 (by decide) hN hF H locs ls hP hD hS (lv_sub hl [0, 1, 2, 3] rfl)
          ·
            replace hw := hw.2 c19
            refine lv_iconst (v := I 1) hx hb dX13_declare_86 rfl ?_
            refine lv_goto (tgt := 91) hx hb dX13_declare_87 (by decide) ?_
            exact (hP91 _ _ _ _ _).mp hw r_u1 r_u2 r_u3 (by decide) hN hF H locs ls hP hD hS (lv_sub hl [0, 1, 2, 3] rfl)
  ·
    intro u1 u2 u3 k0 τ hw
    refine (hP91 _ _ _ _ _).mpr ?_
    intro r_u1 r_u2 r_u3 r_k0 hN hF H locs ls hP hD hS hl
    have hB := hN
    refine lv_istore (lv' := [(4, .int (I k0)), (0, .ref (q 0)), (1, .int (I u1)), (2, .int (I u2)), (3, .int (I u3))]) hx hb dX13_declare_91 hl (by decide) rfl (fun ls hl => ?_)
    refine lv_iload hx hb dX13_declare_93 (lv_at hl 0 rfl) ?_
    refine bi_if_ne (tgt := 118) hx hb r_k0 dX13_declare_95 (by decide) (fun c20 => ?_) (fun c20 => ?_)
    ·
      replace hw := hw.1 c20
      exact (hP118 _).mp hw hN hF H locs ls hP hD hS (lv_sub hl [1] rfl)
    ·
      replace hw := hw.2 c20
      refine lv_aload_n hx hb dX13_declare_98 rfl (lv_at hl 1 rfl) ?_
      refine lv_aload_n hx hb dX13_declare_99 rfl (lv_at hl 1 rfl) ?_
      refine gfX13_tape hx hb hts hK hP hown (hts _ tw_2006) dX13_declare_100 ?_
      refine lv_aload_n hx hb dX13_declare_103 rfl (lv_at hl 1 rfl) ?_
      refine gfX13_tokenAt hx hb hts hK hP hown (hts _ tw_2062) (x := τ.1 17) rfl dX13_declare_104 ?_
      refine lv_aload_n hx hb dX13_declare_107 rfl (lv_at hl 1 rfl) ?_
      refine gfX13_tokenSize hx hb hts hK hP hown (hts _ tw_2063) (x := τ.1 18) rfl dX13_declare_108 ?_
      obtain ⟨Q21, hc, hw⟩ := hw
      refine wc_i (X := MX g q lb) (va_runV (As := [.ref (q 1), .int (I (τ.1 17)), .int (I (τ.1 18))]) (rest := []) ⟨hx, hb, hml, hown, hts⟩ (L_X13_findLabel_q1 l g q lb hlb (hB.1 17) (hB.1 18) hN hc H.size) (cwV 3 hts (TB_V tw_2598 tw_2600 ts_115 tw_15 co_X13_findLabel) rfl rfl rfl (by decide +kernel) ⟨Nat.le_of_ble_eq_true rfl, Nat.le_of_ble_eq_true rfl⟩) (preV (q0 := 0) (ci := 13) rfl xT_bl hP hK hNb hD rfl rfl xT_at) rfl rfl hl.1 rfl (lv_room (Nat.le_of_ble_eq_true rfl)) dX13_declare_111 ⟨Nat.le_of_ble_eq_true rfl, Nat.le_of_ble_eq_true rfl⟩) hP hD hS hA (fun x22 H locs r_x22 hq hP hD hS => ?_)
      replace hw := hw x22 r_x22 hq
      refine lv_iconst (v := I (-1)) hx hb dX13_declare_114 rfl ?_
      refine bi_icmp_eq (tgt := 125) hx hb r_x22 (by decide) dX13_declare_115 (by decide) (fun c24 => ?_) (fun c24 => ?_)
      ·
        replace hw := hw.1 c24
        refine lv_iload_n hx hb dX13_declare_125 rfl (lv_at hl 4 rfl) ?_
        refine bi_if_eq (tgt := 214) hx hb r_u3 dX13_declare_126 (by decide) (fun c25 => ?_) (fun c25 => ?_)
        ·
          replace hw := hw.1 c25
          exact (hP214 _ _ _).mp hw r_u1 r_u2 hN hF H locs ls hP hD hS (lv_sub hl [1, 2, 3] rfl)
        ·
          replace hw := hw.2 c25
          refine lv_aload_n hx hb dX13_declare_129 rfl (lv_at hl 1 rfl) ?_
          refine gfX13_symbols hx hb hts hK hP hown (hts _ tw_2013) (x := τ.1 3) rfl dX13_declare_130 ?_
          refine lv_istore_n (lv' := [(2, .int (I (τ.1 3))), (4, .int (I k0)), (0, .ref (q 0)), (1, .int (I u1)), (3, .int (I u3))]) hx hb dX13_declare_133 rfl hl (by decide) rfl (fun ls hl => ?_)
          refine lv_aload_n hx hb dX13_declare_134 rfl (lv_at hl 2 rfl) ?_
          refine lv_dup hx hb dX13_declare_135 rfl ?_
          refine gfX13_symbols hx hb hts hK hP hown (hts _ tw_2013) (x := τ.1 3) rfl dX13_declare_136 ?_
          refine lv_iconst (v := I 1) hx hb dX13_declare_139 rfl ?_
          refine bi_iadd hx hb dX13_declare_140 ?_
          obtain ⟨c26, hw⟩ := hw
          refine pfX13_symbols hx hb hts hK hP hD hS hown (hts _ tw_2013) dX13_declare_141 (fun H locs hP hD hS => ?_)
          have hN : n_m (s_v τ 3 (τ.1 3 + 1)) := n_v (i := 3) hN (c26 : rg (τ.1 3 + 1))
          have hF : f_r [2, 3, 10, 11, 12, 20, 21] [1, 2, 3, 6, 8, 9, 10, 11, 12, 30] [] σ (s_v τ 3 (τ.1 3 + 1)) := f_v hF (by decide)
          refine lv_aload_n hx hb dX13_declare_144 rfl (lv_at hl 2 rfl) ?_
          refine gfX13_symbolAt hx hb hts hK hP hown (hts _ tw_2011) dX13_declare_145 ?_
          refine lv_iload_n hx hb dX13_declare_148 rfl (lv_at hl 0 rfl) ?_
          refine lv_aload_n hx hb dX13_declare_149 rfl (lv_at hl 2 rfl) ?_
          refine gfX13_charCount hx hb hts hK hP hown (hts _ tw_2010) (x := τ.1 2) rfl dX13_declare_150 ?_
          obtain ⟨c27, hw⟩ := hw
          refine sdMX13_symbolAt hx hb hK hP hD hS c27 dX13_declare_153 (fun H locs hP hD hS => ?_)
          have hN : n_m (s_a (s_v τ 3 (τ.1 3 + 1)) 2 (τ.1 3) (τ.1 2)) := n_a (k := 2) (j := τ.1 3) hN ((hB.1 2) : rg (τ.1 2))
          have hF : f_r [2, 3, 10, 11, 12, 20, 21] [1, 2, 3, 6, 8, 9, 10, 11, 12, 30] [] σ (s_a (s_v τ 3 (τ.1 3 + 1)) 2 (τ.1 3) (τ.1 2)) := f_a hF (by decide)
          refine lv_aload_n hx hb dX13_declare_154 rfl (lv_at hl 2 rfl) ?_
          refine gfX13_symbolSize hx hb hts hK hP hown (hts _ tw_2012) dX13_declare_155 ?_
          refine lv_iload_n hx hb dX13_declare_158 rfl (lv_at hl 0 rfl) ?_
          refine lv_aload_n hx hb dX13_declare_159 rfl (lv_at hl 2 rfl) ?_
          refine gfX13_tokenSize hx hb hts hK hP hown (hts _ tw_2063) (x := τ.1 18) rfl dX13_declare_160 ?_
          refine sdMX13_symbolSize hx hb hK hP hD hS c27 dX13_declare_163 (fun H locs hP hD hS => ?_)
          have hN : n_m (s_a (s_a (s_v τ 3 (τ.1 3 + 1)) 2 (τ.1 3) (τ.1 2)) 3 (τ.1 3) (τ.1 18)) := n_a (k := 3) (j := τ.1 3) hN ((hB.1 18) : rg (τ.1 18))
          have hF : f_r [2, 3, 10, 11, 12, 20, 21] [1, 2, 3, 6, 8, 9, 10, 11, 12, 30] [] σ (s_a (s_a (s_v τ 3 (τ.1 3 + 1)) 2 (τ.1 3) (τ.1 2)) 3 (τ.1 3) (τ.1 18)) := f_a hF (by decide)
          refine lv_aload_n hx hb dX13_declare_164 rfl (lv_at hl 2 rfl) ?_
          refine lv_aload_n hx hb dX13_declare_165 rfl (lv_at hl 2 rfl) ?_
          refine gfX13_tokenAt hx hb hts hK hP hown (hts _ tw_2062) (x := τ.1 17) rfl dX13_declare_166 ?_
          refine lv_aload_n hx hb dX13_declare_169 rfl (lv_at hl 2 rfl) ?_
          refine gfX13_tokenSize hx hb hts hK hP hown (hts _ tw_2063) (x := τ.1 18) rfl dX13_declare_170 ?_
          obtain ⟨Q28, hc, hw⟩ := hw
          refine wc_V (X := MX g q lb) (va_runV (As := [.int (I (τ.1 17)), .int (I (τ.1 18))]) (rest := []) ⟨hx, hb, hml, hown, hts⟩ (L_X13_keepChars l g q lb hlb (hB.1 17) (hB.1 18) hN hc H.size) (cwV 2 hts (TB_V tw_2617 tw_2619 ts_119 tw_15 co_X13_keepChars) rfl rfl rfl (by decide +kernel) ⟨Nat.le_of_ble_eq_true rfl, Nat.le_of_ble_eq_true rfl⟩) (preV (q0 := 0) (ci := 13) rfl xT_bl hP hK hNb hD rfl rfl xT_at) rfl rfl hl.1 rfl (lv_room (Nat.le_of_ble_eq_true rfl)) dX13_declare_173 ⟨Nat.le_of_ble_eq_true rfl, Nat.le_of_ble_eq_true rfl⟩) hP hD hS hA (fun τ30 H locs hN hf hq hP hD hS => ?_)
          replace hw := hw τ30 hN hf hq
          have hF : f_r [2, 3, 10, 11, 12, 20, 21] [1, 2, 3, 6, 8, 9, 10, 11, 12, 30] [] σ τ30 := f_t hF hf (by decide) (by decide) (by decide)
          have hB := hN
          refine lv_aload_n hx hb dX13_declare_176 rfl (lv_at hl 2 rfl) ?_
          refine lv_iload_n hx hb dX13_declare_177 rfl (lv_at hl 0 rfl) ?_
          obtain ⟨Q31, hc, hw⟩ := hw
          refine wc_V (X := MX g q lb) (va_runV (As := [.int (I (τ.1 3))]) (rest := []) ⟨hx, hb, hml, hown, hts⟩ (L_X13_keepSymbol l g q lb hlb (rg_ix c27.1 c27.2 (by decide)) hN hc H.size) (cwV 1 hts (TB_V tw_2758 tw_2760 ts_153 tw_15 co_X13_keepSymbol) rfl rfl rfl (by decide +kernel) ⟨Nat.le_of_ble_eq_true rfl, Nat.le_of_ble_eq_true rfl⟩) (preV (q0 := 0) (ci := 13) rfl xT_bl hP hK hNb hD rfl rfl xT_at) rfl rfl hl.1 rfl (lv_room (Nat.le_of_ble_eq_true rfl)) dX13_declare_178 ⟨Nat.le_of_ble_eq_true rfl, Nat.le_of_ble_eq_true rfl⟩) hP hD hS hA (fun τ33 H locs hN hf hq hP hD hS => ?_)
          replace hw := hw τ33 hN hf hq
          have hF : f_r [2, 3, 10, 11, 12, 20, 21] [1, 2, 3, 6, 8, 9, 10, 11, 12, 30] [] σ τ33 := f_t hF hf (by decide) (by decide) (by decide)
          have hB := hN
          refine lv_aload_n hx hb dX13_declare_181 rfl (lv_at hl 2 rfl) ?_
          refine gfX13_isVariable hx hb hts hK hP hown (hts _ tw_2018) dX13_declare_182 ?_
          refine lv_iload_n hx hb dX13_declare_185 rfl (lv_at hl 0 rfl) ?_
          refine lv_iload_n hx hb dX13_declare_186 rfl (lv_at hl 3 rfl) ?_
          obtain ⟨c34, hw⟩ := hw
          refine sdMX13_isVariable hx hb hK hP hD hS c27 c34 dX13_declare_187 (fun H locs hP hD hS => ?_)
          have hN : n_m (s_a τ33 8 (τ.1 3) u1) := n_a (k := 8) (j := τ.1 3) hN (r_u1 : rg u1)
          have hF : f_r [2, 3, 10, 11, 12, 20, 21] [1, 2, 3, 6, 8, 9, 10, 11, 12, 30] [] σ (s_a τ33 8 (τ.1 3) u1) := f_a hF (by decide)
          refine lv_aload_n hx hb dX13_declare_188 rfl (lv_at hl 2 rfl) ?_
          refine gfX13_typeOf hx hb hts hK hP hown (hts _ tw_2020) dX13_declare_189 ?_
          refine lv_iload_n hx hb dX13_declare_192 rfl (lv_at hl 0 rfl) ?_
          refine lv_iconst (v := I (-1)) hx hb dX13_declare_193 rfl ?_
          refine sdMX13_typeOf hx hb hK hP hD hS c27 dX13_declare_194 (fun H locs hP hD hS => ?_)
          have hN : n_m (s_a (s_a τ33 8 (τ.1 3) u1) 10 (τ.1 3) (-1)) := n_a (k := 10) (j := τ.1 3) hN ((by decide) : rg (-1))
          have hF : f_r [2, 3, 10, 11, 12, 20, 21] [1, 2, 3, 6, 8, 9, 10, 11, 12, 30] [] σ (s_a (s_a τ33 8 (τ.1 3) u1) 10 (τ.1 3) (-1)) := f_a hF (by decide)
          refine lv_aload_n hx hb dX13_declare_195 rfl (lv_at hl 2 rfl) ?_
          refine gfX13_floatOf hx hb hts hK hP hown (hts _ tw_2021) dX13_declare_196 ?_
          refine lv_iload_n hx hb dX13_declare_199 rfl (lv_at hl 0 rfl) ?_
          refine lv_iconst (v := I (-1)) hx hb dX13_declare_200 rfl ?_
          refine sdMX13_floatOf hx hb hK hP hD hS c27 dX13_declare_201 (fun H locs hP hD hS => ?_)
          have hN : n_m (s_a (s_a (s_a τ33 8 (τ.1 3) u1) 10 (τ.1 3) (-1)) 11 (τ.1 3) (-1)) := n_a (k := 11) (j := τ.1 3) hN ((by decide) : rg (-1))
          have hF : f_r [2, 3, 10, 11, 12, 20, 21] [1, 2, 3, 6, 8, 9, 10, 11, 12, 30] [] σ (s_a (s_a (s_a τ33 8 (τ.1 3) u1) 10 (τ.1 3) (-1)) 11 (τ.1 3) (-1)) := f_a hF (by decide)
          refine lv_aload_n hx hb dX13_declare_202 rfl (lv_at hl 2 rfl) ?_
          refine gfX13_begins hx hb hts hK hP hown (hts _ tw_2022) dX13_declare_203 ?_
          refine lv_iload_n hx hb dX13_declare_206 rfl (lv_at hl 0 rfl) ?_
          refine lv_iconst (v := I 0) hx hb dX13_declare_207 rfl ?_
          refine sdMX13_begins hx hb hK hP hD hS c27 (by decide) dX13_declare_208 (fun H locs hP hD hS => ?_)
          have hN : n_m (s_a (s_a (s_a (s_a τ33 8 (τ.1 3) u1) 10 (τ.1 3) (-1)) 11 (τ.1 3) (-1)) 12 (τ.1 3) 0) := n_a (k := 12) (j := τ.1 3) hN ((by decide) : rg 0)
          have hF : f_r [2, 3, 10, 11, 12, 20, 21] [1, 2, 3, 6, 8, 9, 10, 11, 12, 30] [] σ (s_a (s_a (s_a (s_a τ33 8 (τ.1 3) u1) 10 (τ.1 3) (-1)) 11 (τ.1 3) (-1)) 12 (τ.1 3) 0) := f_a hF (by decide)
          refine lv_aload_n hx hb dX13_declare_209 rfl (lv_at hl 2 rfl) ?_
          refine lv_iload_n hx hb dX13_declare_210 rfl (lv_at hl 0 rfl) ?_
          obtain ⟨Q35, hc, hw⟩ := hw
          refine wc_V (X := MX g q lb) (va_runV (As := [.int (I (τ.1 3))]) (rest := []) ⟨hx, hb, hml, hown, hts⟩ (L_X13_markNamed l g q lb hlb (rg_ix c27.1 c27.2 (by decide)) hN hc H.size) (cwV 1 hts (TB_V tw_2762 tw_2764 ts_154 tw_15 co_X13_markNamed) rfl rfl rfl (by decide +kernel) ⟨Nat.le_of_ble_eq_true rfl, Nat.le_of_ble_eq_true rfl⟩) (preV (q0 := 0) (ci := 13) rfl xT_bl hP hK hNb hD rfl rfl xT_at) rfl rfl hl.1 rfl (lv_room (Nat.le_of_ble_eq_true rfl)) dX13_declare_211 ⟨Nat.le_of_ble_eq_true rfl, Nat.le_of_ble_eq_true rfl⟩) hP hD hS hA (fun τ37 H locs hN hf hq hP hD hS => ?_)
          replace hw := hw τ37 hN hf hq
          have hF : f_r [2, 3, 10, 11, 12, 20, 21] [1, 2, 3, 6, 8, 9, 10, 11, 12, 30] [] σ τ37 := f_t hF hf (by decide) (by decide) (by decide)
          have hB := hN
          exact (hP214 _ _ _).mp hw r_u1 (rg_ix c27.1 c27.2 (by decide)) hN hF H locs ls hP hD hS (lv_sub hl [2, 3, 0] rfl)
      ·
        replace hw := hw.2 c24
        exact (hP118 _).mp hw hN hF H locs ls hP hD hS (lv_sub hl [1] rfl)
  ·
    intro τ hw
    refine (hP118 _).mpr ?_
    intro hN hF H locs ls hP hD hS hl
    have hB := hN
    refine lv_aload_n hx hb dX13_declare_118 rfl (lv_at hl 0 rfl) ?_
    refine lv_bipush (v := I 7) hx hb dX13_declare_119 (by decide) ?_
    obtain ⟨Q38, hc, hw⟩ := hw
    refine wc_V (X := MX g q lb) (va_runV (As := [.int (I 7)]) (rest := []) ⟨hx, hb, hml, hown, hts⟩ (L_X13_failHere l g q lb hlb (by decide) hN hc H.size) (cwV 1 hts (TB_V tw_2585 tw_2587 ts_114 tw_15 co_X13_failHere) rfl rfl rfl (by decide +kernel) ⟨Nat.le_of_ble_eq_true rfl, Nat.le_of_ble_eq_true rfl⟩) (preV (q0 := 0) (ci := 13) rfl xT_bl hP hK hNb hD rfl rfl xT_at) rfl rfl hl.1 rfl (lv_room (Nat.le_of_ble_eq_true rfl)) dX13_declare_121 ⟨Nat.le_of_ble_eq_true rfl, Nat.le_of_ble_eq_true rfl⟩) hP hD hS hA (fun τ40 H locs hN hf hq hP hD hS => ?_)
    replace hw := hw τ40 hN hf hq
    have hF : f_r [2, 3, 10, 11, 12, 20, 21] [1, 2, 3, 6, 8, 9, 10, 11, 12, 30] [] σ τ40 := f_t hF hf (by decide) (by decide) (by decide)
    have hB := hN
    exact xrv hx hb hr hlk hP hK hD hS ⟨_, hN, hF, rfl, hw⟩ (Nat.le_of_ble_eq_true rfl) (Nat.le_of_ble_eq_true rfl) dX13_declare_124
  ·
    intro u1 u2 τ hw
    refine (hP214 _ _ _).mpr ?_
    intro r_u1 r_u2 hN hF H locs ls hP hD hS hl
    have hB := hN
    refine lv_aload_n hx hb dX13_declare_214 rfl (lv_at hl 0 rfl) ?_
    refine gfX13_isActive hx hb hts hK hP hown (hts _ tw_2019) dX13_declare_215 ?_
    refine lv_iload_n hx hb dX13_declare_218 rfl (lv_at hl 2 rfl) ?_
    refine lv_iload_n hx hb dX13_declare_219 rfl (lv_at hl 1 rfl) ?_
    obtain ⟨c41, hw⟩ := hw
    obtain ⟨c42, hw⟩ := hw
    refine sdMX13_isActive hx hb hK hP hD hS c41 c42 dX13_declare_220 (fun H locs hP hD hS => ?_)
    have hN : n_m (s_a τ 9 u2 u1) := n_a (k := 9) (j := u2) hN (r_u1 : rg u1)
    have hF : f_r [2, 3, 10, 11, 12, 20, 21] [1, 2, 3, 6, 8, 9, 10, 11, 12, 30] [] σ (s_a τ 9 u2 u1) := f_a hF (by decide)
    refine lv_iload_n hx hb dX13_declare_221 rfl (lv_at hl 1 rfl) ?_
    refine bi_if_eq (tgt := 245) hx hb r_u1 dX13_declare_222 (by decide) (fun c43 => ?_) (fun c43 => ?_)
    ·
      replace hw := hw.1 c43
      exact xrv hx hb hr hlk hP hK hD hS ⟨_, hN, hF, rfl, hw⟩ (Nat.le_of_ble_eq_true rfl) (Nat.le_of_ble_eq_true rfl) dX13_declare_245
    ·
      replace hw := hw.2 c43
      refine lv_aload_n hx hb dX13_declare_225 rfl (lv_at hl 0 rfl) ?_
      refine gfX13_activeVariables hx hb hts hK hP hown (hts _ tw_2049) dX13_declare_226 ?_
      refine lv_aload_n hx hb dX13_declare_229 rfl (lv_at hl 0 rfl) ?_
      refine gfX13_activeVariableCount hx hb hts hK hP hown (hts _ tw_2050) (x := τ.1 12) rfl dX13_declare_230 ?_
      refine lv_iload_n hx hb dX13_declare_233 rfl (lv_at hl 2 rfl) ?_
      obtain ⟨c44, hw⟩ := hw
      refine sdMX13_activeVariables hx hb hK hP hD hS c44 dX13_declare_234 (fun H locs hP hD hS => ?_)
      have hN : n_m (s_a (s_a τ 9 u2 u1) 30 (τ.1 12) u2) := n_a (k := 30) (j := τ.1 12) hN (r_u2 : rg u2)
      have hF : f_r [2, 3, 10, 11, 12, 20, 21] [1, 2, 3, 6, 8, 9, 10, 11, 12, 30] [] σ (s_a (s_a τ 9 u2 u1) 30 (τ.1 12) u2) := f_a hF (by decide)
      refine lv_aload_n hx hb dX13_declare_235 rfl (lv_at hl 0 rfl) ?_
      refine lv_dup hx hb dX13_declare_236 rfl ?_
      refine gfX13_activeVariableCount hx hb hts hK hP hown (hts _ tw_2050) (x := τ.1 12) rfl dX13_declare_237 ?_
      refine lv_iconst (v := I 1) hx hb dX13_declare_240 rfl ?_
      refine bi_iadd hx hb dX13_declare_241 ?_
      obtain ⟨c45, hw⟩ := hw
      refine pfX13_activeVariableCount hx hb hts hK hP hD hS hown (hts _ tw_2050) dX13_declare_242 (fun H locs hP hD hS => ?_)
      have hN : n_m (s_v (s_a (s_a τ 9 u2 u1) 30 (τ.1 12) u2) 12 (τ.1 12 + 1)) := n_v (i := 12) hN (c45 : rg (τ.1 12 + 1))
      have hF : f_r [2, 3, 10, 11, 12, 20, 21] [1, 2, 3, 6, 8, 9, 10, 11, 12, 30] [] σ (s_v (s_a (s_a τ 9 u2 u1) 30 (τ.1 12) u2) 12 (τ.1 12 + 1)) := f_v hF (by decide)
      exact xrv hx hb hr hlk hP hK hD hS ⟨_, hN, hF, rfl, hw⟩ (Nat.le_of_ble_eq_true rfl) (Nat.le_of_ble_eq_true rfl) dX13_declare_245
def W_X13_readDeclared (n1 : Int) (σ : S0) (Q : S0 → Prop) : Prop :=
  ∀ (P6 : Int → Int → S0 → Prop) (P58 : Int → S0 → Prop),
  (∀ (u1 : Int) (u2 : Int) (τ : S0), ((¬ τ.1 20 = 0 → P58 u2 τ) ∧ (τ.1 20 = 0 → (τ.1 19 = 46 → P58 u2 τ) ∧ (¬ τ.1 19 = 46 → (τ.1 19 = 1 → ∃ (Q7 : S0 → Prop), W_X13_declare u1 τ Q7 ∧ ∀ (τ9 : S0), n_m τ9 → f_r [2, 3, 10, 11, 12, 20, 21] [1, 2, 3, 6, 8, 9, 10, 11, 12, 30] [] τ τ9 → Q7 τ9 → ((¬ τ9.1 20 = 0 → rg (u2 + 1) ∧ P6 u1 (u2 + 1) τ9) ∧ (τ9.1 20 = 0 → ∃ (Q12 : S0 → Prop), W_X13_next τ9 Q12 ∧ ∀ (τ14 : S0), n_m τ14 → f_r [16, 17, 18, 19, 20, 21] [] [] τ9 τ14 → Q12 τ14 → (rg (u2 + 1) ∧ P6 u1 (u2 + 1) τ14)))) ∧ (¬ τ.1 19 = 1 → ∃ (Q16 : S0 → Prop), W_X13_failHere 4 τ Q16 ∧ ∀ (τ18 : S0), n_m τ18 → f_r [20, 21] [] [] τ τ18 → Q16 τ18 → (Q τ18))))) → P6 u1 u2 τ) →
  (∀ (u2 : Int) (τ : S0), ((¬ τ.1 20 = 0 → Q τ) ∧ (τ.1 20 = 0 → (¬ u2 = 0 → Q τ) ∧ (u2 = 0 → ∃ (Q21 : S0 → Prop), W_X13_failHere 4 τ Q21 ∧ ∀ (τ23 : S0), n_m τ23 → f_r [20, 21] [] [] τ τ23 → Q21 τ23 → (Q τ23)))) → P58 u2 τ) →
  ∃ (Q1 : S0 → Prop), W_X13_next σ Q1 ∧ ∀ (τ3 : S0), n_m τ3 → f_r [16, 17, 18, 19, 20, 21] [] [] σ τ3 → Q1 τ3 → (P6 n1 0 τ3)
set_option maxRecDepth 100000 in
set_option maxHeartbeats 4000000 in
theorem L_X13_readDeclared (l : Launch) (g : gG) (q : Nat → Nat) (lb : Nat) (hlb : lb < 2 ^ 31) {n1 : Int} {σ : S0} {Q : S0 → Prop} (r_n1 : rg n1) (hN : n_m σ) (hw : W_X13_readDeclared n1 σ Q) (sz : Nat) : MetV l yX13_readDeclared cX13_readDeclared 3 { frames := 4, cells := 0, slots := 0, locals := 95 } g [.ref (q 0), .int (I n1)] (MX g q lb σ) sz xT (p_V (MX g q lb) [2, 3, 10, 11, 12, 16, 17, 18, 19, 20, 21] [1, 2, 3, 6, 8, 9, 10, 11, 12, 30] [] σ Q) 0 0 := by
  refine mkMet (Qc := fun A => QV g A (p_V (MX g q lb) [2, 3, 10, 11, 12, 16, 17, 18, 19, 20, 21] [1, 2, 3, 6, 8, 9, 10, 11, 12, 30] [] σ Q)) (by decide) (Nat.le_of_ble_eq_true rfl) ?_
  intro p e s m below meth c A H ls hx hb hr hml hown hts hlk hnm hsz hP hK hNb hD hA hAe hS hX hl
  have hl : lv_has ls 3 [(0, .ref (q 0)), (1, .int (I n1))] := hl
  have hB := hN
  have hF : f_r [2, 3, 10, 11, 12, 16, 17, 18, 19, 20, 21] [1, 2, 3, 6, 8, 9, 10, 11, 12, 30] [] σ σ := f_0
  obtain ⟨locs, hlocs⟩ : ∃ z : List Loc, z = [] := ⟨_, rfl⟩
  rw [← hlocs] at hS ⊢
  obtain ⟨P6, hP6⟩ : ∃ P : Int → Int → S0 → Prop, ∀ (u1 : Int) (u2 : Int) (τ : S0), (P u1 u2 τ ↔ (rg u1 → rg u2 → n_m τ → f_r [2, 3, 10, 11, 12, 16, 17, 18, 19, 20, 21] [1, 2, 3, 6, 8, 9, 10, 11, 12, 30] [] σ τ → ∀ (H : Heap) (locs : List Loc) (ls : Array Slot), KP g (MX g q lb τ) H → va_D A (MX g q lb τ) → va_S A s.heap H locs → lv_has ls 3 [(0, .ref (q 0)), (1, .int (I u1)), (2, .int (I u2))] → W p l e ({ frames := 4, cells := 0, slots := 0, locals := 95 }) s m [.ref (q 0), .int (I n1)].toArray below meth c H locs 0 0 (MQ below (QV g A (p_V (MX g q lb) [2, 3, 10, 11, 12, 16, 17, 18, 19, 20, 21] [1, 2, 3, 6, 8, 9, 10, 11, 12, 30] [] σ Q)) [.ref (q 0), .int (I n1)].toArray s 0 0 A) (F0 m 6 ls []))) := ⟨_, fun _ _ _ => Iff.rfl⟩
  obtain ⟨P58, hP58⟩ : ∃ P : Int → S0 → Prop, ∀ (u2 : Int) (τ : S0), (P u2 τ ↔ (rg u2 → n_m τ → f_r [2, 3, 10, 11, 12, 16, 17, 18, 19, 20, 21] [1, 2, 3, 6, 8, 9, 10, 11, 12, 30] [] σ τ → ∀ (H : Heap) (locs : List Loc) (ls : Array Slot), KP g (MX g q lb τ) H → va_D A (MX g q lb τ) → va_S A s.heap H locs → lv_has ls 3 [(0, .ref (q 0)), (2, .int (I u2))] → W p l e ({ frames := 4, cells := 0, slots := 0, locals := 95 }) s m [.ref (q 0), .int (I n1)].toArray below meth c H locs 0 0 (MQ below (QV g A (p_V (MX g q lb) [2, 3, 10, 11, 12, 16, 17, 18, 19, 20, 21] [1, 2, 3, 6, 8, 9, 10, 11, 12, 30] [] σ Q)) [.ref (q 0), .int (I n1)].toArray s 0 0 A) (F0 m 58 ls []))) := ⟨_, fun _ _ => Iff.rfl⟩
  refine (fun hw => ?_) (hw P6 P58 ?_ ?_)
  ·
    refine lv_iconst (v := I 0) hx hb dX13_readDeclared_0 rfl ?_
    refine lv_istore_n (lv' := [(2, .int (I 0)), (0, .ref (q 0)), (1, .int (I n1))]) hx hb dX13_readDeclared_1 rfl hl (by decide) rfl (fun ls hl => ?_)
    refine lv_aload_n hx hb dX13_readDeclared_2 rfl (lv_at hl 1 rfl) ?_
    obtain ⟨Q1, hc, hw⟩ := hw
    refine wc_V (X := MX g q lb) (va_runV (As := []) (rest := []) ⟨hx, hb, hml, hown, hts⟩ (L_X13_next l g q lb hlb  hN hc H.size) (cwV 0 hts (TB_V tw_2536 tw_2538 ts_104 tw_15 co_X13_next) rfl rfl rfl (by decide +kernel) ⟨Nat.le_of_ble_eq_true rfl, Nat.le_of_ble_eq_true rfl⟩) (preV (q0 := 0) (ci := 13) rfl xT_bl hP hK hNb hD rfl rfl xT_at) rfl rfl hl.1 rfl (lv_room (Nat.le_of_ble_eq_true rfl)) dX13_readDeclared_3 ⟨Nat.le_of_ble_eq_true rfl, Nat.le_of_ble_eq_true rfl⟩) hP hD hS hA (fun τ3 H locs hN hf hq hP hD hS => ?_)
    replace hw := hw τ3 hN hf hq
    have hF : f_r [2, 3, 10, 11, 12, 16, 17, 18, 19, 20, 21] [1, 2, 3, 6, 8, 9, 10, 11, 12, 30] [] σ τ3 := f_t hF hf (by decide) (by decide) (by decide)
    have hB := hN
    exact (hP6 _ _ _).mp hw r_n1 (by decide) hN hF H locs ls hP hD hS (lv_sub hl [1, 2, 0] rfl)
  ·
    intro u1 u2 τ hw
    refine (hP6 _ _ _).mpr ?_
    intro r_u1 r_u2 hN hF H locs ls hP hD hS hl
    have hB := hN
    refine lv_aload_n hx hb dX13_readDeclared_6 rfl (lv_at hl 0 rfl) ?_
    refine gfX13_fault hx hb hts hK hP hown (hts _ tw_2065) (x := τ.1 20) rfl dX13_readDeclared_7 ?_
    refine bi_if_ne (tgt := 58) hx hb (hB.1 20) dX13_readDeclared_10 (by decide) (fun c4 => ?_) (fun c4 => ?_)
    ·
      replace hw := hw.1 c4
      exact (hP58 _ _).mp hw r_u2 hN hF H locs ls hP hD hS (lv_sub hl [0, 2] rfl)
    ·
      replace hw := hw.2 c4
      refine lv_aload_n hx hb dX13_readDeclared_13 rfl (lv_at hl 0 rfl) ?_
      refine gfX13_token hx hb hts hK hP hown (hts _ tw_2064) (x := τ.1 19) rfl dX13_readDeclared_14 ?_
      refine lv_bipush (v := I 46) hx hb dX13_readDeclared_17 (by decide) ?_
      refine bi_icmp_eq (tgt := 58) hx hb (hB.1 19) (by decide) dX13_readDeclared_19 (by decide) (fun c5 => ?_) (fun c5 => ?_)
      ·
        replace hw := hw.1 c5
        exact (hP58 _ _).mp hw r_u2 hN hF H locs ls hP hD hS (lv_sub hl [0, 2] rfl)
      ·
        replace hw := hw.2 c5
        refine lv_aload_n hx hb dX13_readDeclared_22 rfl (lv_at hl 0 rfl) ?_
        refine gfX13_token hx hb hts hK hP hown (hts _ tw_2064) (x := τ.1 19) rfl dX13_readDeclared_23 ?_
        refine lv_iconst (v := I 1) hx hb dX13_readDeclared_26 rfl ?_
        refine bi_icmp_eq (tgt := 36) hx hb (hB.1 19) (by decide) dX13_readDeclared_27 (by decide) (fun c6 => ?_) (fun c6 => ?_)
        ·
          replace hw := hw.1 c6
          refine lv_aload_n hx hb dX13_readDeclared_36 rfl (lv_at hl 0 rfl) ?_
          refine lv_iload_n hx hb dX13_readDeclared_37 rfl (lv_at hl 1 rfl) ?_
          obtain ⟨Q7, hc, hw⟩ := hw
          refine wc_V (X := MX g q lb) (va_runV (As := [.int (I u1)]) (rest := []) ⟨hx, hb, hml, hown, hts⟩ (L_X13_declare l g q lb hlb r_u1 hN hc H.size) (cwV 1 hts (TB_V tw_2754 tw_2756 ts_152 tw_15 co_X13_declare) rfl rfl rfl (by decide +kernel) ⟨Nat.le_of_ble_eq_true rfl, Nat.le_of_ble_eq_true rfl⟩) (preV (q0 := 0) (ci := 13) rfl xT_bl hP hK hNb hD rfl rfl xT_at) rfl rfl hl.1 rfl (lv_room (Nat.le_of_ble_eq_true rfl)) dX13_readDeclared_38 ⟨Nat.le_of_ble_eq_true rfl, Nat.le_of_ble_eq_true rfl⟩) hP hD hS hA (fun τ9 H locs hN hf hq hP hD hS => ?_)
          replace hw := hw τ9 hN hf hq
          have hF : f_r [2, 3, 10, 11, 12, 16, 17, 18, 19, 20, 21] [1, 2, 3, 6, 8, 9, 10, 11, 12, 30] [] σ τ9 := f_t hF hf (by decide) (by decide) (by decide)
          have hB := hN
          refine lv_iinc (v := I (u2 + 1)) (lv' := [(2, .int (I (u2 + 1))), (0, .ref (q 0)), (1, .int (I u1))]) hx hb dX13_readDeclared_41 hl (k := 2) rfl (I_add _ _) (by decide) rfl (fun ls hl => ?_)
          refine lv_aload_n hx hb dX13_readDeclared_44 rfl (lv_at hl 1 rfl) ?_
          refine gfX13_fault hx hb hts hK hP hown (hts _ tw_2065) (x := τ9.1 20) rfl dX13_readDeclared_45 ?_
          refine bi_if_ne (tgt := 6) hx hb (hB.1 20) dX13_readDeclared_48 (by decide) (fun c10 => ?_) (fun c10 => ?_)
          ·
            replace hw := hw.1 c10
            obtain ⟨c11, hw⟩ := hw
            exact (hP6 _ _ _).mp hw r_u1 c11 hN hF H locs ls hP hD hS (lv_sub hl [1, 2, 0] rfl)
          ·
            replace hw := hw.2 c10
            refine lv_aload_n hx hb dX13_readDeclared_51 rfl (lv_at hl 1 rfl) ?_
            obtain ⟨Q12, hc, hw⟩ := hw
            refine wc_V (X := MX g q lb) (va_runV (As := []) (rest := []) ⟨hx, hb, hml, hown, hts⟩ (L_X13_next l g q lb hlb  hN hc H.size) (cwV 0 hts (TB_V tw_2536 tw_2538 ts_104 tw_15 co_X13_next) rfl rfl rfl (by decide +kernel) ⟨Nat.le_of_ble_eq_true rfl, Nat.le_of_ble_eq_true rfl⟩) (preV (q0 := 0) (ci := 13) rfl xT_bl hP hK hNb hD rfl rfl xT_at) rfl rfl hl.1 rfl (lv_room (Nat.le_of_ble_eq_true rfl)) dX13_readDeclared_52 ⟨Nat.le_of_ble_eq_true rfl, Nat.le_of_ble_eq_true rfl⟩) hP hD hS hA (fun τ14 H locs hN hf hq hP hD hS => ?_)
            replace hw := hw τ14 hN hf hq
            have hF : f_r [2, 3, 10, 11, 12, 16, 17, 18, 19, 20, 21] [1, 2, 3, 6, 8, 9, 10, 11, 12, 30] [] σ τ14 := f_t hF hf (by decide) (by decide) (by decide)
            have hB := hN
            refine lv_goto (tgt := 6) hx hb dX13_readDeclared_55 (by decide) ?_
            obtain ⟨c15, hw⟩ := hw
            exact (hP6 _ _ _).mp hw r_u1 c15 hN hF H locs ls hP hD hS (lv_sub hl [1, 2, 0] rfl)
        ·
          replace hw := hw.2 c6
          refine lv_aload_n hx hb dX13_readDeclared_30 rfl (lv_at hl 0 rfl) ?_
          refine lv_iconst (v := I 4) hx hb dX13_readDeclared_31 rfl ?_
          obtain ⟨Q16, hc, hw⟩ := hw
          refine wc_V (X := MX g q lb) (va_runV (As := [.int (I 4)]) (rest := []) ⟨hx, hb, hml, hown, hts⟩ (L_X13_failHere l g q lb hlb (by decide) hN hc H.size) (cwV 1 hts (TB_V tw_2585 tw_2587 ts_114 tw_15 co_X13_failHere) rfl rfl rfl (by decide +kernel) ⟨Nat.le_of_ble_eq_true rfl, Nat.le_of_ble_eq_true rfl⟩) (preV (q0 := 0) (ci := 13) rfl xT_bl hP hK hNb hD rfl rfl xT_at) rfl rfl hl.1 rfl (lv_room (Nat.le_of_ble_eq_true rfl)) dX13_readDeclared_32 ⟨Nat.le_of_ble_eq_true rfl, Nat.le_of_ble_eq_true rfl⟩) hP hD hS hA (fun τ18 H locs hN hf hq hP hD hS => ?_)
          replace hw := hw τ18 hN hf hq
          have hF : f_r [2, 3, 10, 11, 12, 16, 17, 18, 19, 20, 21] [1, 2, 3, 6, 8, 9, 10, 11, 12, 30] [] σ τ18 := f_t hF hf (by decide) (by decide) (by decide)
          have hB := hN
          exact xrv hx hb hr hlk hP hK hD hS ⟨_, hN, hF, rfl, hw⟩ (Nat.le_of_ble_eq_true rfl) (Nat.le_of_ble_eq_true rfl) dX13_readDeclared_35
  ·
    intro u2 τ hw
    refine (hP58 _ _).mpr ?_
    intro r_u2 hN hF H locs ls hP hD hS hl
    have hB := hN
    refine lv_aload_n hx hb dX13_readDeclared_58 rfl (lv_at hl 0 rfl) ?_
    refine gfX13_fault hx hb hts hK hP hown (hts _ tw_2065) (x := τ.1 20) rfl dX13_readDeclared_59 ?_
    refine bi_if_ne (tgt := 74) hx hb (hB.1 20) dX13_readDeclared_62 (by decide) (fun c19 => ?_) (fun c19 => ?_)
    ·
      replace hw := hw.1 c19
      exact xrv hx hb hr hlk hP hK hD hS ⟨_, hN, hF, rfl, hw⟩ (Nat.le_of_ble_eq_true rfl) (Nat.le_of_ble_eq_true rfl) dX13_readDeclared_74
    ·
      replace hw := hw.2 c19
      refine lv_iload_n hx hb dX13_readDeclared_65 rfl (lv_at hl 1 rfl) ?_
      refine bi_if_ne (tgt := 74) hx hb r_u2 dX13_readDeclared_66 (by decide) (fun c20 => ?_) (fun c20 => ?_)
      ·
        replace hw := hw.1 c20
        exact xrv hx hb hr hlk hP hK hD hS ⟨_, hN, hF, rfl, hw⟩ (Nat.le_of_ble_eq_true rfl) (Nat.le_of_ble_eq_true rfl) dX13_readDeclared_74
      ·
        replace hw := hw.2 c20
        refine lv_aload_n hx hb dX13_readDeclared_69 rfl (lv_at hl 0 rfl) ?_
        refine lv_iconst (v := I 4) hx hb dX13_readDeclared_70 rfl ?_
        obtain ⟨Q21, hc, hw⟩ := hw
        refine wc_V (X := MX g q lb) (va_runV (As := [.int (I 4)]) (rest := []) ⟨hx, hb, hml, hown, hts⟩ (L_X13_failHere l g q lb hlb (by decide) hN hc H.size) (cwV 1 hts (TB_V tw_2585 tw_2587 ts_114 tw_15 co_X13_failHere) rfl rfl rfl (by decide +kernel) ⟨Nat.le_of_ble_eq_true rfl, Nat.le_of_ble_eq_true rfl⟩) (preV (q0 := 0) (ci := 13) rfl xT_bl hP hK hNb hD rfl rfl xT_at) rfl rfl hl.1 rfl (lv_room (Nat.le_of_ble_eq_true rfl)) dX13_readDeclared_71 ⟨Nat.le_of_ble_eq_true rfl, Nat.le_of_ble_eq_true rfl⟩) hP hD hS hA (fun τ23 H locs hN hf hq hP hD hS => ?_)
        replace hw := hw τ23 hN hf hq
        have hF : f_r [2, 3, 10, 11, 12, 16, 17, 18, 19, 20, 21] [1, 2, 3, 6, 8, 9, 10, 11, 12, 30] [] σ τ23 := f_t hF hf (by decide) (by decide) (by decide)
        have hB := hN
        exact xrv hx hb hr hlk hP hK hD hS ⟨_, hN, hF, rfl, hw⟩ (Nat.le_of_ble_eq_true rfl) (Nat.le_of_ble_eq_true rfl) dX13_readDeclared_74
def W_X13_readApart (σ : S0) (Q : S0 → Prop) : Prop :=
  ∀ (P6 : Int → S0 → Prop) (P73 : Int → Int → Int → Int → S0 → Prop) (P192 : Int → Int → Int → Int → S0 → Prop) (P225 : Int → Int → Int → S0 → Prop) (P251 : Int → Int → Int → S0 → Prop) (P254 : Int → Int → S0 → Prop) (P278 : Int → S0 → Prop),
  (∀ (u1 : Int) (τ : S0), ((¬ τ.1 20 = 0 → P278 u1 τ) ∧ (τ.1 20 = 0 → (τ.1 19 = 46 → P278 u1 τ) ∧ (¬ τ.1 19 = 46 → (τ.1 19 = 1 → ∃ (Q7 : Int → Prop), W_X13_symbolHere τ Q7 ∧ ∀ (x8 : Int), rg x8 → Q7 x8 → ((x8 = (-1) → P73 u1 x8 0 0 τ) ∧ (¬ x8 = (-1) → (0 ≤ x8 ∧ x8 < 1001) ∧ (∀ (x12 : Int), rg x12 → x12 = τ.2.1 8 x8 → ((x12 = 0 → P73 u1 x8 0 0 τ) ∧ (¬ x12 = 0 → ∀ (x14 : Int), rg x14 → x14 = τ.2.1 9 x8 → ((x14 = 0 → P73 u1 x8 0 0 τ) ∧ (¬ x14 = 0 → P73 u1 x8 1 0 τ)))))))) ∧ (¬ τ.1 19 = 1 → ∃ (Q16 : S0 → Prop), W_X13_failHere 4 τ Q16 ∧ ∀ (τ18 : S0), n_m τ18 → f_r [20, 21] [] [] τ τ18 → Q16 τ18 → (Q τ18))))) → P6 u1 τ) →
  (∀ (u1 : Int) (u2 : Int) (u3 : Int) (u4 : Int) (τ : S0), ((u1 ≤ u4 → P192 u1 u2 u3 0 τ) ∧ (u4 < u1 → (u3 = 0 → P192 u1 u2 u3 0 τ) ∧ (¬ u3 = 0 → (¬ τ.1 20 = 0 → P192 u1 u2 u3 0 τ) ∧ (τ.1 20 = 0 → (0 ≤ u4 ∧ u4 < 1001) ∧ (∀ (x28 : Int), rg x28 → x28 = τ.2.1 37 u4 → ((x28 = u2 → rg (u4 + 1) ∧ P73 u1 u2 u3 (u4 + 1) τ) ∧ (¬ x28 = u2 → ∀ (x31 : Int), rg x31 → x31 = τ.2.1 37 u4 → (∃ (Q32 : Int → Prop), W_X13_areApart x31 u2 τ Q32 ∧ ∀ (x33 : Int), rg x33 → Q32 x33 → ((¬ x33 = 0 → rg (u4 + 1) ∧ P73 u1 u2 u3 (u4 + 1) τ) ∧ (x33 = 0 → (¬ τ.1 14 = 1000 → ∀ (x38 : Int), rg x38 → x38 = τ.2.1 37 u4 → (∃ (Q39 : S0 → Prop), W_X13_setApart x38 u2 1 τ Q39 ∧ ∀ (τ41 : S0), n_m τ41 → f_r [] [] [1] τ τ41 → Q39 τ41 → (∀ (x42 : Int), rg x42 → x42 = τ41.2.1 37 u4 → ((0 ≤ τ41.1 14 ∧ τ41.1 14 < 1001) ∧ (rg (τ41.1 14 + 1) ∧ rg (u4 + 1) ∧ P73 u1 u2 u3 (u4 + 1) (s_v (s_a (s_a τ41 32 (τ41.1 14) x42) 33 (τ41.1 14) u2) 14 (τ41.1 14 + 1))))))) ∧ (τ.1 14 = 1000 → ∃ (Q46 : S0 → Prop), W_X13_failHere 5 τ Q46 ∧ ∀ (τ48 : S0), n_m τ48 → f_r [20, 21] [] [] τ τ48 → Q46 τ48 → (rg (u4 + 1) ∧ P73 u1 u2 u3 (u4 + 1) τ48)))))))))))) → P73 u1 u2 u3 u4 τ) →
  (∀ (u1 : Int) (u2 : Int) (u3 : Int) (u4 : Int) (τ : S0), ((u1 ≤ u4 → P225 u1 u2 u3 τ) ∧ (u4 < u1 → (u3 = 0 → P225 u1 u2 u3 τ) ∧ (¬ u3 = 0 → (0 ≤ u4 ∧ u4 < 1001) ∧ (∀ (x53 : Int), rg x53 → x53 = τ.2.1 37 u4 → ((¬ x53 = u2 → rg (u4 + 1) ∧ P192 u1 u2 u3 (u4 + 1) τ) ∧ (x53 = u2 → ∃ (Q56 : S0 → Prop), W_X13_failHere 7 τ Q56 ∧ ∀ (τ58 : S0), n_m τ58 → f_r [20, 21] [] [] τ τ58 → Q56 τ58 → (rg (u4 + 1) ∧ P192 u1 u2 u3 (u4 + 1) τ58))))))) → P192 u1 u2 u3 u4 τ) →
  (∀ (u1 : Int) (u2 : Int) (u3 : Int) (τ : S0), ((¬ u3 = 0 → P254 u1 u2 τ) ∧ (u3 = 0 → (u2 = (-1) → P251 u1 u2 9 τ) ∧ (¬ u2 = (-1) → (0 ≤ u2 ∧ u2 < 1001) ∧ (∀ (x63 : Int), rg x63 → x63 = τ.2.1 8 u2 → ((x63 = 0 → P251 u1 u2 10 τ) ∧ (¬ x63 = 0 → P251 u1 u2 9 τ)))))) → P225 u1 u2 u3 τ) →
  (∀ (u1 : Int) (u2 : Int) (k1 : Int) (τ : S0), (∃ (Q71 : S0 → Prop), W_X13_failHere k1 τ Q71 ∧ ∀ (τ73 : S0), n_m τ73 → f_r [20, 21] [] [] τ τ73 → Q71 τ73 → (P254 u1 u2 τ73)) → P251 u1 u2 k1 τ) →
  (∀ (u1 : Int) (u2 : Int) (τ : S0), ((¬ τ.1 20 = 0 → P6 u1 τ) ∧ (τ.1 20 = 0 → (0 ≤ u1 ∧ u1 < 1001) ∧ (∃ (Q67 : S0 → Prop), W_X13_next (s_a τ 37 u1 u2) Q67 ∧ ∀ (τ69 : S0), n_m τ69 → f_r [16, 17, 18, 19, 20, 21] [] [] (s_a τ 37 u1 u2) τ69 → Q67 τ69 → (rg (u1 + 1) ∧ P6 (u1 + 1) τ69)))) → P254 u1 u2 τ) →
  (∀ (u1 : Int) (τ : S0), ((¬ τ.1 20 = 0 → Q τ) ∧ (τ.1 20 = 0 → (2 ≤ u1 → Q τ) ∧ (u1 < 2 → ∃ (Q21 : S0 → Prop), W_X13_failHere 4 τ Q21 ∧ ∀ (τ23 : S0), n_m τ23 → f_r [20, 21] [] [] τ τ23 → Q21 τ23 → (Q τ23)))) → P278 u1 τ) →
  ∃ (Q1 : S0 → Prop), W_X13_next σ Q1 ∧ ∀ (τ3 : S0), n_m τ3 → f_r [16, 17, 18, 19, 20, 21] [] [] σ τ3 → Q1 τ3 → (P6 0 τ3)
set_option maxRecDepth 100000 in
set_option maxHeartbeats 4000000 in
theorem L_X13_readApart (l : Launch) (g : gG) (q : Nat → Nat) (lb : Nat) (hlb : lb < 2 ^ 31) {σ : S0} {Q : S0 → Prop} (hN : n_m σ) (hw : W_X13_readApart σ Q) (sz : Nat) : MetV l yX13_readApart cX13_readApart 5 { frames := 4, cells := 0, slots := 0, locals := 84 } g [.ref (q 0)] (MX g q lb σ) sz xT (p_V (MX g q lb) [14, 16, 17, 18, 19, 20, 21] [32, 33, 37] [1] σ Q) 0 0 := by
  refine mkMet (Qc := fun A => QV g A (p_V (MX g q lb) [14, 16, 17, 18, 19, 20, 21] [32, 33, 37] [1] σ Q)) (by decide) (Nat.le_of_ble_eq_true rfl) ?_
  intro p e s m below meth c A H ls hx hb hr hml hown hts hlk hnm hsz hP hK hNb hD hA hAe hS hX hl
  have hl : lv_has ls 5 [(0, .ref (q 0))] := hl
  have hB := hN
  have hF : f_r [14, 16, 17, 18, 19, 20, 21] [32, 33, 37] [1] σ σ := f_0
  obtain ⟨locs, hlocs⟩ : ∃ z : List Loc, z = [] := ⟨_, rfl⟩
  rw [← hlocs] at hS ⊢
  obtain ⟨P6, hP6⟩ : ∃ P : Int → S0 → Prop, ∀ (u1 : Int) (τ : S0), (P u1 τ ↔ (rg u1 → n_m τ → f_r [14, 16, 17, 18, 19, 20, 21] [32, 33, 37] [1] σ τ → ∀ (H : Heap) (locs : List Loc) (ls : Array Slot), KP g (MX g q lb τ) H → va_D A (MX g q lb τ) → va_S A s.heap H locs → lv_has ls 5 [(0, .ref (q 0)), (1, .int (I u1))] → W p l e ({ frames := 4, cells := 0, slots := 0, locals := 84 }) s m [.ref (q 0)].toArray below meth c H locs 0 0 (MQ below (QV g A (p_V (MX g q lb) [14, 16, 17, 18, 19, 20, 21] [32, 33, 37] [1] σ Q)) [.ref (q 0)].toArray s 0 0 A) (F0 m 6 ls []))) := ⟨_, fun _ _ => Iff.rfl⟩
  obtain ⟨P73, hP73⟩ : ∃ P : Int → Int → Int → Int → S0 → Prop, ∀ (u1 : Int) (u2 : Int) (u3 : Int) (u4 : Int) (τ : S0), (P u1 u2 u3 u4 τ ↔ (rg u1 → rg u2 → rg u3 → rg u4 → n_m τ → f_r [14, 16, 17, 18, 19, 20, 21] [32, 33, 37] [1] σ τ → ∀ (H : Heap) (locs : List Loc) (ls : Array Slot), KP g (MX g q lb τ) H → va_D A (MX g q lb τ) → va_S A s.heap H locs → lv_has ls 5 [(0, .ref (q 0)), (1, .int (I u1)), (2, .int (I u2)), (3, .int (I u3)), (4, .int (I u4))] → W p l e ({ frames := 4, cells := 0, slots := 0, locals := 84 }) s m [.ref (q 0)].toArray below meth c H locs 0 0 (MQ below (QV g A (p_V (MX g q lb) [14, 16, 17, 18, 19, 20, 21] [32, 33, 37] [1] σ Q)) [.ref (q 0)].toArray s 0 0 A) (F0 m 73 ls []))) := ⟨_, fun _ _ _ _ _ => Iff.rfl⟩
  obtain ⟨P192, hP192⟩ : ∃ P : Int → Int → Int → Int → S0 → Prop, ∀ (u1 : Int) (u2 : Int) (u3 : Int) (u4 : Int) (τ : S0), (P u1 u2 u3 u4 τ ↔ (rg u1 → rg u2 → rg u3 → rg u4 → n_m τ → f_r [14, 16, 17, 18, 19, 20, 21] [32, 33, 37] [1] σ τ → ∀ (H : Heap) (locs : List Loc) (ls : Array Slot), KP g (MX g q lb τ) H → va_D A (MX g q lb τ) → va_S A s.heap H locs → lv_has ls 5 [(0, .ref (q 0)), (1, .int (I u1)), (2, .int (I u2)), (3, .int (I u3)), (4, .int (I u4))] → W p l e ({ frames := 4, cells := 0, slots := 0, locals := 84 }) s m [.ref (q 0)].toArray below meth c H locs 0 0 (MQ below (QV g A (p_V (MX g q lb) [14, 16, 17, 18, 19, 20, 21] [32, 33, 37] [1] σ Q)) [.ref (q 0)].toArray s 0 0 A) (F0 m 192 ls []))) := ⟨_, fun _ _ _ _ _ => Iff.rfl⟩
  obtain ⟨P225, hP225⟩ : ∃ P : Int → Int → Int → S0 → Prop, ∀ (u1 : Int) (u2 : Int) (u3 : Int) (τ : S0), (P u1 u2 u3 τ ↔ (rg u1 → rg u2 → rg u3 → n_m τ → f_r [14, 16, 17, 18, 19, 20, 21] [32, 33, 37] [1] σ τ → ∀ (H : Heap) (locs : List Loc) (ls : Array Slot), KP g (MX g q lb τ) H → va_D A (MX g q lb τ) → va_S A s.heap H locs → lv_has ls 5 [(0, .ref (q 0)), (1, .int (I u1)), (2, .int (I u2)), (3, .int (I u3))] → W p l e ({ frames := 4, cells := 0, slots := 0, locals := 84 }) s m [.ref (q 0)].toArray below meth c H locs 0 0 (MQ below (QV g A (p_V (MX g q lb) [14, 16, 17, 18, 19, 20, 21] [32, 33, 37] [1] σ Q)) [.ref (q 0)].toArray s 0 0 A) (F0 m 225 ls []))) := ⟨_, fun _ _ _ _ => Iff.rfl⟩
  obtain ⟨P251, hP251⟩ : ∃ P : Int → Int → Int → S0 → Prop, ∀ (u1 : Int) (u2 : Int) (k1 : Int) (τ : S0), (P u1 u2 k1 τ ↔ (rg u1 → rg u2 → rg k1 → n_m τ → f_r [14, 16, 17, 18, 19, 20, 21] [32, 33, 37] [1] σ τ → ∀ (H : Heap) (locs : List Loc) (ls : Array Slot), KP g (MX g q lb τ) H → va_D A (MX g q lb τ) → va_S A s.heap H locs → lv_has ls 5 [(0, .ref (q 0)), (1, .int (I u1)), (2, .int (I u2))] → W p l e ({ frames := 4, cells := 0, slots := 0, locals := 84 }) s m [.ref (q 0)].toArray below meth c H locs 0 0 (MQ below (QV g A (p_V (MX g q lb) [14, 16, 17, 18, 19, 20, 21] [32, 33, 37] [1] σ Q)) [.ref (q 0)].toArray s 0 0 A) (F0 m 251 ls [.int (I k1), .ref (q 0)]))) := ⟨_, fun _ _ _ _ => Iff.rfl⟩
  obtain ⟨P254, hP254⟩ : ∃ P : Int → Int → S0 → Prop, ∀ (u1 : Int) (u2 : Int) (τ : S0), (P u1 u2 τ ↔ (rg u1 → rg u2 → n_m τ → f_r [14, 16, 17, 18, 19, 20, 21] [32, 33, 37] [1] σ τ → ∀ (H : Heap) (locs : List Loc) (ls : Array Slot), KP g (MX g q lb τ) H → va_D A (MX g q lb τ) → va_S A s.heap H locs → lv_has ls 5 [(0, .ref (q 0)), (1, .int (I u1)), (2, .int (I u2))] → W p l e ({ frames := 4, cells := 0, slots := 0, locals := 84 }) s m [.ref (q 0)].toArray below meth c H locs 0 0 (MQ below (QV g A (p_V (MX g q lb) [14, 16, 17, 18, 19, 20, 21] [32, 33, 37] [1] σ Q)) [.ref (q 0)].toArray s 0 0 A) (F0 m 254 ls []))) := ⟨_, fun _ _ _ => Iff.rfl⟩
  obtain ⟨P278, hP278⟩ : ∃ P : Int → S0 → Prop, ∀ (u1 : Int) (τ : S0), (P u1 τ ↔ (rg u1 → n_m τ → f_r [14, 16, 17, 18, 19, 20, 21] [32, 33, 37] [1] σ τ → ∀ (H : Heap) (locs : List Loc) (ls : Array Slot), KP g (MX g q lb τ) H → va_D A (MX g q lb τ) → va_S A s.heap H locs → lv_has ls 5 [(0, .ref (q 0)), (1, .int (I u1))] → W p l e ({ frames := 4, cells := 0, slots := 0, locals := 84 }) s m [.ref (q 0)].toArray below meth c H locs 0 0 (MQ below (QV g A (p_V (MX g q lb) [14, 16, 17, 18, 19, 20, 21] [32, 33, 37] [1] σ Q)) [.ref (q 0)].toArray s 0 0 A) (F0 m 278 ls []))) := ⟨_, fun _ _ => Iff.rfl⟩
  refine (fun hw => ?_) (hw P6 P73 P192 P225 P251 P254 P278 ?_ ?_ ?_ ?_ ?_ ?_ ?_)
  ·
    refine lv_iconst (v := I 0) hx hb dX13_readApart_0 rfl ?_
    refine lv_istore_n (lv' := [(1, .int (I 0)), (0, .ref (q 0))]) hx hb dX13_readApart_1 rfl hl (by decide) rfl (fun ls hl => ?_)
    refine lv_aload_n hx hb dX13_readApart_2 rfl (lv_at hl 1 rfl) ?_
    obtain ⟨Q1, hc, hw⟩ := hw
    refine wc_V (X := MX g q lb) (va_runV (As := []) (rest := []) ⟨hx, hb, hml, hown, hts⟩ (L_X13_next l g q lb hlb  hN hc H.size) (cwV 0 hts (TB_V tw_2536 tw_2538 ts_104 tw_15 co_X13_next) rfl rfl rfl (by decide +kernel) ⟨Nat.le_of_ble_eq_true rfl, Nat.le_of_ble_eq_true rfl⟩) (preV (q0 := 0) (ci := 13) rfl xT_bl hP hK hNb hD rfl rfl xT_at) rfl rfl hl.1 rfl (lv_room (Nat.le_of_ble_eq_true rfl)) dX13_readApart_3 ⟨Nat.le_of_ble_eq_true rfl, Nat.le_of_ble_eq_true rfl⟩) hP hD hS hA (fun τ3 H locs hN hf hq hP hD hS => ?_)
    replace hw := hw τ3 hN hf hq
    have hF : f_r [14, 16, 17, 18, 19, 20, 21] [32, 33, 37] [1] σ τ3 := f_t hF hf (by decide) (by decide) (by decide)
    have hB := hN
    exact (hP6 _ _).mp hw (by decide) hN hF H locs ls hP hD hS (lv_sub hl [1, 0] rfl)
  ·
    intro u1 τ hw
    refine (hP6 _ _).mpr ?_
    intro r_u1 hN hF H locs ls hP hD hS hl
    have hB := hN
    refine lv_aload_n hx hb dX13_readApart_6 rfl (lv_at hl 0 rfl) ?_
    refine gfX13_fault hx hb hts hK hP hown (hts _ tw_2065) (x := τ.1 20) rfl dX13_readApart_7 ?_
    refine bi_if_ne (tgt := 278) hx hb (hB.1 20) dX13_readApart_10 (by decide) (fun c4 => ?_) (fun c4 => ?_)
    ·
      replace hw := hw.1 c4
      exact (hP278 _ _).mp hw r_u1 hN hF H locs ls hP hD hS (lv_sub hl [0, 1] rfl)
    ·
      replace hw := hw.2 c4
      refine lv_aload_n hx hb dX13_readApart_13 rfl (lv_at hl 0 rfl) ?_
      refine gfX13_token hx hb hts hK hP hown (hts _ tw_2064) (x := τ.1 19) rfl dX13_readApart_14 ?_
      refine lv_bipush (v := I 46) hx hb dX13_readApart_17 (by decide) ?_
      refine bi_icmp_eq (tgt := 278) hx hb (hB.1 19) (by decide) dX13_readApart_19 (by decide) (fun c5 => ?_) (fun c5 => ?_)
      ·
        replace hw := hw.1 c5
        exact (hP278 _ _).mp hw r_u1 hN hF H locs ls hP hD hS (lv_sub hl [0, 1] rfl)
      ·
        replace hw := hw.2 c5
        refine lv_aload_n hx hb dX13_readApart_22 rfl (lv_at hl 0 rfl) ?_
        refine gfX13_token hx hb hts hK hP hown (hts _ tw_2064) (x := τ.1 19) rfl dX13_readApart_23 ?_
        refine lv_iconst (v := I 1) hx hb dX13_readApart_26 rfl ?_
        refine bi_icmp_eq (tgt := 36) hx hb (hB.1 19) (by decide) dX13_readApart_27 (by decide) (fun c6 => ?_) (fun c6 => ?_)
        ·
          replace hw := hw.1 c6
          refine lv_aload_n hx hb dX13_readApart_36 rfl (lv_at hl 0 rfl) ?_
          obtain ⟨Q7, hc, hw⟩ := hw
          refine wc_i (X := MX g q lb) (va_runV (As := []) (rest := []) ⟨hx, hb, hml, hown, hts⟩ (L_X13_symbolHere l g q lb hlb  hN hc H.size) (cwV 0 hts (TB_V tw_2609 tw_2611 ts_117 tw_15 co_X13_symbolHere) rfl rfl rfl (by decide +kernel) ⟨Nat.le_of_ble_eq_true rfl, Nat.le_of_ble_eq_true rfl⟩) (preV (q0 := 0) (ci := 13) rfl xT_bl hP hK hNb hD rfl rfl xT_at) rfl rfl hl.1 rfl (lv_room (Nat.le_of_ble_eq_true rfl)) dX13_readApart_37 ⟨Nat.le_of_ble_eq_true rfl, Nat.le_of_ble_eq_true rfl⟩) hP hD hS hA (fun x8 H locs r_x8 hq hP hD hS => ?_)
          replace hw := hw x8 r_x8 hq
          refine lv_istore_n (lv' := [(2, .int (I x8)), (0, .ref (q 0)), (1, .int (I u1))]) hx hb dX13_readApart_40 rfl hl (by decide) rfl (fun ls hl => ?_)
          refine lv_iload_n hx hb dX13_readApart_41 rfl (lv_at hl 0 rfl) ?_
          refine lv_iconst (v := I (-1)) hx hb dX13_readApart_42 rfl ?_
          refine bi_icmp_eq (tgt := 68) hx hb r_x8 (by decide) dX13_readApart_43 (by decide) (fun c10 => ?_) (fun c10 => ?_)
          ·
            replace hw := hw.1 c10
            refine lv_iconst (v := I 0) hx hb dX13_readApart_68 rfl ?_
            refine lv_istore_n (lv' := [(3, .int (I 0)), (2, .int (I x8)), (0, .ref (q 0)), (1, .int (I u1))]) hx hb dX13_readApart_69 rfl hl (by decide) rfl (fun ls hl => ?_)
            refine lv_iconst (v := I 0) hx hb dX13_readApart_70 rfl ?_
            refine lv_istore (lv' := [(4, .int (I 0)), (3, .int (I 0)), (2, .int (I x8)), (0, .ref (q 0)), (1, .int (I u1))]) hx hb dX13_readApart_71 hl (by decide) rfl (fun ls hl => ?_)
            exact (hP73 _ _ _ _ _).mp hw r_u1 r_x8 (by decide) (by decide) hN hF H locs ls hP hD hS (lv_sub hl [3, 4, 2, 1, 0] rfl)
          ·
            replace hw := hw.2 c10
            refine lv_aload_n hx hb dX13_readApart_46 rfl (lv_at hl 1 rfl) ?_
            refine gfX13_isVariable hx hb hts hK hP hown (hts _ tw_2018) dX13_readApart_47 ?_
            refine lv_iload_n hx hb dX13_readApart_50 rfl (lv_at hl 0 rfl) ?_
            obtain ⟨c11, hw⟩ := hw
            refine ldMX13_isVariable hx hb hK hP hN c11 dX13_readApart_51 (fun x12 r_x12 e_x12 => ?_)
            replace hw := hw x12 r_x12 e_x12
            refine bi_if_eq (tgt := 68) hx hb r_x12 dX13_readApart_52 (by decide) (fun c13 => ?_) (fun c13 => ?_)
            ·
              replace hw := hw.1 c13
              refine lv_iconst (v := I 0) hx hb dX13_readApart_68 rfl ?_
              refine lv_istore_n (lv' := [(3, .int (I 0)), (2, .int (I x8)), (0, .ref (q 0)), (1, .int (I u1))]) hx hb dX13_readApart_69 rfl hl (by decide) rfl (fun ls hl => ?_)
              refine lv_iconst (v := I 0) hx hb dX13_readApart_70 rfl ?_
              refine lv_istore (lv' := [(4, .int (I 0)), (3, .int (I 0)), (2, .int (I x8)), (0, .ref (q 0)), (1, .int (I u1))]) hx hb dX13_readApart_71 hl (by decide) rfl (fun ls hl => ?_)
              exact (hP73 _ _ _ _ _).mp hw r_u1 r_x8 (by decide) (by decide) hN hF H locs ls hP hD hS (lv_sub hl [3, 4, 2, 1, 0] rfl)
            ·
              replace hw := hw.2 c13
              refine lv_aload_n hx hb dX13_readApart_55 rfl (lv_at hl 1 rfl) ?_
              refine gfX13_isActive hx hb hts hK hP hown (hts _ tw_2019) dX13_readApart_56 ?_
              refine lv_iload_n hx hb dX13_readApart_59 rfl (lv_at hl 0 rfl) ?_
              refine ldMX13_isActive hx hb hK hP hN c11 dX13_readApart_60 (fun x14 r_x14 e_x14 => ?_)
              replace hw := hw x14 r_x14 e_x14
              refine bi_if_eq (tgt := 68) hx hb r_x14 dX13_readApart_61 (by decide) (fun c15 => ?_) (fun c15 => ?_)
              ·
                replace hw := hw.1 c15
                refine lv_iconst (v := I 0) hx hb dX13_readApart_68 rfl ?_
                refine lv_istore_n (lv' := [(3, .int (I 0)), (2, .int (I x8)), (0, .ref (q 0)), (1, .int (I u1))]) hx hb dX13_readApart_69 rfl hl (by decide) rfl (fun ls hl => ?_)
                refine lv_iconst (v := I 0) hx hb dX13_readApart_70 rfl ?_
                refine lv_istore (lv' := [(4, .int (I 0)), (3, .int (I 0)), (2, .int (I x8)), (0, .ref (q 0)), (1, .int (I u1))]) hx hb dX13_readApart_71 hl (by decide) rfl (fun ls hl => ?_)
                exact (hP73 _ _ _ _ _).mp hw r_u1 r_x8 (by decide) (by decide) hN hF H locs ls hP hD hS (lv_sub hl [3, 4, 2, 1, 0] rfl)
              ·
                replace hw := hw.2 c15
                refine lv_iconst (v := I 1) hx hb dX13_readApart_64 rfl ?_
                refine lv_goto (tgt := 69) hx hb dX13_readApart_65 (by decide) ?_
                refine lv_istore_n (lv' := [(3, .int (I 1)), (2, .int (I x8)), (0, .ref (q 0)), (1, .int (I u1))]) hx hb dX13_readApart_69 rfl hl (by decide) rfl (fun ls hl => ?_)
                refine lv_iconst (v := I 0) hx hb dX13_readApart_70 rfl ?_
                refine lv_istore (lv' := [(4, .int (I 0)), (3, .int (I 1)), (2, .int (I x8)), (0, .ref (q 0)), (1, .int (I u1))]) hx hb dX13_readApart_71 hl (by decide) rfl (fun ls hl => ?_)
                exact (hP73 _ _ _ _ _).mp hw r_u1 r_x8 (by decide) (by decide) hN hF H locs ls hP hD hS (lv_sub hl [3, 4, 2, 1, 0] rfl)
        ·
          replace hw := hw.2 c6
          refine lv_aload_n hx hb dX13_readApart_30 rfl (lv_at hl 0 rfl) ?_
          refine lv_iconst (v := I 4) hx hb dX13_readApart_31 rfl ?_
          obtain ⟨Q16, hc, hw⟩ := hw
          refine wc_V (X := MX g q lb) (va_runV (As := [.int (I 4)]) (rest := []) ⟨hx, hb, hml, hown, hts⟩ (L_X13_failHere l g q lb hlb (by decide) hN hc H.size) (cwV 1 hts (TB_V tw_2585 tw_2587 ts_114 tw_15 co_X13_failHere) rfl rfl rfl (by decide +kernel) ⟨Nat.le_of_ble_eq_true rfl, Nat.le_of_ble_eq_true rfl⟩) (preV (q0 := 0) (ci := 13) rfl xT_bl hP hK hNb hD rfl rfl xT_at) rfl rfl hl.1 rfl (lv_room (Nat.le_of_ble_eq_true rfl)) dX13_readApart_32 ⟨Nat.le_of_ble_eq_true rfl, Nat.le_of_ble_eq_true rfl⟩) hP hD hS hA (fun τ18 H locs hN hf hq hP hD hS => ?_)
          replace hw := hw τ18 hN hf hq
          have hF : f_r [14, 16, 17, 18, 19, 20, 21] [32, 33, 37] [1] σ τ18 := f_t hF hf (by decide) (by decide) (by decide)
          have hB := hN
          exact xrv hx hb hr hlk hP hK hD hS ⟨_, hN, hF, rfl, hw⟩ (Nat.le_of_ble_eq_true rfl) (Nat.le_of_ble_eq_true rfl) dX13_readApart_35
  ·
    intro u1 u2 u3 u4 τ hw
    refine (hP73 _ _ _ _ _).mpr ?_
    intro r_u1 r_u2 r_u3 r_u4 hN hF H locs ls hP hD hS hl
    have hB := hN
    refine lv_iload hx hb dX13_readApart_73 (lv_at hl 4 rfl) ?_
    refine lv_iload_n hx hb dX13_readApart_75 rfl (lv_at hl 1 rfl) ?_
    refine bi_icmp_ge (tgt := 189) hx hb r_u4 r_u1 dX13_readApart_76 (by decide) (fun c24 => ?_) (fun c24 => ?_)
    ·
      replace hw := hw.1 c24
      refine lv_iconst (v := I 0) hx hb dX13_readApart_189 rfl ?_
      refine lv_istore (lv' := [(4, .int (I 0)), (0, .ref (q 0)), (1, .int (I u1)), (2, .int (I u2)), (3, .int (I u3))]) hx hb dX13_readApart_190 hl (by decide) rfl (fun ls hl => ?_)
      exact (hP192 _ _ _ _ _).mp hw r_u1 r_u2 r_u3 (by decide) hN hF H locs ls hP hD hS (lv_sub hl [1, 2, 3, 4, 0] rfl)
    ·
      replace hw := hw.2 c24
      refine lv_iload_n hx hb dX13_readApart_79 rfl (lv_at hl 3 rfl) ?_
      refine bi_if_eq (tgt := 189) hx hb r_u3 dX13_readApart_80 (by decide) (fun c25 => ?_) (fun c25 => ?_)
      ·
        replace hw := hw.1 c25
        refine lv_iconst (v := I 0) hx hb dX13_readApart_189 rfl ?_
        refine lv_istore (lv' := [(4, .int (I 0)), (0, .ref (q 0)), (1, .int (I u1)), (2, .int (I u2)), (3, .int (I u3))]) hx hb dX13_readApart_190 hl (by decide) rfl (fun ls hl => ?_)
        exact (hP192 _ _ _ _ _).mp hw r_u1 r_u2 r_u3 (by decide) hN hF H locs ls hP hD hS (lv_sub hl [1, 2, 3, 4, 0] rfl)
      ·
        replace hw := hw.2 c25
        refine lv_aload_n hx hb dX13_readApart_83 rfl (lv_at hl 0 rfl) ?_
        refine gfX13_fault hx hb hts hK hP hown (hts _ tw_2065) (x := τ.1 20) rfl dX13_readApart_84 ?_
        refine bi_if_ne (tgt := 189) hx hb (hB.1 20) dX13_readApart_87 (by decide) (fun c26 => ?_) (fun c26 => ?_)
        ·
          replace hw := hw.1 c26
          refine lv_iconst (v := I 0) hx hb dX13_readApart_189 rfl ?_
          refine lv_istore (lv' := [(4, .int (I 0)), (0, .ref (q 0)), (1, .int (I u1)), (2, .int (I u2)), (3, .int (I u3))]) hx hb dX13_readApart_190 hl (by decide) rfl (fun ls hl => ?_)
          exact (hP192 _ _ _ _ _).mp hw r_u1 r_u2 r_u3 (by decide) hN hF H locs ls hP hD hS (lv_sub hl [1, 2, 3, 4, 0] rfl)
        ·
          replace hw := hw.2 c26
          refine lv_aload_n hx hb dX13_readApart_90 rfl (lv_at hl 0 rfl) ?_
          refine gfX13_distinct hx hb hts hK hP hown (hts _ tw_2067) dX13_readApart_91 ?_
          refine lv_iload hx hb dX13_readApart_94 (lv_at hl 4 rfl) ?_
          obtain ⟨c27, hw⟩ := hw
          refine ldMX13_distinct hx hb hK hP hN c27 dX13_readApart_96 (fun x28 r_x28 e_x28 => ?_)
          replace hw := hw x28 r_x28 e_x28
          refine lv_iload_n hx hb dX13_readApart_97 rfl (lv_at hl 2 rfl) ?_
          refine bi_icmp_eq (tgt := 183) hx hb r_x28 r_u2 dX13_readApart_98 (by decide) (fun c29 => ?_) (fun c29 => ?_)
          ·
            replace hw := hw.1 c29
            refine lv_iinc (v := I (u4 + 1)) (lv' := [(4, .int (I (u4 + 1))), (0, .ref (q 0)), (1, .int (I u1)), (2, .int (I u2)), (3, .int (I u3))]) hx hb dX13_readApart_183 hl (k := 4) rfl (I_add _ _) (by decide) rfl (fun ls hl => ?_)
            refine lv_goto (tgt := 73) hx hb dX13_readApart_186 (by decide) ?_
            obtain ⟨c30, hw⟩ := hw
            exact (hP73 _ _ _ _ _).mp hw r_u1 r_u2 r_u3 c30 hN hF H locs ls hP hD hS (lv_sub hl [1, 2, 3, 4, 0] rfl)
          ·
            replace hw := hw.2 c29
            refine lv_aload_n hx hb dX13_readApart_101 rfl (lv_at hl 0 rfl) ?_
            refine lv_aload_n hx hb dX13_readApart_102 rfl (lv_at hl 0 rfl) ?_
            refine gfX13_distinct hx hb hts hK hP hown (hts _ tw_2067) dX13_readApart_103 ?_
            refine lv_iload hx hb dX13_readApart_106 (lv_at hl 4 rfl) ?_
            refine ldMX13_distinct hx hb hK hP hN c27 dX13_readApart_108 (fun x31 r_x31 e_x31 => ?_)
            replace hw := hw x31 r_x31 e_x31
            refine lv_iload_n hx hb dX13_readApart_109 rfl (lv_at hl 2 rfl) ?_
            obtain ⟨Q32, hc, hw⟩ := hw
            refine wc_i (X := MX g q lb) (va_runV (As := [.int (I x31), .int (I u2)]) (rest := []) ⟨hx, hb, hml, hown, hts⟩ (L_X13_areApart l g q lb hlb r_x31 r_u2 hN hc H.size) (cwV 2 hts (TB_V tw_2738 tw_2740 ts_148 tw_15 co_X13_areApart) rfl rfl rfl (by decide +kernel) ⟨Nat.le_of_ble_eq_true rfl, Nat.le_of_ble_eq_true rfl⟩) (preV (q0 := 0) (ci := 13) rfl xT_bl hP hK hNb hD rfl rfl xT_at) rfl rfl hl.1 rfl (lv_room (Nat.le_of_ble_eq_true rfl)) dX13_readApart_110 ⟨Nat.le_of_ble_eq_true rfl, Nat.le_of_ble_eq_true rfl⟩) hP hD hS hA (fun x33 H locs r_x33 hq hP hD hS => ?_)
            replace hw := hw x33 r_x33 hq
            refine bi_if_ne (tgt := 183) hx hb r_x33 dX13_readApart_113 (by decide) (fun c35 => ?_) (fun c35 => ?_)
            ·
              replace hw := hw.1 c35
              refine lv_iinc (v := I (u4 + 1)) (lv' := [(4, .int (I (u4 + 1))), (0, .ref (q 0)), (1, .int (I u1)), (2, .int (I u2)), (3, .int (I u3))]) hx hb dX13_readApart_183 hl (k := 4) rfl (I_add _ _) (by decide) rfl (fun ls hl => ?_)
              refine lv_goto (tgt := 73) hx hb dX13_readApart_186 (by decide) ?_
              obtain ⟨c36, hw⟩ := hw
              exact (hP73 _ _ _ _ _).mp hw r_u1 r_u2 r_u3 c36 hN hF H locs ls hP hD hS (lv_sub hl [1, 2, 3, 4, 0] rfl)
            ·
              replace hw := hw.2 c35
              refine lv_aload_n hx hb dX13_readApart_116 rfl (lv_at hl 0 rfl) ?_
              refine gfX13_apartCount hx hb hts hK hP hown (hts _ tw_2055) (x := τ.1 14) rfl dX13_readApart_117 ?_
              refine lv_sipush (v := I 1000) hx hb dX13_readApart_120 (by decide) ?_
              refine bi_icmp_ne (tgt := 134) hx hb (hB.1 14) (by decide) dX13_readApart_123 (by decide) (fun c37 => ?_) (fun c37 => ?_)
              ·
                replace hw := hw.1 c37
                refine lv_aload_n hx hb dX13_readApart_134 rfl (lv_at hl 0 rfl) ?_
                refine lv_aload_n hx hb dX13_readApart_135 rfl (lv_at hl 0 rfl) ?_
                refine gfX13_distinct hx hb hts hK hP hown (hts _ tw_2067) dX13_readApart_136 ?_
                refine lv_iload hx hb dX13_readApart_139 (lv_at hl 4 rfl) ?_
                refine ldMX13_distinct hx hb hK hP hN c27 dX13_readApart_141 (fun x38 r_x38 e_x38 => ?_)
                replace hw := hw x38 r_x38 e_x38
                refine lv_iload_n hx hb dX13_readApart_142 rfl (lv_at hl 2 rfl) ?_
                refine lv_iconst (v := I 1) hx hb dX13_readApart_143 rfl ?_
                obtain ⟨Q39, hc, hw⟩ := hw
                refine wc_V (X := MX g q lb) (va_runV (As := [.int (I x38), .int (I u2), .int (I 1)]) (rest := []) ⟨hx, hb, hml, hown, hts⟩ (L_X13_setApart l g q lb hlb r_x38 r_u2 (by decide) hN hc H.size) (cwV 3 hts (TB_V tw_2770 tw_2772 ts_156 tw_15 co_X13_setApart) rfl rfl rfl (by decide +kernel) ⟨Nat.le_of_ble_eq_true rfl, Nat.le_of_ble_eq_true rfl⟩) (preV (q0 := 0) (ci := 13) rfl xT_bl hP hK hNb hD rfl rfl xT_at) rfl rfl hl.1 rfl (lv_room (Nat.le_of_ble_eq_true rfl)) dX13_readApart_144 ⟨Nat.le_of_ble_eq_true rfl, Nat.le_of_ble_eq_true rfl⟩) hP hD hS hA (fun τ41 H locs hN hf hq hP hD hS => ?_)
                replace hw := hw τ41 hN hf hq
                have hF : f_r [14, 16, 17, 18, 19, 20, 21] [32, 33, 37] [1] σ τ41 := f_t hF hf (by decide) (by decide) (by decide)
                have hB := hN
                refine lv_aload_n hx hb dX13_readApart_147 rfl (lv_at hl 0 rfl) ?_
                refine gfX13_apartA hx hb hts hK hP hown (hts _ tw_2053) dX13_readApart_148 ?_
                refine lv_aload_n hx hb dX13_readApart_151 rfl (lv_at hl 0 rfl) ?_
                refine gfX13_apartCount hx hb hts hK hP hown (hts _ tw_2055) (x := τ41.1 14) rfl dX13_readApart_152 ?_
                refine lv_aload_n hx hb dX13_readApart_155 rfl (lv_at hl 0 rfl) ?_
                refine gfX13_distinct hx hb hts hK hP hown (hts _ tw_2067) dX13_readApart_156 ?_
                refine lv_iload hx hb dX13_readApart_159 (lv_at hl 4 rfl) ?_
                refine ldMX13_distinct hx hb hK hP hN c27 dX13_readApart_161 (fun x42 r_x42 e_x42 => ?_)
                replace hw := hw x42 r_x42 e_x42
                obtain ⟨c43, hw⟩ := hw
                refine sdMX13_apartA hx hb hK hP hD hS c43 dX13_readApart_162 (fun H locs hP hD hS => ?_)
                have hN : n_m (s_a τ41 32 (τ41.1 14) x42) := n_a (k := 32) (j := τ41.1 14) hN (r_x42 : rg x42)
                have hF : f_r [14, 16, 17, 18, 19, 20, 21] [32, 33, 37] [1] σ (s_a τ41 32 (τ41.1 14) x42) := f_a hF (by decide)
                refine lv_aload_n hx hb dX13_readApart_163 rfl (lv_at hl 0 rfl) ?_
                refine gfX13_apartB hx hb hts hK hP hown (hts _ tw_2054) dX13_readApart_164 ?_
                refine lv_aload_n hx hb dX13_readApart_167 rfl (lv_at hl 0 rfl) ?_
                refine gfX13_apartCount hx hb hts hK hP hown (hts _ tw_2055) (x := τ41.1 14) rfl dX13_readApart_168 ?_
                refine lv_iload_n hx hb dX13_readApart_171 rfl (lv_at hl 2 rfl) ?_
                refine sdMX13_apartB hx hb hK hP hD hS c43 dX13_readApart_172 (fun H locs hP hD hS => ?_)
                have hN : n_m (s_a (s_a τ41 32 (τ41.1 14) x42) 33 (τ41.1 14) u2) := n_a (k := 33) (j := τ41.1 14) hN (r_u2 : rg u2)
                have hF : f_r [14, 16, 17, 18, 19, 20, 21] [32, 33, 37] [1] σ (s_a (s_a τ41 32 (τ41.1 14) x42) 33 (τ41.1 14) u2) := f_a hF (by decide)
                refine lv_aload_n hx hb dX13_readApart_173 rfl (lv_at hl 0 rfl) ?_
                refine lv_dup hx hb dX13_readApart_174 rfl ?_
                refine gfX13_apartCount hx hb hts hK hP hown (hts _ tw_2055) (x := τ41.1 14) rfl dX13_readApart_175 ?_
                refine lv_iconst (v := I 1) hx hb dX13_readApart_178 rfl ?_
                refine bi_iadd hx hb dX13_readApart_179 ?_
                obtain ⟨c44, hw⟩ := hw
                refine pfX13_apartCount hx hb hts hK hP hD hS hown (hts _ tw_2055) dX13_readApart_180 (fun H locs hP hD hS => ?_)
                have hN : n_m (s_v (s_a (s_a τ41 32 (τ41.1 14) x42) 33 (τ41.1 14) u2) 14 (τ41.1 14 + 1)) := n_v (i := 14) hN (c44 : rg (τ41.1 14 + 1))
                have hF : f_r [14, 16, 17, 18, 19, 20, 21] [32, 33, 37] [1] σ (s_v (s_a (s_a τ41 32 (τ41.1 14) x42) 33 (τ41.1 14) u2) 14 (τ41.1 14 + 1)) := f_v hF (by decide)
                refine lv_iinc (v := I (u4 + 1)) (lv' := [(4, .int (I (u4 + 1))), (0, .ref (q 0)), (1, .int (I u1)), (2, .int (I u2)), (3, .int (I u3))]) hx hb dX13_readApart_183 hl (k := 4) rfl (I_add _ _) (by decide) rfl (fun ls hl => ?_)
                refine lv_goto (tgt := 73) hx hb dX13_readApart_186 (by decide) ?_
                obtain ⟨c45, hw⟩ := hw
                exact (hP73 _ _ _ _ _).mp hw r_u1 r_u2 r_u3 c45 hN hF H locs ls hP hD hS (lv_sub hl [1, 2, 3, 4, 0] rfl)
              ·
                replace hw := hw.2 c37
                refine lv_aload_n hx hb dX13_readApart_126 rfl (lv_at hl 0 rfl) ?_
                refine lv_iconst (v := I 5) hx hb dX13_readApart_127 rfl ?_
                obtain ⟨Q46, hc, hw⟩ := hw
                refine wc_V (X := MX g q lb) (va_runV (As := [.int (I 5)]) (rest := []) ⟨hx, hb, hml, hown, hts⟩ (L_X13_failHere l g q lb hlb (by decide) hN hc H.size) (cwV 1 hts (TB_V tw_2585 tw_2587 ts_114 tw_15 co_X13_failHere) rfl rfl rfl (by decide +kernel) ⟨Nat.le_of_ble_eq_true rfl, Nat.le_of_ble_eq_true rfl⟩) (preV (q0 := 0) (ci := 13) rfl xT_bl hP hK hNb hD rfl rfl xT_at) rfl rfl hl.1 rfl (lv_room (Nat.le_of_ble_eq_true rfl)) dX13_readApart_128 ⟨Nat.le_of_ble_eq_true rfl, Nat.le_of_ble_eq_true rfl⟩) hP hD hS hA (fun τ48 H locs hN hf hq hP hD hS => ?_)
                replace hw := hw τ48 hN hf hq
                have hF : f_r [14, 16, 17, 18, 19, 20, 21] [32, 33, 37] [1] σ τ48 := f_t hF hf (by decide) (by decide) (by decide)
                have hB := hN
                refine lv_goto (tgt := 183) hx hb dX13_readApart_131 (by decide) ?_
                refine lv_iinc (v := I (u4 + 1)) (lv' := [(4, .int (I (u4 + 1))), (0, .ref (q 0)), (1, .int (I u1)), (2, .int (I u2)), (3, .int (I u3))]) hx hb dX13_readApart_183 hl (k := 4) rfl (I_add _ _) (by decide) rfl (fun ls hl => ?_)
                refine lv_goto (tgt := 73) hx hb dX13_readApart_186 (by decide) ?_
                obtain ⟨c49, hw⟩ := hw
                exact (hP73 _ _ _ _ _).mp hw r_u1 r_u2 r_u3 c49 hN hF H locs ls hP hD hS (lv_sub hl [1, 2, 3, 4, 0] rfl)
  ·
    intro u1 u2 u3 u4 τ hw
    refine (hP192 _ _ _ _ _).mpr ?_
    intro r_u1 r_u2 r_u3 r_u4 hN hF H locs ls hP hD hS hl
    have hB := hN
    refine lv_iload hx hb dX13_readApart_192 (lv_at hl 4 rfl) ?_
    refine lv_iload_n hx hb dX13_readApart_194 rfl (lv_at hl 1 rfl) ?_
    refine bi_icmp_ge (tgt := 225) hx hb r_u4 r_u1 dX13_readApart_195 (by decide) (fun c50 => ?_) (fun c50 => ?_)
    ·
      replace hw := hw.1 c50
      exact (hP225 _ _ _ _).mp hw r_u1 r_u2 r_u3 hN hF H locs ls hP hD hS (lv_sub hl [0, 1, 2, 3] rfl)
    ·
      replace hw := hw.2 c50
      refine lv_iload_n hx hb dX13_readApart_198 rfl (lv_at hl 3 rfl) ?_
      refine bi_if_eq (tgt := 225) hx hb r_u3 dX13_readApart_199 (by decide) (fun c51 => ?_) (fun c51 => ?_)
      ·
        replace hw := hw.1 c51
        exact (hP225 _ _ _ _).mp hw r_u1 r_u2 r_u3 hN hF H locs ls hP hD hS (lv_sub hl [0, 1, 2, 3] rfl)
      ·
        replace hw := hw.2 c51
        refine lv_aload_n hx hb dX13_readApart_202 rfl (lv_at hl 0 rfl) ?_
        refine gfX13_distinct hx hb hts hK hP hown (hts _ tw_2067) dX13_readApart_203 ?_
        refine lv_iload hx hb dX13_readApart_206 (lv_at hl 4 rfl) ?_
        obtain ⟨c52, hw⟩ := hw
        refine ldMX13_distinct hx hb hK hP hN c52 dX13_readApart_208 (fun x53 r_x53 e_x53 => ?_)
        replace hw := hw x53 r_x53 e_x53
        refine lv_iload_n hx hb dX13_readApart_209 rfl (lv_at hl 2 rfl) ?_
        refine bi_icmp_ne (tgt := 219) hx hb r_x53 r_u2 dX13_readApart_210 (by decide) (fun c54 => ?_) (fun c54 => ?_)
        ·
          replace hw := hw.1 c54
          refine lv_iinc (v := I (u4 + 1)) (lv' := [(4, .int (I (u4 + 1))), (0, .ref (q 0)), (1, .int (I u1)), (2, .int (I u2)), (3, .int (I u3))]) hx hb dX13_readApart_219 hl (k := 4) rfl (I_add _ _) (by decide) rfl (fun ls hl => ?_)
          refine lv_goto (tgt := 192) hx hb dX13_readApart_222 (by decide) ?_
          obtain ⟨c55, hw⟩ := hw
          exact (hP192 _ _ _ _ _).mp hw r_u1 r_u2 r_u3 c55 hN hF H locs ls hP hD hS (lv_sub hl [1, 2, 3, 4, 0] rfl)
        ·
          replace hw := hw.2 c54
          refine lv_aload_n hx hb dX13_readApart_213 rfl (lv_at hl 0 rfl) ?_
          refine lv_bipush (v := I 7) hx hb dX13_readApart_214 (by decide) ?_
          obtain ⟨Q56, hc, hw⟩ := hw
          refine wc_V (X := MX g q lb) (va_runV (As := [.int (I 7)]) (rest := []) ⟨hx, hb, hml, hown, hts⟩ (L_X13_failHere l g q lb hlb (by decide) hN hc H.size) (cwV 1 hts (TB_V tw_2585 tw_2587 ts_114 tw_15 co_X13_failHere) rfl rfl rfl (by decide +kernel) ⟨Nat.le_of_ble_eq_true rfl, Nat.le_of_ble_eq_true rfl⟩) (preV (q0 := 0) (ci := 13) rfl xT_bl hP hK hNb hD rfl rfl xT_at) rfl rfl hl.1 rfl (lv_room (Nat.le_of_ble_eq_true rfl)) dX13_readApart_216 ⟨Nat.le_of_ble_eq_true rfl, Nat.le_of_ble_eq_true rfl⟩) hP hD hS hA (fun τ58 H locs hN hf hq hP hD hS => ?_)
          replace hw := hw τ58 hN hf hq
          have hF : f_r [14, 16, 17, 18, 19, 20, 21] [32, 33, 37] [1] σ τ58 := f_t hF hf (by decide) (by decide) (by decide)
          have hB := hN
          refine lv_iinc (v := I (u4 + 1)) (lv' := [(4, .int (I (u4 + 1))), (0, .ref (q 0)), (1, .int (I u1)), (2, .int (I u2)), (3, .int (I u3))]) hx hb dX13_readApart_219 hl (k := 4) rfl (I_add _ _) (by decide) rfl (fun ls hl => ?_)
          refine lv_goto (tgt := 192) hx hb dX13_readApart_222 (by decide) ?_
          obtain ⟨c59, hw⟩ := hw
          exact (hP192 _ _ _ _ _).mp hw r_u1 r_u2 r_u3 c59 hN hF H locs ls hP hD hS (lv_sub hl [1, 2, 3, 4, 0] rfl)
  ·
    intro u1 u2 u3 τ hw
    refine (hP225 _ _ _ _).mpr ?_
    intro r_u1 r_u2 r_u3 hN hF H locs ls hP hD hS hl
    have hB := hN
    refine lv_iload_n hx hb dX13_readApart_225 rfl (lv_at hl 3 rfl) ?_
    refine bi_if_ne (tgt := 254) hx hb r_u3 dX13_readApart_226 (by decide) (fun c60 => ?_) (fun c60 => ?_)
    ·
      replace hw := hw.1 c60
      exact (hP254 _ _ _).mp hw r_u1 r_u2 hN hF H locs ls hP hD hS (lv_sub hl [0, 1, 2] rfl)
    ·
      replace hw := hw.2 c60
      refine lv_aload_n hx hb dX13_readApart_229 rfl (lv_at hl 0 rfl) ?_
      refine lv_iload_n hx hb dX13_readApart_230 rfl (lv_at hl 2 rfl) ?_
      refine lv_iconst (v := I (-1)) hx hb dX13_readApart_231 rfl ?_
      refine bi_icmp_eq (tgt := 244) hx hb r_u2 (by decide) dX13_readApart_232 (by decide) (fun c61 => ?_) (fun c61 => ?_)
      ·
        replace hw := hw.1 c61
        refine lv_bipush (v := I 9) hx hb dX13_readApart_244 (by decide) ?_
        refine lv_goto (tgt := 251) hx hb dX13_readApart_246 (by decide) ?_
        exact (hP251 _ _ _ _).mp hw r_u1 r_u2 (by decide) hN hF H locs ls hP hD hS (lv_sub hl [0, 1, 2] rfl)
      ·
        replace hw := hw.2 c61
        refine lv_aload_n hx hb dX13_readApart_235 rfl (lv_at hl 0 rfl) ?_
        refine gfX13_isVariable hx hb hts hK hP hown (hts _ tw_2018) dX13_readApart_236 ?_
        refine lv_iload_n hx hb dX13_readApart_239 rfl (lv_at hl 2 rfl) ?_
        obtain ⟨c62, hw⟩ := hw
        refine ldMX13_isVariable hx hb hK hP hN c62 dX13_readApart_240 (fun x63 r_x63 e_x63 => ?_)
        replace hw := hw x63 r_x63 e_x63
        refine bi_if_eq (tgt := 249) hx hb r_x63 dX13_readApart_241 (by decide) (fun c64 => ?_) (fun c64 => ?_)
        ·
          replace hw := hw.1 c64
          refine lv_bipush (v := I 10) hx hb dX13_readApart_249 (by decide) ?_
          exact (hP251 _ _ _ _).mp hw r_u1 r_u2 (by decide) hN hF H locs ls hP hD hS (lv_sub hl [0, 1, 2] rfl)
        ·
          replace hw := hw.2 c64
          refine lv_bipush (v := I 9) hx hb dX13_readApart_244 (by decide) ?_
          refine lv_goto (tgt := 251) hx hb dX13_readApart_246 (by decide) ?_
          exact (hP251 _ _ _ _).mp hw r_u1 r_u2 (by decide) hN hF H locs ls hP hD hS (lv_sub hl [0, 1, 2] rfl)
  ·
    intro u1 u2 k1 τ hw
    refine (hP251 _ _ _ _).mpr ?_
    intro r_u1 r_u2 r_k1 hN hF H locs ls hP hD hS hl
    have hB := hN
    obtain ⟨Q71, hc, hw⟩ := hw
    refine wc_V (X := MX g q lb) (va_runV (As := [.int (I k1)]) (rest := []) ⟨hx, hb, hml, hown, hts⟩ (L_X13_failHere l g q lb hlb r_k1 hN hc H.size) (cwV 1 hts (TB_V tw_2585 tw_2587 ts_114 tw_15 co_X13_failHere) rfl rfl rfl (by decide +kernel) ⟨Nat.le_of_ble_eq_true rfl, Nat.le_of_ble_eq_true rfl⟩) (preV (q0 := 0) (ci := 13) rfl xT_bl hP hK hNb hD rfl rfl xT_at) rfl rfl hl.1 rfl (lv_room (Nat.le_of_ble_eq_true rfl)) dX13_readApart_251 ⟨Nat.le_of_ble_eq_true rfl, Nat.le_of_ble_eq_true rfl⟩) hP hD hS hA (fun τ73 H locs hN hf hq hP hD hS => ?_)
    replace hw := hw τ73 hN hf hq
    have hF : f_r [14, 16, 17, 18, 19, 20, 21] [32, 33, 37] [1] σ τ73 := f_t hF hf (by decide) (by decide) (by decide)
    have hB := hN
    exact (hP254 _ _ _).mp hw r_u1 r_u2 hN hF H locs ls hP hD hS (lv_sub hl [0, 1, 2] rfl)
  ·
    intro u1 u2 τ hw
    refine (hP254 _ _ _).mpr ?_
    intro r_u1 r_u2 hN hF H locs ls hP hD hS hl
    have hB := hN
    refine lv_aload_n hx hb dX13_readApart_254 rfl (lv_at hl 0 rfl) ?_
    refine gfX13_fault hx hb hts hK hP hown (hts _ tw_2065) (x := τ.1 20) rfl dX13_readApart_255 ?_
    refine bi_if_ne (tgt := 275) hx hb (hB.1 20) dX13_readApart_258 (by decide) (fun c65 => ?_) (fun c65 => ?_)
    ·
      replace hw := hw.1 c65
      refine lv_goto (tgt := 6) hx hb dX13_readApart_275 (by decide) ?_
      exact (hP6 _ _).mp hw r_u1 hN hF H locs ls hP hD hS (lv_sub hl [0, 1] rfl)
    ·
      replace hw := hw.2 c65
      refine lv_aload_n hx hb dX13_readApart_261 rfl (lv_at hl 0 rfl) ?_
      refine gfX13_distinct hx hb hts hK hP hown (hts _ tw_2067) dX13_readApart_262 ?_
      refine lv_iload_n hx hb dX13_readApart_265 rfl (lv_at hl 1 rfl) ?_
      refine lv_iload_n hx hb dX13_readApart_266 rfl (lv_at hl 2 rfl) ?_
      obtain ⟨c66, hw⟩ := hw
      refine sdMX13_distinct hx hb hK hP hD hS c66 dX13_readApart_267 (fun H locs hP hD hS => ?_)
      have hN : n_m (s_a τ 37 u1 u2) := n_a (k := 37) (j := u1) hN (r_u2 : rg u2)
      have hF : f_r [14, 16, 17, 18, 19, 20, 21] [32, 33, 37] [1] σ (s_a τ 37 u1 u2) := f_a hF (by decide)
      refine lv_iinc (v := I (u1 + 1)) (lv' := [(1, .int (I (u1 + 1))), (0, .ref (q 0)), (2, .int (I u2))]) hx hb dX13_readApart_268 hl (k := 1) rfl (I_add _ _) (by decide) rfl (fun ls hl => ?_)
      refine lv_aload_n hx hb dX13_readApart_271 rfl (lv_at hl 1 rfl) ?_
      obtain ⟨Q67, hc, hw⟩ := hw
      refine wc_V (X := MX g q lb) (va_runV (As := []) (rest := []) ⟨hx, hb, hml, hown, hts⟩ (L_X13_next l g q lb hlb  hN hc H.size) (cwV 0 hts (TB_V tw_2536 tw_2538 ts_104 tw_15 co_X13_next) rfl rfl rfl (by decide +kernel) ⟨Nat.le_of_ble_eq_true rfl, Nat.le_of_ble_eq_true rfl⟩) (preV (q0 := 0) (ci := 13) rfl xT_bl hP hK hNb hD rfl rfl xT_at) rfl rfl hl.1 rfl (lv_room (Nat.le_of_ble_eq_true rfl)) dX13_readApart_272 ⟨Nat.le_of_ble_eq_true rfl, Nat.le_of_ble_eq_true rfl⟩) hP hD hS hA (fun τ69 H locs hN hf hq hP hD hS => ?_)
      replace hw := hw τ69 hN hf hq
      have hF : f_r [14, 16, 17, 18, 19, 20, 21] [32, 33, 37] [1] σ τ69 := f_t hF hf (by decide) (by decide) (by decide)
      have hB := hN
      refine lv_goto (tgt := 6) hx hb dX13_readApart_275 (by decide) ?_
      obtain ⟨c70, hw⟩ := hw
      exact (hP6 _ _).mp hw c70 hN hF H locs ls hP hD hS (lv_sub hl [1, 0] rfl)
  ·
    intro u1 τ hw
    refine (hP278 _ _).mpr ?_
    intro r_u1 hN hF H locs ls hP hD hS hl
    have hB := hN
    refine lv_aload_n hx hb dX13_readApart_278 rfl (lv_at hl 0 rfl) ?_
    refine gfX13_fault hx hb hts hK hP hown (hts _ tw_2065) (x := τ.1 20) rfl dX13_readApart_279 ?_
    refine bi_if_ne (tgt := 295) hx hb (hB.1 20) dX13_readApart_282 (by decide) (fun c19 => ?_) (fun c19 => ?_)
    ·
      replace hw := hw.1 c19
      exact xrv hx hb hr hlk hP hK hD hS ⟨_, hN, hF, rfl, hw⟩ (Nat.le_of_ble_eq_true rfl) (Nat.le_of_ble_eq_true rfl) dX13_readApart_295
    ·
      replace hw := hw.2 c19
      refine lv_iload_n hx hb dX13_readApart_285 rfl (lv_at hl 1 rfl) ?_
      refine lv_iconst (v := I 2) hx hb dX13_readApart_286 rfl ?_
      refine bi_icmp_ge (tgt := 295) hx hb r_u1 (by decide) dX13_readApart_287 (by decide) (fun c20 => ?_) (fun c20 => ?_)
      ·
        replace hw := hw.1 c20
        exact xrv hx hb hr hlk hP hK hD hS ⟨_, hN, hF, rfl, hw⟩ (Nat.le_of_ble_eq_true rfl) (Nat.le_of_ble_eq_true rfl) dX13_readApart_295
      ·
        replace hw := hw.2 c20
        refine lv_aload_n hx hb dX13_readApart_290 rfl (lv_at hl 0 rfl) ?_
        refine lv_iconst (v := I 4) hx hb dX13_readApart_291 rfl ?_
        obtain ⟨Q21, hc, hw⟩ := hw
        refine wc_V (X := MX g q lb) (va_runV (As := [.int (I 4)]) (rest := []) ⟨hx, hb, hml, hown, hts⟩ (L_X13_failHere l g q lb hlb (by decide) hN hc H.size) (cwV 1 hts (TB_V tw_2585 tw_2587 ts_114 tw_15 co_X13_failHere) rfl rfl rfl (by decide +kernel) ⟨Nat.le_of_ble_eq_true rfl, Nat.le_of_ble_eq_true rfl⟩) (preV (q0 := 0) (ci := 13) rfl xT_bl hP hK hNb hD rfl rfl xT_at) rfl rfl hl.1 rfl (lv_room (Nat.le_of_ble_eq_true rfl)) dX13_readApart_292 ⟨Nat.le_of_ble_eq_true rfl, Nat.le_of_ble_eq_true rfl⟩) hP hD hS hA (fun τ23 H locs hN hf hq hP hD hS => ?_)
        replace hw := hw τ23 hN hf hq
        have hF : f_r [14, 16, 17, 18, 19, 20, 21] [32, 33, 37] [1] σ τ23 := f_t hF hf (by decide) (by decide) (by decide)
        have hB := hN
        exact xrv hx hb hr hlk hP hK hD hS ⟨_, hN, hF, rfl, hw⟩ (Nat.le_of_ble_eq_true rfl) (Nat.le_of_ble_eq_true rfl) dX13_readApart_295
def W_X13_isLabelSign (n0 : Int) (σ : S0) (Q : Int → Prop) : Prop :=
  ∃ (Q1 : Int → Prop), W_X13_isIn (j_of n0) 48 57 σ Q1 ∧ ∀ (x2 : Int), rg x2 → Q1 x2 → ((¬ x2 = 0 → Q 1) ∧ (x2 = 0 → ∃ (Q5 : Int → Prop), W_X13_isIn (j_of n0) 65 90 σ Q5 ∧ ∀ (x6 : Int), rg x6 → Q5 x6 → ((¬ x6 = 0 → Q 1) ∧ (x6 = 0 → ∃ (Q9 : Int → Prop), W_X13_isIn (j_of n0) 97 122 σ Q9 ∧ ∀ (x10 : Int), rg x10 → Q9 x10 → ((¬ x10 = 0 → Q 1) ∧ (x10 = 0 → (n0 = 46 → Q 1) ∧ (¬ n0 = 46 → (n0 = 45 → Q 1) ∧ (¬ n0 = 45 → (¬ n0 = 95 → Q 0) ∧ (n0 = 95 → Q 1)))))))))
set_option maxRecDepth 100000 in
set_option maxHeartbeats 4000000 in
theorem L_X13_isLabelSign (l : Launch) (g : gG) (q : Nat → Nat) (lb : Nat) (hlb : lb < 2 ^ 31) {n0 : Int} {σ : S0} {Q : Int → Prop} (r_n0 : rg n0) (hN : n_m σ) (hw : W_X13_isLabelSign n0 σ Q) (sz : Nat) : MetI l yX13_isLabelSign cX13_isLabelSign 1 (some .boolean) { frames := 1, cells := 0, slots := 0, locals := 25 } g [.int (I n0)] (MX g q lb σ) sz xT (p_i (MX g q lb) σ Q) 0 0 := by
  refine mkMet (Qc := fun A => QI g A (p_i (MX g q lb) σ Q)) (by decide) (Nat.le_of_ble_eq_true rfl) ?_
  intro p e s m below meth c A H ls hx hb hr hml hown hts hlk hnm hsz hP hK hNb hD hA hAe hS hX hl
  have hl : lv_has ls 1 [(0, .int (I n0))] := hl
  have hB := hN
  obtain ⟨locs, hlocs⟩ : ∃ z : List Loc, z = [] := ⟨_, rfl⟩
  rw [← hlocs] at hS ⊢
  refine lv_iload_n hx hb dX13_isLabelSign_0 rfl (lv_at hl 0 rfl) ?_
  refine bi_i2l hx hb r_n0 dX13_isLabelSign_1 ?_
  refine lv_ldc2 (own := RX13) (v := 48) hx hb hown (hts _ tw_2592) dX13_isLabelSign_2 ?_
  refine lv_ldc2 (own := RX13) (v := 57) hx hb hown (hts _ tw_2593) dX13_isLabelSign_5 ?_
  obtain ⟨Q1, hc, hw⟩ := hw
  refine wc_i (X := MX g q lb) (va_runS (As := [.long (j_of n0), .long 48, .long 57]) (rest := []) ⟨hx, hb, hml, hown, hts⟩ (L_X13_isIn l g q lb hlb  hN hc H.size) (cwS 3 hts (TB_S tw_2525 tw_2526 tw_15 co_X13_isIn) rfl rfl rfl (by decide +kernel) ⟨Nat.le_of_ble_eq_true rfl, Nat.le_of_ble_eq_true rfl⟩) (preS xT_bl hP hK hNb hD xT_at) rfl rfl hl.1 rfl (lv_room (Nat.le_of_ble_eq_true rfl)) dX13_isLabelSign_8 ⟨Nat.le_of_ble_eq_true rfl, Nat.le_of_ble_eq_true rfl⟩) hP hD hS hA (fun x2 H locs r_x2 hq hP hD hS => ?_)
  replace hw := hw x2 r_x2 hq
  refine bi_if_ne (tgt := 60) hx hb r_x2 dX13_isLabelSign_11 (by decide) (fun c4 => ?_) (fun c4 => ?_)
  ·
    replace hw := hw.1 c4
    refine lv_iconst (v := I 1) hx hb dX13_isLabelSign_60 rfl ?_
    refine lv_goto (tgt := 65) hx hb dX13_isLabelSign_61 (by decide) ?_
    exact xrz hx hb hr (by decide) hlk hP hK hD hS ⟨_, (by decide), rfl, rfl, hw⟩ (Nat.le_of_ble_eq_true rfl) (Nat.le_of_ble_eq_true rfl) dX13_isLabelSign_65
  ·
    replace hw := hw.2 c4
    refine lv_iload_n hx hb dX13_isLabelSign_14 rfl (lv_at hl 0 rfl) ?_
    refine bi_i2l hx hb r_n0 dX13_isLabelSign_15 ?_
    refine lv_ldc2 (own := RX13) (v := 65) hx hb hown (hts _ tw_2594) dX13_isLabelSign_16 ?_
    refine lv_ldc2 (own := RX13) (v := 90) hx hb hown (hts _ tw_2595) dX13_isLabelSign_19 ?_
    obtain ⟨Q5, hc, hw⟩ := hw
    refine wc_i (X := MX g q lb) (va_runS (As := [.long (j_of n0), .long 65, .long 90]) (rest := []) ⟨hx, hb, hml, hown, hts⟩ (L_X13_isIn l g q lb hlb  hN hc H.size) (cwS 3 hts (TB_S tw_2525 tw_2526 tw_15 co_X13_isIn) rfl rfl rfl (by decide +kernel) ⟨Nat.le_of_ble_eq_true rfl, Nat.le_of_ble_eq_true rfl⟩) (preS xT_bl hP hK hNb hD xT_at) rfl rfl hl.1 rfl (lv_room (Nat.le_of_ble_eq_true rfl)) dX13_isLabelSign_22 ⟨Nat.le_of_ble_eq_true rfl, Nat.le_of_ble_eq_true rfl⟩) hP hD hS hA (fun x6 H locs r_x6 hq hP hD hS => ?_)
    replace hw := hw x6 r_x6 hq
    refine bi_if_ne (tgt := 60) hx hb r_x6 dX13_isLabelSign_25 (by decide) (fun c8 => ?_) (fun c8 => ?_)
    ·
      replace hw := hw.1 c8
      refine lv_iconst (v := I 1) hx hb dX13_isLabelSign_60 rfl ?_
      refine lv_goto (tgt := 65) hx hb dX13_isLabelSign_61 (by decide) ?_
      exact xrz hx hb hr (by decide) hlk hP hK hD hS ⟨_, (by decide), rfl, rfl, hw⟩ (Nat.le_of_ble_eq_true rfl) (Nat.le_of_ble_eq_true rfl) dX13_isLabelSign_65
    ·
      replace hw := hw.2 c8
      refine lv_iload_n hx hb dX13_isLabelSign_28 rfl (lv_at hl 0 rfl) ?_
      refine bi_i2l hx hb r_n0 dX13_isLabelSign_29 ?_
      refine lv_ldc2 (own := RX13) (v := 97) hx hb hown (hts _ tw_2596) dX13_isLabelSign_30 ?_
      refine lv_ldc2 (own := RX13) (v := 122) hx hb hown (hts _ tw_2597) dX13_isLabelSign_33 ?_
      obtain ⟨Q9, hc, hw⟩ := hw
      refine wc_i (X := MX g q lb) (va_runS (As := [.long (j_of n0), .long 97, .long 122]) (rest := []) ⟨hx, hb, hml, hown, hts⟩ (L_X13_isIn l g q lb hlb  hN hc H.size) (cwS 3 hts (TB_S tw_2525 tw_2526 tw_15 co_X13_isIn) rfl rfl rfl (by decide +kernel) ⟨Nat.le_of_ble_eq_true rfl, Nat.le_of_ble_eq_true rfl⟩) (preS xT_bl hP hK hNb hD xT_at) rfl rfl hl.1 rfl (lv_room (Nat.le_of_ble_eq_true rfl)) dX13_isLabelSign_36 ⟨Nat.le_of_ble_eq_true rfl, Nat.le_of_ble_eq_true rfl⟩) hP hD hS hA (fun x10 H locs r_x10 hq hP hD hS => ?_)
      replace hw := hw x10 r_x10 hq
      refine bi_if_ne (tgt := 60) hx hb r_x10 dX13_isLabelSign_39 (by decide) (fun c12 => ?_) (fun c12 => ?_)
      ·
        replace hw := hw.1 c12
        refine lv_iconst (v := I 1) hx hb dX13_isLabelSign_60 rfl ?_
        refine lv_goto (tgt := 65) hx hb dX13_isLabelSign_61 (by decide) ?_
        exact xrz hx hb hr (by decide) hlk hP hK hD hS ⟨_, (by decide), rfl, rfl, hw⟩ (Nat.le_of_ble_eq_true rfl) (Nat.le_of_ble_eq_true rfl) dX13_isLabelSign_65
      ·
        replace hw := hw.2 c12
        refine lv_iload_n hx hb dX13_isLabelSign_42 rfl (lv_at hl 0 rfl) ?_
        refine lv_bipush (v := I 46) hx hb dX13_isLabelSign_43 (by decide) ?_
        refine bi_icmp_eq (tgt := 60) hx hb r_n0 (by decide) dX13_isLabelSign_45 (by decide) (fun c13 => ?_) (fun c13 => ?_)
        ·
          replace hw := hw.1 c13
          refine lv_iconst (v := I 1) hx hb dX13_isLabelSign_60 rfl ?_
          refine lv_goto (tgt := 65) hx hb dX13_isLabelSign_61 (by decide) ?_
          exact xrz hx hb hr (by decide) hlk hP hK hD hS ⟨_, (by decide), rfl, rfl, hw⟩ (Nat.le_of_ble_eq_true rfl) (Nat.le_of_ble_eq_true rfl) dX13_isLabelSign_65
        ·
          replace hw := hw.2 c13
          refine lv_iload_n hx hb dX13_isLabelSign_48 rfl (lv_at hl 0 rfl) ?_
          refine lv_bipush (v := I 45) hx hb dX13_isLabelSign_49 (by decide) ?_
          refine bi_icmp_eq (tgt := 60) hx hb r_n0 (by decide) dX13_isLabelSign_51 (by decide) (fun c14 => ?_) (fun c14 => ?_)
          ·
            replace hw := hw.1 c14
            refine lv_iconst (v := I 1) hx hb dX13_isLabelSign_60 rfl ?_
            refine lv_goto (tgt := 65) hx hb dX13_isLabelSign_61 (by decide) ?_
            exact xrz hx hb hr (by decide) hlk hP hK hD hS ⟨_, (by decide), rfl, rfl, hw⟩ (Nat.le_of_ble_eq_true rfl) (Nat.le_of_ble_eq_true rfl) dX13_isLabelSign_65
          ·
            replace hw := hw.2 c14
            refine lv_iload_n hx hb dX13_isLabelSign_54 rfl (lv_at hl 0 rfl) ?_
            refine lv_bipush (v := I 95) hx hb dX13_isLabelSign_55 (by decide) ?_
            refine bi_icmp_ne (tgt := 64) hx hb r_n0 (by decide) dX13_isLabelSign_57 (by decide) (fun c15 => ?_) (fun c15 => ?_)
            ·
              replace hw := hw.1 c15
              refine lv_iconst (v := I 0) hx hb dX13_isLabelSign_64 rfl ?_
              exact xrz hx hb hr (by decide) hlk hP hK hD hS ⟨_, (by decide), rfl, rfl, hw⟩ (Nat.le_of_ble_eq_true rfl) (Nat.le_of_ble_eq_true rfl) dX13_isLabelSign_65
            ·
              replace hw := hw.2 c15
              refine lv_iconst (v := I 1) hx hb dX13_isLabelSign_60 rfl ?_
              refine lv_goto (tgt := 65) hx hb dX13_isLabelSign_61 (by decide) ?_
              exact xrz hx hb hr (by decide) hlk hP hK hD hS ⟨_, (by decide), rfl, rfl, hw⟩ (Nat.le_of_ble_eq_true rfl) (Nat.le_of_ble_eq_true rfl) dX13_isLabelSign_65
def W_X13_readLabel (σ : S0) (Q : S0 → Prop) : Prop :=
  ∀ (P34 : S0 → Prop) (P42 : Int → S0 → Prop) (P108 : S0 → Prop) (P263 : Int → S0 → Prop),
  (∀ (τ : S0), (∃ (Q5 : S0 → Prop), W_X13_failHere 5 τ Q5 ∧ ∀ (τ7 : S0), n_m τ7 → f_r [20, 21] [] [] τ τ7 → Q5 τ7 → (Q τ7)) → P34 τ) →
  (∀ (u1 : Int) (τ : S0), ((τ.1 18 ≤ u1 → ∃ (Q9 : Int → Prop), W_X13_findLabel_q1 (τ.1 17) (τ.1 18) τ Q9 ∧ ∀ (x10 : Int), rg x10 → Q9 x10 → ((¬ x10 = (-1) → P108 τ) ∧ (x10 = (-1) → ∃ (Q13 : Int → Prop), W_X13_symbolHere τ Q13 ∧ ∀ (x14 : Int), rg x14 → Q13 x14 → ((x14 = (-1) → (0 ≤ τ.1 5 ∧ τ.1 5 < 1501) ∧ (∃ (Q18 : S0 → Prop), W_X13_keepChars (τ.1 17) (τ.1 18) (s_a (s_a (s_v τ 22 (τ.1 5)) 4 (τ.1 5) (τ.1 2)) 5 (τ.1 5) (τ.1 18)) Q18 ∧ ∀ (τ20 : S0), n_m τ20 → f_r [2] [1] [] (s_a (s_a (s_v τ 22 (τ.1 5)) 4 (τ.1 5) (τ.1 2)) 5 (τ.1 5) (τ.1 18)) τ20 → Q18 τ20 → (∃ (Q21 : S0 → Prop), W_X13_keepLabel (τ20.1 22) τ20 Q21 ∧ ∀ (τ23 : S0), n_m τ23 → f_r [] [7] [] τ20 τ23 → Q21 τ23 → ((0 ≤ τ23.1 22 ∧ τ23.1 22 < 1501) ∧ (P263 0 (s_a (s_a (s_a (s_a (s_a (s_a (s_a (s_a τ23 14 (τ23.1 22) (τ23.1 6)) 15 (τ23.1 22) 0) 18 (τ23.1 22) (τ23.1 7)) 19 (τ23.1 22) 0) 21 (τ23.1 22) (τ23.1 8)) 22 (τ23.1 22) 0) 25 (τ23.1 22) (τ23.1 9)) 26 (τ23.1 22) 0)))))) ∧ (¬ x14 = (-1) → P108 τ))))) ∧ (u1 < τ.1 18 → (0 ≤ (τ.1 17 + u1) ∧ (τ.1 17 + u1) < 60000) ∧ (∀ (x26 : Int), rg x26 → x26 = τ.2.1 0 (τ.1 17 + u1) → (∃ (Q27 : Int → Prop), W_X13_isLabelSign x26 τ Q27 ∧ ∀ (x28 : Int), rg x28 → Q27 x28 → ((¬ x28 = 0 → rg (u1 + 1) ∧ P42 (u1 + 1) τ) ∧ (x28 = 0 → ∃ (Q32 : S0 → Prop), W_X13_failHere 6 τ Q32 ∧ ∀ (τ34 : S0), n_m τ34 → f_r [20, 21] [] [] τ τ34 → Q32 τ34 → (Q τ34))))))) → P42 u1 τ) →
  (∀ (τ : S0), (∃ (Q35 : S0 → Prop), W_X13_failHere 7 τ Q35 ∧ ∀ (τ37 : S0), n_m τ37 → f_r [20, 21] [] [] τ τ37 → Q35 τ37 → (Q τ37)) → P108 τ) →
  (∀ (u1 : Int) (τ : S0), ((24 ≤ u1 → Q τ) ∧ (u1 < 24 → (0 ≤ ((24 * τ.1 22) + u1) ∧ ((24 * τ.1 22) + u1) < 36024) ∧ (rg (u1 + 1) ∧ P263 (u1 + 1) (s_b τ 0 ((24 * τ.1 22) + u1) 0)))) → P263 u1 τ) →
  (60 < σ.1 18 → P34 σ) ∧ (σ.1 18 ≤ 60 → rg (σ.1 2 + σ.1 18) ∧ (30000 < (σ.1 2 + σ.1 18) → P34 σ) ∧ ((σ.1 2 + σ.1 18) ≤ 30000 → (¬ σ.1 5 = 1500 → P42 0 σ) ∧ (σ.1 5 = 1500 → P34 σ)))
set_option maxRecDepth 100000 in
set_option maxHeartbeats 4000000 in
theorem L_X13_readLabel (l : Launch) (g : gG) (q : Nat → Nat) (lb : Nat) (hlb : lb < 2 ^ 31) {σ : S0} {Q : S0 → Prop} (hN : n_m σ) (hw : W_X13_readLabel σ Q) (sz : Nat) : MetV l yX13_readLabel cX13_readLabel 2 { frames := 3, cells := 0, slots := 0, locals := 71 } g [.ref (q 0)] (MX g q lb σ) sz xT (p_V (MX g q lb) [2, 20, 21, 22] [1, 4, 5, 7, 14, 15, 18, 19, 21, 22, 25, 26] [0] σ Q) 0 0 := by
  refine mkMet (Qc := fun A => QV g A (p_V (MX g q lb) [2, 20, 21, 22] [1, 4, 5, 7, 14, 15, 18, 19, 21, 22, 25, 26] [0] σ Q)) (by decide) (Nat.le_of_ble_eq_true rfl) ?_
  intro p e s m below meth c A H ls hx hb hr hml hown hts hlk hnm hsz hP hK hNb hD hA hAe hS hX hl
  have hl : lv_has ls 2 [(0, .ref (q 0))] := hl
  have hB := hN
  have hF : f_r [2, 20, 21, 22] [1, 4, 5, 7, 14, 15, 18, 19, 21, 22, 25, 26] [0] σ σ := f_0
  obtain ⟨locs, hlocs⟩ : ∃ z : List Loc, z = [] := ⟨_, rfl⟩
  rw [← hlocs] at hS ⊢
  obtain ⟨P34, hP34⟩ : ∃ P : S0 → Prop, ∀ (τ : S0), (P τ ↔ (n_m τ → f_r [2, 20, 21, 22] [1, 4, 5, 7, 14, 15, 18, 19, 21, 22, 25, 26] [0] σ τ → ∀ (H : Heap) (locs : List Loc) (ls : Array Slot), KP g (MX g q lb τ) H → va_D A (MX g q lb τ) → va_S A s.heap H locs → lv_has ls 2 [(0, .ref (q 0))] → W p l e ({ frames := 3, cells := 0, slots := 0, locals := 71 }) s m [.ref (q 0)].toArray below meth c H locs 0 0 (MQ below (QV g A (p_V (MX g q lb) [2, 20, 21, 22] [1, 4, 5, 7, 14, 15, 18, 19, 21, 22, 25, 26] [0] σ Q)) [.ref (q 0)].toArray s 0 0 A) (F0 m 34 ls []))) := ⟨_, fun _ => Iff.rfl⟩
  obtain ⟨P42, hP42⟩ : ∃ P : Int → S0 → Prop, ∀ (u1 : Int) (τ : S0), (P u1 τ ↔ (rg u1 → n_m τ → f_r [2, 20, 21, 22] [1, 4, 5, 7, 14, 15, 18, 19, 21, 22, 25, 26] [0] σ τ → ∀ (H : Heap) (locs : List Loc) (ls : Array Slot), KP g (MX g q lb τ) H → va_D A (MX g q lb τ) → va_S A s.heap H locs → lv_has ls 2 [(0, .ref (q 0)), (1, .int (I u1))] → W p l e ({ frames := 3, cells := 0, slots := 0, locals := 71 }) s m [.ref (q 0)].toArray below meth c H locs 0 0 (MQ below (QV g A (p_V (MX g q lb) [2, 20, 21, 22] [1, 4, 5, 7, 14, 15, 18, 19, 21, 22, 25, 26] [0] σ Q)) [.ref (q 0)].toArray s 0 0 A) (F0 m 42 ls []))) := ⟨_, fun _ _ => Iff.rfl⟩
  obtain ⟨P108, hP108⟩ : ∃ P : S0 → Prop, ∀ (τ : S0), (P τ ↔ (n_m τ → f_r [2, 20, 21, 22] [1, 4, 5, 7, 14, 15, 18, 19, 21, 22, 25, 26] [0] σ τ → ∀ (H : Heap) (locs : List Loc) (ls : Array Slot), KP g (MX g q lb τ) H → va_D A (MX g q lb τ) → va_S A s.heap H locs → lv_has ls 2 [(0, .ref (q 0))] → W p l e ({ frames := 3, cells := 0, slots := 0, locals := 71 }) s m [.ref (q 0)].toArray below meth c H locs 0 0 (MQ below (QV g A (p_V (MX g q lb) [2, 20, 21, 22] [1, 4, 5, 7, 14, 15, 18, 19, 21, 22, 25, 26] [0] σ Q)) [.ref (q 0)].toArray s 0 0 A) (F0 m 108 ls []))) := ⟨_, fun _ => Iff.rfl⟩
  obtain ⟨P263, hP263⟩ : ∃ P : Int → S0 → Prop, ∀ (u1 : Int) (τ : S0), (P u1 τ ↔ (rg u1 → n_m τ → f_r [2, 20, 21, 22] [1, 4, 5, 7, 14, 15, 18, 19, 21, 22, 25, 26] [0] σ τ → ∀ (H : Heap) (locs : List Loc) (ls : Array Slot), KP g (MX g q lb τ) H → va_D A (MX g q lb τ) → va_S A s.heap H locs → lv_has ls 2 [(0, .ref (q 0)), (1, .int (I u1))] → W p l e ({ frames := 3, cells := 0, slots := 0, locals := 71 }) s m [.ref (q 0)].toArray below meth c H locs 0 0 (MQ below (QV g A (p_V (MX g q lb) [2, 20, 21, 22] [1, 4, 5, 7, 14, 15, 18, 19, 21, 22, 25, 26] [0] σ Q)) [.ref (q 0)].toArray s 0 0 A) (F0 m 263 ls []))) := ⟨_, fun _ _ => Iff.rfl⟩
  refine (fun hw => ?_) (hw P34 P42 P108 P263 ?_ ?_ ?_ ?_)
  ·
    refine lv_aload_n hx hb dX13_readLabel_0 rfl (lv_at hl 0 rfl) ?_
    refine gfX13_tokenSize hx hb hts hK hP hown (hts _ tw_2063) (x := σ.1 18) rfl dX13_readLabel_1 ?_
    refine lv_bipush (v := I 60) hx hb dX13_readLabel_4 (by decide) ?_
    refine bi_icmp_gt (tgt := 34) hx hb (hB.1 18) (by decide) dX13_readLabel_6 (by decide) (fun c1 => ?_) (fun c1 => ?_)
    ·
      replace hw := hw.1 c1
      exact (hP34 _).mp hw hN hF H locs ls hP hD hS (lv_sub hl [0] rfl)
    ·
      replace hw := hw.2 c1
      refine lv_aload_n hx hb dX13_readLabel_9 rfl (lv_at hl 0 rfl) ?_
      refine gfX13_charCount hx hb hts hK hP hown (hts _ tw_2010) (x := σ.1 2) rfl dX13_readLabel_10 ?_
      refine lv_aload_n hx hb dX13_readLabel_13 rfl (lv_at hl 0 rfl) ?_
      refine gfX13_tokenSize hx hb hts hK hP hown (hts _ tw_2063) (x := σ.1 18) rfl dX13_readLabel_14 ?_
      refine bi_iadd hx hb dX13_readLabel_17 ?_
      refine lv_sipush (v := I 30000) hx hb dX13_readLabel_18 (by decide) ?_
      obtain ⟨c2, hw⟩ := hw
      refine bi_icmp_gt (tgt := 34) hx hb c2 (by decide) dX13_readLabel_21 (by decide) (fun c3 => ?_) (fun c3 => ?_)
      ·
        replace hw := hw.1 c3
        exact (hP34 _).mp hw hN hF H locs ls hP hD hS (lv_sub hl [0] rfl)
      ·
        replace hw := hw.2 c3
        refine lv_aload_n hx hb dX13_readLabel_24 rfl (lv_at hl 0 rfl) ?_
        refine gfX13_statements hx hb hts hK hP hown (hts _ tw_2024) (x := σ.1 5) rfl dX13_readLabel_25 ?_
        refine lv_sipush (v := I 1500) hx hb dX13_readLabel_28 (by decide) ?_
        refine bi_icmp_ne (tgt := 40) hx hb (hB.1 5) (by decide) dX13_readLabel_31 (by decide) (fun c4 => ?_) (fun c4 => ?_)
        ·
          replace hw := hw.1 c4
          refine lv_iconst (v := I 0) hx hb dX13_readLabel_40 rfl ?_
          refine lv_istore_n (lv' := [(1, .int (I 0)), (0, .ref (q 0))]) hx hb dX13_readLabel_41 rfl hl (by decide) rfl (fun ls hl => ?_)
          exact (hP42 _ _).mp hw (by decide) hN hF H locs ls hP hD hS (lv_sub hl [1, 0] rfl)
        ·
          replace hw := hw.2 c4
          exact (hP34 _).mp hw hN hF H locs ls hP hD hS (lv_sub hl [0] rfl)
  ·
    intro τ hw
    refine (hP34 _).mpr ?_
    intro hN hF H locs ls hP hD hS hl
    have hB := hN
    refine lv_aload_n hx hb dX13_readLabel_34 rfl (lv_at hl 0 rfl) ?_
    refine lv_iconst (v := I 5) hx hb dX13_readLabel_35 rfl ?_
    obtain ⟨Q5, hc, hw⟩ := hw
    refine wc_V (X := MX g q lb) (va_runV (As := [.int (I 5)]) (rest := []) ⟨hx, hb, hml, hown, hts⟩ (L_X13_failHere l g q lb hlb (by decide) hN hc H.size) (cwV 1 hts (TB_V tw_2585 tw_2587 ts_114 tw_15 co_X13_failHere) rfl rfl rfl (by decide +kernel) ⟨Nat.le_of_ble_eq_true rfl, Nat.le_of_ble_eq_true rfl⟩) (preV (q0 := 0) (ci := 13) rfl xT_bl hP hK hNb hD rfl rfl xT_at) rfl rfl hl.1 rfl (lv_room (Nat.le_of_ble_eq_true rfl)) dX13_readLabel_36 ⟨Nat.le_of_ble_eq_true rfl, Nat.le_of_ble_eq_true rfl⟩) hP hD hS hA (fun τ7 H locs hN hf hq hP hD hS => ?_)
    replace hw := hw τ7 hN hf hq
    have hF : f_r [2, 20, 21, 22] [1, 4, 5, 7, 14, 15, 18, 19, 21, 22, 25, 26] [0] σ τ7 := f_t hF hf (by decide) (by decide) (by decide)
    have hB := hN
    exact xrv hx hb hr hlk hP hK hD hS ⟨_, hN, hF, rfl, hw⟩ (Nat.le_of_ble_eq_true rfl) (Nat.le_of_ble_eq_true rfl) dX13_readLabel_39
  ·
    intro u1 τ hw
    refine (hP42 _ _).mpr ?_
    intro r_u1 hN hF H locs ls hP hD hS hl
    have hB := hN
    refine lv_iload_n hx hb dX13_readLabel_42 rfl (lv_at hl 1 rfl) ?_
    refine lv_aload_n hx hb dX13_readLabel_43 rfl (lv_at hl 0 rfl) ?_
    refine gfX13_tokenSize hx hb hts hK hP hown (hts _ tw_2063) (x := τ.1 18) rfl dX13_readLabel_44 ?_
    refine bi_icmp_ge (tgt := 80) hx hb r_u1 (hB.1 18) dX13_readLabel_47 (by decide) (fun c8 => ?_) (fun c8 => ?_)
    ·
      replace hw := hw.1 c8
      refine lv_aload_n hx hb dX13_readLabel_80 rfl (lv_at hl 0 rfl) ?_
      refine lv_aload_n hx hb dX13_readLabel_81 rfl (lv_at hl 0 rfl) ?_
      refine gfX13_tape hx hb hts hK hP hown (hts _ tw_2006) dX13_readLabel_82 ?_
      refine lv_aload_n hx hb dX13_readLabel_85 rfl (lv_at hl 0 rfl) ?_
      refine gfX13_tokenAt hx hb hts hK hP hown (hts _ tw_2062) (x := τ.1 17) rfl dX13_readLabel_86 ?_
      refine lv_aload_n hx hb dX13_readLabel_89 rfl (lv_at hl 0 rfl) ?_
      refine gfX13_tokenSize hx hb hts hK hP hown (hts _ tw_2063) (x := τ.1 18) rfl dX13_readLabel_90 ?_
      obtain ⟨Q9, hc, hw⟩ := hw
      refine wc_i (X := MX g q lb) (va_runV (As := [.ref (q 1), .int (I (τ.1 17)), .int (I (τ.1 18))]) (rest := []) ⟨hx, hb, hml, hown, hts⟩ (L_X13_findLabel_q1 l g q lb hlb (hB.1 17) (hB.1 18) hN hc H.size) (cwV 3 hts (TB_V tw_2598 tw_2600 ts_115 tw_15 co_X13_findLabel) rfl rfl rfl (by decide +kernel) ⟨Nat.le_of_ble_eq_true rfl, Nat.le_of_ble_eq_true rfl⟩) (preV (q0 := 0) (ci := 13) rfl xT_bl hP hK hNb hD rfl rfl xT_at) rfl rfl hl.1 rfl (lv_room (Nat.le_of_ble_eq_true rfl)) dX13_readLabel_93 ⟨Nat.le_of_ble_eq_true rfl, Nat.le_of_ble_eq_true rfl⟩) hP hD hS hA (fun x10 H locs r_x10 hq hP hD hS => ?_)
      replace hw := hw x10 r_x10 hq
      refine lv_iconst (v := I (-1)) hx hb dX13_readLabel_96 rfl ?_
      refine bi_icmp_ne (tgt := 108) hx hb r_x10 (by decide) dX13_readLabel_97 (by decide) (fun c12 => ?_) (fun c12 => ?_)
      ·
        replace hw := hw.1 c12
        exact (hP108 _).mp hw hN hF H locs ls hP hD hS (lv_sub hl [0] rfl)
      ·
        replace hw := hw.2 c12
        refine lv_aload_n hx hb dX13_readLabel_100 rfl (lv_at hl 0 rfl) ?_
        obtain ⟨Q13, hc, hw⟩ := hw
        refine wc_i (X := MX g q lb) (va_runV (As := []) (rest := []) ⟨hx, hb, hml, hown, hts⟩ (L_X13_symbolHere l g q lb hlb  hN hc H.size) (cwV 0 hts (TB_V tw_2609 tw_2611 ts_117 tw_15 co_X13_symbolHere) rfl rfl rfl (by decide +kernel) ⟨Nat.le_of_ble_eq_true rfl, Nat.le_of_ble_eq_true rfl⟩) (preV (q0 := 0) (ci := 13) rfl xT_bl hP hK hNb hD rfl rfl xT_at) rfl rfl hl.1 rfl (lv_room (Nat.le_of_ble_eq_true rfl)) dX13_readLabel_101 ⟨Nat.le_of_ble_eq_true rfl, Nat.le_of_ble_eq_true rfl⟩) hP hD hS hA (fun x14 H locs r_x14 hq hP hD hS => ?_)
        replace hw := hw x14 r_x14 hq
        refine lv_iconst (v := I (-1)) hx hb dX13_readLabel_104 rfl ?_
        refine bi_icmp_eq (tgt := 115) hx hb r_x14 (by decide) dX13_readLabel_105 (by decide) (fun c16 => ?_) (fun c16 => ?_)
        ·
          replace hw := hw.1 c16
          refine lv_aload_n hx hb dX13_readLabel_115 rfl (lv_at hl 0 rfl) ?_
          refine lv_aload_n hx hb dX13_readLabel_116 rfl (lv_at hl 0 rfl) ?_
          refine gfX13_statements hx hb hts hK hP hown (hts _ tw_2024) (x := τ.1 5) rfl dX13_readLabel_117 ?_
          refine pfX13_now hx hb hts hK hP hD hS hown (hts _ tw_2068) dX13_readLabel_120 (fun H locs hP hD hS => ?_)
          have hN : n_m (s_v τ 22 (τ.1 5)) := n_v (i := 22) hN ((hB.1 5) : rg (τ.1 5))
          have hF : f_r [2, 20, 21, 22] [1, 4, 5, 7, 14, 15, 18, 19, 21, 22, 25, 26] [0] σ (s_v τ 22 (τ.1 5)) := f_v hF (by decide)
          refine lv_aload_n hx hb dX13_readLabel_123 rfl (lv_at hl 0 rfl) ?_
          refine gfX13_labelAt hx hb hts hK hP hown (hts _ tw_2014) dX13_readLabel_124 ?_
          refine lv_aload_n hx hb dX13_readLabel_127 rfl (lv_at hl 0 rfl) ?_
          refine gfX13_now hx hb hts hK hP hown (hts _ tw_2068) (x := τ.1 5) rfl dX13_readLabel_128 ?_
          refine lv_aload_n hx hb dX13_readLabel_131 rfl (lv_at hl 0 rfl) ?_
          refine gfX13_charCount hx hb hts hK hP hown (hts _ tw_2010) (x := τ.1 2) rfl dX13_readLabel_132 ?_
          obtain ⟨c17, hw⟩ := hw
          refine sdMX13_labelAt hx hb hK hP hD hS c17 dX13_readLabel_135 (fun H locs hP hD hS => ?_)
          have hN : n_m (s_a (s_v τ 22 (τ.1 5)) 4 (τ.1 5) (τ.1 2)) := n_a (k := 4) (j := τ.1 5) hN ((hB.1 2) : rg (τ.1 2))
          have hF : f_r [2, 20, 21, 22] [1, 4, 5, 7, 14, 15, 18, 19, 21, 22, 25, 26] [0] σ (s_a (s_v τ 22 (τ.1 5)) 4 (τ.1 5) (τ.1 2)) := f_a hF (by decide)
          refine lv_aload_n hx hb dX13_readLabel_136 rfl (lv_at hl 0 rfl) ?_
          refine gfX13_labelSize hx hb hts hK hP hown (hts _ tw_2015) dX13_readLabel_137 ?_
          refine lv_aload_n hx hb dX13_readLabel_140 rfl (lv_at hl 0 rfl) ?_
          refine gfX13_now hx hb hts hK hP hown (hts _ tw_2068) (x := τ.1 5) rfl dX13_readLabel_141 ?_
          refine lv_aload_n hx hb dX13_readLabel_144 rfl (lv_at hl 0 rfl) ?_
          refine gfX13_tokenSize hx hb hts hK hP hown (hts _ tw_2063) (x := τ.1 18) rfl dX13_readLabel_145 ?_
          refine sdMX13_labelSize hx hb hK hP hD hS c17 dX13_readLabel_148 (fun H locs hP hD hS => ?_)
          have hN : n_m (s_a (s_a (s_v τ 22 (τ.1 5)) 4 (τ.1 5) (τ.1 2)) 5 (τ.1 5) (τ.1 18)) := n_a (k := 5) (j := τ.1 5) hN ((hB.1 18) : rg (τ.1 18))
          have hF : f_r [2, 20, 21, 22] [1, 4, 5, 7, 14, 15, 18, 19, 21, 22, 25, 26] [0] σ (s_a (s_a (s_v τ 22 (τ.1 5)) 4 (τ.1 5) (τ.1 2)) 5 (τ.1 5) (τ.1 18)) := f_a hF (by decide)
          refine lv_aload_n hx hb dX13_readLabel_149 rfl (lv_at hl 0 rfl) ?_
          refine lv_aload_n hx hb dX13_readLabel_150 rfl (lv_at hl 0 rfl) ?_
          refine gfX13_tokenAt hx hb hts hK hP hown (hts _ tw_2062) (x := τ.1 17) rfl dX13_readLabel_151 ?_
          refine lv_aload_n hx hb dX13_readLabel_154 rfl (lv_at hl 0 rfl) ?_
          refine gfX13_tokenSize hx hb hts hK hP hown (hts _ tw_2063) (x := τ.1 18) rfl dX13_readLabel_155 ?_
          obtain ⟨Q18, hc, hw⟩ := hw
          refine wc_V (X := MX g q lb) (va_runV (As := [.int (I (τ.1 17)), .int (I (τ.1 18))]) (rest := []) ⟨hx, hb, hml, hown, hts⟩ (L_X13_keepChars l g q lb hlb (hB.1 17) (hB.1 18) hN hc H.size) (cwV 2 hts (TB_V tw_2617 tw_2619 ts_119 tw_15 co_X13_keepChars) rfl rfl rfl (by decide +kernel) ⟨Nat.le_of_ble_eq_true rfl, Nat.le_of_ble_eq_true rfl⟩) (preV (q0 := 0) (ci := 13) rfl xT_bl hP hK hNb hD rfl rfl xT_at) rfl rfl hl.1 rfl (lv_room (Nat.le_of_ble_eq_true rfl)) dX13_readLabel_158 ⟨Nat.le_of_ble_eq_true rfl, Nat.le_of_ble_eq_true rfl⟩) hP hD hS hA (fun τ20 H locs hN hf hq hP hD hS => ?_)
          replace hw := hw τ20 hN hf hq
          have hF : f_r [2, 20, 21, 22] [1, 4, 5, 7, 14, 15, 18, 19, 21, 22, 25, 26] [0] σ τ20 := f_t hF hf (by decide) (by decide) (by decide)
          have hB := hN
          refine lv_aload_n hx hb dX13_readLabel_161 rfl (lv_at hl 0 rfl) ?_
          refine lv_aload_n hx hb dX13_readLabel_162 rfl (lv_at hl 0 rfl) ?_
          refine gfX13_now hx hb hts hK hP hown (hts _ tw_2068) (x := τ20.1 22) rfl dX13_readLabel_163 ?_
          obtain ⟨Q21, hc, hw⟩ := hw
          refine wc_V (X := MX g q lb) (va_runV (As := [.int (I (τ20.1 22))]) (rest := []) ⟨hx, hb, hml, hown, hts⟩ (L_X13_keepLabel l g q lb hlb (hB.1 22) hN hc H.size) (cwV 1 hts (TB_V tw_2621 tw_2623 ts_120 tw_15 co_X13_keepLabel) rfl rfl rfl (by decide +kernel) ⟨Nat.le_of_ble_eq_true rfl, Nat.le_of_ble_eq_true rfl⟩) (preV (q0 := 0) (ci := 13) rfl xT_bl hP hK hNb hD rfl rfl xT_at) rfl rfl hl.1 rfl (lv_room (Nat.le_of_ble_eq_true rfl)) dX13_readLabel_166 ⟨Nat.le_of_ble_eq_true rfl, Nat.le_of_ble_eq_true rfl⟩) hP hD hS hA (fun τ23 H locs hN hf hq hP hD hS => ?_)
          replace hw := hw τ23 hN hf hq
          have hF : f_r [2, 20, 21, 22] [1, 4, 5, 7, 14, 15, 18, 19, 21, 22, 25, 26] [0] σ τ23 := f_t hF hf (by decide) (by decide) (by decide)
          have hB := hN
          refine lv_aload_n hx hb dX13_readLabel_169 rfl (lv_at hl 0 rfl) ?_
          refine gfX13_textAt hx hb hts hK hP hown (hts _ tw_2026) dX13_readLabel_170 ?_
          refine lv_aload_n hx hb dX13_readLabel_173 rfl (lv_at hl 0 rfl) ?_
          refine gfX13_now hx hb hts hK hP hown (hts _ tw_2068) (x := τ23.1 22) rfl dX13_readLabel_174 ?_
          refine lv_aload_n hx hb dX13_readLabel_177 rfl (lv_at hl 0 rfl) ?_
          refine gfX13_textCount hx hb hts hK hP hown (hts _ tw_2030) (x := τ23.1 6) rfl dX13_readLabel_178 ?_
          obtain ⟨c24, hw⟩ := hw
          refine sdMX13_textAt hx hb hK hP hD hS c24 dX13_readLabel_181 (fun H locs hP hD hS => ?_)
          have hN : n_m (s_a τ23 14 (τ23.1 22) (τ23.1 6)) := n_a (k := 14) (j := τ23.1 22) hN ((hB.1 6) : rg (τ23.1 6))
          have hF : f_r [2, 20, 21, 22] [1, 4, 5, 7, 14, 15, 18, 19, 21, 22, 25, 26] [0] σ (s_a τ23 14 (τ23.1 22) (τ23.1 6)) := f_a hF (by decide)
          refine lv_aload_n hx hb dX13_readLabel_182 rfl (lv_at hl 0 rfl) ?_
          refine gfX13_textSize hx hb hts hK hP hown (hts _ tw_2027) dX13_readLabel_183 ?_
          refine lv_aload_n hx hb dX13_readLabel_186 rfl (lv_at hl 0 rfl) ?_
          refine gfX13_now hx hb hts hK hP hown (hts _ tw_2068) (x := τ23.1 22) rfl dX13_readLabel_187 ?_
          refine lv_iconst (v := I 0) hx hb dX13_readLabel_190 rfl ?_
          refine sdMX13_textSize hx hb hK hP hD hS c24 dX13_readLabel_191 (fun H locs hP hD hS => ?_)
          have hN : n_m (s_a (s_a τ23 14 (τ23.1 22) (τ23.1 6)) 15 (τ23.1 22) 0) := n_a (k := 15) (j := τ23.1 22) hN ((by decide) : rg 0)
          have hF : f_r [2, 20, 21, 22] [1, 4, 5, 7, 14, 15, 18, 19, 21, 22, 25, 26] [0] σ (s_a (s_a τ23 14 (τ23.1 22) (τ23.1 6)) 15 (τ23.1 22) 0) := f_a hF (by decide)
          refine lv_aload_n hx hb dX13_readLabel_192 rfl (lv_at hl 0 rfl) ?_
          refine gfX13_hypAt hx hb hts hK hP hown (hts _ tw_2031) dX13_readLabel_193 ?_
          refine lv_aload_n hx hb dX13_readLabel_196 rfl (lv_at hl 0 rfl) ?_
          refine gfX13_now hx hb hts hK hP hown (hts _ tw_2068) (x := τ23.1 22) rfl dX13_readLabel_197 ?_
          refine lv_aload_n hx hb dX13_readLabel_200 rfl (lv_at hl 0 rfl) ?_
          refine gfX13_hypCount hx hb hts hK hP hown (hts _ tw_2034) (x := τ23.1 7) rfl dX13_readLabel_201 ?_
          refine sdMX13_hypAt hx hb hK hP hD hS c24 dX13_readLabel_204 (fun H locs hP hD hS => ?_)
          have hN : n_m (s_a (s_a (s_a τ23 14 (τ23.1 22) (τ23.1 6)) 15 (τ23.1 22) 0) 18 (τ23.1 22) (τ23.1 7)) := n_a (k := 18) (j := τ23.1 22) hN ((hB.1 7) : rg (τ23.1 7))
          have hF : f_r [2, 20, 21, 22] [1, 4, 5, 7, 14, 15, 18, 19, 21, 22, 25, 26] [0] σ (s_a (s_a (s_a τ23 14 (τ23.1 22) (τ23.1 6)) 15 (τ23.1 22) 0) 18 (τ23.1 22) (τ23.1 7)) := f_a hF (by decide)
          refine lv_aload_n hx hb dX13_readLabel_205 rfl (lv_at hl 0 rfl) ?_
          refine gfX13_hypSize hx hb hts hK hP hown (hts _ tw_2032) dX13_readLabel_206 ?_
          refine lv_aload_n hx hb dX13_readLabel_209 rfl (lv_at hl 0 rfl) ?_
          refine gfX13_now hx hb hts hK hP hown (hts _ tw_2068) (x := τ23.1 22) rfl dX13_readLabel_210 ?_
          refine lv_iconst (v := I 0) hx hb dX13_readLabel_213 rfl ?_
          refine sdMX13_hypSize hx hb hK hP hD hS c24 dX13_readLabel_214 (fun H locs hP hD hS => ?_)
          have hN : n_m (s_a (s_a (s_a (s_a τ23 14 (τ23.1 22) (τ23.1 6)) 15 (τ23.1 22) 0) 18 (τ23.1 22) (τ23.1 7)) 19 (τ23.1 22) 0) := n_a (k := 19) (j := τ23.1 22) hN ((by decide) : rg 0)
          have hF : f_r [2, 20, 21, 22] [1, 4, 5, 7, 14, 15, 18, 19, 21, 22, 25, 26] [0] σ (s_a (s_a (s_a (s_a τ23 14 (τ23.1 22) (τ23.1 6)) 15 (τ23.1 22) 0) 18 (τ23.1 22) (τ23.1 7)) 19 (τ23.1 22) 0) := f_a hF (by decide)
          refine lv_aload_n hx hb dX13_readLabel_215 rfl (lv_at hl 0 rfl) ?_
          refine gfX13_pairAt hx hb hts hK hP hown (hts _ tw_2035) dX13_readLabel_216 ?_
          refine lv_aload_n hx hb dX13_readLabel_219 rfl (lv_at hl 0 rfl) ?_
          refine gfX13_now hx hb hts hK hP hown (hts _ tw_2068) (x := τ23.1 22) rfl dX13_readLabel_220 ?_
          refine lv_aload_n hx hb dX13_readLabel_223 rfl (lv_at hl 0 rfl) ?_
          refine gfX13_pairCount hx hb hts hK hP hown (hts _ tw_2039) (x := τ23.1 8) rfl dX13_readLabel_224 ?_
          refine sdMX13_pairAt hx hb hK hP hD hS c24 dX13_readLabel_227 (fun H locs hP hD hS => ?_)
          have hN : n_m (s_a (s_a (s_a (s_a (s_a τ23 14 (τ23.1 22) (τ23.1 6)) 15 (τ23.1 22) 0) 18 (τ23.1 22) (τ23.1 7)) 19 (τ23.1 22) 0) 21 (τ23.1 22) (τ23.1 8)) := n_a (k := 21) (j := τ23.1 22) hN ((hB.1 8) : rg (τ23.1 8))
          have hF : f_r [2, 20, 21, 22] [1, 4, 5, 7, 14, 15, 18, 19, 21, 22, 25, 26] [0] σ (s_a (s_a (s_a (s_a (s_a τ23 14 (τ23.1 22) (τ23.1 6)) 15 (τ23.1 22) 0) 18 (τ23.1 22) (τ23.1 7)) 19 (τ23.1 22) 0) 21 (τ23.1 22) (τ23.1 8)) := f_a hF (by decide)
          refine lv_aload_n hx hb dX13_readLabel_228 rfl (lv_at hl 0 rfl) ?_
          refine gfX13_pairSize hx hb hts hK hP hown (hts _ tw_2036) dX13_readLabel_229 ?_
          refine lv_aload_n hx hb dX13_readLabel_232 rfl (lv_at hl 0 rfl) ?_
          refine gfX13_now hx hb hts hK hP hown (hts _ tw_2068) (x := τ23.1 22) rfl dX13_readLabel_233 ?_
          refine lv_iconst (v := I 0) hx hb dX13_readLabel_236 rfl ?_
          refine sdMX13_pairSize hx hb hK hP hD hS c24 dX13_readLabel_237 (fun H locs hP hD hS => ?_)
          have hN : n_m (s_a (s_a (s_a (s_a (s_a (s_a τ23 14 (τ23.1 22) (τ23.1 6)) 15 (τ23.1 22) 0) 18 (τ23.1 22) (τ23.1 7)) 19 (τ23.1 22) 0) 21 (τ23.1 22) (τ23.1 8)) 22 (τ23.1 22) 0) := n_a (k := 22) (j := τ23.1 22) hN ((by decide) : rg 0)
          have hF : f_r [2, 20, 21, 22] [1, 4, 5, 7, 14, 15, 18, 19, 21, 22, 25, 26] [0] σ (s_a (s_a (s_a (s_a (s_a (s_a τ23 14 (τ23.1 22) (τ23.1 6)) 15 (τ23.1 22) 0) 18 (τ23.1 22) (τ23.1 7)) 19 (τ23.1 22) 0) 21 (τ23.1 22) (τ23.1 8)) 22 (τ23.1 22) 0) := f_a hF (by decide)
          refine lv_aload_n hx hb dX13_readLabel_238 rfl (lv_at hl 0 rfl) ?_
          refine gfX13_stepAt hx hb hts hK hP hown (hts _ tw_2040) dX13_readLabel_239 ?_
          refine lv_aload_n hx hb dX13_readLabel_242 rfl (lv_at hl 0 rfl) ?_
          refine gfX13_now hx hb hts hK hP hown (hts _ tw_2068) (x := τ23.1 22) rfl dX13_readLabel_243 ?_
          refine lv_aload_n hx hb dX13_readLabel_246 rfl (lv_at hl 0 rfl) ?_
          refine gfX13_stepCount hx hb hts hK hP hown (hts _ tw_2045) (x := τ23.1 9) rfl dX13_readLabel_247 ?_
          refine sdMX13_stepAt hx hb hK hP hD hS c24 dX13_readLabel_250 (fun H locs hP hD hS => ?_)
          have hN : n_m (s_a (s_a (s_a (s_a (s_a (s_a (s_a τ23 14 (τ23.1 22) (τ23.1 6)) 15 (τ23.1 22) 0) 18 (τ23.1 22) (τ23.1 7)) 19 (τ23.1 22) 0) 21 (τ23.1 22) (τ23.1 8)) 22 (τ23.1 22) 0) 25 (τ23.1 22) (τ23.1 9)) := n_a (k := 25) (j := τ23.1 22) hN ((hB.1 9) : rg (τ23.1 9))
          have hF : f_r [2, 20, 21, 22] [1, 4, 5, 7, 14, 15, 18, 19, 21, 22, 25, 26] [0] σ (s_a (s_a (s_a (s_a (s_a (s_a (s_a τ23 14 (τ23.1 22) (τ23.1 6)) 15 (τ23.1 22) 0) 18 (τ23.1 22) (τ23.1 7)) 19 (τ23.1 22) 0) 21 (τ23.1 22) (τ23.1 8)) 22 (τ23.1 22) 0) 25 (τ23.1 22) (τ23.1 9)) := f_a hF (by decide)
          refine lv_aload_n hx hb dX13_readLabel_251 rfl (lv_at hl 0 rfl) ?_
          refine gfX13_stepSize hx hb hts hK hP hown (hts _ tw_2041) dX13_readLabel_252 ?_
          refine lv_aload_n hx hb dX13_readLabel_255 rfl (lv_at hl 0 rfl) ?_
          refine gfX13_now hx hb hts hK hP hown (hts _ tw_2068) (x := τ23.1 22) rfl dX13_readLabel_256 ?_
          refine lv_iconst (v := I 0) hx hb dX13_readLabel_259 rfl ?_
          refine sdMX13_stepSize hx hb hK hP hD hS c24 dX13_readLabel_260 (fun H locs hP hD hS => ?_)
          have hN : n_m (s_a (s_a (s_a (s_a (s_a (s_a (s_a (s_a τ23 14 (τ23.1 22) (τ23.1 6)) 15 (τ23.1 22) 0) 18 (τ23.1 22) (τ23.1 7)) 19 (τ23.1 22) 0) 21 (τ23.1 22) (τ23.1 8)) 22 (τ23.1 22) 0) 25 (τ23.1 22) (τ23.1 9)) 26 (τ23.1 22) 0) := n_a (k := 26) (j := τ23.1 22) hN ((by decide) : rg 0)
          have hF : f_r [2, 20, 21, 22] [1, 4, 5, 7, 14, 15, 18, 19, 21, 22, 25, 26] [0] σ (s_a (s_a (s_a (s_a (s_a (s_a (s_a (s_a τ23 14 (τ23.1 22) (τ23.1 6)) 15 (τ23.1 22) 0) 18 (τ23.1 22) (τ23.1 7)) 19 (τ23.1 22) 0) 21 (τ23.1 22) (τ23.1 8)) 22 (τ23.1 22) 0) 25 (τ23.1 22) (τ23.1 9)) 26 (τ23.1 22) 0) := f_a hF (by decide)
          refine lv_iconst (v := I 0) hx hb dX13_readLabel_261 rfl ?_
          refine lv_istore_n (lv' := [(1, .int (I 0)), (0, .ref (q 0))]) hx hb dX13_readLabel_262 rfl hl (by decide) rfl (fun ls hl => ?_)
          exact (hP263 _ _).mp hw (by decide) hN hF H locs ls hP hD hS (lv_sub hl [1, 0] rfl)
        ·
          replace hw := hw.2 c16
          exact (hP108 _).mp hw hN hF H locs ls hP hD hS (lv_sub hl [0] rfl)
    ·
      replace hw := hw.2 c8
      refine lv_aload_n hx hb dX13_readLabel_50 rfl (lv_at hl 0 rfl) ?_
      refine gfX13_tape hx hb hts hK hP hown (hts _ tw_2006) dX13_readLabel_51 ?_
      refine lv_aload_n hx hb dX13_readLabel_54 rfl (lv_at hl 0 rfl) ?_
      refine gfX13_tokenAt hx hb hts hK hP hown (hts _ tw_2062) (x := τ.1 17) rfl dX13_readLabel_55 ?_
      refine lv_iload_n hx hb dX13_readLabel_58 rfl (lv_at hl 1 rfl) ?_
      refine bi_iadd hx hb dX13_readLabel_59 ?_
      obtain ⟨c25, hw⟩ := hw
      refine ldMX13_tape hx hb hK hP hN c25 dX13_readLabel_60 (fun x26 r_x26 e_x26 => ?_)
      replace hw := hw x26 r_x26 e_x26
      obtain ⟨Q27, hc, hw⟩ := hw
      refine wc_i (X := MX g q lb) (va_runS (As := [.int (I x26)]) (rest := []) ⟨hx, hb, hml, hown, hts⟩ (L_X13_isLabelSign l g q lb hlb r_x26 hN hc H.size) (cwS 1 hts (TB_S tw_2589 tw_2590 tw_15 co_X13_isLabelSign) rfl rfl rfl (by decide +kernel) ⟨Nat.le_of_ble_eq_true rfl, Nat.le_of_ble_eq_true rfl⟩) (preS xT_bl hP hK hNb hD xT_at) rfl rfl hl.1 rfl (lv_room (Nat.le_of_ble_eq_true rfl)) dX13_readLabel_61 ⟨Nat.le_of_ble_eq_true rfl, Nat.le_of_ble_eq_true rfl⟩) hP hD hS hA (fun x28 H locs r_x28 hq hP hD hS => ?_)
      replace hw := hw x28 r_x28 hq
      refine bi_if_ne (tgt := 74) hx hb r_x28 dX13_readLabel_64 (by decide) (fun c30 => ?_) (fun c30 => ?_)
      ·
        replace hw := hw.1 c30
        refine lv_iinc (v := I (u1 + 1)) (lv' := [(1, .int (I (u1 + 1))), (0, .ref (q 0))]) hx hb dX13_readLabel_74 hl (k := 1) rfl (I_add _ _) (by decide) rfl (fun ls hl => ?_)
        refine lv_goto (tgt := 42) hx hb dX13_readLabel_77 (by decide) ?_
        obtain ⟨c31, hw⟩ := hw
        exact (hP42 _ _).mp hw c31 hN hF H locs ls hP hD hS (lv_sub hl [1, 0] rfl)
      ·
        replace hw := hw.2 c30
        refine lv_aload_n hx hb dX13_readLabel_67 rfl (lv_at hl 0 rfl) ?_
        refine lv_bipush (v := I 6) hx hb dX13_readLabel_68 (by decide) ?_
        obtain ⟨Q32, hc, hw⟩ := hw
        refine wc_V (X := MX g q lb) (va_runV (As := [.int (I 6)]) (rest := []) ⟨hx, hb, hml, hown, hts⟩ (L_X13_failHere l g q lb hlb (by decide) hN hc H.size) (cwV 1 hts (TB_V tw_2585 tw_2587 ts_114 tw_15 co_X13_failHere) rfl rfl rfl (by decide +kernel) ⟨Nat.le_of_ble_eq_true rfl, Nat.le_of_ble_eq_true rfl⟩) (preV (q0 := 0) (ci := 13) rfl xT_bl hP hK hNb hD rfl rfl xT_at) rfl rfl hl.1 rfl (lv_room (Nat.le_of_ble_eq_true rfl)) dX13_readLabel_70 ⟨Nat.le_of_ble_eq_true rfl, Nat.le_of_ble_eq_true rfl⟩) hP hD hS hA (fun τ34 H locs hN hf hq hP hD hS => ?_)
        replace hw := hw τ34 hN hf hq
        have hF : f_r [2, 20, 21, 22] [1, 4, 5, 7, 14, 15, 18, 19, 21, 22, 25, 26] [0] σ τ34 := f_t hF hf (by decide) (by decide) (by decide)
        have hB := hN
        exact xrv hx hb hr hlk hP hK hD hS ⟨_, hN, hF, rfl, hw⟩ (Nat.le_of_ble_eq_true rfl) (Nat.le_of_ble_eq_true rfl) dX13_readLabel_73
  ·
    intro τ hw
    refine (hP108 _).mpr ?_
    intro hN hF H locs ls hP hD hS hl
    have hB := hN
    refine lv_aload_n hx hb dX13_readLabel_108 rfl (lv_at hl 0 rfl) ?_
    refine lv_bipush (v := I 7) hx hb dX13_readLabel_109 (by decide) ?_
    obtain ⟨Q35, hc, hw⟩ := hw
    refine wc_V (X := MX g q lb) (va_runV (As := [.int (I 7)]) (rest := []) ⟨hx, hb, hml, hown, hts⟩ (L_X13_failHere l g q lb hlb (by decide) hN hc H.size) (cwV 1 hts (TB_V tw_2585 tw_2587 ts_114 tw_15 co_X13_failHere) rfl rfl rfl (by decide +kernel) ⟨Nat.le_of_ble_eq_true rfl, Nat.le_of_ble_eq_true rfl⟩) (preV (q0 := 0) (ci := 13) rfl xT_bl hP hK hNb hD rfl rfl xT_at) rfl rfl hl.1 rfl (lv_room (Nat.le_of_ble_eq_true rfl)) dX13_readLabel_111 ⟨Nat.le_of_ble_eq_true rfl, Nat.le_of_ble_eq_true rfl⟩) hP hD hS hA (fun τ37 H locs hN hf hq hP hD hS => ?_)
    replace hw := hw τ37 hN hf hq
    have hF : f_r [2, 20, 21, 22] [1, 4, 5, 7, 14, 15, 18, 19, 21, 22, 25, 26] [0] σ τ37 := f_t hF hf (by decide) (by decide) (by decide)
    have hB := hN
    exact xrv hx hb hr hlk hP hK hD hS ⟨_, hN, hF, rfl, hw⟩ (Nat.le_of_ble_eq_true rfl) (Nat.le_of_ble_eq_true rfl) dX13_readLabel_114
  ·
    intro u1 τ hw
    refine (hP263 _ _).mpr ?_
    intro r_u1 hN hF H locs ls hP hD hS hl
    have hB := hN
    refine lv_iload_n hx hb dX13_readLabel_263 rfl (lv_at hl 1 rfl) ?_
    refine lv_bipush (v := I 24) hx hb dX13_readLabel_264 (by decide) ?_
    refine bi_icmp_ge (tgt := 290) hx hb r_u1 (by decide) dX13_readLabel_266 (by decide) (fun c38 => ?_) (fun c38 => ?_)
    ·
      replace hw := hw.1 c38
      exact xrv hx hb hr hlk hP hK hD hS ⟨_, hN, hF, rfl, hw⟩ (Nat.le_of_ble_eq_true rfl) (Nat.le_of_ble_eq_true rfl) dX13_readLabel_290
    ·
      replace hw := hw.2 c38
      refine lv_aload_n hx hb dX13_readLabel_269 rfl (lv_at hl 0 rfl) ?_
      refine gfX13_rest hx hb hts hK hP hown (hts _ tw_2046) dX13_readLabel_270 ?_
      refine lv_bipush (v := I 24) hx hb dX13_readLabel_273 (by decide) ?_
      refine lv_aload_n hx hb dX13_readLabel_275 rfl (lv_at hl 0 rfl) ?_
      refine gfX13_now hx hb hts hK hP hown (hts _ tw_2068) (x := τ.1 22) rfl dX13_readLabel_276 ?_
      refine bi_imul hx hb dX13_readLabel_279 ?_
      refine lv_iload_n hx hb dX13_readLabel_280 rfl (lv_at hl 1 rfl) ?_
      refine bi_iadd hx hb dX13_readLabel_281 ?_
      refine lv_lconst (v := 0) hx hb dX13_readLabel_282 (by decide) ?_
      obtain ⟨c39, hw⟩ := hw
      refine sdMX13_rest hx hb hK hP hD hS c39 dX13_readLabel_283 (fun H locs hP hD hS => ?_)
      have hN : n_m (s_b τ 0 ((24 * τ.1 22) + u1) 0) := n_b (k := 0) (j := ((24 * τ.1 22) + u1)) (x := 0) hN
      have hF : f_r [2, 20, 21, 22] [1, 4, 5, 7, 14, 15, 18, 19, 21, 22, 25, 26] [0] σ (s_b τ 0 ((24 * τ.1 22) + u1) 0) := f_b hF (by decide)
      refine lv_iinc (v := I (u1 + 1)) (lv' := [(1, .int (I (u1 + 1))), (0, .ref (q 0))]) hx hb dX13_readLabel_284 hl (k := 1) rfl (I_add _ _) (by decide) rfl (fun ls hl => ?_)
      refine lv_goto (tgt := 263) hx hb dX13_readLabel_287 (by decide) ?_
      obtain ⟨c40, hw⟩ := hw
      exact (hP263 _ _).mp hw c40 hN hF H locs ls hP hD hS (lv_sub hl [1, 0] rfl)
