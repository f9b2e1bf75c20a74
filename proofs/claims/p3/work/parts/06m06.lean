-- methods told as propositions, and tied to the machine
def W_X13_tellHyps (n1 : Int) (σ : S0) (Q : Int → S0 → Prop) : Prop :=
  ∀ (P14 : Int → Int → Int → S0 → Prop) (P78 : Int → Int → Int → Int → Int → S0 → Prop) (P148 : Int → Int → Int → Int → Int → Int → Int → S0 → Prop),
  (∀ (u1 : Int) (u2 : Int) (u3 : Int) (τ : S0), ((0 ≤ u1 ∧ u1 < 1501) ∧ (∀ (x4 : Int), rg x4 → x4 = τ.2.1 18 u1 → (∀ (x5 : Int), rg x5 → x5 = τ.2.1 19 u1 → (rg (x4 + x5) ∧ ((x4 + x5) ≤ u3 → Q u2 τ) ∧ (u3 < (x4 + x5) → (0 ≤ u3 ∧ u3 < 90100) ∧ (∀ (x9 : Int), rg x9 → x9 = τ.2.1 20 u3 → ((0 ≤ x9 ∧ x9 < 1501) ∧ (∀ (x11 : Int), rg x11 → x11 = τ.2.1 13 x9 → ((¬ x11 = 0 → (u2 ≤ 0 → ∀ (x14 : Int), rg x14 → x14 = τ.2.1 14 x9 → (rg (u2 + 1) ∧ P78 u1 (u2 + 1) u3 x9 x14 τ)) ∧ (0 < u2 → ∃ (Q16 : S0 → Prop), W_X13_putBlank τ Q16 ∧ ∀ (τ18 : S0), n_m τ18 → f_r [39] [59] [] τ τ18 → Q16 τ18 → (∃ (Q19 : S0 → Prop), W_X13_put 44 τ18 Q19 ∧ ∀ (τ21 : S0), n_m τ21 → f_r [39] [59] [] τ18 τ21 → Q19 τ21 → (∀ (x22 : Int), rg x22 → x22 = τ21.2.1 14 x9 → (rg (u2 + 1) ∧ P78 u1 (u2 + 1) u3 x9 x22 τ21))))) ∧ (x11 = 0 → rg (u3 + 1) ∧ P14 u1 u2 (u3 + 1) τ)))))))))) → P14 u1 u2 u3 τ) →
  (∀ (u1 : Int) (u2 : Int) (u3 : Int) (u4 : Int) (u5 : Int) (τ : S0), ((0 ≤ u4 ∧ u4 < 1501) ∧ (∀ (x26 : Int), rg x26 → x26 = τ.2.1 14 u4 → (∀ (x27 : Int), rg x27 → x27 = τ.2.1 15 u4 → (rg (x26 + x27) ∧ ((x26 + x27) ≤ u5 → rg (u3 + 1) ∧ P14 u1 u2 (u3 + 1) τ) ∧ (u5 < (x26 + x27) → (0 ≤ u5 ∧ u5 < 30400) ∧ (∀ (x32 : Int), rg x32 → x32 = τ.2.1 16 u5 → ((0 ≤ x32 ∧ x32 < 1001) ∧ (∀ (x34 : Int), rg x34 → x34 = τ.2.1 8 x32 → ((¬ x34 = 0 → ∀ (x36 : Int), rg x36 → x36 = τ.2.1 104 x32 → ((¬ x36 = (-1) → ∀ (x38 : Int), rg x38 → x38 = τ.2.1 104 x32 → (P148 u1 u2 u3 u4 u5 x32 x38 τ)) ∧ (x36 = (-1) → Q (-1) τ))) ∧ (x34 = 0 → ∃ (Q39 : S0 → Prop), W_X13_putSymbol x32 τ Q39 ∧ ∀ (τ41 : S0), n_m τ41 → f_r [39] [59] [] τ τ41 → Q39 τ41 → (rg (u5 + 1) ∧ P78 u1 u2 u3 u4 (u5 + 1) τ41))))))))))) → P78 u1 u2 u3 u4 u5 τ) →
  (∀ (u1 : Int) (u2 : Int) (u3 : Int) (u4 : Int) (u5 : Int) (u6 : Int) (u7 : Int) (τ : S0), ((0 ≤ u6 ∧ u6 < 1001) ∧ (∀ (x44 : Int), rg x44 → x44 = τ.2.1 105 u6 → ((x44 ≤ u7 → rg (u5 + 1) ∧ P78 u1 u2 u3 u4 (u5 + 1) τ) ∧ (u7 < x44 → (0 ≤ (1 + u7) ∧ (1 + u7) < 64) ∧ (∀ (x48 : Int), rg x48 → x48 = τ.2.1 103 (1 + u7) → (∃ (Q49 : S0 → Prop), W_X13_putSymbol x48 τ Q49 ∧ ∀ (τ51 : S0), n_m τ51 → f_r [39] [59] [] τ τ51 → Q49 τ51 → (rg (u7 + 1) ∧ P148 u1 u2 u3 u4 u5 u6 (u7 + 1) τ51))))))) → P148 u1 u2 u3 u4 u5 u6 u7 τ) →
  (0 ≤ n1 ∧ n1 < 1501) ∧ (∀ (x2 : Int), rg x2 → x2 = σ.2.1 18 n1 → (P14 n1 0 x2 (s_v σ 39 0)))
set_option maxRecDepth 100000 in
set_option maxHeartbeats 4000000 in
theorem L_X13_tellHyps (l : Launch) (g : gG) (q : Nat → Nat) (lb : Nat) (hlb : lb < 2 ^ 31) {n1 : Int} {σ : S0} {Q : Int → S0 → Prop} (r_n1 : rg n1) (hN : n_m σ) (hw : W_X13_tellHyps n1 σ Q) (sz : Nat) : MetI l yX13_tellHyps cX13_tellHyps 8 (some .int) { frames := 3, cells := 0, slots := 0, locals := 65 } g [.ref (q 0), .int (I n1)] (MX g q lb σ) sz xT (p_I (MX g q lb) [39] [59] [] σ Q) 0 0 := by
  refine mkMet (Qc := fun A => QI g A (p_I (MX g q lb) [39] [59] [] σ Q)) (by decide) (Nat.le_of_ble_eq_true rfl) ?_
  intro p e s m below meth c A H ls hx hb hr hml hown hts hlk hnm hsz hP hK hNb hD hA hAe hS hX hl
  have hl : lv_has ls 8 [(0, .ref (q 0)), (1, .int (I n1))] := hl
  have hB := hN
  have hF : f_r [39] [59] [] σ σ := f_0
  obtain ⟨locs, hlocs⟩ : ∃ z : List Loc, z = [] := ⟨_, rfl⟩
  rw [← hlocs] at hS ⊢
  obtain ⟨P14, hP14⟩ : ∃ P : Int → Int → Int → S0 → Prop, ∀ (u1 : Int) (u2 : Int) (u3 : Int) (τ : S0), (P u1 u2 u3 τ ↔ (rg u1 → rg u2 → rg u3 → n_m τ → f_r [39] [59] [] σ τ → ∀ (H : Heap) (locs : List Loc) (ls : Array Slot), KP g (MX g q lb τ) H → va_D A (MX g q lb τ) → va_S A s.heap H locs → lv_has ls 8 [(0, .ref (q 0)), (1, .int (I u1)), (2, .int (I u2)), (3, .int (I u3))] → W p l e ({ frames := 3, cells := 0, slots := 0, locals := 65 }) s m [.ref (q 0), .int (I n1)].toArray below meth c H locs 0 0 (MQ below (QI g A (p_I (MX g q lb) [39] [59] [] σ Q)) [.ref (q 0), .int (I n1)].toArray s 0 0 A) (F0 m 14 ls []))) := ⟨_, fun _ _ _ _ => Iff.rfl⟩
  obtain ⟨P78, hP78⟩ : ∃ P : Int → Int → Int → Int → Int → S0 → Prop, ∀ (u1 : Int) (u2 : Int) (u3 : Int) (u4 : Int) (u5 : Int) (τ : S0), (P u1 u2 u3 u4 u5 τ ↔ (rg u1 → rg u2 → rg u3 → rg u4 → rg u5 → n_m τ → f_r [39] [59] [] σ τ → ∀ (H : Heap) (locs : List Loc) (ls : Array Slot), KP g (MX g q lb τ) H → va_D A (MX g q lb τ) → va_S A s.heap H locs → lv_has ls 8 [(0, .ref (q 0)), (1, .int (I u1)), (2, .int (I u2)), (3, .int (I u3)), (4, .int (I u4)), (5, .int (I u5))] → W p l e ({ frames := 3, cells := 0, slots := 0, locals := 65 }) s m [.ref (q 0), .int (I n1)].toArray below meth c H locs 0 0 (MQ below (QI g A (p_I (MX g q lb) [39] [59] [] σ Q)) [.ref (q 0), .int (I n1)].toArray s 0 0 A) (F0 m 78 ls []))) := ⟨_, fun _ _ _ _ _ _ => Iff.rfl⟩
  obtain ⟨P148, hP148⟩ : ∃ P : Int → Int → Int → Int → Int → Int → Int → S0 → Prop, ∀ (u1 : Int) (u2 : Int) (u3 : Int) (u4 : Int) (u5 : Int) (u6 : Int) (u7 : Int) (τ : S0), (P u1 u2 u3 u4 u5 u6 u7 τ ↔ (rg u1 → rg u2 → rg u3 → rg u4 → rg u5 → rg u6 → rg u7 → n_m τ → f_r [39] [59] [] σ τ → ∀ (H : Heap) (locs : List Loc) (ls : Array Slot), KP g (MX g q lb τ) H → va_D A (MX g q lb τ) → va_S A s.heap H locs → lv_has ls 8 [(0, .ref (q 0)), (1, .int (I u1)), (2, .int (I u2)), (3, .int (I u3)), (4, .int (I u4)), (5, .int (I u5)), (6, .int (I u6)), (7, .int (I u7))] → W p l e ({ frames := 3, cells := 0, slots := 0, locals := 65 }) s m [.ref (q 0), .int (I n1)].toArray below meth c H locs 0 0 (MQ below (QI g A (p_I (MX g q lb) [39] [59] [] σ Q)) [.ref (q 0), .int (I n1)].toArray s 0 0 A) (F0 m 148 ls []))) := ⟨_, fun _ _ _ _ _ _ _ _ => Iff.rfl⟩
  refine (fun hw => ?_) (hw P14 P78 P148 ?_ ?_ ?_)
  ·
    refine lv_iconst (v := I 0) hx hb dX13_tellHyps_0 rfl ?_
    refine lv_istore_n (lv' := [(2, .int (I 0)), (0, .ref (q 0)), (1, .int (I n1))]) hx hb dX13_tellHyps_1 rfl hl (by decide) rfl (fun ls hl => ?_)
    refine lv_aload_n hx hb dX13_tellHyps_2 rfl (lv_at hl 1 rfl) ?_
    refine lv_iconst (v := I 0) hx hb dX13_tellHyps_3 rfl ?_
    refine pfX13_draftSize hx hb hts hK hP hD hS hown (hts _ tw_2108) dX13_tellHyps_4 (fun H locs hP hD hS => ?_)
    have hN : n_m (s_v σ 39 0) := n_v (i := 39) hN ((by decide) : rg 0)
    have hF : f_r [39] [59] [] σ (s_v σ 39 0) := f_v hF (by decide)
    refine lv_aload_n hx hb dX13_tellHyps_7 rfl (lv_at hl 1 rfl) ?_
    refine gfX13_hypAt hx hb hts hK hP hown (hts _ tw_2031) dX13_tellHyps_8 ?_
    refine lv_iload_n hx hb dX13_tellHyps_11 rfl (lv_at hl 2 rfl) ?_
    obtain ⟨c1, hw⟩ := hw
    refine ldMX13_hypAt hx hb hK hP hN c1 dX13_tellHyps_12 (fun x2 r_x2 e_x2 => ?_)
    replace hw := hw x2 r_x2 e_x2
    refine lv_istore_n (lv' := [(3, .int (I x2)), (2, .int (I 0)), (0, .ref (q 0)), (1, .int (I n1))]) hx hb dX13_tellHyps_13 rfl hl (by decide) rfl (fun ls hl => ?_)
    exact (hP14 _ _ _ _).mp hw r_n1 (by decide) r_x2 hN hF H locs ls hP hD hS (lv_sub hl [2, 3, 1, 0] rfl)
  ·
    intro u1 u2 u3 τ hw
    refine (hP14 _ _ _ _).mpr ?_
    intro r_u1 r_u2 r_u3 hN hF H locs ls hP hD hS hl
    have hB := hN
    refine lv_iload_n hx hb dX13_tellHyps_14 rfl (lv_at hl 3 rfl) ?_
    refine lv_aload_n hx hb dX13_tellHyps_15 rfl (lv_at hl 0 rfl) ?_
    refine gfX13_hypAt hx hb hts hK hP hown (hts _ tw_2031) dX13_tellHyps_16 ?_
    refine lv_iload_n hx hb dX13_tellHyps_19 rfl (lv_at hl 1 rfl) ?_
    obtain ⟨c3, hw⟩ := hw
    refine ldMX13_hypAt hx hb hK hP hN c3 dX13_tellHyps_20 (fun x4 r_x4 e_x4 => ?_)
    replace hw := hw x4 r_x4 e_x4
    refine lv_aload_n hx hb dX13_tellHyps_21 rfl (lv_at hl 0 rfl) ?_
    refine gfX13_hypSize hx hb hts hK hP hown (hts _ tw_2032) dX13_tellHyps_22 ?_
    refine lv_iload_n hx hb dX13_tellHyps_25 rfl (lv_at hl 1 rfl) ?_
    refine ldMX13_hypSize hx hb hK hP hN c3 dX13_tellHyps_26 (fun x5 r_x5 e_x5 => ?_)
    replace hw := hw x5 r_x5 e_x5
    refine bi_iadd hx hb dX13_tellHyps_27 ?_
    obtain ⟨c6, hw⟩ := hw
    refine bi_icmp_ge (tgt := 191) hx hb r_u3 c6 dX13_tellHyps_28 (by decide) (fun c7 => ?_) (fun c7 => ?_)
    ·
      replace hw := hw.1 c7
      refine lv_iload_n hx hb dX13_tellHyps_191 rfl (lv_at hl 2 rfl) ?_
      exact xri hx hb hr hlk hP hK hD hS ⟨_, _, r_u2, rfl, hN, hF, rfl, hw⟩ (Nat.le_of_ble_eq_true rfl) (Nat.le_of_ble_eq_true rfl) dX13_tellHyps_192
    ·
      replace hw := hw.2 c7
      refine lv_aload_n hx hb dX13_tellHyps_31 rfl (lv_at hl 0 rfl) ?_
      refine gfX13_hyps hx hb hts hK hP hown (hts _ tw_2033) dX13_tellHyps_32 ?_
      refine lv_iload_n hx hb dX13_tellHyps_35 rfl (lv_at hl 3 rfl) ?_
      obtain ⟨c8, hw⟩ := hw
      refine ldMX13_hyps hx hb hK hP hN c8 dX13_tellHyps_36 (fun x9 r_x9 e_x9 => ?_)
      replace hw := hw x9 r_x9 e_x9
      refine lv_istore (lv' := [(4, .int (I x9)), (0, .ref (q 0)), (1, .int (I u1)), (2, .int (I u2)), (3, .int (I u3))]) hx hb dX13_tellHyps_37 hl (by decide) rfl (fun ls hl => ?_)
      refine lv_aload_n hx hb dX13_tellHyps_39 rfl (lv_at hl 1 rfl) ?_
      refine gfX13_kindOf hx hb hts hK hP hown (hts _ tw_2025) dX13_tellHyps_40 ?_
      refine lv_iload hx hb dX13_tellHyps_43 (lv_at hl 0 rfl) ?_
      obtain ⟨c10, hw⟩ := hw
      refine ldMX13_kindOf hx hb hK hP hN c10 dX13_tellHyps_45 (fun x11 r_x11 e_x11 => ?_)
      replace hw := hw x11 r_x11 e_x11
      refine bi_if_ne (tgt := 52) hx hb r_x11 dX13_tellHyps_46 (by decide) (fun c12 => ?_) (fun c12 => ?_)
      ·
        replace hw := hw.1 c12
        refine lv_iload_n hx hb dX13_tellHyps_52 rfl (lv_at hl 3 rfl) ?_
        refine bi_if_le (tgt := 66) hx hb r_u2 dX13_tellHyps_53 (by decide) (fun c13 => ?_) (fun c13 => ?_)
        ·
          replace hw := hw.1 c13
          refine lv_iinc (v := I (u2 + 1)) (lv' := [(2, .int (I (u2 + 1))), (4, .int (I x9)), (0, .ref (q 0)), (1, .int (I u1)), (3, .int (I u3))]) hx hb dX13_tellHyps_66 hl (k := 3) rfl (I_add _ _) (by decide) rfl (fun ls hl => ?_)
          refine lv_aload_n hx hb dX13_tellHyps_69 rfl (lv_at hl 2 rfl) ?_
          refine gfX13_textAt hx hb hts hK hP hown (hts _ tw_2026) dX13_tellHyps_70 ?_
          refine lv_iload hx hb dX13_tellHyps_73 (lv_at hl 1 rfl) ?_
          refine ldMX13_textAt hx hb hK hP hN c10 dX13_tellHyps_75 (fun x14 r_x14 e_x14 => ?_)
          replace hw := hw x14 r_x14 e_x14
          refine lv_istore (lv' := [(5, .int (I x14)), (2, .int (I (u2 + 1))), (4, .int (I x9)), (0, .ref (q 0)), (1, .int (I u1)), (3, .int (I u3))]) hx hb dX13_tellHyps_76 hl (by decide) rfl (fun ls hl => ?_)
          obtain ⟨c15, hw⟩ := hw
          exact (hP78 _ _ _ _ _ _).mp hw r_u1 c15 r_u3 r_x9 r_x14 hN hF H locs ls hP hD hS (lv_sub hl [3, 4, 1, 5, 2, 0] rfl)
        ·
          replace hw := hw.2 c13
          refine lv_aload_n hx hb dX13_tellHyps_56 rfl (lv_at hl 1 rfl) ?_
          obtain ⟨Q16, hc, hw⟩ := hw
          refine wc_V (X := MX g q lb) (va_runV (As := []) (rest := []) ⟨hx, hb, hml, hown, hts⟩ (L_X13_putBlank l g q lb hlb  hN hc H.size) (cwV 0 hts (TB_V tw_3063 tw_3065 ts_207 tw_15 co_X13_putBlank) rfl rfl rfl (by decide +kernel) ⟨Nat.le_of_ble_eq_true rfl, Nat.le_of_ble_eq_true rfl⟩) (preV (q0 := 0) (ci := 13) rfl xT_bl hP hK hNb hD rfl rfl xT_at) rfl rfl hl.1 rfl (lv_room (Nat.le_of_ble_eq_true rfl)) dX13_tellHyps_57 ⟨Nat.le_of_ble_eq_true rfl, Nat.le_of_ble_eq_true rfl⟩) hP hD hS hA (fun τ18 H locs hN hf hq hP hD hS => ?_)
          replace hw := hw τ18 hN hf hq
          have hF : f_r [39] [59] [] σ τ18 := f_t hF hf (by decide) (by decide) (by decide)
          have hB := hN
          refine lv_aload_n hx hb dX13_tellHyps_60 rfl (lv_at hl 1 rfl) ?_
          refine lv_bipush (v := I 44) hx hb dX13_tellHyps_61 (by decide) ?_
          obtain ⟨Q19, hc, hw⟩ := hw
          refine wc_V (X := MX g q lb) (va_runV (As := [.int (I 44)]) (rest := []) ⟨hx, hb, hml, hown, hts⟩ (L_X13_put l g q lb hlb (by decide) hN hc H.size) (cwV 1 hts (TB_V tw_3067 tw_3069 ts_208 tw_15 co_X13_put) rfl rfl rfl (by decide +kernel) ⟨Nat.le_of_ble_eq_true rfl, Nat.le_of_ble_eq_true rfl⟩) (preV (q0 := 0) (ci := 13) rfl xT_bl hP hK hNb hD rfl rfl xT_at) rfl rfl hl.1 rfl (lv_room (Nat.le_of_ble_eq_true rfl)) dX13_tellHyps_63 ⟨Nat.le_of_ble_eq_true rfl, Nat.le_of_ble_eq_true rfl⟩) hP hD hS hA (fun τ21 H locs hN hf hq hP hD hS => ?_)
          replace hw := hw τ21 hN hf hq
          have hF : f_r [39] [59] [] σ τ21 := f_t hF hf (by decide) (by decide) (by decide)
          have hB := hN
          refine lv_iinc (v := I (u2 + 1)) (lv' := [(2, .int (I (u2 + 1))), (4, .int (I x9)), (0, .ref (q 0)), (1, .int (I u1)), (3, .int (I u3))]) hx hb dX13_tellHyps_66 hl (k := 3) rfl (I_add _ _) (by decide) rfl (fun ls hl => ?_)
          refine lv_aload_n hx hb dX13_tellHyps_69 rfl (lv_at hl 2 rfl) ?_
          refine gfX13_textAt hx hb hts hK hP hown (hts _ tw_2026) dX13_tellHyps_70 ?_
          refine lv_iload hx hb dX13_tellHyps_73 (lv_at hl 1 rfl) ?_
          refine ldMX13_textAt hx hb hK hP hN c10 dX13_tellHyps_75 (fun x22 r_x22 e_x22 => ?_)
          replace hw := hw x22 r_x22 e_x22
          refine lv_istore (lv' := [(5, .int (I x22)), (2, .int (I (u2 + 1))), (4, .int (I x9)), (0, .ref (q 0)), (1, .int (I u1)), (3, .int (I u3))]) hx hb dX13_tellHyps_76 hl (by decide) rfl (fun ls hl => ?_)
          obtain ⟨c23, hw⟩ := hw
          exact (hP78 _ _ _ _ _ _).mp hw r_u1 c23 r_u3 r_x9 r_x22 hN hF H locs ls hP hD hS (lv_sub hl [3, 4, 1, 5, 2, 0] rfl)
      ·
        replace hw := hw.2 c12
        refine lv_goto (tgt := 185) hx hb dX13_tellHyps_49 (by decide) ?_
        refine lv_iinc (v := I (u3 + 1)) (lv' := [(3, .int (I (u3 + 1))), (4, .int (I x9)), (0, .ref (q 0)), (1, .int (I u1)), (2, .int (I u2))]) hx hb dX13_tellHyps_185 hl (k := 4) rfl (I_add _ _) (by decide) rfl (fun ls hl => ?_)
        refine lv_goto (tgt := 14) hx hb dX13_tellHyps_188 (by decide) ?_
        obtain ⟨c24, hw⟩ := hw
        exact (hP14 _ _ _ _).mp hw r_u1 r_u2 c24 hN hF H locs ls hP hD hS (lv_sub hl [2, 3, 4, 0] rfl)
  ·
    intro u1 u2 u3 u4 u5 τ hw
    refine (hP78 _ _ _ _ _ _).mpr ?_
    intro r_u1 r_u2 r_u3 r_u4 r_u5 hN hF H locs ls hP hD hS hl
    have hB := hN
    refine lv_iload hx hb dX13_tellHyps_78 (lv_at hl 5 rfl) ?_
    refine lv_aload_n hx hb dX13_tellHyps_80 rfl (lv_at hl 0 rfl) ?_
    refine gfX13_textAt hx hb hts hK hP hown (hts _ tw_2026) dX13_tellHyps_81 ?_
    refine lv_iload hx hb dX13_tellHyps_84 (lv_at hl 4 rfl) ?_
    obtain ⟨c25, hw⟩ := hw
    refine ldMX13_textAt hx hb hK hP hN c25 dX13_tellHyps_86 (fun x26 r_x26 e_x26 => ?_)
    replace hw := hw x26 r_x26 e_x26
    refine lv_aload_n hx hb dX13_tellHyps_87 rfl (lv_at hl 0 rfl) ?_
    refine gfX13_textSize hx hb hts hK hP hown (hts _ tw_2027) dX13_tellHyps_88 ?_
    refine lv_iload hx hb dX13_tellHyps_91 (lv_at hl 4 rfl) ?_
    refine ldMX13_textSize hx hb hK hP hN c25 dX13_tellHyps_93 (fun x27 r_x27 e_x27 => ?_)
    replace hw := hw x27 r_x27 e_x27
    refine bi_iadd hx hb dX13_tellHyps_94 ?_
    obtain ⟨c28, hw⟩ := hw
    refine bi_icmp_ge (tgt := 185) hx hb r_u5 c28 dX13_tellHyps_95 (by decide) (fun c29 => ?_) (fun c29 => ?_)
    ·
      replace hw := hw.1 c29
      refine lv_iinc (v := I (u3 + 1)) (lv' := [(3, .int (I (u3 + 1))), (0, .ref (q 0)), (1, .int (I u1)), (2, .int (I u2)), (4, .int (I u4)), (5, .int (I u5))]) hx hb dX13_tellHyps_185 hl (k := 3) rfl (I_add _ _) (by decide) rfl (fun ls hl => ?_)
      refine lv_goto (tgt := 14) hx hb dX13_tellHyps_188 (by decide) ?_
      obtain ⟨c30, hw⟩ := hw
      exact (hP14 _ _ _ _).mp hw r_u1 r_u2 c30 hN hF H locs ls hP hD hS (lv_sub hl [1, 2, 3, 0] rfl)
    ·
      replace hw := hw.2 c29
      refine lv_aload_n hx hb dX13_tellHyps_98 rfl (lv_at hl 0 rfl) ?_
      refine gfX13_texts hx hb hts hK hP hown (hts _ tw_2028) dX13_tellHyps_99 ?_
      refine lv_iload hx hb dX13_tellHyps_102 (lv_at hl 5 rfl) ?_
      obtain ⟨c31, hw⟩ := hw
      refine ldMX13_texts hx hb hK hP hN c31 dX13_tellHyps_104 (fun x32 r_x32 e_x32 => ?_)
      replace hw := hw x32 r_x32 e_x32
      refine lv_istore (lv' := [(6, .int (I x32)), (0, .ref (q 0)), (1, .int (I u1)), (2, .int (I u2)), (3, .int (I u3)), (4, .int (I u4)), (5, .int (I u5))]) hx hb dX13_tellHyps_105 hl (by decide) rfl (fun ls hl => ?_)
      refine lv_aload_n hx hb dX13_tellHyps_107 rfl (lv_at hl 1 rfl) ?_
      refine gfX13_isVariable hx hb hts hK hP hown (hts _ tw_2018) dX13_tellHyps_108 ?_
      refine lv_iload hx hb dX13_tellHyps_111 (lv_at hl 0 rfl) ?_
      obtain ⟨c33, hw⟩ := hw
      refine ldMX13_isVariable hx hb hK hP hN c33 dX13_tellHyps_113 (fun x34 r_x34 e_x34 => ?_)
      replace hw := hw x34 r_x34 e_x34
      refine bi_if_ne (tgt := 126) hx hb r_x34 dX13_tellHyps_114 (by decide) (fun c35 => ?_) (fun c35 => ?_)
      ·
        replace hw := hw.1 c35
        refine lv_aload_n hx hb dX13_tellHyps_126 rfl (lv_at hl 1 rfl) ?_
        refine gfX13_boundFrom hx hb hts hK hP hown (hts _ tw_2172) dX13_tellHyps_127 ?_
        refine lv_iload hx hb dX13_tellHyps_130 (lv_at hl 0 rfl) ?_
        refine ldMX13_boundFrom hx hb hK hP hN c33 dX13_tellHyps_132 (fun x36 r_x36 e_x36 => ?_)
        replace hw := hw x36 r_x36 e_x36
        refine lv_iconst (v := I (-1)) hx hb dX13_tellHyps_133 rfl ?_
        refine bi_icmp_ne (tgt := 139) hx hb r_x36 (by decide) dX13_tellHyps_134 (by decide) (fun c37 => ?_) (fun c37 => ?_)
        ·
          replace hw := hw.1 c37
          refine lv_aload_n hx hb dX13_tellHyps_139 rfl (lv_at hl 1 rfl) ?_
          refine gfX13_boundFrom hx hb hts hK hP hown (hts _ tw_2172) dX13_tellHyps_140 ?_
          refine lv_iload hx hb dX13_tellHyps_143 (lv_at hl 0 rfl) ?_
          refine ldMX13_boundFrom hx hb hK hP hN c33 dX13_tellHyps_145 (fun x38 r_x38 e_x38 => ?_)
          replace hw := hw x38 r_x38 e_x38
          refine lv_istore (lv' := [(7, .int (I x38)), (6, .int (I x32)), (0, .ref (q 0)), (1, .int (I u1)), (2, .int (I u2)), (3, .int (I u3)), (4, .int (I u4)), (5, .int (I u5))]) hx hb dX13_tellHyps_146 hl (by decide) rfl (fun ls hl => ?_)
          exact (hP148 _ _ _ _ _ _ _ _).mp hw r_u1 r_u2 r_u3 r_u4 r_u5 r_x32 r_x38 hN hF H locs ls hP hD hS (lv_sub hl [2, 3, 4, 5, 6, 7, 1, 0] rfl)
        ·
          replace hw := hw.2 c37
          refine lv_iconst (v := I (-1)) hx hb dX13_tellHyps_137 rfl ?_
          exact xri hx hb hr hlk hP hK hD hS ⟨_, _, (by decide), rfl, hN, hF, rfl, hw⟩ (Nat.le_of_ble_eq_true rfl) (Nat.le_of_ble_eq_true rfl) dX13_tellHyps_138
      ·
        replace hw := hw.2 c35
        refine lv_aload_n hx hb dX13_tellHyps_117 rfl (lv_at hl 1 rfl) ?_
        refine lv_iload hx hb dX13_tellHyps_118 (lv_at hl 0 rfl) ?_
        obtain ⟨Q39, hc, hw⟩ := hw
        refine wc_V (X := MX g q lb) (va_runV (As := [.int (I x32)]) (rest := []) ⟨hx, hb, hml, hown, hts⟩ (L_X13_putSymbol l g q lb hlb r_x32 hN hc H.size) (cwV 1 hts (TB_V tw_3079 tw_3081 ts_211 tw_15 co_X13_putSymbol) rfl rfl rfl (by decide +kernel) ⟨Nat.le_of_ble_eq_true rfl, Nat.le_of_ble_eq_true rfl⟩) (preV (q0 := 0) (ci := 13) rfl xT_bl hP hK hNb hD rfl rfl xT_at) rfl rfl hl.1 rfl (lv_room (Nat.le_of_ble_eq_true rfl)) dX13_tellHyps_120 ⟨Nat.le_of_ble_eq_true rfl, Nat.le_of_ble_eq_true rfl⟩) hP hD hS hA (fun τ41 H locs hN hf hq hP hD hS => ?_)
        replace hw := hw τ41 hN hf hq
        have hF : f_r [39] [59] [] σ τ41 := f_t hF hf (by decide) (by decide) (by decide)
        have hB := hN
        refine lv_goto (tgt := 179) hx hb dX13_tellHyps_123 (by decide) ?_
        refine lv_iinc (v := I (u5 + 1)) (lv' := [(5, .int (I (u5 + 1))), (6, .int (I x32)), (0, .ref (q 0)), (1, .int (I u1)), (2, .int (I u2)), (3, .int (I u3)), (4, .int (I u4))]) hx hb dX13_tellHyps_179 hl (k := 6) rfl (I_add _ _) (by decide) rfl (fun ls hl => ?_)
        refine lv_goto (tgt := 78) hx hb dX13_tellHyps_182 (by decide) ?_
        obtain ⟨c42, hw⟩ := hw
        exact (hP78 _ _ _ _ _ _).mp hw r_u1 r_u2 r_u3 r_u4 c42 hN hF H locs ls hP hD hS (lv_sub hl [2, 3, 4, 5, 6, 0] rfl)
  ·
    intro u1 u2 u3 u4 u5 u6 u7 τ hw
    refine (hP148 _ _ _ _ _ _ _ _).mpr ?_
    intro r_u1 r_u2 r_u3 r_u4 r_u5 r_u6 r_u7 hN hF H locs ls hP hD hS hl
    have hB := hN
    refine lv_iload hx hb dX13_tellHyps_148 (lv_at hl 7 rfl) ?_
    refine lv_aload_n hx hb dX13_tellHyps_150 rfl (lv_at hl 0 rfl) ?_
    refine gfX13_boundTo hx hb hts hK hP hown (hts _ tw_2173) dX13_tellHyps_151 ?_
    refine lv_iload hx hb dX13_tellHyps_154 (lv_at hl 6 rfl) ?_
    obtain ⟨c43, hw⟩ := hw
    refine ldMX13_boundTo hx hb hK hP hN c43 dX13_tellHyps_156 (fun x44 r_x44 e_x44 => ?_)
    replace hw := hw x44 r_x44 e_x44
    refine bi_icmp_ge (tgt := 179) hx hb r_u7 r_x44 dX13_tellHyps_157 (by decide) (fun c45 => ?_) (fun c45 => ?_)
    ·
      replace hw := hw.1 c45
      refine lv_iinc (v := I (u5 + 1)) (lv' := [(5, .int (I (u5 + 1))), (0, .ref (q 0)), (1, .int (I u1)), (2, .int (I u2)), (3, .int (I u3)), (4, .int (I u4)), (6, .int (I u6)), (7, .int (I u7))]) hx hb dX13_tellHyps_179 hl (k := 5) rfl (I_add _ _) (by decide) rfl (fun ls hl => ?_)
      refine lv_goto (tgt := 78) hx hb dX13_tellHyps_182 (by decide) ?_
      obtain ⟨c46, hw⟩ := hw
      exact (hP78 _ _ _ _ _ _).mp hw r_u1 r_u2 r_u3 r_u4 c46 hN hF H locs ls hP hD hS (lv_sub hl [1, 2, 3, 4, 5, 0] rfl)
    ·
      replace hw := hw.2 c45
      refine lv_aload_n hx hb dX13_tellHyps_160 rfl (lv_at hl 0 rfl) ?_
      refine lv_aload_n hx hb dX13_tellHyps_161 rfl (lv_at hl 0 rfl) ?_
      refine gfX13_given hx hb hts hK hP hown (hts _ tw_2171) dX13_tellHyps_162 ?_
      refine lv_iconst (v := I 1) hx hb dX13_tellHyps_165 rfl ?_
      refine lv_iload hx hb dX13_tellHyps_166 (lv_at hl 7 rfl) ?_
      refine bi_iadd hx hb dX13_tellHyps_168 ?_
      obtain ⟨c47, hw⟩ := hw
      refine ldMX13_given hx hb hK hP hN c47 dX13_tellHyps_169 (fun x48 r_x48 e_x48 => ?_)
      replace hw := hw x48 r_x48 e_x48
      obtain ⟨Q49, hc, hw⟩ := hw
      refine wc_V (X := MX g q lb) (va_runV (As := [.int (I x48)]) (rest := []) ⟨hx, hb, hml, hown, hts⟩ (L_X13_putSymbol l g q lb hlb r_x48 hN hc H.size) (cwV 1 hts (TB_V tw_3079 tw_3081 ts_211 tw_15 co_X13_putSymbol) rfl rfl rfl (by decide +kernel) ⟨Nat.le_of_ble_eq_true rfl, Nat.le_of_ble_eq_true rfl⟩) (preV (q0 := 0) (ci := 13) rfl xT_bl hP hK hNb hD rfl rfl xT_at) rfl rfl hl.1 rfl (lv_room (Nat.le_of_ble_eq_true rfl)) dX13_tellHyps_170 ⟨Nat.le_of_ble_eq_true rfl, Nat.le_of_ble_eq_true rfl⟩) hP hD hS hA (fun τ51 H locs hN hf hq hP hD hS => ?_)
      replace hw := hw τ51 hN hf hq
      have hF : f_r [39] [59] [] σ τ51 := f_t hF hf (by decide) (by decide) (by decide)
      have hB := hN
      refine lv_iinc (v := I (u7 + 1)) (lv' := [(7, .int (I (u7 + 1))), (0, .ref (q 0)), (1, .int (I u1)), (2, .int (I u2)), (3, .int (I u3)), (4, .int (I u4)), (5, .int (I u5)), (6, .int (I u6))]) hx hb dX13_tellHyps_173 hl (k := 7) rfl (I_add _ _) (by decide) rfl (fun ls hl => ?_)
      refine lv_goto (tgt := 148) hx hb dX13_tellHyps_176 (by decide) ?_
      obtain ⟨c52, hw⟩ := hw
      exact (hP148 _ _ _ _ _ _ _ _).mp hw r_u1 r_u2 r_u3 r_u4 r_u5 r_u6 c52 hN hF H locs ls hP hD hS (lv_sub hl [1, 2, 3, 4, 5, 6, 7, 0] rfl)
def W_X13_apply (n1 : Int) (σ : S0) (Q : Int → S0 → Prop) : Prop :=
  ∀ (P103 : Int → Int → Int → Int → S0 → Prop),
  (∀ (u1 : Int) (u3 : Int) (u4 : Int) (u5 : Int) (τ : S0), ((τ.1 3 ≤ u5 → ∃ (Q36 : Int → S0 → Prop), W_X13_fits u3 u4 τ Q36 ∧ ∀ (x37 : Int) (τ38 : S0), rg x37 → n_m τ38 → f_r [42] [65, 104, 105, 106] [] τ τ38 → Q36 x37 τ38 → ((¬ x37 = 0 → ∃ (Q40 : Int → S0 → Prop), W_X13_tellHyps u1 τ38 Q40 ∧ ∀ (x41 : Int) (τ42 : S0), rg x41 → n_m τ42 → f_r [39] [59] [] τ38 τ42 → Q40 x41 τ42 → ((¬ x41 = (-1) → ∃ (Q44 : Int → S0 → Prop), W_X13_keepDraft τ42 Q44 ∧ ∀ (x45 : Int) (τ46 : S0), rg x45 → n_m τ46 → f_r [40] [60] [] τ42 τ46 → Q44 x45 τ46 → ((¬ x45 = (-2) → Q x41 τ46) ∧ (x45 = (-2) → Q (-2) τ46))) ∧ (x41 = (-1) → Q (-1) τ42))) ∧ (x37 = 0 → Q (-1) τ38))) ∧ (u5 < τ.1 3 → (0 ≤ u5 ∧ u5 < 1001) ∧ (rg (u5 + 1) ∧ P103 u1 u3 u4 (u5 + 1) (s_a τ 104 u5 (-1))))) → P103 u1 u3 u4 u5 τ) →
  ∃ (Q1 : Int → S0 → Prop), W_X13_takeRow σ Q1 ∧ ∀ (x2 : Int) (τ3 : S0), rg x2 → n_m τ3 → f_r [16, 17, 18] [103] [] σ τ3 → Q1 x2 τ3 → (∃ (Q4 : S0 → Prop), W_X13_useTape τ3 Q4 ∧ ∀ (τ6 : S0), n_m τ6 → f_r [0, 1] [] [] τ3 τ6 → Q4 τ6 → (∃ (Q7 : Int → Prop), W_X13_isAssertion n1 τ6 Q7 ∧ ∀ (x8 : Int), rg x8 → Q7 x8 → ((x8 = 0 → Q (-1) τ6) ∧ (¬ x8 = 0 → (¬ x2 = (-1) → (60 < x2 → Q (-2) τ6) ∧ (x2 ≤ 60 → (0 ≤ n1 ∧ n1 < 1501) ∧ (∀ (x14 : Int), rg x14 → x14 = τ6.2.1 15 n1 → ((x14 ≤ 60 → ∃ (Q16 : S0 → Prop), W_X13_beginTrees τ6 Q16 ∧ ∀ (τ18 : S0), n_m τ18 → f_r [51, 52] [] [] τ6 τ18 → Q16 τ18 → (∀ (x19 : Int), rg x19 → x19 = τ18.2.1 103 0 → (∀ (x20 : Int), rg x20 → x20 = τ18.2.1 14 n1 → ((0 ≤ x20 ∧ x20 < 30400) ∧ (∀ (x22 : Int), rg x22 → x22 = τ18.2.1 16 x20 → ((¬ x19 = x22 → Q (-1) τ18) ∧ (x19 = x22 → ∃ (Q24 : Int → S0 → Prop), W_X13_countTrees n1 τ18 Q24 ∧ ∀ (x25 : Int) (τ26 : S0), rg x25 → n_m τ26 → f_r [45, 46, 47, 48, 49, 50, 51, 52] [71, 72, 73, 74, 75, 76, 77, 78, 79, 80, 81, 82, 83, 84, 85, 86, 87, 88, 89, 90, 91, 92, 93, 94] [3, 4, 5, 6, 7] τ18 τ26 → Q24 x25 τ26 → ((x25 = 1 → ∃ (Q28 : Int → S0 → Prop), W_X13_treeOf n1 τ26 Q28 ∧ ∀ (x29 : Int) (τ30 : S0), rg x29 → n_m τ30 → f_r [45, 46, 47, 48, 49, 50, 51, 52] [71, 72, 73, 74, 75, 76, 77, 78, 79, 80, 81, 82, 83, 84, 85, 86, 87, 88, 89, 90, 91, 92, 93, 94] [3, 4, 5, 6] τ26 τ30 → Q28 x29 τ30 → (∃ (Q31 : Int → S0 → Prop), W_X13_rowTree x2 τ30 Q31 ∧ ∀ (x32 : Int) (τ33 : S0), rg x32 → n_m τ33 → f_r [45, 46, 47, 48, 49, 50, 51, 52] [71, 72, 73, 74, 75, 76, 77, 78, 79, 80, 81, 82, 83, 84, 85, 86, 87, 88, 89, 90, 91, 92, 93] [3, 4, 5, 6] τ30 τ33 → Q31 x32 τ33 → ((¬ x32 = (-1) → P103 n1 x29 x32 0 τ33) ∧ (x32 = (-1) → Q (-1) τ33)))) ∧ (¬ x25 = 1 → Q (-1) τ26))))))))) ∧ (60 < x14 → Q (-2) τ6))))) ∧ (x2 = (-1) → Q (-1) τ6)))))
set_option maxRecDepth 100000 in
set_option maxHeartbeats 4000000 in
theorem L_X13_apply (l : Launch) (g : gG) (q : Nat → Nat) (lb : Nat) (hlb : lb < 2 ^ 31) {n1 : Int} {σ : S0} {Q : Int → S0 → Prop} (r_n1 : rg n1) (hN : n_m σ) (hw : W_X13_apply n1 σ Q) (sz : Nat) : MetI l yX13_apply cX13_apply 6 (some .int) { frames := 7, cells := 0, slots := 0, locals := 184 } g [.ref (q 0), .int (I n1)] (MX g q lb σ) sz xT (p_I (MX g q lb) [0, 1, 16, 17, 18, 39, 40, 42, 45, 46, 47, 48, 49, 50, 51, 52] [59, 60, 65, 71, 72, 73, 74, 75, 76, 77, 78, 79, 80, 81, 82, 83, 84, 85, 86, 87, 88, 89, 90, 91, 92, 93, 94, 103, 104, 105, 106] [3, 4, 5, 6, 7] σ Q) 0 0 := by
  refine mkMet (Qc := fun A => QI g A (p_I (MX g q lb) [0, 1, 16, 17, 18, 39, 40, 42, 45, 46, 47, 48, 49, 50, 51, 52] [59, 60, 65, 71, 72, 73, 74, 75, 76, 77, 78, 79, 80, 81, 82, 83, 84, 85, 86, 87, 88, 89, 90, 91, 92, 93, 94, 103, 104, 105, 106] [3, 4, 5, 6, 7] σ Q)) (by decide) (Nat.le_of_ble_eq_true rfl) ?_
  intro p e s m below meth c A H ls hx hb hr hml hown hts hlk hnm hsz hP hK hNb hD hA hAe hS hX hl
  have hl : lv_has ls 6 [(0, .ref (q 0)), (1, .int (I n1))] := hl
  have hB := hN
  have hF : f_r [0, 1, 16, 17, 18, 39, 40, 42, 45, 46, 47, 48, 49, 50, 51, 52] [59, 60, 65, 71, 72, 73, 74, 75, 76, 77, 78, 79, 80, 81, 82, 83, 84, 85, 86, 87, 88, 89, 90, 91, 92, 93, 94, 103, 104, 105, 106] [3, 4, 5, 6, 7] σ σ := f_0
  obtain ⟨locs, hlocs⟩ : ∃ z : List Loc, z = [] := ⟨_, rfl⟩
  rw [← hlocs] at hS ⊢
  obtain ⟨P103, hP103⟩ : ∃ P : Int → Int → Int → Int → S0 → Prop, ∀ (u1 : Int) (u3 : Int) (u4 : Int) (u5 : Int) (τ : S0), (P u1 u3 u4 u5 τ ↔ (rg u1 → rg u3 → rg u4 → rg u5 → n_m τ → f_r [0, 1, 16, 17, 18, 39, 40, 42, 45, 46, 47, 48, 49, 50, 51, 52] [59, 60, 65, 71, 72, 73, 74, 75, 76, 77, 78, 79, 80, 81, 82, 83, 84, 85, 86, 87, 88, 89, 90, 91, 92, 93, 94, 103, 104, 105, 106] [3, 4, 5, 6, 7] σ τ → ∀ (H : Heap) (locs : List Loc) (ls : Array Slot), KP g (MX g q lb τ) H → va_D A (MX g q lb τ) → va_S A s.heap H locs → lv_has ls 6 [(0, .ref (q 0)), (1, .int (I u1)), (3, .int (I u3)), (4, .int (I u4)), (5, .int (I u5))] → W p l e ({ frames := 7, cells := 0, slots := 0, locals := 184 }) s m [.ref (q 0), .int (I n1)].toArray below meth c H locs 0 0 (MQ below (QI g A (p_I (MX g q lb) [0, 1, 16, 17, 18, 39, 40, 42, 45, 46, 47, 48, 49, 50, 51, 52] [59, 60, 65, 71, 72, 73, 74, 75, 76, 77, 78, 79, 80, 81, 82, 83, 84, 85, 86, 87, 88, 89, 90, 91, 92, 93, 94, 103, 104, 105, 106] [3, 4, 5, 6, 7] σ Q)) [.ref (q 0), .int (I n1)].toArray s 0 0 A) (F0 m 103 ls []))) := ⟨_, fun _ _ _ _ _ => Iff.rfl⟩
  refine (fun hw => ?_) (hw P103 ?_)
  ·
    refine lv_aload_n hx hb dX13_apply_0 rfl (lv_at hl 0 rfl) ?_
    obtain ⟨Q1, hc, hw⟩ := hw
    refine wc_I (X := MX g q lb) (va_runV (As := []) (rest := []) ⟨hx, hb, hml, hown, hts⟩ (L_X13_takeRow l g q lb hlb  hN hc H.size) (cwV 0 hts (TB_V tw_3161 tw_3163 ts_230 tw_15 co_X13_takeRow) rfl rfl rfl (by decide +kernel) ⟨Nat.le_of_ble_eq_true rfl, Nat.le_of_ble_eq_true rfl⟩) (preV (q0 := 0) (ci := 13) rfl xT_bl hP hK hNb hD rfl rfl xT_at) rfl rfl hl.1 rfl (lv_room (Nat.le_of_ble_eq_true rfl)) dX13_apply_1 ⟨Nat.le_of_ble_eq_true rfl, Nat.le_of_ble_eq_true rfl⟩) hP hD hS hA (fun x2 τ3 H locs r_x2 hN hf hq hP hD hS => ?_)
    replace hw := hw x2 τ3 r_x2 hN hf hq
    have hF : f_r [0, 1, 16, 17, 18, 39, 40, 42, 45, 46, 47, 48, 49, 50, 51, 52] [59, 60, 65, 71, 72, 73, 74, 75, 76, 77, 78, 79, 80, 81, 82, 83, 84, 85, 86, 87, 88, 89, 90, 91, 92, 93, 94, 103, 104, 105, 106] [3, 4, 5, 6, 7] σ τ3 := f_t hF hf (by decide) (by decide) (by decide)
    have hB := hN
    refine lv_istore_n (lv' := [(2, .int (I x2)), (0, .ref (q 0)), (1, .int (I n1))]) hx hb dX13_apply_4 rfl hl (by decide) rfl (fun ls hl => ?_)
    refine lv_aload_n hx hb dX13_apply_5 rfl (lv_at hl 1 rfl) ?_
    obtain ⟨Q4, hc, hw⟩ := hw
    refine wc_V (X := MX g q lb) (va_runV (As := []) (rest := []) ⟨hx, hb, hml, hown, hts⟩ (L_X13_useTape l g q lb hlb  hN hc H.size) (cwV 0 hts (TB_V tw_2827 tw_2829 ts_163 tw_15 co_X13_useTape) rfl rfl rfl (by decide +kernel) ⟨Nat.le_of_ble_eq_true rfl, Nat.le_of_ble_eq_true rfl⟩) (preV (q0 := 0) (ci := 13) rfl xT_bl hP hK hNb hD rfl rfl xT_at) rfl rfl hl.1 rfl (lv_room (Nat.le_of_ble_eq_true rfl)) dX13_apply_6 ⟨Nat.le_of_ble_eq_true rfl, Nat.le_of_ble_eq_true rfl⟩) hP hD hS hA (fun τ6 H locs hN hf hq hP hD hS => ?_)
    replace hw := hw τ6 hN hf hq
    have hF : f_r [0, 1, 16, 17, 18, 39, 40, 42, 45, 46, 47, 48, 49, 50, 51, 52] [59, 60, 65, 71, 72, 73, 74, 75, 76, 77, 78, 79, 80, 81, 82, 83, 84, 85, 86, 87, 88, 89, 90, 91, 92, 93, 94, 103, 104, 105, 106] [3, 4, 5, 6, 7] σ τ6 := f_t hF hf (by decide) (by decide) (by decide)
    have hB := hN
    refine lv_aload_n hx hb dX13_apply_9 rfl (lv_at hl 1 rfl) ?_
    refine lv_iload_n hx hb dX13_apply_10 rfl (lv_at hl 2 rfl) ?_
    obtain ⟨Q7, hc, hw⟩ := hw
    refine wc_i (X := MX g q lb) (va_runV (As := [.int (I n1)]) (rest := []) ⟨hx, hb, hml, hown, hts⟩ (L_X13_isAssertion l g q lb hlb r_n1 hN hc H.size) (cwV 1 hts (TB_V tw_2835 tw_2837 ts_164 tw_15 co_X13_isAssertion) rfl rfl rfl (by decide +kernel) ⟨Nat.le_of_ble_eq_true rfl, Nat.le_of_ble_eq_true rfl⟩) (preV (q0 := 0) (ci := 13) rfl xT_bl hP hK hNb hD rfl rfl xT_at) rfl rfl hl.1 rfl (lv_room (Nat.le_of_ble_eq_true rfl)) dX13_apply_11 ⟨Nat.le_of_ble_eq_true rfl, Nat.le_of_ble_eq_true rfl⟩) hP hD hS hA (fun x8 H locs r_x8 hq hP hD hS => ?_)
    replace hw := hw x8 r_x8 hq
    refine bi_if_eq (tgt := 22) hx hb r_x8 dX13_apply_14 (by decide) (fun c10 => ?_) (fun c10 => ?_)
    ·
      replace hw := hw.1 c10
      refine lv_iconst (v := I (-1)) hx hb dX13_apply_22 rfl ?_
      exact xri hx hb hr hlk hP hK hD hS ⟨_, _, (by decide), rfl, hN, hF, rfl, hw⟩ (Nat.le_of_ble_eq_true rfl) (Nat.le_of_ble_eq_true rfl) dX13_apply_23
    ·
      replace hw := hw.2 c10
      refine lv_iload_n hx hb dX13_apply_17 rfl (lv_at hl 0 rfl) ?_
      refine lv_iconst (v := I (-1)) hx hb dX13_apply_18 rfl ?_
      refine bi_icmp_ne (tgt := 24) hx hb r_x2 (by decide) dX13_apply_19 (by decide) (fun c11 => ?_) (fun c11 => ?_)
      ·
        replace hw := hw.1 c11
        refine lv_iload_n hx hb dX13_apply_24 rfl (lv_at hl 0 rfl) ?_
        refine lv_bipush (v := I 60) hx hb dX13_apply_25 (by decide) ?_
        refine bi_icmp_gt (tgt := 41) hx hb r_x2 (by decide) dX13_apply_27 (by decide) (fun c12 => ?_) (fun c12 => ?_)
        ·
          replace hw := hw.1 c12
          refine lv_bipush (v := I (-2)) hx hb dX13_apply_41 (by decide) ?_
          exact xri hx hb hr hlk hP hK hD hS ⟨_, _, (by decide), rfl, hN, hF, rfl, hw⟩ (Nat.le_of_ble_eq_true rfl) (Nat.le_of_ble_eq_true rfl) dX13_apply_43
        ·
          replace hw := hw.2 c12
          refine lv_aload_n hx hb dX13_apply_30 rfl (lv_at hl 1 rfl) ?_
          refine gfX13_textSize hx hb hts hK hP hown (hts _ tw_2027) dX13_apply_31 ?_
          refine lv_iload_n hx hb dX13_apply_34 rfl (lv_at hl 2 rfl) ?_
          obtain ⟨c13, hw⟩ := hw
          refine ldMX13_textSize hx hb hK hP hN c13 dX13_apply_35 (fun x14 r_x14 e_x14 => ?_)
          replace hw := hw x14 r_x14 e_x14
          refine lv_bipush (v := I 60) hx hb dX13_apply_36 (by decide) ?_
          refine bi_icmp_le (tgt := 44) hx hb r_x14 (by decide) dX13_apply_38 (by decide) (fun c15 => ?_) (fun c15 => ?_)
          ·
            replace hw := hw.1 c15
            refine lv_aload_n hx hb dX13_apply_44 rfl (lv_at hl 1 rfl) ?_
            obtain ⟨Q16, hc, hw⟩ := hw
            refine wc_V (X := MX g q lb) (va_runV (As := []) (rest := []) ⟨hx, hb, hml, hown, hts⟩ (L_X13_beginTrees l g q lb hlb  hN hc H.size) (cwV 0 hts (TB_V tw_3055 tw_3057 ts_205 tw_15 co_X13_beginTrees) rfl rfl rfl (by decide +kernel) ⟨Nat.le_of_ble_eq_true rfl, Nat.le_of_ble_eq_true rfl⟩) (preV (q0 := 0) (ci := 13) rfl xT_bl hP hK hNb hD rfl rfl xT_at) rfl rfl hl.1 rfl (lv_room (Nat.le_of_ble_eq_true rfl)) dX13_apply_45 ⟨Nat.le_of_ble_eq_true rfl, Nat.le_of_ble_eq_true rfl⟩) hP hD hS hA (fun τ18 H locs hN hf hq hP hD hS => ?_)
            replace hw := hw τ18 hN hf hq
            have hF : f_r [0, 1, 16, 17, 18, 39, 40, 42, 45, 46, 47, 48, 49, 50, 51, 52] [59, 60, 65, 71, 72, 73, 74, 75, 76, 77, 78, 79, 80, 81, 82, 83, 84, 85, 86, 87, 88, 89, 90, 91, 92, 93, 94, 103, 104, 105, 106] [3, 4, 5, 6, 7] σ τ18 := f_t hF hf (by decide) (by decide) (by decide)
            have hB := hN
            refine lv_aload_n hx hb dX13_apply_48 rfl (lv_at hl 1 rfl) ?_
            refine gfX13_given hx hb hts hK hP hown (hts _ tw_2171) dX13_apply_49 ?_
            refine lv_iconst (v := I 0) hx hb dX13_apply_52 rfl ?_
            refine ldMX13_given hx hb hK hP hN (by decide) dX13_apply_53 (fun x19 r_x19 e_x19 => ?_)
            replace hw := hw x19 r_x19 e_x19
            refine lv_aload_n hx hb dX13_apply_54 rfl (lv_at hl 1 rfl) ?_
            refine gfX13_texts hx hb hts hK hP hown (hts _ tw_2028) dX13_apply_55 ?_
            refine lv_aload_n hx hb dX13_apply_58 rfl (lv_at hl 1 rfl) ?_
            refine gfX13_textAt hx hb hts hK hP hown (hts _ tw_2026) dX13_apply_59 ?_
            refine lv_iload_n hx hb dX13_apply_62 rfl (lv_at hl 2 rfl) ?_
            refine ldMX13_textAt hx hb hK hP hN c13 dX13_apply_63 (fun x20 r_x20 e_x20 => ?_)
            replace hw := hw x20 r_x20 e_x20
            obtain ⟨c21, hw⟩ := hw
            refine ldMX13_texts hx hb hK hP hN c21 dX13_apply_64 (fun x22 r_x22 e_x22 => ?_)
            replace hw := hw x22 r_x22 e_x22
            refine bi_icmp_ne (tgt := 77) hx hb r_x19 r_x22 dX13_apply_65 (by decide) (fun c23 => ?_) (fun c23 => ?_)
            ·
              replace hw := hw.1 c23
              refine lv_iconst (v := I (-1)) hx hb dX13_apply_77 rfl ?_
              exact xri hx hb hr hlk hP hK hD hS ⟨_, _, (by decide), rfl, hN, hF, rfl, hw⟩ (Nat.le_of_ble_eq_true rfl) (Nat.le_of_ble_eq_true rfl) dX13_apply_78
            ·
              replace hw := hw.2 c23
              refine lv_aload_n hx hb dX13_apply_68 rfl (lv_at hl 1 rfl) ?_
              refine lv_iload_n hx hb dX13_apply_69 rfl (lv_at hl 2 rfl) ?_
              obtain ⟨Q24, hc, hw⟩ := hw
              refine wc_I (X := MX g q lb) (va_runV (As := [.int (I n1)]) (rest := []) ⟨hx, hb, hml, hown, hts⟩ (L_X13_countTrees l g q lb hlb r_n1 hN hc H.size) (cwV 1 hts (TB_V tw_2904 tw_2906 ts_171 tw_15 co_X13_countTrees) rfl rfl rfl (by decide +kernel) ⟨Nat.le_of_ble_eq_true rfl, Nat.le_of_ble_eq_true rfl⟩) (preV (q0 := 0) (ci := 13) rfl xT_bl hP hK hNb hD rfl rfl xT_at) rfl rfl hl.1 rfl (lv_room (Nat.le_of_ble_eq_true rfl)) dX13_apply_70 ⟨Nat.le_of_ble_eq_true rfl, Nat.le_of_ble_eq_true rfl⟩) hP hD hS hA (fun x25 τ26 H locs r_x25 hN hf hq hP hD hS => ?_)
              replace hw := hw x25 τ26 r_x25 hN hf hq
              have hF : f_r [0, 1, 16, 17, 18, 39, 40, 42, 45, 46, 47, 48, 49, 50, 51, 52] [59, 60, 65, 71, 72, 73, 74, 75, 76, 77, 78, 79, 80, 81, 82, 83, 84, 85, 86, 87, 88, 89, 90, 91, 92, 93, 94, 103, 104, 105, 106] [3, 4, 5, 6, 7] σ τ26 := f_t hF hf (by decide) (by decide) (by decide)
              have hB := hN
              refine lv_iconst (v := I 1) hx hb dX13_apply_73 rfl ?_
              refine bi_icmp_eq (tgt := 79) hx hb r_x25 (by decide) dX13_apply_74 (by decide) (fun c27 => ?_) (fun c27 => ?_)
              ·
                replace hw := hw.1 c27
                refine lv_aload_n hx hb dX13_apply_79 rfl (lv_at hl 1 rfl) ?_
                refine lv_iload_n hx hb dX13_apply_80 rfl (lv_at hl 2 rfl) ?_
                obtain ⟨Q28, hc, hw⟩ := hw
                refine wc_I (X := MX g q lb) (va_runV (As := [.int (I n1)]) (rest := []) ⟨hx, hb, hml, hown, hts⟩ (L_X13_treeOf l g q lb hlb r_n1 hN hc H.size) (cwV 1 hts (TB_V tw_2908 tw_2910 ts_172 tw_15 co_X13_treeOf) rfl rfl rfl (by decide +kernel) ⟨Nat.le_of_ble_eq_true rfl, Nat.le_of_ble_eq_true rfl⟩) (preV (q0 := 0) (ci := 13) rfl xT_bl hP hK hNb hD rfl rfl xT_at) rfl rfl hl.1 rfl (lv_room (Nat.le_of_ble_eq_true rfl)) dX13_apply_81 ⟨Nat.le_of_ble_eq_true rfl, Nat.le_of_ble_eq_true rfl⟩) hP hD hS hA (fun x29 τ30 H locs r_x29 hN hf hq hP hD hS => ?_)
                replace hw := hw x29 τ30 r_x29 hN hf hq
                have hF : f_r [0, 1, 16, 17, 18, 39, 40, 42, 45, 46, 47, 48, 49, 50, 51, 52] [59, 60, 65, 71, 72, 73, 74, 75, 76, 77, 78, 79, 80, 81, 82, 83, 84, 85, 86, 87, 88, 89, 90, 91, 92, 93, 94, 103, 104, 105, 106] [3, 4, 5, 6, 7] σ τ30 := f_t hF hf (by decide) (by decide) (by decide)
                have hB := hN
                refine lv_istore_n (lv' := [(3, .int (I x29)), (2, .int (I x2)), (0, .ref (q 0)), (1, .int (I n1))]) hx hb dX13_apply_84 rfl hl (by decide) rfl (fun ls hl => ?_)
                refine lv_aload_n hx hb dX13_apply_85 rfl (lv_at hl 2 rfl) ?_
                refine lv_iload_n hx hb dX13_apply_86 rfl (lv_at hl 1 rfl) ?_
                obtain ⟨Q31, hc, hw⟩ := hw
                refine wc_I (X := MX g q lb) (va_runV (As := [.int (I x2)]) (rest := []) ⟨hx, hb, hml, hown, hts⟩ (L_X13_rowTree l g q lb hlb r_x2 hN hc H.size) (cwV 1 hts (TB_V tw_3165 tw_3167 ts_231 tw_15 co_X13_rowTree) rfl rfl rfl (by decide +kernel) ⟨Nat.le_of_ble_eq_true rfl, Nat.le_of_ble_eq_true rfl⟩) (preV (q0 := 0) (ci := 13) rfl xT_bl hP hK hNb hD rfl rfl xT_at) rfl rfl hl.1 rfl (lv_room (Nat.le_of_ble_eq_true rfl)) dX13_apply_87 ⟨Nat.le_of_ble_eq_true rfl, Nat.le_of_ble_eq_true rfl⟩) hP hD hS hA (fun x32 τ33 H locs r_x32 hN hf hq hP hD hS => ?_)
                replace hw := hw x32 τ33 r_x32 hN hf hq
                have hF : f_r [0, 1, 16, 17, 18, 39, 40, 42, 45, 46, 47, 48, 49, 50, 51, 52] [59, 60, 65, 71, 72, 73, 74, 75, 76, 77, 78, 79, 80, 81, 82, 83, 84, 85, 86, 87, 88, 89, 90, 91, 92, 93, 94, 103, 104, 105, 106] [3, 4, 5, 6, 7] σ τ33 := f_t hF hf (by decide) (by decide) (by decide)
                have hB := hN
                refine lv_istore (lv' := [(4, .int (I x32)), (3, .int (I x29)), (2, .int (I x2)), (0, .ref (q 0)), (1, .int (I n1))]) hx hb dX13_apply_90 hl (by decide) rfl (fun ls hl => ?_)
                refine lv_iload hx hb dX13_apply_92 (lv_at hl 0 rfl) ?_
                refine lv_iconst (v := I (-1)) hx hb dX13_apply_94 rfl ?_
                refine bi_icmp_ne (tgt := 100) hx hb r_x32 (by decide) dX13_apply_95 (by decide) (fun c34 => ?_) (fun c34 => ?_)
                ·
                  replace hw := hw.1 c34
                  refine lv_iconst (v := I 0) hx hb dX13_apply_100 rfl ?_
                  refine lv_istore (lv' := [(5, .int (I 0)), (4, .int (I x32)), (3, .int (I x29)), (2, .int (I x2)), (0, .ref (q 0)), (1, .int (I n1))]) hx hb dX13_apply_101 hl (by decide) rfl (fun ls hl => ?_)
                  exact (hP103 _ _ _ _ _).mp hw r_n1 r_x29 r_x32 (by decide) hN hF H locs ls hP hD hS (lv_sub hl [4, 5, 2, 1, 0] rfl)
                ·
                  replace hw := hw.2 c34
                  refine lv_iconst (v := I (-1)) hx hb dX13_apply_98 rfl ?_
                  exact xri hx hb hr hlk hP hK hD hS ⟨_, _, (by decide), rfl, hN, hF, rfl, hw⟩ (Nat.le_of_ble_eq_true rfl) (Nat.le_of_ble_eq_true rfl) dX13_apply_99
              ·
                replace hw := hw.2 c27
                refine lv_iconst (v := I (-1)) hx hb dX13_apply_77 rfl ?_
                exact xri hx hb hr hlk hP hK hD hS ⟨_, _, (by decide), rfl, hN, hF, rfl, hw⟩ (Nat.le_of_ble_eq_true rfl) (Nat.le_of_ble_eq_true rfl) dX13_apply_78
          ·
            replace hw := hw.2 c15
            refine lv_bipush (v := I (-2)) hx hb dX13_apply_41 (by decide) ?_
            exact xri hx hb hr hlk hP hK hD hS ⟨_, _, (by decide), rfl, hN, hF, rfl, hw⟩ (Nat.le_of_ble_eq_true rfl) (Nat.le_of_ble_eq_true rfl) dX13_apply_43
      ·
        replace hw := hw.2 c11
        refine lv_iconst (v := I (-1)) hx hb dX13_apply_22 rfl ?_
        exact xri hx hb hr hlk hP hK hD hS ⟨_, _, (by decide), rfl, hN, hF, rfl, hw⟩ (Nat.le_of_ble_eq_true rfl) (Nat.le_of_ble_eq_true rfl) dX13_apply_23
  ·
    intro u1 u3 u4 u5 τ hw
    refine (hP103 _ _ _ _ _).mpr ?_
    intro r_u1 r_u3 r_u4 r_u5 hN hF H locs ls hP hD hS hl
    have hB := hN
    refine lv_iload hx hb dX13_apply_103 (lv_at hl 4 rfl) ?_
    refine lv_aload_n hx hb dX13_apply_105 rfl (lv_at hl 0 rfl) ?_
    refine gfX13_symbols hx hb hts hK hP hown (hts _ tw_2013) (x := τ.1 3) rfl dX13_apply_106 ?_
    refine bi_icmp_ge (tgt := 126) hx hb r_u5 (hB.1 3) dX13_apply_109 (by decide) (fun c35 => ?_) (fun c35 => ?_)
    ·
      replace hw := hw.1 c35
      refine lv_aload_n hx hb dX13_apply_126 rfl (lv_at hl 0 rfl) ?_
      refine lv_iload_n hx hb dX13_apply_127 rfl (lv_at hl 2 rfl) ?_
      refine lv_iload hx hb dX13_apply_128 (lv_at hl 3 rfl) ?_
      obtain ⟨Q36, hc, hw⟩ := hw
      refine wc_I (X := MX g q lb) (va_runV (As := [.int (I u3), .int (I u4)]) (rest := []) ⟨hx, hb, hml, hown, hts⟩ (L_X13_fits l g q lb hlb r_u3 r_u4 hN hc H.size) (cwV 2 hts (TB_V tw_3169 tw_3171 ts_232 tw_15 co_X13_fits) rfl rfl rfl (by decide +kernel) ⟨Nat.le_of_ble_eq_true rfl, Nat.le_of_ble_eq_true rfl⟩) (preV (q0 := 0) (ci := 13) rfl xT_bl hP hK hNb hD rfl rfl xT_at) rfl rfl hl.1 rfl (lv_room (Nat.le_of_ble_eq_true rfl)) dX13_apply_130 ⟨Nat.le_of_ble_eq_true rfl, Nat.le_of_ble_eq_true rfl⟩) hP hD hS hA (fun x37 τ38 H locs r_x37 hN hf hq hP hD hS => ?_)
      replace hw := hw x37 τ38 r_x37 hN hf hq
      have hF : f_r [0, 1, 16, 17, 18, 39, 40, 42, 45, 46, 47, 48, 49, 50, 51, 52] [59, 60, 65, 71, 72, 73, 74, 75, 76, 77, 78, 79, 80, 81, 82, 83, 84, 85, 86, 87, 88, 89, 90, 91, 92, 93, 94, 103, 104, 105, 106] [3, 4, 5, 6, 7] σ τ38 := f_t hF hf (by decide) (by decide) (by decide)
      have hB := hN
      refine bi_if_ne (tgt := 138) hx hb r_x37 dX13_apply_133 (by decide) (fun c39 => ?_) (fun c39 => ?_)
      ·
        replace hw := hw.1 c39
        refine lv_aload_n hx hb dX13_apply_138 rfl (lv_at hl 0 rfl) ?_
        refine lv_iload_n hx hb dX13_apply_139 rfl (lv_at hl 1 rfl) ?_
        obtain ⟨Q40, hc, hw⟩ := hw
        refine wc_I (X := MX g q lb) (va_runV (As := [.int (I u1)]) (rest := []) ⟨hx, hb, hml, hown, hts⟩ (L_X13_tellHyps l g q lb hlb r_u1 hN hc H.size) (cwV 1 hts (TB_V tw_3177 tw_3179 ts_234 tw_15 co_X13_tellHyps) rfl rfl rfl (by decide +kernel) ⟨Nat.le_of_ble_eq_true rfl, Nat.le_of_ble_eq_true rfl⟩) (preV (q0 := 0) (ci := 13) rfl xT_bl hP hK hNb hD rfl rfl xT_at) rfl rfl hl.1 rfl (lv_room (Nat.le_of_ble_eq_true rfl)) dX13_apply_140 ⟨Nat.le_of_ble_eq_true rfl, Nat.le_of_ble_eq_true rfl⟩) hP hD hS hA (fun x41 τ42 H locs r_x41 hN hf hq hP hD hS => ?_)
        replace hw := hw x41 τ42 r_x41 hN hf hq
        have hF : f_r [0, 1, 16, 17, 18, 39, 40, 42, 45, 46, 47, 48, 49, 50, 51, 52] [59, 60, 65, 71, 72, 73, 74, 75, 76, 77, 78, 79, 80, 81, 82, 83, 84, 85, 86, 87, 88, 89, 90, 91, 92, 93, 94, 103, 104, 105, 106] [3, 4, 5, 6, 7] σ τ42 := f_t hF hf (by decide) (by decide) (by decide)
        have hB := hN
        refine lv_istore (lv' := [(5, .int (I x41)), (0, .ref (q 0)), (1, .int (I u1)), (3, .int (I u3)), (4, .int (I u4))]) hx hb dX13_apply_143 hl (by decide) rfl (fun ls hl => ?_)
        refine lv_iload hx hb dX13_apply_145 (lv_at hl 0 rfl) ?_
        refine lv_iconst (v := I (-1)) hx hb dX13_apply_147 rfl ?_
        refine bi_icmp_ne (tgt := 153) hx hb r_x41 (by decide) dX13_apply_148 (by decide) (fun c43 => ?_) (fun c43 => ?_)
        ·
          replace hw := hw.1 c43
          refine lv_aload_n hx hb dX13_apply_153 rfl (lv_at hl 1 rfl) ?_
          obtain ⟨Q44, hc, hw⟩ := hw
          refine wc_I (X := MX g q lb) (va_runV (As := []) (rest := []) ⟨hx, hb, hml, hown, hts⟩ (L_X13_keepDraft l g q lb hlb  hN hc H.size) (cwV 0 hts (TB_V tw_3075 tw_3077 ts_210 tw_15 co_X13_keepDraft) rfl rfl rfl (by decide +kernel) ⟨Nat.le_of_ble_eq_true rfl, Nat.le_of_ble_eq_true rfl⟩) (preV (q0 := 0) (ci := 13) rfl xT_bl hP hK hNb hD rfl rfl xT_at) rfl rfl hl.1 rfl (lv_room (Nat.le_of_ble_eq_true rfl)) dX13_apply_154 ⟨Nat.le_of_ble_eq_true rfl, Nat.le_of_ble_eq_true rfl⟩) hP hD hS hA (fun x45 τ46 H locs r_x45 hN hf hq hP hD hS => ?_)
          replace hw := hw x45 τ46 r_x45 hN hf hq
          have hF : f_r [0, 1, 16, 17, 18, 39, 40, 42, 45, 46, 47, 48, 49, 50, 51, 52] [59, 60, 65, 71, 72, 73, 74, 75, 76, 77, 78, 79, 80, 81, 82, 83, 84, 85, 86, 87, 88, 89, 90, 91, 92, 93, 94, 103, 104, 105, 106] [3, 4, 5, 6, 7] σ τ46 := f_t hF hf (by decide) (by decide) (by decide)
          have hB := hN
          refine lv_bipush (v := I (-2)) hx hb dX13_apply_157 (by decide) ?_
          refine bi_icmp_ne (tgt := 167) hx hb r_x45 (by decide) dX13_apply_159 (by decide) (fun c47 => ?_) (fun c47 => ?_)
          ·
            replace hw := hw.1 c47
            refine lv_iload hx hb dX13_apply_167 (lv_at hl 0 rfl) ?_
            exact xri hx hb hr hlk hP hK hD hS ⟨_, _, r_x41, rfl, hN, hF, rfl, hw⟩ (Nat.le_of_ble_eq_true rfl) (Nat.le_of_ble_eq_true rfl) dX13_apply_169
          ·
            replace hw := hw.2 c47
            refine lv_bipush (v := I (-2)) hx hb dX13_apply_162 (by decide) ?_
            refine lv_goto (tgt := 169) hx hb dX13_apply_164 (by decide) ?_
            exact xri hx hb hr hlk hP hK hD hS ⟨_, _, (by decide), rfl, hN, hF, rfl, hw⟩ (Nat.le_of_ble_eq_true rfl) (Nat.le_of_ble_eq_true rfl) dX13_apply_169
        ·
          replace hw := hw.2 c43
          refine lv_iconst (v := I (-1)) hx hb dX13_apply_151 rfl ?_
          exact xri hx hb hr hlk hP hK hD hS ⟨_, _, (by decide), rfl, hN, hF, rfl, hw⟩ (Nat.le_of_ble_eq_true rfl) (Nat.le_of_ble_eq_true rfl) dX13_apply_152
      ·
        replace hw := hw.2 c39
        refine lv_iconst (v := I (-1)) hx hb dX13_apply_136 rfl ?_
        exact xri hx hb hr hlk hP hK hD hS ⟨_, _, (by decide), rfl, hN, hF, rfl, hw⟩ (Nat.le_of_ble_eq_true rfl) (Nat.le_of_ble_eq_true rfl) dX13_apply_137
    ·
      replace hw := hw.2 c35
      refine lv_aload_n hx hb dX13_apply_112 rfl (lv_at hl 0 rfl) ?_
      refine gfX13_boundFrom hx hb hts hK hP hown (hts _ tw_2172) dX13_apply_113 ?_
      refine lv_iload hx hb dX13_apply_116 (lv_at hl 4 rfl) ?_
      refine lv_iconst (v := I (-1)) hx hb dX13_apply_118 rfl ?_
      obtain ⟨c48, hw⟩ := hw
      refine sdMX13_boundFrom hx hb hK hP hD hS c48 dX13_apply_119 (fun H locs hP hD hS => ?_)
      have hN : n_m (s_a τ 104 u5 (-1)) := n_a (k := 104) (j := u5) hN ((by decide) : rg (-1))
      have hF : f_r [0, 1, 16, 17, 18, 39, 40, 42, 45, 46, 47, 48, 49, 50, 51, 52] [59, 60, 65, 71, 72, 73, 74, 75, 76, 77, 78, 79, 80, 81, 82, 83, 84, 85, 86, 87, 88, 89, 90, 91, 92, 93, 94, 103, 104, 105, 106] [3, 4, 5, 6, 7] σ (s_a τ 104 u5 (-1)) := f_a hF (by decide)
      refine lv_iinc (v := I (u5 + 1)) (lv' := [(5, .int (I (u5 + 1))), (0, .ref (q 0)), (1, .int (I u1)), (3, .int (I u3)), (4, .int (I u4))]) hx hb dX13_apply_120 hl (k := 4) rfl (I_add _ _) (by decide) rfl (fun ls hl => ?_)
      refine lv_goto (tgt := 103) hx hb dX13_apply_123 (by decide) ?_
      obtain ⟨c49, hw⟩ := hw
      exact (hP103 _ _ _ _ _).mp hw r_u1 r_u3 r_u4 c49 hN hF H locs ls hP hD hS (lv_sub hl [1, 2, 3, 4, 0] rfl)
def W_X13_check (σ : S0) (Q : Int → Prop) : Prop :=
  Q 1
set_option maxRecDepth 100000 in
set_option maxHeartbeats 4000000 in
theorem L_X13_check (l : Launch) (g : gG) (q : Nat → Nat) (lb : Nat) (hlb : lb < 2 ^ 31) {σ : S0} {Q : Int → Prop} (hN : n_m σ) (hw : W_X13_check σ Q) (sz : Nat) : MetI l yX13_check cX13_check 1 (some .int) { frames := 0, cells := 0, slots := 0, locals := 0 } g [.ref (q 0)] (MX g q lb σ) sz xT (p_i (MX g q lb) σ Q) 0 0 := by
  refine mkMet (Qc := fun A => QI g A (p_i (MX g q lb) σ Q)) (by decide) (Nat.le_of_ble_eq_true rfl) ?_
  intro p e s m below meth c A H ls hx hb hr hml hown hts hlk hnm hsz hP hK hNb hD hA hAe hS hX hl
  have hl : lv_has ls 1 [(0, .ref (q 0))] := hl
  have hB := hN
  obtain ⟨locs, hlocs⟩ : ∃ z : List Loc, z = [] := ⟨_, rfl⟩
  rw [← hlocs] at hS ⊢
  refine lv_iconst (v := I 1) hx hb dX13_check_0 rfl ?_
  exact xri hx hb hr hlk hP hK hD hS ⟨_, (by decide), rfl, rfl, hw⟩ (Nat.le_of_ble_eq_true rfl) (Nat.le_of_ble_eq_true rfl) dX13_check_1
